/-! what the law says, byte by byte; written by wip/gen/gen93.py -/
theorem ld_732 : decode (mB 231) 732 = .ok (.aload_n 0, 1) := by decide +kernel
theorem ld_733 : decode (mB 231) 733 = .ok (.iload_n 3, 1) := by decide +kernel
theorem ld_734 : decode (mB 231) 734 = .ok (.iconst 2, 1) := by decide +kernel
theorem ld_735 : decode (mB 231) 735 = .ok (.iadd, 1) := by decide +kernel
theorem ld_736 : decode (mB 231) 736 = .ok (.iaload, 1) := by decide +kernel
theorem ld_737 : decode (mB 231) 737 = .ok (.invokevirtual 89, 3) := by decide +kernel
theorem ld_740 : decode (mB 231) 740 = .ok (.if_icmp .eq 286, 3) := by decide +kernel
theorem ld_743 : decode (mB 231) 743 = .ok (.iconst 0, 1) := by decide +kernel
theorem ld_744 : decode (mB 231) 744 = .ok (.ireturn, 1) := by decide +kernel
theorem ld_745 : decode (mB 231) 745 = .ok (.aload_n 1, 1) := by decide +kernel
theorem ld_746 : decode (mB 231) 746 = .ok (.aload_n 0, 1) := by decide +kernel
theorem ld_747 : decode (mB 231) 747 = .ok (.iload_n 3, 1) := by decide +kernel
theorem ld_748 : decode (mB 231) 748 = .ok (.iconst 1, 1) := by decide +kernel
theorem ld_749 : decode (mB 231) 749 = .ok (.iadd, 1) := by decide +kernel
theorem ld_750 : decode (mB 231) 750 = .ok (.iaload, 1) := by decide +kernel
theorem ld_751 : decode (mB 231) 751 = .ok (.aload_n 0, 1) := by decide +kernel
theorem ld_752 : decode (mB 231) 752 = .ok (.iload_n 3, 1) := by decide +kernel
theorem ld_753 : decode (mB 231) 753 = .ok (.iconst 2, 1) := by decide +kernel
theorem ld_754 : decode (mB 231) 754 = .ok (.iadd, 1) := by decide +kernel
theorem ld_755 : decode (mB 231) 755 = .ok (.iaload, 1) := by decide +kernel
theorem ld_756 : decode (mB 231) 756 = .ok (.aload_n 0, 1) := by decide +kernel
theorem ld_757 : decode (mB 231) 757 = .ok (.iload_n 3, 1) := by decide +kernel
theorem ld_758 : decode (mB 231) 758 = .ok (.iconst 3, 1) := by decide +kernel
theorem ld_759 : decode (mB 231) 759 = .ok (.iadd, 1) := by decide +kernel
theorem ld_760 : decode (mB 231) 760 = .ok (.iaload, 1) := by decide +kernel
theorem ld_761 : decode (mB 231) 761 = .ok (.aload_n 0, 1) := by decide +kernel
theorem ld_762 : decode (mB 231) 762 = .ok (.iload_n 3, 1) := by decide +kernel
theorem ld_763 : decode (mB 231) 763 = .ok (.iconst 4, 1) := by decide +kernel
theorem ld_764 : decode (mB 231) 764 = .ok (.iadd, 1) := by decide +kernel
theorem ld_765 : decode (mB 231) 765 = .ok (.iaload, 1) := by decide +kernel
theorem ld_766 : decode (mB 231) 766 = .ok (.invokevirtual 90, 3) := by decide +kernel
theorem ld_769 : decode (mB 231) 769 = .ok (.aload_n 2, 1) := by decide +kernel
theorem ld_770 : decode (mB 231) 770 = .ok (.aload_n 0, 1) := by decide +kernel
theorem ld_771 : decode (mB 231) 771 = .ok (.iload_n 3, 1) := by decide +kernel
theorem ld_772 : decode (mB 231) 772 = .ok (.iconst 1, 1) := by decide +kernel
theorem ld_773 : decode (mB 231) 773 = .ok (.iadd, 1) := by decide +kernel
theorem ld_774 : decode (mB 231) 774 = .ok (.iaload, 1) := by decide +kernel
theorem ld_775 : decode (mB 231) 775 = .ok (.aload_n 0, 1) := by decide +kernel
theorem ld_776 : decode (mB 231) 776 = .ok (.iload_n 3, 1) := by decide +kernel
theorem ld_777 : decode (mB 231) 777 = .ok (.iconst 2, 1) := by decide +kernel
theorem ld_778 : decode (mB 231) 778 = .ok (.iadd, 1) := by decide +kernel
theorem ld_779 : decode (mB 231) 779 = .ok (.iaload, 1) := by decide +kernel
theorem ld_780 : decode (mB 231) 780 = .ok (.aload_n 0, 1) := by decide +kernel
theorem ld_781 : decode (mB 231) 781 = .ok (.iload_n 3, 1) := by decide +kernel
theorem ld_782 : decode (mB 231) 782 = .ok (.iconst 3, 1) := by decide +kernel
theorem ld_783 : decode (mB 231) 783 = .ok (.iadd, 1) := by decide +kernel
theorem ld_784 : decode (mB 231) 784 = .ok (.iaload, 1) := by decide +kernel
theorem ld_785 : decode (mB 231) 785 = .ok (.aload_n 0, 1) := by decide +kernel
theorem ld_786 : decode (mB 231) 786 = .ok (.iload_n 3, 1) := by decide +kernel
theorem ld_787 : decode (mB 231) 787 = .ok (.iconst 4, 1) := by decide +kernel
theorem ld_788 : decode (mB 231) 788 = .ok (.iadd, 1) := by decide +kernel
theorem ld_789 : decode (mB 231) 789 = .ok (.iaload, 1) := by decide +kernel
theorem ld_790 : decode (mB 231) 790 = .ok (.invokevirtual 93, 3) := by decide +kernel
theorem ld_793 : decode (mB 231) 793 = .ok (.if_icmp .eq 233, 3) := by decide +kernel
theorem ld_796 : decode (mB 231) 796 = .ok (.iconst 0, 1) := by decide +kernel
theorem ld_797 : decode (mB 231) 797 = .ok (.ireturn, 1) := by decide +kernel
theorem ld_798 : decode (mB 231) 798 = .ok (.aload_n 1, 1) := by decide +kernel
theorem ld_799 : decode (mB 231) 799 = .ok (.aload_n 0, 1) := by decide +kernel
theorem ld_800 : decode (mB 231) 800 = .ok (.iload_n 3, 1) := by decide +kernel
theorem ld_801 : decode (mB 231) 801 = .ok (.iconst 1, 1) := by decide +kernel
theorem ld_802 : decode (mB 231) 802 = .ok (.iadd, 1) := by decide +kernel
theorem ld_803 : decode (mB 231) 803 = .ok (.iaload, 1) := by decide +kernel
theorem ld_804 : decode (mB 231) 804 = .ok (.aload_n 0, 1) := by decide +kernel
theorem ld_805 : decode (mB 231) 805 = .ok (.iload_n 3, 1) := by decide +kernel
theorem ld_806 : decode (mB 231) 806 = .ok (.iconst 2, 1) := by decide +kernel
theorem ld_807 : decode (mB 231) 807 = .ok (.iadd, 1) := by decide +kernel
theorem ld_808 : decode (mB 231) 808 = .ok (.iaload, 1) := by decide +kernel
theorem ld_809 : decode (mB 231) 809 = .ok (.aload_n 0, 1) := by decide +kernel
theorem ld_810 : decode (mB 231) 810 = .ok (.iload_n 3, 1) := by decide +kernel
theorem ld_811 : decode (mB 231) 811 = .ok (.iconst 3, 1) := by decide +kernel
theorem ld_812 : decode (mB 231) 812 = .ok (.iadd, 1) := by decide +kernel
theorem ld_813 : decode (mB 231) 813 = .ok (.iaload, 1) := by decide +kernel
theorem ld_814 : decode (mB 231) 814 = .ok (.invokevirtual 94, 3) := by decide +kernel
theorem ld_817 : decode (mB 231) 817 = .ok (.aload_n 2, 1) := by decide +kernel
theorem ld_818 : decode (mB 231) 818 = .ok (.aload_n 0, 1) := by decide +kernel
theorem ld_819 : decode (mB 231) 819 = .ok (.iload_n 3, 1) := by decide +kernel
theorem ld_820 : decode (mB 231) 820 = .ok (.iconst 1, 1) := by decide +kernel
theorem ld_821 : decode (mB 231) 821 = .ok (.iadd, 1) := by decide +kernel
theorem ld_822 : decode (mB 231) 822 = .ok (.iaload, 1) := by decide +kernel
theorem ld_823 : decode (mB 231) 823 = .ok (.aload_n 0, 1) := by decide +kernel
theorem ld_824 : decode (mB 231) 824 = .ok (.iload_n 3, 1) := by decide +kernel
theorem ld_825 : decode (mB 231) 825 = .ok (.iconst 2, 1) := by decide +kernel
theorem ld_826 : decode (mB 231) 826 = .ok (.iadd, 1) := by decide +kernel
theorem ld_827 : decode (mB 231) 827 = .ok (.iaload, 1) := by decide +kernel
theorem ld_828 : decode (mB 231) 828 = .ok (.aload_n 0, 1) := by decide +kernel
theorem ld_829 : decode (mB 231) 829 = .ok (.iload_n 3, 1) := by decide +kernel
theorem ld_830 : decode (mB 231) 830 = .ok (.iconst 3, 1) := by decide +kernel
theorem ld_831 : decode (mB 231) 831 = .ok (.iadd, 1) := by decide +kernel
theorem ld_832 : decode (mB 231) 832 = .ok (.iaload, 1) := by decide +kernel
theorem ld_833 : decode (mB 231) 833 = .ok (.invokevirtual 97, 3) := by decide +kernel
theorem ld_836 : decode (mB 231) 836 = .ok (.if_icmp .eq 190, 3) := by decide +kernel
theorem ld_839 : decode (mB 231) 839 = .ok (.iconst 0, 1) := by decide +kernel
theorem ld_840 : decode (mB 231) 840 = .ok (.ireturn, 1) := by decide +kernel
theorem ld_841 : decode (mB 231) 841 = .ok (.aload_n 1, 1) := by decide +kernel
theorem ld_842 : decode (mB 231) 842 = .ok (.aload_n 0, 1) := by decide +kernel
theorem ld_843 : decode (mB 231) 843 = .ok (.iload_n 3, 1) := by decide +kernel
theorem ld_844 : decode (mB 231) 844 = .ok (.iconst 1, 1) := by decide +kernel
theorem ld_845 : decode (mB 231) 845 = .ok (.iadd, 1) := by decide +kernel
theorem ld_846 : decode (mB 231) 846 = .ok (.iaload, 1) := by decide +kernel
theorem ld_847 : decode (mB 231) 847 = .ok (.aload_n 0, 1) := by decide +kernel
theorem ld_848 : decode (mB 231) 848 = .ok (.iload_n 3, 1) := by decide +kernel
theorem ld_849 : decode (mB 231) 849 = .ok (.iconst 2, 1) := by decide +kernel
theorem ld_850 : decode (mB 231) 850 = .ok (.iadd, 1) := by decide +kernel
theorem ld_851 : decode (mB 231) 851 = .ok (.iaload, 1) := by decide +kernel
theorem ld_852 : decode (mB 231) 852 = .ok (.invokevirtual 98, 3) := by decide +kernel
theorem ld_855 : decode (mB 231) 855 = .ok (.aload_n 2, 1) := by decide +kernel
theorem ld_856 : decode (mB 231) 856 = .ok (.aload_n 0, 1) := by decide +kernel
theorem ld_857 : decode (mB 231) 857 = .ok (.iload_n 3, 1) := by decide +kernel
theorem ld_858 : decode (mB 231) 858 = .ok (.iconst 1, 1) := by decide +kernel
theorem ld_859 : decode (mB 231) 859 = .ok (.iadd, 1) := by decide +kernel
theorem ld_860 : decode (mB 231) 860 = .ok (.iaload, 1) := by decide +kernel
theorem ld_861 : decode (mB 231) 861 = .ok (.aload_n 0, 1) := by decide +kernel
theorem ld_862 : decode (mB 231) 862 = .ok (.iload_n 3, 1) := by decide +kernel
theorem ld_863 : decode (mB 231) 863 = .ok (.iconst 2, 1) := by decide +kernel
theorem ld_864 : decode (mB 231) 864 = .ok (.iadd, 1) := by decide +kernel
theorem ld_865 : decode (mB 231) 865 = .ok (.iaload, 1) := by decide +kernel
theorem ld_866 : decode (mB 231) 866 = .ok (.invokevirtual 101, 3) := by decide +kernel
theorem ld_869 : decode (mB 231) 869 = .ok (.if_icmp .eq 157, 3) := by decide +kernel
theorem ld_872 : decode (mB 231) 872 = .ok (.iconst 0, 1) := by decide +kernel
theorem ld_873 : decode (mB 231) 873 = .ok (.ireturn, 1) := by decide +kernel
theorem ld_874 : decode (mB 231) 874 = .ok (.aload_n 1, 1) := by decide +kernel
theorem ld_875 : decode (mB 231) 875 = .ok (.aload_n 0, 1) := by decide +kernel
theorem ld_876 : decode (mB 231) 876 = .ok (.iload_n 3, 1) := by decide +kernel
theorem ld_877 : decode (mB 231) 877 = .ok (.iconst 1, 1) := by decide +kernel
theorem ld_878 : decode (mB 231) 878 = .ok (.iadd, 1) := by decide +kernel
theorem ld_879 : decode (mB 231) 879 = .ok (.iaload, 1) := by decide +kernel
theorem ld_880 : decode (mB 231) 880 = .ok (.invokevirtual 102, 3) := by decide +kernel
theorem ld_883 : decode (mB 231) 883 = .ok (.aload_n 2, 1) := by decide +kernel
theorem ld_884 : decode (mB 231) 884 = .ok (.aload_n 0, 1) := by decide +kernel
theorem ld_885 : decode (mB 231) 885 = .ok (.iload_n 3, 1) := by decide +kernel
theorem ld_886 : decode (mB 231) 886 = .ok (.iconst 1, 1) := by decide +kernel
theorem ld_887 : decode (mB 231) 887 = .ok (.iadd, 1) := by decide +kernel
theorem ld_888 : decode (mB 231) 888 = .ok (.iaload, 1) := by decide +kernel
theorem ld_889 : decode (mB 231) 889 = .ok (.invokevirtual 105, 3) := by decide +kernel
theorem ld_892 : decode (mB 231) 892 = .ok (.if_icmp .eq 134, 3) := by decide +kernel
theorem ld_895 : decode (mB 231) 895 = .ok (.iconst 0, 1) := by decide +kernel
theorem ld_896 : decode (mB 231) 896 = .ok (.ireturn, 1) := by decide +kernel
theorem ld_897 : decode (mB 231) 897 = .ok (.aload_n 1, 1) := by decide +kernel
theorem ld_898 : decode (mB 231) 898 = .ok (.aload_n 0, 1) := by decide +kernel
theorem ld_899 : decode (mB 231) 899 = .ok (.iload_n 3, 1) := by decide +kernel
theorem ld_900 : decode (mB 231) 900 = .ok (.iconst 1, 1) := by decide +kernel
theorem ld_901 : decode (mB 231) 901 = .ok (.iadd, 1) := by decide +kernel
theorem ld_902 : decode (mB 231) 902 = .ok (.iaload, 1) := by decide +kernel
theorem ld_903 : decode (mB 231) 903 = .ok (.aload_n 0, 1) := by decide +kernel
theorem ld_904 : decode (mB 231) 904 = .ok (.iload_n 3, 1) := by decide +kernel
theorem ld_905 : decode (mB 231) 905 = .ok (.iconst 2, 1) := by decide +kernel
theorem ld_906 : decode (mB 231) 906 = .ok (.iadd, 1) := by decide +kernel
theorem ld_907 : decode (mB 231) 907 = .ok (.iaload, 1) := by decide +kernel
theorem ld_908 : decode (mB 231) 908 = .ok (.aload_n 0, 1) := by decide +kernel
theorem ld_909 : decode (mB 231) 909 = .ok (.iload_n 3, 1) := by decide +kernel
theorem ld_910 : decode (mB 231) 910 = .ok (.iconst 3, 1) := by decide +kernel
theorem ld_911 : decode (mB 231) 911 = .ok (.iadd, 1) := by decide +kernel
theorem ld_912 : decode (mB 231) 912 = .ok (.iaload, 1) := by decide +kernel
theorem ld_913 : decode (mB 231) 913 = .ok (.invokevirtual 106, 3) := by decide +kernel
theorem ld_916 : decode (mB 231) 916 = .ok (.aload_n 2, 1) := by decide +kernel
theorem ld_917 : decode (mB 231) 917 = .ok (.aload_n 0, 1) := by decide +kernel
theorem ld_918 : decode (mB 231) 918 = .ok (.iload_n 3, 1) := by decide +kernel
theorem ld_919 : decode (mB 231) 919 = .ok (.iconst 1, 1) := by decide +kernel
theorem ld_920 : decode (mB 231) 920 = .ok (.iadd, 1) := by decide +kernel
theorem ld_921 : decode (mB 231) 921 = .ok (.iaload, 1) := by decide +kernel
theorem ld_922 : decode (mB 231) 922 = .ok (.aload_n 0, 1) := by decide +kernel
theorem ld_923 : decode (mB 231) 923 = .ok (.iload_n 3, 1) := by decide +kernel
theorem ld_924 : decode (mB 231) 924 = .ok (.iconst 2, 1) := by decide +kernel
theorem ld_925 : decode (mB 231) 925 = .ok (.iadd, 1) := by decide +kernel
theorem ld_926 : decode (mB 231) 926 = .ok (.iaload, 1) := by decide +kernel
theorem ld_927 : decode (mB 231) 927 = .ok (.aload_n 0, 1) := by decide +kernel
theorem ld_928 : decode (mB 231) 928 = .ok (.iload_n 3, 1) := by decide +kernel
theorem ld_929 : decode (mB 231) 929 = .ok (.iconst 3, 1) := by decide +kernel
theorem ld_930 : decode (mB 231) 930 = .ok (.iadd, 1) := by decide +kernel
theorem ld_931 : decode (mB 231) 931 = .ok (.iaload, 1) := by decide +kernel
theorem ld_932 : decode (mB 231) 932 = .ok (.invokevirtual 109, 3) := by decide +kernel
theorem ld_935 : decode (mB 231) 935 = .ok (.if_icmp .eq 91, 3) := by decide +kernel
theorem ld_938 : decode (mB 231) 938 = .ok (.iconst 0, 1) := by decide +kernel
theorem ld_939 : decode (mB 231) 939 = .ok (.ireturn, 1) := by decide +kernel
theorem ld_940 : decode (mB 231) 940 = .ok (.aload_n 1, 1) := by decide +kernel
theorem ld_941 : decode (mB 231) 941 = .ok (.aload_n 0, 1) := by decide +kernel
theorem ld_942 : decode (mB 231) 942 = .ok (.iload_n 3, 1) := by decide +kernel
theorem ld_943 : decode (mB 231) 943 = .ok (.iconst 1, 1) := by decide +kernel
theorem ld_944 : decode (mB 231) 944 = .ok (.iadd, 1) := by decide +kernel
theorem ld_945 : decode (mB 231) 945 = .ok (.iaload, 1) := by decide +kernel
theorem ld_946 : decode (mB 231) 946 = .ok (.aload_n 0, 1) := by decide +kernel
theorem ld_947 : decode (mB 231) 947 = .ok (.iload_n 3, 1) := by decide +kernel
theorem ld_948 : decode (mB 231) 948 = .ok (.iconst 2, 1) := by decide +kernel
theorem ld_949 : decode (mB 231) 949 = .ok (.iadd, 1) := by decide +kernel
theorem ld_950 : decode (mB 231) 950 = .ok (.iaload, 1) := by decide +kernel
theorem ld_951 : decode (mB 231) 951 = .ok (.aload_n 0, 1) := by decide +kernel
theorem ld_952 : decode (mB 231) 952 = .ok (.iload_n 3, 1) := by decide +kernel
theorem ld_953 : decode (mB 231) 953 = .ok (.iconst 3, 1) := by decide +kernel
theorem ld_954 : decode (mB 231) 954 = .ok (.iadd, 1) := by decide +kernel
theorem ld_955 : decode (mB 231) 955 = .ok (.iaload, 1) := by decide +kernel
theorem ld_956 : decode (mB 231) 956 = .ok (.aload_n 0, 1) := by decide +kernel
theorem ld_957 : decode (mB 231) 957 = .ok (.iload_n 3, 1) := by decide +kernel
theorem ld_958 : decode (mB 231) 958 = .ok (.iconst 4, 1) := by decide +kernel
theorem ld_959 : decode (mB 231) 959 = .ok (.iadd, 1) := by decide +kernel
theorem ld_960 : decode (mB 231) 960 = .ok (.iaload, 1) := by decide +kernel
theorem ld_961 : decode (mB 231) 961 = .ok (.invokevirtual 110, 3) := by decide +kernel
theorem ld_964 : decode (mB 231) 964 = .ok (.aload_n 2, 1) := by decide +kernel
theorem ld_965 : decode (mB 231) 965 = .ok (.aload_n 0, 1) := by decide +kernel
theorem ld_966 : decode (mB 231) 966 = .ok (.iload_n 3, 1) := by decide +kernel
theorem ld_967 : decode (mB 231) 967 = .ok (.iconst 1, 1) := by decide +kernel
theorem ld_968 : decode (mB 231) 968 = .ok (.iadd, 1) := by decide +kernel
theorem ld_969 : decode (mB 231) 969 = .ok (.iaload, 1) := by decide +kernel
theorem ld_970 : decode (mB 231) 970 = .ok (.aload_n 0, 1) := by decide +kernel
theorem ld_971 : decode (mB 231) 971 = .ok (.iload_n 3, 1) := by decide +kernel
theorem ld_972 : decode (mB 231) 972 = .ok (.iconst 2, 1) := by decide +kernel
theorem ld_973 : decode (mB 231) 973 = .ok (.iadd, 1) := by decide +kernel
theorem ld_974 : decode (mB 231) 974 = .ok (.iaload, 1) := by decide +kernel
theorem ld_975 : decode (mB 231) 975 = .ok (.aload_n 0, 1) := by decide +kernel
theorem ld_976 : decode (mB 231) 976 = .ok (.iload_n 3, 1) := by decide +kernel
theorem ld_977 : decode (mB 231) 977 = .ok (.iconst 3, 1) := by decide +kernel
theorem ld_978 : decode (mB 231) 978 = .ok (.iadd, 1) := by decide +kernel
theorem ld_979 : decode (mB 231) 979 = .ok (.iaload, 1) := by decide +kernel
theorem ld_980 : decode (mB 231) 980 = .ok (.aload_n 0, 1) := by decide +kernel
theorem ld_981 : decode (mB 231) 981 = .ok (.iload_n 3, 1) := by decide +kernel
theorem ld_982 : decode (mB 231) 982 = .ok (.iconst 4, 1) := by decide +kernel
theorem ld_983 : decode (mB 231) 983 = .ok (.iadd, 1) := by decide +kernel
theorem ld_984 : decode (mB 231) 984 = .ok (.iaload, 1) := by decide +kernel
theorem ld_985 : decode (mB 231) 985 = .ok (.invokevirtual 113, 3) := by decide +kernel
theorem ld_988 : decode (mB 231) 988 = .ok (.if_icmp .eq 38, 3) := by decide +kernel
theorem ld_991 : decode (mB 231) 991 = .ok (.iconst 0, 1) := by decide +kernel
theorem ld_992 : decode (mB 231) 992 = .ok (.ireturn, 1) := by decide +kernel
theorem ld_993 : decode (mB 231) 993 = .ok (.aload_n 1, 1) := by decide +kernel
theorem ld_994 : decode (mB 231) 994 = .ok (.aload_n 0, 1) := by decide +kernel
theorem ld_995 : decode (mB 231) 995 = .ok (.iload_n 3, 1) := by decide +kernel
theorem ld_996 : decode (mB 231) 996 = .ok (.iconst 1, 1) := by decide +kernel
theorem ld_997 : decode (mB 231) 997 = .ok (.iadd, 1) := by decide +kernel
theorem ld_998 : decode (mB 231) 998 = .ok (.iaload, 1) := by decide +kernel
theorem ld_999 : decode (mB 231) 999 = .ok (.aload_n 0, 1) := by decide +kernel
theorem ld_1000 : decode (mB 231) 1000 = .ok (.iload_n 3, 1) := by decide +kernel
theorem ld_1001 : decode (mB 231) 1001 = .ok (.iconst 2, 1) := by decide +kernel
theorem ld_1002 : decode (mB 231) 1002 = .ok (.iadd, 1) := by decide +kernel
theorem ld_1003 : decode (mB 231) 1003 = .ok (.iaload, 1) := by decide +kernel
theorem ld_1004 : decode (mB 231) 1004 = .ok (.invokevirtual 114, 3) := by decide +kernel
theorem ld_1007 : decode (mB 231) 1007 = .ok (.aload_n 2, 1) := by decide +kernel
theorem ld_1008 : decode (mB 231) 1008 = .ok (.aload_n 0, 1) := by decide +kernel
theorem ld_1009 : decode (mB 231) 1009 = .ok (.iload_n 3, 1) := by decide +kernel
theorem ld_1010 : decode (mB 231) 1010 = .ok (.iconst 1, 1) := by decide +kernel
theorem ld_1011 : decode (mB 231) 1011 = .ok (.iadd, 1) := by decide +kernel
theorem ld_1012 : decode (mB 231) 1012 = .ok (.iaload, 1) := by decide +kernel
theorem ld_1013 : decode (mB 231) 1013 = .ok (.aload_n 0, 1) := by decide +kernel
theorem ld_1014 : decode (mB 231) 1014 = .ok (.iload_n 3, 1) := by decide +kernel
theorem ld_1015 : decode (mB 231) 1015 = .ok (.iconst 2, 1) := by decide +kernel
theorem ld_1016 : decode (mB 231) 1016 = .ok (.iadd, 1) := by decide +kernel
theorem ld_1017 : decode (mB 231) 1017 = .ok (.iaload, 1) := by decide +kernel
theorem ld_1018 : decode (mB 231) 1018 = .ok (.invokevirtual 117, 3) := by decide +kernel
theorem ld_1021 : decode (mB 231) 1021 = .ok (.if_icmp .eq 5, 3) := by decide +kernel
theorem ld_1024 : decode (mB 231) 1024 = .ok (.iconst 0, 1) := by decide +kernel
theorem ld_1025 : decode (mB 231) 1025 = .ok (.ireturn, 1) := by decide +kernel
theorem ld_1026 : decode (mB 231) 1026 = .ok (.iinc 3 6, 3) := by decide +kernel
theorem ld_1029 : decode (mB 231) 1029 = .ok (.goto (-1011), 3) := by decide +kernel
theorem ld_1032 : decode (mB 231) 1032 = .ok (.iconst 1, 1) := by decide +kernel
theorem ld_1033 : decode (mB 231) 1033 = .ok (.ireturn, 1) := by decide +kernel
