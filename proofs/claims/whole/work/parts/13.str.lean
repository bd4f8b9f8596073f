/-! the JDK's own methods on the String constants; written by wip/gen/gen13.py -/
def yJK : MethodName := ⟨"jdk/internal/util/Preconditions", "checkIndex", "(IILjava/util/function/BiFunction;)I"⟩
def wJK : List Cond := Cond.code yJK prog_19_method_11_code 3 (some .int) :: lwG
theorem iJK : Cond.code yJK prog_19_method_11_code 3 (some .int) ∈ lwG := inG (t4_in (i := 167) rfl) rfl
theorem gJK : GoodIn lwG wJK := fun w h => by
  rcases List.mem_cons.mp h with rfl | h
  · exact lwG_good _ iJK
  · exact lwG_good _ h
theorem jJK : Cond.initialized "jdk/internal/util/Preconditions" ∈ lwG := inG (t1_in (i := 17) rfl) rfl
theorem djK_0 : decode prog_19_method_11_code 0 = .ok (.iload_n 0, 1) := by decide +kernel
theorem djK_1 : decode prog_19_method_11_code 1 = .ok (.ifCond .lt 8, 3) := by decide +kernel
theorem djK_4 : decode prog_19_method_11_code 4 = .ok (.iload_n 0, 1) := by decide +kernel
theorem djK_5 : decode prog_19_method_11_code 5 = .ok (.iload_n 1, 1) := by decide +kernel
theorem djK_6 : decode prog_19_method_11_code 6 = .ok (.if_icmp .lt 10, 3) := by decide +kernel
theorem djK_9 : decode prog_19_method_11_code 9 = .ok (.aload_n 2, 1) := by decide +kernel
theorem djK_10 : decode prog_19_method_11_code 10 = .ok (.iload_n 0, 1) := by decide +kernel
theorem djK_11 : decode prog_19_method_11_code 11 = .ok (.iload_n 1, 1) := by decide +kernel
theorem djK_12 : decode prog_19_method_11_code 12 = .ok (.invokestatic 95, 3) := by decide +kernel
theorem djK_15 : decode prog_19_method_11_code 15 = .ok (.athrow, 1) := by decide +kernel
theorem djK_16 : decode prog_19_method_11_code 16 = .ok (.iload_n 0, 1) := by decide +kernel
theorem djK_17 : decode prog_19_method_11_code 17 = .ok (.ireturn, 1) := by decide +kernel
theorem nJK : Cond.static yJK ∈ lwG := inG (t4_in (i := 166) rfl) rfl
def yJC : MethodName := ⟨"java/lang/String", "checkIndex", "(II)V"⟩
def wJC : List Cond := Cond.code yJC prog_15_method_155_code 2 none :: lwG
theorem iJC : Cond.code yJC prog_15_method_155_code 2 none ∈ lwG := inG (t4_in (i := 162) rfl) rfl
theorem gJC : GoodIn lwG wJC := fun w h => by
  rcases List.mem_cons.mp h with rfl | h
  · exact lwG_good _ iJC
  · exact lwG_good _ h
theorem jJC : Cond.initialized "java/lang/String" ∈ lwG := inG (t1_in (i := 15) rfl) rfl
theorem djC_0 : decode prog_15_method_155_code 0 = .ok (.iload_n 0, 1) := by decide +kernel
theorem djC_1 : decode prog_15_method_155_code 1 = .ok (.iload_n 1, 1) := by decide +kernel
theorem djC_2 : decode prog_15_method_155_code 2 = .ok (.getstatic 1053, 3) := by decide +kernel
theorem djC_5 : decode prog_15_method_155_code 5 = .ok (.invokestatic 1059, 3) := by decide +kernel
theorem djC_8 : decode prog_15_method_155_code 8 = .ok (.pop, 1) := by decide +kernel
theorem djC_9 : decode prog_15_method_155_code 9 = .ok (.return_, 1) := by decide +kernel
theorem nJC : Cond.static yJC ∈ lwG := inG (t4_in (i := 161) rfl) rfl
def yJF : MethodName := ⟨"java/lang/StringLatin1", "charAt", "([BI)C"⟩
def wJF : List Cond := Cond.code yJF prog_16_method_2_code 2 (some .char) :: lwG
theorem iJF : Cond.code yJF prog_16_method_2_code 2 (some .char) ∈ lwG := inG (t4_in (i := 159) rfl) rfl
theorem gJF : GoodIn lwG wJF := fun w h => by
  rcases List.mem_cons.mp h with rfl | h
  · exact lwG_good _ iJF
  · exact lwG_good _ h
theorem jJF : Cond.initialized "java/lang/StringLatin1" ∈ lwG := inG (t1_in (i := 16) rfl) rfl
theorem djF_0 : decode prog_16_method_2_code 0 = .ok (.iload_n 1, 1) := by decide +kernel
theorem djF_1 : decode prog_16_method_2_code 1 = .ok (.aload_n 0, 1) := by decide +kernel
theorem djF_2 : decode prog_16_method_2_code 2 = .ok (.arraylength, 1) := by decide +kernel
theorem djF_3 : decode prog_16_method_2_code 3 = .ok (.invokestatic 9, 3) := by decide +kernel
theorem djF_6 : decode prog_16_method_2_code 6 = .ok (.aload_n 0, 1) := by decide +kernel
theorem djF_7 : decode prog_16_method_2_code 7 = .ok (.iload_n 1, 1) := by decide +kernel
theorem djF_8 : decode prog_16_method_2_code 8 = .ok (.baload, 1) := by decide +kernel
theorem djF_9 : decode prog_16_method_2_code 9 = .ok (.sipush 255, 3) := by decide +kernel
theorem djF_12 : decode prog_16_method_2_code 12 = .ok (.iand, 1) := by decide +kernel
theorem djF_13 : decode prog_16_method_2_code 13 = .ok (.i2c, 1) := by decide +kernel
theorem djF_14 : decode prog_16_method_2_code 14 = .ok (.ireturn, 1) := by decide +kernel
theorem nJF : Cond.static yJF ∈ lwG := inG (t4_in (i := 158) rfl) rfl
def yJI : MethodName := ⟨"java/lang/String", "isLatin1", "()Z"⟩
def wJI : List Cond := Cond.code yJI prog_15_method_154_code 1 (some .boolean) :: lwG
theorem iJI : Cond.code yJI prog_15_method_154_code 1 (some .boolean) ∈ lwG := inG (t4_in (i := 156) rfl) rfl
theorem gJI : GoodIn lwG wJI := fun w h => by
  rcases List.mem_cons.mp h with rfl | h
  · exact lwG_good _ iJI
  · exact lwG_good _ h
theorem jJI : Cond.initialized "java/lang/String" ∈ lwG := inG (t1_in (i := 15) rfl) rfl
theorem djI_0 : decode prog_15_method_154_code 0 = .ok (.getstatic 38, 3) := by decide +kernel
theorem djI_3 : decode prog_15_method_154_code 3 = .ok (.ifCond .eq 14, 3) := by decide +kernel
theorem djI_6 : decode prog_15_method_154_code 6 = .ok (.aload_n 0, 1) := by decide +kernel
theorem djI_7 : decode prog_15_method_154_code 7 = .ok (.getfield 15, 3) := by decide +kernel
theorem djI_10 : decode prog_15_method_154_code 10 = .ok (.ifCond .ne 7, 3) := by decide +kernel
theorem djI_13 : decode prog_15_method_154_code 13 = .ok (.iconst 1, 1) := by decide +kernel
theorem djI_14 : decode prog_15_method_154_code 14 = .ok (.goto 4, 3) := by decide +kernel
theorem djI_17 : decode prog_15_method_154_code 17 = .ok (.iconst 0, 1) := by decide +kernel
theorem djI_18 : decode prog_15_method_154_code 18 = .ok (.ireturn, 1) := by decide +kernel
theorem nJI : Cond.instanceMethod yJI ∈ lwG ∧ Cond.selects "java/lang/String" yJI yJI ∈ lwG := ⟨inG (t4_in (i := 154) rfl) rfl, inG (t4_in (i := 155) rfl) rfl⟩
def yJD : MethodName := ⟨"java/lang/String", "coder", "()B"⟩
def wJD : List Cond := Cond.code yJD prog_15_method_152_code 1 (some .byte) :: lwG
theorem iJD : Cond.code yJD prog_15_method_152_code 1 (some .byte) ∈ lwG := inG (t4_in (i := 142) rfl) rfl
theorem gJD : GoodIn lwG wJD := fun w h => by
  rcases List.mem_cons.mp h with rfl | h
  · exact lwG_good _ iJD
  · exact lwG_good _ h
theorem jJD : Cond.initialized "java/lang/String" ∈ lwG := inG (t1_in (i := 15) rfl) rfl
theorem djD_0 : decode prog_15_method_152_code 0 = .ok (.getstatic 38, 3) := by decide +kernel
theorem djD_3 : decode prog_15_method_152_code 3 = .ok (.ifCond .eq 10, 3) := by decide +kernel
theorem djD_6 : decode prog_15_method_152_code 6 = .ok (.aload_n 0, 1) := by decide +kernel
theorem djD_7 : decode prog_15_method_152_code 7 = .ok (.getfield 15, 3) := by decide +kernel
theorem djD_10 : decode prog_15_method_152_code 10 = .ok (.goto 4, 3) := by decide +kernel
theorem djD_13 : decode prog_15_method_152_code 13 = .ok (.iconst 1, 1) := by decide +kernel
theorem djD_14 : decode prog_15_method_152_code 14 = .ok (.ireturn, 1) := by decide +kernel
theorem nJD : Cond.instanceMethod yJD ∈ lwG ∧ Cond.selects "java/lang/String" yJD yJD ∈ lwG := ⟨inG (t4_in (i := 140) rfl) rfl, inG (t4_in (i := 141) rfl) rfl⟩
def yJN : MethodName := ⟨"java/lang/String", "length", "()I"⟩
def wJN : List Cond := Cond.code yJN prog_15_method_54_code 1 (some .int) :: lwG
theorem iJN : Cond.code yJN prog_15_method_54_code 1 (some .int) ∈ lwG := inG (t4_in (i := 138) rfl) rfl
theorem gJN : GoodIn lwG wJN := fun w h => by
  rcases List.mem_cons.mp h with rfl | h
  · exact lwG_good _ iJN
  · exact lwG_good _ h
theorem jJN : Cond.initialized "java/lang/String" ∈ lwG := inG (t1_in (i := 15) rfl) rfl
theorem djN_0 : decode prog_15_method_54_code 0 = .ok (.aload_n 0, 1) := by decide +kernel
theorem djN_1 : decode prog_15_method_54_code 1 = .ok (.getfield 9, 3) := by decide +kernel
theorem djN_4 : decode prog_15_method_54_code 4 = .ok (.arraylength, 1) := by decide +kernel
theorem djN_5 : decode prog_15_method_54_code 5 = .ok (.aload_n 0, 1) := by decide +kernel
theorem djN_6 : decode prog_15_method_54_code 6 = .ok (.invokevirtual 335, 3) := by decide +kernel
theorem djN_9 : decode prog_15_method_54_code 9 = .ok (.ishr, 1) := by decide +kernel
theorem djN_10 : decode prog_15_method_54_code 10 = .ok (.ireturn, 1) := by decide +kernel
theorem nJN : Cond.instanceMethod yJN ∈ lwG ∧ Cond.selects "java/lang/String" yJN yJN ∈ lwG := ⟨inG (t4_in (i := 136) rfl) rfl, inG (t4_in (i := 137) rfl) rfl⟩
def yJA : MethodName := ⟨"java/lang/String", "charAt", "(I)C"⟩
def wJA : List Cond := Cond.code yJA prog_15_method_56_code 2 (some .char) :: lwG
theorem iJA : Cond.code yJA prog_15_method_56_code 2 (some .char) ∈ lwG := inG (t4_in (i := 152) rfl) rfl
theorem gJA : GoodIn lwG wJA := fun w h => by
  rcases List.mem_cons.mp h with rfl | h
  · exact lwG_good _ iJA
  · exact lwG_good _ h
theorem jJA : Cond.initialized "java/lang/String" ∈ lwG := inG (t1_in (i := 15) rfl) rfl
theorem djA_0 : decode prog_15_method_56_code 0 = .ok (.aload_n 0, 1) := by decide +kernel
theorem djA_1 : decode prog_15_method_56_code 1 = .ok (.invokevirtual 492, 3) := by decide +kernel
theorem djA_4 : decode prog_15_method_56_code 4 = .ok (.ifCond .eq 12, 3) := by decide +kernel
theorem djA_7 : decode prog_15_method_56_code 7 = .ok (.aload_n 0, 1) := by decide +kernel
theorem djA_8 : decode prog_15_method_56_code 8 = .ok (.getfield 9, 3) := by decide +kernel
theorem djA_11 : decode prog_15_method_56_code 11 = .ok (.iload_n 1, 1) := by decide +kernel
theorem djA_12 : decode prog_15_method_56_code 12 = .ok (.invokestatic 495, 3) := by decide +kernel
theorem djA_15 : decode prog_15_method_56_code 15 = .ok (.ireturn, 1) := by decide +kernel
theorem nJA : Cond.instanceMethod yJA ∈ lwG ∧ Cond.selects "java/lang/String" yJA yJA ∈ lwG := ⟨inG (t4_in (i := 150) rfl) rfl, inG (t4_in (i := 151) rfl) rfl⟩
theorem lkD : Cond.methodLink "java/lang/String" 335 yJD ∈ lwG := inG (t4_in (i := 139) rfl) rfl
theorem lkI : Cond.methodLink "java/lang/String" 492 yJI ∈ lwG := inG (t4_in (i := 153) rfl) rfl
theorem lkF : Cond.methodLink "java/lang/String" 495 yJF ∈ lwG := inG (t4_in (i := 157) rfl) rfl
theorem lkC : Cond.methodLink "java/lang/StringLatin1" 9 yJC ∈ lwG := inG (t4_in (i := 160) rfl) rfl
theorem lkK : Cond.methodLink "java/lang/String" 1059 yJK ∈ lwG := inG (t4_in (i := 165) rfl) rfl
theorem flV : Cond.fieldLink "java/lang/String" 9 "java/lang/String" "value" "[B" ∈ lwG := inG (t8_in (i := 25) rfl) rfl
theorem flC : Cond.fieldLink "java/lang/String" 15 "java/lang/String" "coder" "B" ∈ lwG := inG (t8_in (i := 26) rfl) rfl
theorem flS : Cond.fieldLink "java/lang/String" 38 "java/lang/String" "COMPACT_STRINGS" "Z" ∈ lwG := inG (t4_in (i := 143) rfl) rfl
theorem flP : Cond.fieldLink "java/lang/String" 1053 "jdk/internal/util/Preconditions" "SIOOBE_FORMATTER" "Ljava/util/function/BiFunction;" ∈ lwG := inG (t4_in (i := 163) rfl) rfl
def QcV0 : Array Value → State → Outcome → State → Prop := fun _ st o t => o = .returned none ∧ t.heap = st.heap
def Pj (G : GX) (as : List Value) : Array Value → State → Prop := va_Pc as (fun U => SX G U U.heap)
def no0 : Addr → Prop := fun _ => False
theorem SX.same {G : GX} {u U : State} {H : Heap} (hv : U.vm = u.vm) (h : SX G u H) : SX G U H := by
  have ha : u.vm.Alike U.vm := by rw [hv]; exact Vm.Alike.refl _
  obtain ⟨h6, adV, h7, h8, h9, h10, h11⟩ := h
  exact ⟨fun c i a q => (h6 c i a q).same hv, adV, h7.moved ha, h8.moved ha, h9.moved ha, fun C i y q => (h10 C i y q).same rfl hv.symm, h11.moved ha⟩
theorem Pj_blind {G : GX} {as : List Value} : FrameBlind (Pj G as) := fun a U g mk q => by
  obtain ⟨q0, q1⟩ := q
  exact ⟨q0, SX.same (u := U) (U := U.calling g mk a) rfl q1⟩
def Pt1 (G : GX) (as : List Value) (t N : Nat) (f : Nat → Value) : Array Value → State → Prop := va_Pc as (fun U => SX G U U.heap ∧ va_T .byte t N f (Aof G) U U.heap)
theorem Pt1_blind {G : GX} {as : List Value} {t N : Nat} {f : Nat → Value} : FrameBlind (Pt1 G as t N f) := fun a U g mk q => by
  obtain ⟨q0, q1, q2⟩ := q
  exact ⟨q0, SX.same (u := U) (U := U.calling g mk a) rfl q1, va_T.moved (u := U) (U := U.calling g mk a) (Vm.Alike.refl _) q2⟩
theorem SX.here {G : GX} {s U : State} {H : Heap} (h : SX G s H) (hU : U.heap = H) (hW : s.WarmedH U.vm) : SX G U U.heap := by
  rw [hU]
  exact h.moved hW
section jdk
variable {p : Program} {l : Launch} {e : Env} {R : Room} {s : State} {m : MethodId} {args : Array Value} {below : List Frame} {meth : Method} {c : Code} {H : Heap} {locs : List Loc} {cells slots : Nat} {Q : State → Prop} {G : GX}
theorem call_V0 {pc : Nat} {ls : Array Slot} {st0 rest : List Value} {a : Array Value} (hr : CallRun p l e R s m args below meth c H locs cells slots 0 0 (F0 m pc ls st0) rest (QcV0 a) no0) (kk : W p l e R s m args below meth c H locs cells slots Q (F0 m (pc + 3) ls rest)) : W p l e R s m args below meth c H locs cells slots Q (F0 m pc ls st0) := by
  intro T hT X
  obtain ⟨v, st₀, t, T', L, h0, X', hL, e1, ⟨hv, hh⟩, st⟩ := hr T hT X
  cases hv
  obtain ⟨t2, a1, b1⟩ := kk T' (by rw [e1, hh, h0]) (Stand.forget X' (fun q h => (hL q h).elim))
  exact ⟨t2, st t2 a1, b1⟩
end jdk
def rJ0 : Room := { }
def rJC : Room := { frames := 1, locals := 22 }
def rJF : Room := { frames := 2, locals := 43 }
def rJN : Room := { frames := 1, locals := 20 }
def rJA : Room := { frames := 3, locals := 64 }
theorem mJK {l : Launch} {G : GX} {i n : Int32} {fv : Value} (hf : fv.category = 1) (h0 : ¬ i < 0) (h1 : i < n) : Met l yJK wJK rJ0 (Pj G [.int i, .int n, fv]) (QcRead i) 0 0 no0 := by
  refine Met.ofW (cc := prog_19_method_11_code) (maxL := 3) (ret := some .int) (by decide +kernel) rfl ?_
  intro p e s m args below meth c s₁ B hml hv
  obtain ⟨rfl, hX⟩ := hv
  have hx := B.exec
  have hb := B.bytes
  have hr := B.returns
  have hlocks := B.notSynchronized
  rw [entry_eq m [.int i, .int n, fv] (by intro v hv; simp only [List.mem_cons, List.not_mem_nil, or_false] at hv; rcases hv with rfl | rfl | rfl <;> first | rfl | exact hf) 3]
  refine lv_iload_n hx hb djK_0 rfl (x := i) rfl ?_
  refine lv_if_lt hx hb djK_1 (tgt := 9) rfl (fun q => absurd q h0) fun _ => ?_
  refine lv_iload_n hx hb djK_4 rfl (x := i) rfl ?_
  refine lv_iload_n hx hb djK_5 rfl (x := n) rfl ?_
  refine lv_icmp_lt hx hb djK_6 (tgt := 16) rfl (fun _ => ?_) (fun q => absurd h1 q)
  refine lv_iload_n hx hb djK_16 rfl (x := i) rfl ?_
  exact W.iret hx hb hr (fun t ht hW => ⟨rfl, ht⟩) (fun q h => by cases h) djK_17
theorem mJC {l : Launch} {G : GX} {i n : Int32} (h0 : ¬ i < 0) (h1 : i < n) : Met l yJC wJC rJC (Pj G [.int i, .int n]) QcV0 0 0 no0 := by
  refine Met.ofW (cc := prog_15_method_155_code) (maxL := 2) (ret := none) (by decide +kernel) rfl ?_
  intro p e s m args below meth c s₁ B hml hv
  obtain ⟨rfl, hX⟩ := hv
  have hx := B.exec
  have hb := B.bytes
  have hr := B.returns
  have hlocks := B.notSynchronized
  have hts0 := atoms_spec (ws := wJC) B.pre
  have hts : ∀ w ∈ lwG, w.before _ s = true := fun w hw => hts0 w (List.mem_cons_of_mem _ hw)
  have hown : s.vm.findClass "java/lang/String" = some m.cls := findClass_of_methodNamed B.named
  have fix : CallFix p m c prog_15_method_155_code 2 s _ lwG "java/lang/String" := ⟨hx, hb, hml, hown, hts⟩
  rw [entry_eq m [.int i, .int n] (by intro v hv; simp only [List.mem_cons, List.not_mem_nil, or_false] at hv; rcases hv with rfl | rfl <;> rfl) 2]
  refine lv_iload_n hx hb djC_0 rfl (x := i) rfl ?_
  refine lv_iload_n hx hb djC_1 rfl (x := n) rfl ?_
  have rest : ∀ fv : Value, fv.category = 1 → W p l e rJC s m #[.int i, .int n] below meth c s.heap [] 0 0 (MQ below QcV0 #[.int i, .int n] s 0 0 no0) (F0 m 5 (([Value.int i, .int n].map Slot.val ++ List.replicate (2 - [Value.int i, .int n].length) Slot.unset).toArray) [fv, .int n, .int i]) := by
    intro fv hf
    refine W.callR (rest := []) (W.runS (As := [.int i, .int n, fv]) fix (mJK hf h0 h1) ⟨callB_of 3 hts gJK rfl rfl rfl (hts _ jJK) (hts _ lkK) ⟨by decide +kernel, by decide +kernel, by decide +kernel⟩ ⟨by decide, by decide⟩, hts _ nJK⟩ ⟨Pj_blind (G := G), fun U hU hW => ⟨rfl, hX.here hU hW⟩⟩ rfl rfl rfl rfl (lv_room (by decide)) djC_5 ⟨by decide, by decide⟩) ?_
    refine lv_pop hx hb djC_8 rfl ?_
    exact W.vret hx hb hr (fun t ht hW => ⟨rfl, ht⟩) (fun q h => by cases h) djC_9
  obtain ⟨h6, adV, h7, h8, h9, h10, h11⟩ := hX
  rcases h11 with h | ⟨t, h⟩
  · exact va_gets hx hb h va_S.rf hown (hts _ flP) (fun x h => h) djC_2 (rest _ rfl)
  · exact va_gets hx hb h va_S.rf hown (hts _ flP) (fun x h => h) djC_2 (rest _ rfl)
theorem mJF {l : Launch} {G : GX} {t N : Nat} {f : Nat → Value} {j b : Int32} (hin : vp_in j N) (hlt : j < Int32.ofNat N) (hv : f j.toNatClampNeg = .int b) (hb0 : ((b &&& 255).toUInt32 % 65536).toInt32 = b) (hn : narrow .char (.int b) = .int b) :
    Met l yJF wJF rJF (Pt1 G [.ref t, .int j] t N f) (QcRead b) 0 0 no0 := by
  refine Met.ofW (cc := prog_16_method_2_code) (maxL := 2) (ret := some .char) (by decide +kernel) rfl ?_
  intro p e s m args below meth c s₁ B hml hv
  obtain ⟨rfl, hX, hT⟩ := hv
  have hx := B.exec
  have hb := B.bytes
  have hr := B.returns
  have hlocks := B.notSynchronized
  have hts0 := atoms_spec (ws := wJF) B.pre
  have hts : ∀ w ∈ lwG, w.before _ s = true := fun w hw => hts0 w (List.mem_cons_of_mem _ hw)
  have hown : s.vm.findClass "java/lang/StringLatin1" = some m.cls := findClass_of_methodNamed B.named
  have fix : CallFix p m c prog_16_method_2_code 2 s _ lwG "java/lang/StringLatin1" := ⟨hx, hb, hml, hown, hts⟩
  rw [entry_eq m [.ref t, .int j] (by intro v hv; simp only [List.mem_cons, List.not_mem_nil, or_false] at hv; rcases hv with rfl | rfl <;> rfl) 2]
  refine lv_iload_n hx hb djF_0 rfl (x := j) rfl ?_
  refine lv_aload_n hx hb djF_1 rfl (x := t) rfl ?_
  refine va_tlen hx hb hT va_S.rf rfl djF_2 ?_
  refine call_V0 (rest := []) (W.runS (As := [.int j, .int (Int32.ofNat N)]) fix (mJC (fun q => hin (Or.inl q)) hlt) ⟨callB_of 2 hts gJC rfl rfl rfl (hts _ jJC) (hts _ lkC) ⟨by decide +kernel, by decide +kernel, by decide +kernel⟩ ⟨by decide, by decide⟩, hts _ nJC⟩ ⟨Pj_blind (G := G), fun U hU hW => ⟨rfl, hX.here hU hW⟩⟩ rfl rfl rfl rfl (lv_room (by decide)) djF_3 ⟨by decide, by decide⟩) ?_
  refine lv_aload_n hx hb djF_6 rfl (x := t) rfl ?_
  refine lv_iload_n hx hb djF_7 rfl (x := j) rfl ?_
  refine va_tb hx hb hT va_S.rf hin hv djF_8 ?_
  refine lv_sipush hx hb djF_9 (v := 255) rfl ?_
  refine lv_iand hx hb djF_12 ?_
  refine lv_i2c hx hb djF_13 hb0 ?_
  exact W.zret hx hb hr hn (fun t ht hW => ⟨rfl, ht⟩) (fun q h => by cases h) djF_14
theorem mJI {l : Launch} {G : GX} {i : Nat} (hi : i < 4) : Met l yJI wJI rJ0 (Pj G [.ref (G.2.2.1 i)]) (QcRead 1) 0 0 no0 := by
  refine Met.ofW (cc := prog_15_method_154_code) (maxL := 1) (ret := some .boolean) (by decide +kernel) rfl ?_
  intro p e s m args below meth c s₁ B hml hv
  obtain ⟨rfl, hX⟩ := hv
  have hx := B.exec
  have hb := B.bytes
  have hr := B.returns
  have hlocks := B.notSynchronized
  have hts0 := atoms_spec (ws := wJI) B.pre
  have hts : ∀ w ∈ lwG, w.before _ s = true := fun w hw => hts0 w (List.mem_cons_of_mem _ hw)
  have hown : s.vm.findClass "java/lang/String" = some m.cls := findClass_of_methodNamed B.named
  obtain ⟨h6, adV, h7, h8, h9, h10, h11⟩ := hX
  rw [entry_eq m [.ref (G.2.2.1 i)] (by intro v hv; simp only [List.mem_cons, List.not_mem_nil, or_false] at hv; rcases hv with rfl; rfl) 1]
  refine va_gets hx hb h8 va_S.rf hown (hts _ flS) (fun x h => h) djI_0 ?_
  refine lv_if_eq hx hb djI_3 (tgt := 17) rfl (fun q => absurd q (by decide)) fun _ => ?_
  refine lv_aload_n hx hb djI_6 rfl (x := G.2.2.1 i) rfl ?_
  refine vk_getf hx hb (h7.1 i hi).2.1 va_S.rf hown (hts _ flC) (fun x h => h) djI_7 ?_
  refine lv_if_ne hx hb djI_10 (tgt := 17) rfl (fun q => absurd rfl q) fun _ => ?_
  refine lv_iconst hx hb djI_13 (v := 1) rfl ?_
  refine lv_goto hx hb djI_14 (tgt := 18) rfl ?_
  exact W.zret hx hb hr narrow_b1 (fun t ht hW => ⟨rfl, ht⟩) (fun q h => by cases h) djI_18
theorem mJD {l : Launch} {G : GX} {i : Nat} (hi : i < 4) : Met l yJD wJD rJ0 (Pj G [.ref (G.2.2.1 i)]) (QcRead 0) 0 0 no0 := by
  refine Met.ofW (cc := prog_15_method_152_code) (maxL := 1) (ret := some .byte) (by decide +kernel) rfl ?_
  intro p e s m args below meth c s₁ B hml hv
  obtain ⟨rfl, hX⟩ := hv
  have hx := B.exec
  have hb := B.bytes
  have hr := B.returns
  have hlocks := B.notSynchronized
  have hts0 := atoms_spec (ws := wJD) B.pre
  have hts : ∀ w ∈ lwG, w.before _ s = true := fun w hw => hts0 w (List.mem_cons_of_mem _ hw)
  have hown : s.vm.findClass "java/lang/String" = some m.cls := findClass_of_methodNamed B.named
  obtain ⟨h6, adV, h7, h8, h9, h10, h11⟩ := hX
  rw [entry_eq m [.ref (G.2.2.1 i)] (by intro v hv; simp only [List.mem_cons, List.not_mem_nil, or_false] at hv; rcases hv with rfl; rfl) 1]
  refine va_gets hx hb h8 va_S.rf hown (hts _ flS) (fun x h => h) djD_0 ?_
  refine lv_if_eq hx hb djD_3 (tgt := 13) rfl (fun q => absurd q (by decide)) fun _ => ?_
  refine lv_aload_n hx hb djD_6 rfl (x := G.2.2.1 i) rfl ?_
  refine vk_getf hx hb (h7.1 i hi).2.1 va_S.rf hown (hts _ flC) (fun x h => h) djD_7 ?_
  refine lv_goto hx hb djD_10 (tgt := 14) rfl ?_
  exact W.zret hx hb hr rfl (fun t ht hW => ⟨rfl, ht⟩) (fun q h => by cases h) djD_14
theorem str_len {i : Nat} (hi : i < 4) : (strB.map List.length).getD i 0 = (strB.getD i []).length := by
  have h : ∀ i < 4, (strB.map List.length).getD i 0 = (strB.getD i []).length := by decide +kernel
  exact h i hi
theorem mJN {l : Launch} {G : GX} {i : Nat} (hi : i < 4) : Met l yJN wJN rJN (Pj G [.ref (G.2.2.1 i)]) (QcRead (Int32.ofNat (strB.getD i []).length)) 0 0 no0 := by
  refine Met.ofW (cc := prog_15_method_54_code) (maxL := 1) (ret := some .int) (by decide +kernel) rfl ?_
  intro p e s m args below meth c s₁ B hml hv
  obtain ⟨rfl, hX⟩ := hv
  have hx := B.exec
  have hb := B.bytes
  have hr := B.returns
  have hlocks := B.notSynchronized
  have hts0 := atoms_spec (ws := wJN) B.pre
  have hts : ∀ w ∈ lwG, w.before _ s = true := fun w hw => hts0 w (List.mem_cons_of_mem _ hw)
  have hown : s.vm.findClass "java/lang/String" = some m.cls := findClass_of_methodNamed B.named
  have fix : CallFix p m c prog_15_method_54_code 1 s _ lwG "java/lang/String" := ⟨hx, hb, hml, hown, hts⟩
  have hX' := hX
  obtain ⟨h6, adV, h7, h8, h9, h10, h11⟩ := hX
  rw [entry_eq m [.ref (G.2.2.1 i)] (by intro v hv; simp only [List.mem_cons, List.not_mem_nil, or_false] at hv; rcases hv with rfl; rfl) 1]
  refine lv_aload_n hx hb djN_0 rfl (x := G.2.2.1 i) rfl ?_
  refine vk_getf hx hb (h7.1 i hi).2.2.1 va_S.rf hown (hts _ flV) (fun x h => h) djN_1 ?_
  refine va_tlen hx hb (h7.1 i hi).2.2.2 va_S.rf (v := Int32.ofNat (strB.getD i []).length) (by rw [str_len hi]) djN_4 ?_
  refine lv_aload_n hx hb djN_5 rfl (x := G.2.2.1 i) rfl ?_
  refine W.callR (rest := [.int (Int32.ofNat (strB.getD i []).length)]) (W.runV (C := "java/lang/String") (b := G.2.2.1 i) (As := []) fix (mJD hi) ⟨callB_of 0 hts gJD rfl rfl rfl (hts _ jJD) (hts _ lkD) ⟨by decide +kernel, by decide +kernel, by decide +kernel⟩ ⟨by decide, by decide⟩, hts _ nJD.1, hts _ nJD.2⟩ ⟨Pj_blind (G := G), vk_recv h7 hi va_S.rf, fun U hU hW => ⟨rfl, hX'.here hU hW⟩⟩ rfl rfl rfl rfl (lv_room (show (1 + 0 : Nat) ≤ 8 from by decide)) djN_6 ⟨by decide, by decide⟩) ?_
  refine lv_ishr hx hb djN_9 ?_
  have e0 : ∀ x : Int32, x >>> ((0 : Int32) &&& 31) = x := fun x => by
    rw [show ((0 : Int32) &&& 31) = 0 from by decide]
    exact Int32.shiftRight_zero
  rw [e0]
  exact W.iret hx hb hr (fun t ht hW => ⟨rfl, ht⟩) (fun q h => by cases h) djN_10
theorem byt_ok {i : Nat} (hi : i < 4) {j : Nat} (hj : j < (strB.getD i []).length) : (((((strB.getD i []).getD j 0) &&& 255).toUInt32 % 65536).toInt32 = (strB.getD i []).getD j 0) ∧ narrow .char (.int ((strB.getD i []).getD j 0)) = .int ((strB.getD i []).getD j 0) := by
  have h : ∀ i < 4, ∀ j < (strB.getD i []).length, (((((strB.getD i []).getD j 0) &&& 255).toUInt32 % 65536).toInt32 = (strB.getD i []).getD j 0) := by decide +kernel
  have h1 := h i hi j hj
  refine ⟨h1, ?_⟩
  have h2 : ∀ i < 4, ∀ j < (strB.getD i []).length, (((strB.getD i []).getD j 0).toUInt32 % 65536).toInt32 = (strB.getD i []).getD j 0 := by decide +kernel
  have h3 := h2 i hi j hj
  simp only [narrow]
  first | exact congrArg Value.int h3 | (simp; exact h3)
theorem mJA {l : Launch} {G : GX} {i : Nat} (hi : i < 4) {j : Int32} (hin : vp_in j (strB.getD i []).length) : Met l yJA wJA rJA (Pj G [.ref (G.2.2.1 i), .int j]) (QcRead ((strB.getD i []).getD j.toNatClampNeg 0)) 0 0 no0 := by
  have hjl : j.toNatClampNeg < (strB.getD i []).length := Nat.not_le.mp fun z => hin (Or.inr z)
  have hlen : ∀ i < 4, (strB.getD i []).length < 100 := by decide +kernel
  have hlt : j < Int32.ofNat (strB.getD i []).length := by
    have h0 : (0 : Int32) ≤ j := Int32.not_lt.mp fun q => hin (Or.inl q)
    have h1 : (0 : Int) ≤ j.toInt := by simpa using Int32.le_iff_toInt_le.mp h0
    have h2 := hlen i hi
    rw [Int32.lt_iff_toInt_lt, Int32.toInt_ofNat_of_lt (by omega)]
    have h3 : j.toNatClampNeg = j.toInt.toNat := rfl
    omega
  refine Met.ofW (cc := prog_15_method_56_code) (maxL := 2) (ret := some .char) (by decide +kernel) rfl ?_
  intro p e s m args below meth c s₁ B hml hv
  obtain ⟨rfl, hX⟩ := hv
  have hx := B.exec
  have hb := B.bytes
  have hr := B.returns
  have hlocks := B.notSynchronized
  have hts0 := atoms_spec (ws := wJA) B.pre
  have hts : ∀ w ∈ lwG, w.before _ s = true := fun w hw => hts0 w (List.mem_cons_of_mem _ hw)
  have hown : s.vm.findClass "java/lang/String" = some m.cls := findClass_of_methodNamed B.named
  have fix : CallFix p m c prog_15_method_56_code 2 s _ lwG "java/lang/String" := ⟨hx, hb, hml, hown, hts⟩
  have hX' := hX
  obtain ⟨h6, adV, h7, h8, h9, h10, h11⟩ := hX
  have hT := (h7.1 i hi).2.2.2
  rw [str_len hi] at hT
  rw [entry_eq m [.ref (G.2.2.1 i), .int j] (by intro v hv; simp only [List.mem_cons, List.not_mem_nil, or_false] at hv; rcases hv with rfl | rfl <;> rfl) 2]
  refine lv_aload_n hx hb djA_0 rfl (x := G.2.2.1 i) rfl ?_
  refine W.callR (rest := []) (W.runV (C := "java/lang/String") (b := G.2.2.1 i) (As := []) fix (mJI hi) ⟨callB_of 0 hts gJI rfl rfl rfl (hts _ jJI) (hts _ lkI) ⟨by decide +kernel, by decide +kernel, by decide +kernel⟩ ⟨by decide, by decide⟩, hts _ nJI.1, hts _ nJI.2⟩ ⟨Pj_blind (G := G), vk_recv h7 hi va_S.rf, fun U hU hW => ⟨rfl, hX'.here hU hW⟩⟩ rfl rfl rfl rfl (lv_room (by decide)) djA_1 ⟨by decide, by decide⟩) ?_
  refine lv_if_eq hx hb djA_4 (tgt := 16) rfl (fun q => absurd q (by decide)) fun _ => ?_
  refine lv_aload_n hx hb djA_7 rfl (x := G.2.2.1 i) rfl ?_
  refine vk_getf hx hb (h7.1 i hi).2.2.1 va_S.rf hown (hts _ flV) (fun x h => h) djA_8 ?_
  refine lv_iload_n hx hb djA_11 rfl (x := j) rfl ?_
  refine W.callR (rest := []) (W.runS (As := [.ref (adV i), .int j]) fix (mJF hin hlt rfl (byt_ok hi hjl).1 (byt_ok hi hjl).2) ⟨callB_of 2 hts gJF rfl rfl rfl (hts _ jJF) (hts _ lkF) ⟨by decide +kernel, by decide +kernel, by decide +kernel⟩ ⟨by decide, by decide⟩, hts _ nJF⟩ ⟨Pt1_blind (G := G), fun U hU hW => ⟨rfl, hX'.here hU hW, by rw [hU]; exact va_T.moved hW.alike hT⟩⟩ rfl rfl rfl rfl (lv_room (by decide)) djA_12 ⟨by decide, by decide⟩) ?_
  exact W.zret hx hb hr (byt_ok hi hjl).2 (fun t ht hW => ⟨rfl, ht⟩) (fun q h => by cases h) djA_15
theorem sg_ext {G : GX} {a : Nat} (h : EXT ≤ a) : sg G a = G.2.2.1 (a - EXT) := by
  unfold sg
  have h0 : a ≠ 0 := by
    intro q
    subst q
    exact absurd h (by decide)
  rw [if_neg h0, if_neg (Nat.not_lt.mpr h)]
theorem str_ok : StrOK := by
  intro p l e s m args below meth c H locs Q G mi C pc L st lw cs x ls hL hR hS kk idx kd j hkd hq h hd
  obtain ⟨hx, hb, hml, hown, hts, hin, hbs⟩ := C
  have hw := wC_all _ (lk_lt hq) _ (lk_mem hq)
  have fix : CallFix p m c (mB mi) (mL mi) s args lwG (cN.getD (mC mi) "") := ⟨hx, hb, hml, hown, hts⟩
  have hX := hR.2.2.2.2.2
  have h7' := hX.2
  obtain ⟨adV, h7, -⟩ := h7'
  have hxS : ∀ U : State, U.heap = H → s.WarmedH U.vm → SX G U U.heap := fun U hU hW => hX.here hU hW
  have hrc : ∀ i, i < 4 → ∃ cell : Cell, H[G.2.2.1 i]? = some cell ∧ cell.vm.isStatics = false ∧ s.vm.findClass "java/lang/String" = some cell.cls := fun i hi => by
    obtain ⟨cell, h1, h2, h3, -⟩ := (h7.1 i hi).1
    exact ⟨cell, h1, h2, h3⟩
  have hl4 : strL.length = 4 := rfl
  unfold inv at h
  rw [hq] at h
  simp only [Option.bind_some] at h
  split at h
  · cases h
  rcases hkd with rfl | rfl
  · simp only at h
    split at h
    · next a r =>
      split at h
      · cases h
      next hc =>
      cases nx_inv h
      simp only [not_or, Nat.not_lt] at hc
      obtain ⟨c1, c2, c3, c4, c7, c8, c5⟩ := hc
      have hi : a - EXT < 4 := Nat.sub_lt_left_of_lt_add c1 (by rw [← hl4]; exact Nat.not_le.mp c2)
      have hk := kk ls H locs hL hR hS
      show W p l e (mRm mi) s m args below meth c H locs cs.1 cs.2 Q (F0 m pc ls (.ref (sg G a) :: r.map (vmp G)))
      rw [sg_ext c1]
      refine W.callR (rest := r.map (vmp G)) (W.runV (C := "java/lang/String") (b := G.2.2.1 (a - EXT)) (As := []) fix (mJN hi) ⟨callB_of 0 hts gJN rfl rfl rfl (hts _ jJN) (hts _ (inG hw rfl)) ⟨by decide +kernel, by decide +kernel, by decide +kernel⟩ ⟨by show 1 + 1 ≤ mF mi; omega, by show 8 + (1 + 11) + 20 ≤ mO mi; omega⟩, hts _ nJN.1, hts _ nJN.2⟩ ⟨Pj_blind (G := G), hrc _ hi, fun U hU hW => ⟨rfl, hxS U hU hW⟩⟩ rfl rfl hL.2.1 rfl (lv_room (by rw [map_cat]; exact c5)) hd ⟨c7, c8⟩) hk
    · cases h
  · simp only at h
    split at h
    · next j a r =>
      split at h
      · cases h
      next hc =>
      cases nx_inv h
      simp only [not_or, Nat.not_lt, Bool.not_eq_false] at hc
      obtain ⟨c1, c2, c3, c4, c7, c8, c5, c6⟩ := hc
      have hi : a - EXT < 4 := Nat.sub_lt_left_of_lt_add c1 (by rw [← hl4]; exact Nat.not_le.mp c2)
      have hk := kk ls H locs hL hR hS
      show W p l e (mRm mi) s m args below meth c H locs cs.1 cs.2 Q (F0 m pc ls (.int j :: .ref (sg G a) :: r.map (vmp G)))
      rw [sg_ext c1]
      refine W.callR (rest := r.map (vmp G)) (W.runV (C := "java/lang/String") (b := G.2.2.1 (a - EXT)) (As := [.int j]) fix (mJA hi (inb_in c6)) ⟨callB_of 1 hts gJA rfl rfl rfl (hts _ jJA) (hts _ (inG hw rfl)) ⟨by decide +kernel, by decide +kernel, by decide +kernel⟩ ⟨by show 3 + 1 ≤ mF mi; omega, by show 8 + (2 + 11) + 64 ≤ mO mi; omega⟩, hts _ nJA.1, hts _ nJA.2⟩ ⟨Pj_blind (G := G), hrc _ hi, fun U hU hW => ⟨rfl, hxS U hU hW⟩⟩ rfl rfl hL.2.1 rfl (lv_room (by rw [map_cat]; exact c5)) hd ⟨c7, c8⟩) hk
    · cases h

