/-! numbers: the small ones are Nats -/
def nn : Int32 := -1
theorem nn_1 : (-(Int32.ofNat 1) : Int32) = nn := rfl
theorem nn_i : nn.toInt = -1 := by decide
theorem ofN_i {a : Nat} (h : a < 2147483648) : (Int32.ofNat a).toInt = a := Int32.toInt_ofNat_of_lt (by omega)
theorem tnN {a : Nat} (h : a < 2147483648) : (Int32.ofNat a).toNatClampNeg = a := Int32.toNatClampNeg_ofNat_of_lt (by omega)
theorem ofN_inj {a b : Nat} (ha : a < 2147483648) (hb : b < 2147483648) : (Int32.ofNat a = Int32.ofNat b) ↔ a = b := by
  rw [← Int32.toInt_inj, ofN_i ha, ofN_i hb]
  omega
theorem nn_ne {a : Nat} (ha : a < 2147483648) : ¬ (nn = Int32.ofNat a) := by
  rw [← Int32.toInt_inj, ofN_i ha, nn_i]
  omega
theorem ne_nn {a : Nat} (ha : a < 2147483648) : ¬ (Int32.ofNat a = nn) := fun h => nn_ne ha h.symm
theorem of_in {x : Int32} {n : Nat} (h0 : 0 ≤ x.toInt) (h1 : x.toInt < n) : ∃ k, k < n ∧ x = Int32.ofNat k := by
  refine ⟨x.toInt.toNat, by omega, ?_⟩
  rw [← Int32.toInt_inj, ofN_i (by have := x.toInt_lt; omega)]
  omega
theorem inbN {a n : Nat} (h : a < 2147483648) : inb (Int32.ofNat a) n = decide (a < n) := by
  unfold inb
  rw [tnN h]
  have : ¬ (Int32.ofNat a < 0) := by
    rw [Int32.lt_iff_toInt_lt, ofN_i h]
    show ¬ ((a : Int) < 0)
    omega
  by_cases h2 : a < n
  · simp [this, h2]
  · simp [this, h2]; omega
/-! sums -/
theorem addN (a b : Nat) : Int32.ofNat a + Int32.ofNat b = Int32.ofNat (a + b) := (Int32.ofNat_add a b).symm
theorem subN {a b : Nat} (h : b ≤ a) : Int32.ofNat a - Int32.ofNat b = Int32.ofNat (a - b) := (Int32.ofNat_sub a b h).symm
theorem mulN (a b : Nat) : Int32.ofNat a * Int32.ofNat b = Int32.ofNat (a * b) := (Int32.ofNat_mul a b).symm
theorem decN {a : Nat} (h : 0 < a) : Int32.ofNat a + nn = Int32.ofNat (a - 1) := by
  have : Int32.ofNat a = Int32.ofNat (a - 1) + Int32.ofNat 1 := by rw [addN]; congr 1; omega
  rw [this, Int32.add_assoc]
  show Int32.ofNat (a - 1) + (1 + (-1)) = _
  have : (1 : Int32) + (-1) = 0 := by decide
  rw [this, Int32.add_zero]
theorem divN {a b : Nat} (ha : a < 2147483648) (hb : b < 2147483648) : Int32.ofNat a / Int32.ofNat b = Int32.ofNat (a / b) := by
  have h3 : a / b < 2147483648 := Nat.lt_of_le_of_lt (Nat.div_le_self a b) ha
  rw [← Int32.toInt_inj, Int32.toInt_div_of_ne_left _ _ (fun e => by
    have := congrArg Int32.toInt e
    rw [ofN_i ha] at this
    have h4 : Int32.minValue.toInt = -2147483648 := by decide
    omega), ofN_i ha, ofN_i hb, ofN_i h3, Int.ofNat_tdiv]
theorem remN {a b : Nat} (ha : a < 2147483648) (hb : b < 2147483648) : Int32.ofNat a - Int32.ofNat a / Int32.ofNat b * Int32.ofNat b = Int32.ofNat (a % b) := by
  rw [divN ha hb, mulN, subN (Nat.div_mul_le_self a b)]
  congr 1
  have := Nat.div_add_mod a b
  rw [Nat.mul_comm] at this
  omega
theorem modN (a b : Nat) : a - a / b * b = a % b := by
  have := Nat.div_add_mod a b
  rw [Nat.mul_comm] at this
  omega
theorem i_add {x y : Int32} (h1 : -2147483648 ≤ x.toInt + y.toInt) (h2 : x.toInt + y.toInt < 2147483648) : (x + y).toInt = x.toInt + y.toInt := by
  rw [Int32.toInt_add]
  exact Int.bmod_eq_of_le (by omega) (by omega)
theorem i_sub {x y : Int32} (h1 : -2147483648 ≤ x.toInt - y.toInt) (h2 : x.toInt - y.toInt < 2147483648) : (x - y).toInt = x.toInt - y.toInt := by
  rw [Int32.toInt_sub]
  exact Int.bmod_eq_of_le (by omega) (by omega)
/-! compares -/
theorem jj2_lt (x y : Int32) : cmp2 .lt x y = decide (x.toInt < y.toInt) := by simp only [cmp2, Int32.lt_iff_toInt_lt]
theorem jj2_le (x y : Int32) : cmp2 .le x y = decide (x.toInt ≤ y.toInt) := by simp only [cmp2, Int32.le_iff_toInt_le]
theorem jj2_gt (x y : Int32) : cmp2 .gt x y = decide (y.toInt < x.toInt) := by simp only [cmp2, Int32.lt_iff_toInt_lt]
theorem jj2_ge (x y : Int32) : cmp2 .ge x y = decide (y.toInt ≤ x.toInt) := by simp only [cmp2, Int32.le_iff_toInt_le]
theorem jj2_eq (x y : Int32) : cmp2 .eq x y = decide (x = y) := rfl
theorem jj2_ne (x y : Int32) : cmp2 .ne x y = !decide (x = y) := rfl
theorem jj0_lt (x : Int32) : cmp0 .lt x = decide (x.toInt < 0) := by simp only [cmp0, Int32.lt_iff_toInt_lt]; rfl
theorem jj0_le (x : Int32) : cmp0 .le x = decide (x.toInt ≤ 0) := by simp only [cmp0, Int32.le_iff_toInt_le]; rfl
theorem jj0_gt (x : Int32) : cmp0 .gt x = decide (0 < x.toInt) := by simp only [cmp0, Int32.lt_iff_toInt_lt]; rfl
theorem jj0_ge (x : Int32) : cmp0 .ge x = decide (0 ≤ x.toInt) := by simp only [cmp0, Int32.le_iff_toInt_le]; rfl
theorem jj0_eq (x : Int32) : cmp0 .eq x = decide (x = Int32.ofNat 0) := rfl
theorem jj0_ne (x : Int32) : cmp0 .ne x = !decide (x = Int32.ofNat 0) := rfl
section nat
variable {a b : Nat} (ha : a < 2147483648) (hb : b < 2147483648)
theorem n2_lt (ha : a < 2147483648) (hb : b < 2147483648) : cmp2 .lt (Int32.ofNat a) (Int32.ofNat b) = decide (a < b) := by rw [jj2_lt, ofN_i ha, ofN_i hb]; congr 1; exact propext Int.ofNat_lt
theorem n2_le (ha : a < 2147483648) (hb : b < 2147483648) : cmp2 .le (Int32.ofNat a) (Int32.ofNat b) = decide (a ≤ b) := by rw [jj2_le, ofN_i ha, ofN_i hb]; congr 1; exact propext Int.ofNat_le
theorem n2_gt (ha : a < 2147483648) (hb : b < 2147483648) : cmp2 .gt (Int32.ofNat a) (Int32.ofNat b) = decide (b < a) := by rw [jj2_gt, ofN_i ha, ofN_i hb]; congr 1; exact propext Int.ofNat_lt
theorem n2_ge (ha : a < 2147483648) (hb : b < 2147483648) : cmp2 .ge (Int32.ofNat a) (Int32.ofNat b) = decide (b ≤ a) := by rw [jj2_ge, ofN_i ha, ofN_i hb]; congr 1; exact propext Int.ofNat_le
theorem n2_eq (ha : a < 2147483648) (hb : b < 2147483648) : cmp2 .eq (Int32.ofNat a) (Int32.ofNat b) = decide (a = b) := by rw [jj2_eq]; congr 1; exact propext (ofN_inj ha hb)
theorem n2_ne (ha : a < 2147483648) (hb : b < 2147483648) : cmp2 .ne (Int32.ofNat a) (Int32.ofNat b) = !decide (a = b) := by rw [jj2_ne]; congr 2; exact propext (ofN_inj ha hb)
theorem n0_lt (ha : a < 2147483648) : cmp0 .lt (Int32.ofNat a) = false := by rw [jj0_lt, ofN_i ha]; simp
theorem n0_ge (ha : a < 2147483648) : cmp0 .ge (Int32.ofNat a) = true := by rw [jj0_ge, ofN_i ha]; simp
theorem n0_gt (ha : a < 2147483648) : cmp0 .gt (Int32.ofNat a) = decide (0 < a) := by rw [jj0_gt, ofN_i ha]; congr 1; exact propext (by omega)
theorem n0_le (ha : a < 2147483648) : cmp0 .le (Int32.ofNat a) = decide (a = 0) := by rw [jj0_le, ofN_i ha]; congr 1; exact propext (by omega)
theorem n0_eq (ha : a < 2147483648) : cmp0 .eq (Int32.ofNat a) = decide (a = 0) := by rw [jj0_eq]; congr 1; exact propext (ofN_inj ha (by omega))
theorem n0_ne (ha : a < 2147483648) : cmp0 .ne (Int32.ofNat a) = !decide (a = 0) := by rw [jj0_ne]; congr 2; exact propext (ofN_inj ha (by omega))
theorem m2_eq (ha : a < 2147483648) : cmp2 .eq (Int32.ofNat a) nn = false := by rw [jj2_eq]; exact decide_eq_false (ne_nn ha)
theorem m2_ne (ha : a < 2147483648) : cmp2 .ne (Int32.ofNat a) nn = true := by rw [jj2_ne, decide_eq_false (ne_nn ha)]; rfl
theorem m2_eqq : cmp2 .eq nn nn = true := by decide
theorem m2_neq : cmp2 .ne nn nn = false := by decide
theorem m0_lt : cmp0 .lt nn = true := by decide
theorem m0_ge : cmp0 .ge nn = false := by decide
theorem m0_eq : cmp0 .eq nn = false := by decide
theorem m0_ne : cmp0 .ne nn = true := by decide
theorem m2_eqN (ha : a < 2147483648) : cmp2 .eq nn (Int32.ofNat a) = false := by rw [jj2_eq]; exact decide_eq_false (nn_ne ha)
theorem m2_neN (ha : a < 2147483648) : cmp2 .ne nn (Int32.ofNat a) = true := by rw [jj2_ne, decide_eq_false (nn_ne ha)]; rfl
end nat
theorem n0_gts {a b : Nat} (ha : a < 2147483648) (hb : b < 2147483648) : cmp0 .gt (Int32.ofNat a - Int32.ofNat b) = decide (b < a) := by
  rw [jj0_gt, i_sub (by rw [ofN_i ha, ofN_i hb]; omega) (by rw [ofN_i ha, ofN_i hb]; omega), ofN_i ha, ofN_i hb]
  congr 1
  exact propext (by omega)
/-! longs -/
theorem l_ge (x y : Int32) : cmp0 .ge (lcm (Int32.toInt64 x) (Int32.toInt64 y)) = decide (y.toInt ≤ x.toInt) := by
  show decide (0 ≤ lg_cmp _ _) = _
  congr 1
  rw [lg_cmp_ge, Int32.toInt64_le, Int32.le_iff_toInt_le]
theorem l_le (x y : Int32) : cmp0 .le (lcm (Int32.toInt64 x) (Int32.toInt64 y)) = decide (x.toInt ≤ y.toInt) := by
  show decide (lg_cmp _ _ ≤ 0) = _
  congr 1
  rw [lg_cmp_le, Int32.toInt64_le, Int32.le_iff_toInt_le]
def wi (x y z : Int32) : Bool := decide (y.toInt ≤ x.toInt) && decide (x.toInt ≤ z.toInt)
def inN (x : Int32) (n : Nat) : Bool := decide (0 ≤ x.toInt) && decide (x.toInt < n)
theorem wi_N (x : Int32) {b : Nat} (hb : b < 2147483648) : wi x (Int32.ofNat 0) (Int32.ofNat b) = inN x (b + 1) := by
  unfold wi inN
  rw [ofN_i hb, ofN_i (by omega)]
  congr 2
  exact propext (by omega)
theorem wi_P (x : Int32) {b : Nat} (hb : b < 2147483648) : wi x (Int32.ofNat 0) (Int32.ofNat b - Int32.ofNat 1) = inN x b := by
  unfold wi inN
  rw [i_sub (by rw [ofN_i hb, ofN_i (by omega)]; omega) (by rw [ofN_i hb, ofN_i (by omega)]; omega), ofN_i hb, ofN_i (by omega), ofN_i (by omega)]
  congr 2
  exact propext (by omega)
theorem inN_e {x : Int32} {n : Nat} (h : inN x n = true) : ∃ k, k < n ∧ x = Int32.ofNat k := by
  unfold inN at h
  rw [Bool.and_eq_true, decide_eq_true_eq, decide_eq_true_eq] at h
  exact of_in h.1 h.2
theorem inN_N {a n : Nat} (ha : a < 2147483648) : inN (Int32.ofNat a) n = decide (a < n) := by
  unfold inN
  rw [ofN_i ha]
  by_cases h : a < n
  · simp [h]
  · simp [h]
theorem wi_NN {a b c : Nat} (ha : a < 2147483648) (hb : b < 2147483648) (hc : c < 2147483648) : wi (Int32.ofNat a) (Int32.ofNat b) (Int32.ofNat c) = (decide (b ≤ a) && decide (a ≤ c)) := by
  unfold wi
  rw [ofN_i ha, ofN_i hb, ofN_i hc]
  congr 1
  · congr 1; exact propext Int.ofNat_le
  · congr 1; exact propext Int.ofNat_le
theorem rd_within (x y z : Int32) : TR_within x y z = rd (fun _ => true) (fun _ => wi x y z) := by
  unfold TR_within
  simp only [rd_pu, rd_mb, rd_mif, jj2_ge, jj2_le, Bool.true_and, Bool.cond_self, Bool.cond_false_right]
  rfl
def li (x y z : Int64) : Bool := decide (y ≤ x) && decide (x ≤ z)
theorem li_wi (x y z : Int32) : li (Int32.toInt64 x) (Int32.toInt64 y) (Int32.toInt64 z) = wi x y z := by
  unfold li wi
  congr 1
  · congr 1; rw [Int32.toInt64_le, Int32.le_iff_toInt_le]
  · congr 1; rw [Int32.toInt64_le, Int32.le_iff_toInt_le]
theorem ll_ge (x y : Int64) : cmp0 .ge (lcm x y) = decide (y ≤ x) := by
  show decide (0 ≤ lg_cmp _ _) = _
  congr 1
  rw [lg_cmp_ge]
theorem ll_le (x y : Int64) : cmp0 .le (lcm x y) = decide (x ≤ y) := by
  show decide (lg_cmp _ _ ≤ 0) = _
  congr 1
  rw [lg_cmp_le]
theorem ll_gt (x y : Int64) : cmp0 .gt (lcm x y) = decide (y < x) := by
  show decide (0 < lg_cmp _ _) = _
  congr 1
  rw [lg_cmp_gt]
theorem rd_in (x y z : Int64) : MO_in x y z = rd (fun _ => true) (fun _ => li x y z) := by
  unfold MO_in
  simp only [rd_pu, rd_mb, rd_mif, ll_ge, ll_le, Bool.true_and, Bool.cond_self, Bool.cond_false_right]
  rfl
/-! literals -/
theorem q_0 : (0 : Int32) = Int32.ofNat 0 := rfl
theorem q_1 : (1 : Int32) = Int32.ofNat 1 := rfl
theorem q_2 : (2 : Int32) = Int32.ofNat 2 := rfl
theorem q_3 : (3 : Int32) = Int32.ofNat 3 := rfl
theorem q_4 : (4 : Int32) = Int32.ofNat 4 := rfl
theorem q_5 : (5 : Int32) = Int32.ofNat 5 := rfl
theorem q_6 : (6 : Int32) = Int32.ofNat 6 := rfl
theorem q_7 : (7 : Int32) = Int32.ofNat 7 := rfl
theorem q_8 : (8 : Int32) = Int32.ofNat 8 := rfl
theorem q_9 : (9 : Int32) = Int32.ofNat 9 := rfl
theorem q_10 : (10 : Int32) = Int32.ofNat 10 := rfl
theorem q_11 : (11 : Int32) = Int32.ofNat 11 := rfl
theorem q_12 : (12 : Int32) = Int32.ofNat 12 := rfl
theorem q_15 : (15 : Int32) = Int32.ofNat 15 := rfl
theorem q_16 : (16 : Int32) = Int32.ofNat 16 := rfl
theorem q_20 : (20 : Int32) = Int32.ofNat 20 := rfl
theorem q_21 : (21 : Int32) = Int32.ofNat 21 := rfl
theorem q_25 : (25 : Int32) = Int32.ofNat 25 := rfl
theorem q_30 : (30 : Int32) = Int32.ofNat 30 := rfl
theorem q_31 : (31 : Int32) = Int32.ofNat 31 := rfl
theorem q_32 : (32 : Int32) = Int32.ofNat 32 := rfl
theorem q_40 : (40 : Int32) = Int32.ofNat 40 := rfl
theorem q_44 : (44 : Int32) = Int32.ofNat 44 := rfl
theorem q_48 : (48 : Int32) = Int32.ofNat 48 := rfl
theorem q_50 : (50 : Int32) = Int32.ofNat 50 := rfl
theorem q_57 : (57 : Int32) = Int32.ofNat 57 := rfl
theorem q_59 : (59 : Int32) = Int32.ofNat 59 := rfl
theorem q_60 : (60 : Int32) = Int32.ofNat 60 := rfl
theorem q_64 : (64 : Int32) = Int32.ofNat 64 := rfl
theorem q_81 : (81 : Int32) = Int32.ofNat 81 := rfl
theorem q_97 : (97 : Int32) = Int32.ofNat 97 := rfl
theorem q_98 : (98 : Int32) = Int32.ofNat 98 := rfl
theorem q_99 : (99 : Int32) = Int32.ofNat 99 := rfl
theorem q_100 : (100 : Int32) = Int32.ofNat 100 := rfl
theorem q_101 : (101 : Int32) = Int32.ofNat 101 := rfl
theorem q_102 : (102 : Int32) = Int32.ofNat 102 := rfl
theorem q_103 : (103 : Int32) = Int32.ofNat 103 := rfl
theorem q_104 : (104 : Int32) = Int32.ofNat 104 := rfl
theorem q_105 : (105 : Int32) = Int32.ofNat 105 := rfl
theorem q_107 : (107 : Int32) = Int32.ofNat 107 := rfl
theorem q_108 : (108 : Int32) = Int32.ofNat 108 := rfl
theorem q_110 : (110 : Int32) = Int32.ofNat 110 := rfl
theorem q_111 : (111 : Int32) = Int32.ofNat 111 := rfl
theorem q_114 : (114 : Int32) = Int32.ofNat 114 := rfl
theorem q_115 : (115 : Int32) = Int32.ofNat 115 := rfl
theorem q_116 : (116 : Int32) = Int32.ofNat 116 := rfl
theorem q_119 : (119 : Int32) = Int32.ofNat 119 := rfl
theorem q_120 : (120 : Int32) = Int32.ofNat 120 := rfl
theorem q_121 : (121 : Int32) = Int32.ofNat 121 := rfl
theorem q_122 : (122 : Int32) = Int32.ofNat 122 := rfl
theorem q_136 : (136 : Int32) = Int32.ofNat 136 := rfl
theorem q_160 : (160 : Int32) = Int32.ofNat 160 := rfl
theorem q_200 : (200 : Int32) = Int32.ofNat 200 := rfl
theorem q_255 : (255 : Int32) = Int32.ofNat 255 := rfl
theorem q_300 : (300 : Int32) = Int32.ofNat 300 := rfl
theorem q_400 : (400 : Int32) = Int32.ofNat 400 := rfl
theorem q_401 : (401 : Int32) = Int32.ofNat 401 := rfl
theorem q_402 : (402 : Int32) = Int32.ofNat 402 := rfl
theorem q_460 : (460 : Int32) = Int32.ofNat 460 := rfl
theorem q_479 : (479 : Int32) = Int32.ofNat 479 := rfl
theorem q_480 : (480 : Int32) = Int32.ofNat 480 := rfl
theorem q_920 : (920 : Int32) = Int32.ofNat 920 := rfl
theorem q_999 : (999 : Int32) = Int32.ofNat 999 := rfl
theorem q_1000 : (1000 : Int32) = Int32.ofNat 1000 := rfl
theorem q_1023 : (1023 : Int32) = Int32.ofNat 1023 := rfl
theorem q_1024 : (1024 : Int32) = Int32.ofNat 1024 := rfl
theorem q_4020 : (4020 : Int32) = Int32.ofNat 4020 := rfl
theorem q_9999 : (9999 : Int32) = Int32.ofNat 9999 := rfl
theorem q_99999 : (99999 : Int32) = Int32.ofNat 99999 := rfl
theorem q_1000000 : (1000000 : Int32) = Int32.ofNat 1000000 := rfl
theorem q_1000000000 : (1000000000 : Int32) = Int32.ofNat 1000000000 := rfl
theorem q_100001 : (100001 : Int32) = Int32.ofNat 100001 := rfl
theorem q_100002 : (100002 : Int32) = Int32.ofNat 100002 := rfl
theorem q_100003 : (100003 : Int32) = Int32.ofNat 100003 := rfl
theorem q_100004 : (100004 : Int32) = Int32.ofNat 100004 := rfl
theorem q_400000 : (400000 : Int32) = Int32.ofNat 400000 := rfl
theorem r_0 : (0 : Int64) = Int32.toInt64 (Int32.ofNat 0) := by decide
theorem r_1 : (1 : Int64) = Int32.toInt64 (Int32.ofNat 1) := by decide
theorem r_2 : (2 : Int64) = Int32.toInt64 (Int32.ofNat 2) := by decide
theorem r_3 : (3 : Int64) = Int32.toInt64 (Int32.ofNat 3) := by decide
theorem r_4 : (4 : Int64) = Int32.toInt64 (Int32.ofNat 4) := by decide
theorem r_6 : (6 : Int64) = Int32.toInt64 (Int32.ofNat 6) := by decide
theorem r_7 : (7 : Int64) = Int32.toInt64 (Int32.ofNat 7) := by decide
theorem r_8 : (8 : Int64) = Int32.toInt64 (Int32.ofNat 8) := by decide
theorem r_9 : (9 : Int64) = Int32.toInt64 (Int32.ofNat 9) := by decide
theorem r_10 : (10 : Int64) = Int32.toInt64 (Int32.ofNat 10) := by decide
theorem r_11 : (11 : Int64) = Int32.toInt64 (Int32.ofNat 11) := by decide
theorem r_21 : (21 : Int64) = Int32.toInt64 (Int32.ofNat 21) := by decide
theorem r_40 : (40 : Int64) = Int32.toInt64 (Int32.ofNat 40) := by decide
theorem r_48 : (48 : Int64) = Int32.toInt64 (Int32.ofNat 48) := by decide
theorem r_57 : (57 : Int64) = Int32.toInt64 (Int32.ofNat 57) := by decide
theorem r_60 : (60 : Int64) = Int32.toInt64 (Int32.ofNat 60) := by decide
theorem r_97 : (97 : Int64) = Int32.toInt64 (Int32.ofNat 97) := by decide
theorem r_122 : (122 : Int64) = Int32.toInt64 (Int32.ofNat 122) := by decide
theorem r_200 : (200 : Int64) = Int32.toInt64 (Int32.ofNat 200) := by decide
theorem r_300 : (300 : Int64) = Int32.toInt64 (Int32.ofNat 300) := by decide
theorem r_479 : (479 : Int64) = Int32.toInt64 (Int32.ofNat 479) := by decide
theorem r_920 : (920 : Int64) = Int32.toInt64 (Int32.ofNat 920) := by decide
theorem r_9999 : (9999 : Int64) = Int32.toInt64 (Int32.ofNat 9999) := by decide
theorem r_99999 : (99999 : Int64) = Int32.toInt64 (Int32.ofNat 99999) := by decide
theorem r_m1 : (-(Int32.toInt64 (Int32.ofNat 1)) : Int64) = Int32.toInt64 nn := by decide
