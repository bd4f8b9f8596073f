/-! the orders that count in a minute: what they say -/
def OD (no : Nat) (mi cl kd : Nat → Nat) (n1 n2 : Int32) (c18 c19 c20 c21 c22 c23 r140 r141 r142 r143 r144 r145 : Nat → Int32) : Prop := no ≤ 6 ∧ n1 = Int32.ofNat no ∧ n2 = Int32.ofNat no ∧ ∀ k, k < no → mi k < 480 ∧ c18 k = Int32.ofNat (mi k) ∧ r140 k = Int32.ofNat (mi k) ∧ cl k ≤ 10 ∧ c19 k = Int32.ofNat (cl k) ∧ r141 k = Int32.ofNat (cl k) ∧ ∀ j, j < cl k → kd (10 * k + j) < 9 ∧ c20 (10 * k + j) = Int32.ofNat (kd (10 * k + j)) ∧ r142 (10 * k + j) = Int32.ofNat (kd (10 * k + j)) ∧ SlotR k (10 * k + j) c20 c21 c22 c23 r142 r143 r144 r145
theorem IOrd_OD {no : Nat} {n1 n2 : Int32} {c18 c19 c20 c21 c22 c23 r140 r141 r142 r143 r144 r145 : Nat → Int32} (h : IOrd no n1 n2 c18 c19 c20 c21 c22 c23 r140 r141 r142 r143 r144 r145) : OD no (fun k => (c18 k).toNatClampNeg) (fun k => (c19 k).toNatClampNeg) (fun k => (c20 k).toNatClampNeg) n1 n2 c18 c19 c20 c21 c22 c23 r140 r141 r142 r143 r144 r145 := by
  obtain ⟨h1, h2, h3, h4⟩ := h
  refine ⟨h1, h2, h3, fun k hk => ?_⟩
  obtain ⟨⟨m, hm, a1, a2⟩, c, hc, b1, b2, b3⟩ := h4 k hk
  simp only [a1, b1, tnN (show m < 2147483648 by omega), tnN (show c < 2147483648 by omega)]
  refine ⟨hm, trivial, a2, hc, trivial, b2, fun j hj => ?_⟩
  have hs := b3 j hj
  have hs0 := hs
  obtain ⟨kd, hkd, d1, d2, -⟩ := hs
  simp only [d1, tnN (show kd < 2147483648 by omega)]
  exact ⟨hkd, trivial, d2, hs0⟩
/-- order k strikes x -/
def stk (cl kd : Nat → Nat) (f1 : Nat → Int32) (k x : Nat) : Bool := (List.range (cl k)).any fun j => decide (kd (10 * k + j) = 8) && decide (f1 (10 * k + j) = Int32.ofNat x)
/-- those that still count when the j last ones are gone through -/
def onF (no : Nat) (cl kd : Nat → Nat) (f1 : Nat → Int32) (set : Nat → Bool) : Nat → Nat → Bool
  | 0, x => set x
  | j + 1, x => onF no cl kd f1 set j x && !(onF no cl kd f1 set j (no - 1 - j) && stk cl kd f1 (no - 1 - j) x)
theorem stk_iff {cl kd : Nat → Nat} {f1 : Nat → Int32} {k x : Nat} : stk cl kd f1 k x = true ↔ ∃ j, j < cl k ∧ kd (10 * k + j) = 8 ∧ f1 (10 * k + j) = Int32.ofNat x := by
  unfold stk
  rw [List.any_eq_true]
  constructor
  · rintro ⟨j, hj, h⟩
    rw [Bool.and_eq_true, decide_eq_true_eq, decide_eq_true_eq] at h
    exact ⟨j, List.mem_range.mp hj, h⟩
  · rintro ⟨j, hj, h⟩
    exact ⟨j, List.mem_range.mpr hj, by rw [Bool.and_eq_true, decide_eq_true_eq, decide_eq_true_eq]; exact h⟩
/-- the row by minutes: how many, and which -/
def ipos (mi : Nat → Nat) (row : Nat → Nat) (n : Nat) : Nat → Nat
  | 0 => 0
  | k + 1 => if mi n < mi (row k) then ipos mi row n k else k + 1
def insR (row : Nat → Nat) (p n : Nat) : Nat → Nat := fun i => if i < p then row i else if i = p then n else row (i - 1)
def luR (mi : Nat → Nat) (ON : Nat → Bool) : Nat → Nat × (Nat → Nat)
  | 0 => (0, fun _ => 0)
  | n + 1 => if ON n then ((luR mi ON n).1 + 1, insR (luR mi ON n).2 (ipos mi (luR mi ON n).2 n (luR mi ON n).1) n) else luR mi ON n
theorem ipos_le (mi : Nat → Nat) (row : Nat → Nat) (n : Nat) : ∀ k, ipos mi row n k ≤ k := by
  intro k
  induction k with
  | zero => exact Nat.le_refl _
  | succ k ih =>
    simp only [ipos]
    split <;> omega
theorem luR_bd (mi : Nat → Nat) (ON : Nat → Bool) : ∀ n, (luR mi ON n).1 ≤ n ∧ ∀ i, i < (luR mi ON n).1 → (luR mi ON n).2 i < n ∧ ON ((luR mi ON n).2 i) = true := by
  intro n
  induction n with
  | zero => exact ⟨Nat.le_refl _, fun i hi => by simp [luR] at hi⟩
  | succ n ih =>
    simp only [luR]
    cases h : ON n
    · simp only [Bool.false_eq_true, if_false]
      exact ⟨by omega, fun i hi => ⟨by have := (ih.2 i hi).1; omega, (ih.2 i hi).2⟩⟩
    · simp only [if_true]
      have hp := ipos_le mi (luR mi ON n).2 n (luR mi ON n).1
      refine ⟨by omega, fun i hi => ?_⟩
      unfold insR
      split
      · next c => exact ⟨by have := (ih.2 i (by omega)).1; omega, (ih.2 i (by omega)).2⟩
      · split
        · exact ⟨by omega, h⟩
        · exact ⟨by have := (ih.2 (i - 1) (by omega)).1; omega, (ih.2 (i - 1) (by omega)).2⟩
/-- what holds: by kinds; how many keys; the keys -/
abbrev HO : Type := (Nat → Int32) × Int32 × Int32
def ap1 (kd : Nat → Nat) (f1 f2 : Nat → Int32) (H : HO) (s : Nat) : HO := if kd s = 0 then (H.1, f1 s, f2 s) else (upf H.1 (kd s) (f1 s), H.2.1, H.2.2)
def apC (kd : Nat → Nat) (f1 f2 : Nat → Int32) (H : HO) (r : Nat) : Nat → HO
  | 0 => H
  | j + 1 => ap1 kd f1 f2 (apC kd f1 f2 H r j) (10 * r + j)
def apR (cl kd : Nat → Nat) (f1 f2 : Nat → Int32) (H : HO) (row : Nat → Nat) : Nat → HO
  | 0 => H
  | i + 1 => apC kd f1 f2 (apR cl kd f1 f2 H row i) (row i) (cl (row i))
def H0 : HO := (fun k => if k = 1 then Int32.ofNat 2 else if k = 2 then Int32.ofNat 0 else if k = 3 then Int32.ofNat 5 else if k = 4 then Int32.ofNat 6 else Int32.ofNat 50, Int32.ofNat 3, Int32.ofNat 136)
/-- the class's rules, as they are by what holds -/
def RuC (rows : Nat) (row : Nat → Nat) (H : HO) (q : Nat → Int32) (c25 c26 : Nat → Int32) : Prop := q 3 = Int32.ofNat rows ∧ (∀ i, i < rows → c25 i = Int32.ofNat (row i)) ∧ q 4 = H.1 1 ∧ q 5 = H.1 2 ∧ q 6 = H.1 3 ∧ q 7 = H.1 4 ∧ q 8 = H.1 7 ∧ q 9 = H.2.1 ∧ ∃ m, m ≤ 5 ∧ H.2.1 = Int32.ofNat m ∧ ∀ k, k < m → c26 k = jsr' H.2.2 (Int32.ofNat (3 * k)) &&& Int32.ofNat 7
def RuM (rows : Nat) (row : Nat → Nat) (H : HO) (q34 q36 q37 : Int32) (r148 r149 : Nat → Int32) : Prop := q34 = Int32.ofNat rows ∧ (∀ i, i < rows → r148 i = Int32.ofNat (row i)) ∧ r149 1 = H.1 1 ∧ r149 2 = H.1 2 ∧ r149 3 = H.1 3 ∧ r149 4 = H.1 4 ∧ r149 7 = H.1 7 ∧ q36 = H.2.2 ∧ q37 = H.2.1
section
variable {SC SR : Sg} {no : Nat} {mi cl kd : Nat → Nat}
abbrev ODs (no : Nat) (mi cl kd : Nat → Nat) (SC SR : Sg) : Prop := OD no mi cl kd (fi SC 17 6) (fi SR 127 17) (ai SC 18) (ai SC 19) (ai SC 20) (ai SC 21) (ai SC 22) (ai SC 23) (ai SR 140) (ai SR 141) (ai SR 142) (ai SR 143) (ai SR 144) (ai SR 145)
theorem wp_since (H : ODs no mi cl kd SC SR) {m : Nat} (hm : m < 480) {Q : Int32 → Sg → Prop} (hQ : ∀ s, (∀ x, x < 32 → bt s x = (decide (x < no) && decide (mi x ≤ m))) → Q s SC) : WP (Orders_since (Int32.ofNat m)) SC Q := by
  obtain ⟨h1, h2, h3, h4⟩ := H
  unfold Orders_since
  simp (disch := omega) only [q_0, q_1, q_2, q_3, q_4, q_5, q_6, q_7, q_8, q_9, q_10, q_11, q_12, q_15, q_16, q_20, q_21, q_25, q_30, q_31, q_32, q_40, q_44, q_48, q_50, q_57, q_59, q_60, q_64, q_81, q_97, q_98, q_99, q_100, q_101, q_102, q_103, q_104, q_105, q_107, q_108, q_110, q_111, q_114, q_115, q_116, q_119, q_120, q_121, q_122, q_136, q_160, q_200, q_255, q_300, q_400, q_401, q_402, q_460, q_479, q_480, q_920, q_999, q_1000, q_1023, q_1024, q_4020, q_9999, q_99999, q_1000000, q_1000000000, q_100001, q_100002, q_100003, q_100004, q_400000, nn_1, r_0, r_1, r_2, r_3, r_4, r_6, r_7, r_8, r_9, r_10, r_11, r_21, r_40, r_48, r_57, r_60, r_97, r_122, r_200, r_300, r_479, r_920, r_9999, r_99999, r_m1, rd_pu, rd_gI, rd_gB, rd_gL, rd_gQ, rd_rI, rd_rB, rd_rQ, rd_rK, rd_dq, rd_cq, rd_div, rd_rem, rd_mb, rd_mif, rd_within, rd_in, Bool.true_and, Bool.and_true, Bool.cond_self, Bool.cond_false_right, Bool.cond_true_left, cond_true, cond_false, rd_sAt, wp_rd, wp_mb, wp_mif, wp_sI, wp_sB, wp_sL, wp_sQ, wp_wI, wp_wB, wp_wQ, orR_l, orR_r, orE_l, orE_r, sK_l, sK_r, sK_c, cond_tr, fi_ufi, fi_ufi1, fi_ufi2, fb_ufb, fb_ufb1, fb_ufb2, fl_ufl, fl_ufl1, fl_ufl2, fr_ufr, fr_ufr1, fr_ufr2, ai_sa, ai_sa1, ab_sab, ab_sab1, ar_sar, ar_sar1, upf_eq, upf_ne, fi_ufb, fi_ufl, fi_ufr, fi_sa, fi_sab, fi_sar, fb_ufi, fb_ufl, fb_ufr, fb_sa, fb_sab, fb_sar, fl_ufi, fl_ufb, fl_ufr, fl_sa, fl_sab, fl_sar, fr_ufi, fr_ufb, fr_ufl, fr_sa, fr_sab, fr_sar, ai_ufi, ai_ufb, ai_ufl, ai_ufr, ai_sab, ai_sar, ab_ufi, ab_ufb, ab_ufl, ab_ufr, ab_sa, ab_sar, ar_ufi, ar_ufb, ar_ufl, ar_ufr, ar_sa, ar_sab, sa_sa, sab_sab, sar_sar, upf_upf, ufi_ufi, tnN, inbN, addN, subN, mulN, decN, divN, remN, n2_lt, n2_le, n2_gt, n2_ge, n2_eq, n2_ne, n0_lt, n0_ge, n0_gt, n0_le, n0_eq, n0_ne, m2_eq, m2_ne, m2_eqq, m2_neq, m0_lt, m0_ge, m0_eq, m0_ne, m2_eqN, m2_neN, wi_N, wi_P, wi_NN, inN_N, li_wi, Nat.reduceAdd, Nat.reduceSub, Nat.reduceMul, Nat.reduceDiv, Nat.reduceMod, Nat.reduceLT, Nat.reduceLeDiff, Nat.reduceEqDiff, decide_true, decide_false, Nat.add_zero, Nat.zero_add, Nat.mul_one, Nat.one_mul, Nat.mul_zero, Nat.zero_mul, n0_gts, Prod.mk.injEq, modN, decide_eq_true_eq, decide_eq_false_iff_not, Bool.and_eq_true, Bool.or_eq_true, Bool.not_eq_true', Bool.not_eq_false', Bool.not_eq_true, Bool.not_eq_false, Bool.not_not, Bool.not_true, Bool.not_false, Bool.true_eq_false, Bool.false_eq_true, true_and, and_true, false_and, and_false, true_implies, false_implies, implies_true, not_true_eq_false, not_false_eq_true, ne_eq, Bool.and_eq_false_imp, Bool.or_eq_false_iff, eq_self, or_false, false_or, or_true, true_or]
  refine WP.mono (wp_for no (by unfold FU; omega) (fun k a S' => S' = SC ∧ a.2 = Int32.ofNat k ∧ ∀ x, x < 32 → bt a.1 x = (decide (x < k) && decide (mi x ≤ m))) ?_ ⟨rfl, rfl, fun x hx => by rw [bt_zero]; simp⟩ (Q := fun s S' => S' = SC ∧ ∀ x, x < 32 → bt s x = (decide (x < no) && decide (mi x ≤ m)))) ?_
  · rintro k ⟨s, u⟩ S' hk ⟨rfl, hu, hs⟩
    simp only at hu hs
    subst hu
    unfold Orders_since_l1
    by_cases hkn : k < no
    · obtain ⟨m1, m2, -⟩ := h4 k hkn
      have h6 : k < 6 := by omega
      have fin : ∀ b, b = decide (mi k ≤ m) → ∀ x, x < 32 → bt (bif b then s ||| jsh (Int32.ofNat 1) (Int32.ofNat k) else s) x = (decide (x < k + 1) && decide (mi x ≤ m)) := by
        intro b hb x hx
        by_cases hxk : x = k
        · subst hxk
          cases b
          · rw [cond_false, hs x hx, ← hb]; simp
          · rw [cond_true, bt_or, bt_one (by omega) hx, hs x hx, ← hb]; simp
        · have e : decide (x < k + 1) = decide (x < k) := by congr 1; exact propext (by omega)
          cases b
          · rw [cond_false, hs x hx, e]
          · rw [cond_true, bt_or, bt_one (by omega) hx, hs x hx, e]; simp [hxk]
      simp (disch := omega) only [q_0, q_1, q_2, q_3, q_4, q_5, q_6, q_7, q_8, q_9, q_10, q_11, q_12, q_15, q_16, q_20, q_21, q_25, q_30, q_31, q_32, q_40, q_44, q_48, q_50, q_57, q_59, q_60, q_64, q_81, q_97, q_98, q_99, q_100, q_101, q_102, q_103, q_104, q_105, q_107, q_108, q_110, q_111, q_114, q_115, q_116, q_119, q_120, q_121, q_122, q_136, q_160, q_200, q_255, q_300, q_400, q_401, q_402, q_460, q_479, q_480, q_920, q_999, q_1000, q_1023, q_1024, q_4020, q_9999, q_99999, q_1000000, q_1000000000, q_100001, q_100002, q_100003, q_100004, q_400000, nn_1, r_0, r_1, r_2, r_3, r_4, r_6, r_7, r_8, r_9, r_10, r_11, r_21, r_40, r_48, r_57, r_60, r_97, r_122, r_200, r_300, r_479, r_920, r_9999, r_99999, r_m1, rd_pu, rd_gI, rd_gB, rd_gL, rd_gQ, rd_rI, rd_rB, rd_rQ, rd_rK, rd_dq, rd_cq, rd_div, rd_rem, rd_mb, rd_mif, rd_within, rd_in, Bool.true_and, Bool.and_true, Bool.cond_self, Bool.cond_false_right, Bool.cond_true_left, cond_true, cond_false, rd_sAt, wp_rd, wp_mb, wp_mif, wp_sI, wp_sB, wp_sL, wp_sQ, wp_wI, wp_wB, wp_wQ, orR_l, orR_r, orE_l, orE_r, sK_l, sK_r, sK_c, cond_tr, fi_ufi, fi_ufi1, fi_ufi2, fb_ufb, fb_ufb1, fb_ufb2, fl_ufl, fl_ufl1, fl_ufl2, fr_ufr, fr_ufr1, fr_ufr2, ai_sa, ai_sa1, ab_sab, ab_sab1, ar_sar, ar_sar1, upf_eq, upf_ne, fi_ufb, fi_ufl, fi_ufr, fi_sa, fi_sab, fi_sar, fb_ufi, fb_ufl, fb_ufr, fb_sa, fb_sab, fb_sar, fl_ufi, fl_ufb, fl_ufr, fl_sa, fl_sab, fl_sar, fr_ufi, fr_ufb, fr_ufl, fr_sa, fr_sab, fr_sar, ai_ufi, ai_ufb, ai_ufl, ai_ufr, ai_sab, ai_sar, ab_ufi, ab_ufb, ab_ufl, ab_ufr, ab_sa, ab_sar, ar_ufi, ar_ufb, ar_ufl, ar_ufr, ar_sa, ar_sab, sa_sa, sab_sab, sar_sar, upf_upf, ufi_ufi, tnN, inbN, addN, subN, mulN, decN, divN, remN, n2_lt, n2_le, n2_gt, n2_ge, n2_eq, n2_ne, n0_lt, n0_ge, n0_gt, n0_le, n0_eq, n0_ne, m2_eq, m2_ne, m2_eqq, m2_neq, m0_lt, m0_ge, m0_eq, m0_ne, m2_eqN, m2_neN, wi_N, wi_P, wi_NN, inN_N, li_wi, Nat.reduceAdd, Nat.reduceSub, Nat.reduceMul, Nat.reduceDiv, Nat.reduceMod, Nat.reduceLT, Nat.reduceLeDiff, Nat.reduceEqDiff, decide_true, decide_false, Nat.add_zero, Nat.zero_add, Nat.mul_one, Nat.one_mul, Nat.mul_zero, Nat.zero_mul, n0_gts, Prod.mk.injEq, modN, decide_eq_true_eq, decide_eq_false_iff_not, Bool.and_eq_true, Bool.or_eq_true, Bool.not_eq_true', Bool.not_eq_false', Bool.not_eq_true, Bool.not_eq_false, Bool.not_not, Bool.not_true, Bool.not_false, Bool.true_eq_false, Bool.false_eq_true, true_and, and_true, false_and, and_false, true_implies, false_implies, implies_true, not_true_eq_false, not_false_eq_true, ne_eq, Bool.and_eq_false_imp, Bool.or_eq_false_iff, eq_self, or_false, false_or, or_true, true_or, h2, m2, hkn, h6]
      exact fin _ rfl
    · have e : k = no := by omega
      subst e
      simp (disch := omega) only [q_0, q_1, q_2, q_3, q_4, q_5, q_6, q_7, q_8, q_9, q_10, q_11, q_12, q_15, q_16, q_20, q_21, q_25, q_30, q_31, q_32, q_40, q_44, q_48, q_50, q_57, q_59, q_60, q_64, q_81, q_97, q_98, q_99, q_100, q_101, q_102, q_103, q_104, q_105, q_107, q_108, q_110, q_111, q_114, q_115, q_116, q_119, q_120, q_121, q_122, q_136, q_160, q_200, q_255, q_300, q_400, q_401, q_402, q_460, q_479, q_480, q_920, q_999, q_1000, q_1023, q_1024, q_4020, q_9999, q_99999, q_1000000, q_1000000000, q_100001, q_100002, q_100003, q_100004, q_400000, nn_1, r_0, r_1, r_2, r_3, r_4, r_6, r_7, r_8, r_9, r_10, r_11, r_21, r_40, r_48, r_57, r_60, r_97, r_122, r_200, r_300, r_479, r_920, r_9999, r_99999, r_m1, rd_pu, rd_gI, rd_gB, rd_gL, rd_gQ, rd_rI, rd_rB, rd_rQ, rd_rK, rd_dq, rd_cq, rd_div, rd_rem, rd_mb, rd_mif, rd_within, rd_in, Bool.true_and, Bool.and_true, Bool.cond_self, Bool.cond_false_right, Bool.cond_true_left, cond_true, cond_false, rd_sAt, wp_rd, wp_mb, wp_mif, wp_sI, wp_sB, wp_sL, wp_sQ, wp_wI, wp_wB, wp_wQ, orR_l, orR_r, orE_l, orE_r, sK_l, sK_r, sK_c, cond_tr, fi_ufi, fi_ufi1, fi_ufi2, fb_ufb, fb_ufb1, fb_ufb2, fl_ufl, fl_ufl1, fl_ufl2, fr_ufr, fr_ufr1, fr_ufr2, ai_sa, ai_sa1, ab_sab, ab_sab1, ar_sar, ar_sar1, upf_eq, upf_ne, fi_ufb, fi_ufl, fi_ufr, fi_sa, fi_sab, fi_sar, fb_ufi, fb_ufl, fb_ufr, fb_sa, fb_sab, fb_sar, fl_ufi, fl_ufb, fl_ufr, fl_sa, fl_sab, fl_sar, fr_ufi, fr_ufb, fr_ufl, fr_sa, fr_sab, fr_sar, ai_ufi, ai_ufb, ai_ufl, ai_ufr, ai_sab, ai_sar, ab_ufi, ab_ufb, ab_ufl, ab_ufr, ab_sa, ab_sar, ar_ufi, ar_ufb, ar_ufl, ar_ufr, ar_sa, ar_sab, sa_sa, sab_sab, sar_sar, upf_upf, ufi_ufi, tnN, inbN, addN, subN, mulN, decN, divN, remN, n2_lt, n2_le, n2_gt, n2_ge, n2_eq, n2_ne, n0_lt, n0_ge, n0_gt, n0_le, n0_eq, n0_ne, m2_eq, m2_ne, m2_eqq, m2_neq, m0_lt, m0_ge, m0_eq, m0_ne, m2_eqN, m2_neN, wi_N, wi_P, wi_NN, inN_N, li_wi, Nat.reduceAdd, Nat.reduceSub, Nat.reduceMul, Nat.reduceDiv, Nat.reduceMod, Nat.reduceLT, Nat.reduceLeDiff, Nat.reduceEqDiff, decide_true, decide_false, Nat.add_zero, Nat.zero_add, Nat.mul_one, Nat.one_mul, Nat.mul_zero, Nat.zero_mul, n0_gts, Prod.mk.injEq, modN, decide_eq_true_eq, decide_eq_false_iff_not, Bool.and_eq_true, Bool.or_eq_true, Bool.not_eq_true', Bool.not_eq_false', Bool.not_eq_true, Bool.not_eq_false, Bool.not_not, Bool.not_true, Bool.not_false, Bool.true_eq_false, Bool.false_eq_true, true_and, and_true, false_and, and_false, true_implies, false_implies, implies_true, not_true_eq_false, not_false_eq_true, ne_eq, Bool.and_eq_false_imp, Bool.or_eq_false_iff, eq_self, or_false, false_or, or_true, true_or, h2, hkn]
      exact hs
  · rintro s S' ⟨rfl, hs⟩
    exact hQ s hs
theorem wp_struckBy (H : ODs no mi cl kd SC SR) {k : Nat} (hk : k < no) {Q : Int32 → Sg → Prop} (hQ : ∀ s, (∀ x, x < 32 → bt s x = stk cl kd (ai SC 21) k x) → Q s SC) : WP (Orders_struckBy (Int32.ofNat k)) SC Q := by
  obtain ⟨h1, h2, h3, h4⟩ := H
  obtain ⟨m1, m2, m3, c1, c2, c3, c4⟩ := h4 k hk
  unfold Orders_struckBy
  have hk' : ¬ no ≤ k := by omega
  have h6 : k < 6 := by omega
  simp (disch := omega) only [q_0, q_1, q_2, q_3, q_4, q_5, q_6, q_7, q_8, q_9, q_10, q_11, q_12, q_15, q_16, q_20, q_21, q_25, q_30, q_31, q_32, q_40, q_44, q_48, q_50, q_57, q_59, q_60, q_64, q_81, q_97, q_98, q_99, q_100, q_101, q_102, q_103, q_104, q_105, q_107, q_108, q_110, q_111, q_114, q_115, q_116, q_119, q_120, q_121, q_122, q_136, q_160, q_200, q_255, q_300, q_400, q_401, q_402, q_460, q_479, q_480, q_920, q_999, q_1000, q_1023, q_1024, q_4020, q_9999, q_99999, q_1000000, q_1000000000, q_100001, q_100002, q_100003, q_100004, q_400000, nn_1, r_0, r_1, r_2, r_3, r_4, r_6, r_7, r_8, r_9, r_10, r_11, r_21, r_40, r_48, r_57, r_60, r_97, r_122, r_200, r_300, r_479, r_920, r_9999, r_99999, r_m1, rd_pu, rd_gI, rd_gB, rd_gL, rd_gQ, rd_rI, rd_rB, rd_rQ, rd_rK, rd_dq, rd_cq, rd_div, rd_rem, rd_mb, rd_mif, rd_within, rd_in, Bool.true_and, Bool.and_true, Bool.cond_self, Bool.cond_false_right, Bool.cond_true_left, cond_true, cond_false, rd_sAt, wp_rd, wp_mb, wp_mif, wp_sI, wp_sB, wp_sL, wp_sQ, wp_wI, wp_wB, wp_wQ, orR_l, orR_r, orE_l, orE_r, sK_l, sK_r, sK_c, cond_tr, fi_ufi, fi_ufi1, fi_ufi2, fb_ufb, fb_ufb1, fb_ufb2, fl_ufl, fl_ufl1, fl_ufl2, fr_ufr, fr_ufr1, fr_ufr2, ai_sa, ai_sa1, ab_sab, ab_sab1, ar_sar, ar_sar1, upf_eq, upf_ne, fi_ufb, fi_ufl, fi_ufr, fi_sa, fi_sab, fi_sar, fb_ufi, fb_ufl, fb_ufr, fb_sa, fb_sab, fb_sar, fl_ufi, fl_ufb, fl_ufr, fl_sa, fl_sab, fl_sar, fr_ufi, fr_ufb, fr_ufl, fr_sa, fr_sab, fr_sar, ai_ufi, ai_ufb, ai_ufl, ai_ufr, ai_sab, ai_sar, ab_ufi, ab_ufb, ab_ufl, ab_ufr, ab_sa, ab_sar, ar_ufi, ar_ufb, ar_ufl, ar_ufr, ar_sa, ar_sab, sa_sa, sab_sab, sar_sar, upf_upf, ufi_ufi, tnN, inbN, addN, subN, mulN, decN, divN, remN, n2_lt, n2_le, n2_gt, n2_ge, n2_eq, n2_ne, n0_lt, n0_ge, n0_gt, n0_le, n0_eq, n0_ne, m2_eq, m2_ne, m2_eqq, m2_neq, m0_lt, m0_ge, m0_eq, m0_ne, m2_eqN, m2_neN, wi_N, wi_P, wi_NN, inN_N, li_wi, Nat.reduceAdd, Nat.reduceSub, Nat.reduceMul, Nat.reduceDiv, Nat.reduceMod, Nat.reduceLT, Nat.reduceLeDiff, Nat.reduceEqDiff, decide_true, decide_false, Nat.add_zero, Nat.zero_add, Nat.mul_one, Nat.one_mul, Nat.mul_zero, Nat.zero_mul, n0_gts, Prod.mk.injEq, modN, decide_eq_true_eq, decide_eq_false_iff_not, Bool.and_eq_true, Bool.or_eq_true, Bool.not_eq_true', Bool.not_eq_false', Bool.not_eq_true, Bool.not_eq_false, Bool.not_not, Bool.not_true, Bool.not_false, Bool.true_eq_false, Bool.false_eq_true, true_and, and_true, false_and, and_false, true_implies, false_implies, implies_true, not_true_eq_false, not_false_eq_true, ne_eq, Bool.and_eq_false_imp, Bool.or_eq_false_iff, eq_self, or_false, false_or, or_true, true_or, h2, hk']
  refine WP.mono (wp_for (cl k) (by unfold FU; omega) (fun j a S' => S' = SC ∧ a.2 = Int32.ofNat j ∧ ∀ x, x < 32 → bt a.1 x = (List.range j).any fun j => decide (kd (10 * k + j) = 8) && decide (ai SC 21 (10 * k + j) = Int32.ofNat x)) ?_ ⟨rfl, rfl, fun x hx => by rw [bt_zero]; simp⟩ (Q := fun s S' => S' = SC ∧ ∀ x, x < 32 → bt s x = stk cl kd (ai SC 21) k x)) ?_
  · rintro j ⟨s, u⟩ S' hj ⟨rfl, hu, hs⟩
    simp only at hu hs
    subst hu
    unfold Orders_struckBy_l1
    by_cases hjc : j < cl k
    · obtain ⟨d1, d2, d3, d4⟩ := c4 j hjc
      obtain ⟨kk, e1, e2, e3, e4, e5, -⟩ := d4
      rw [d2, ofN_inj (by omega) (by omega)] at e2
      have ek : k * 10 + j = 10 * k + j := by omega
      have i60 : 10 * k + j < 60 := by omega
      by_cases h8 : kd (10 * k + j) = 8
      · obtain ⟨v, v1, v2, v3, v4, v5⟩ := e5 (by omega)
        have v6 := v5 (by omega)
        simp (disch := omega) only [q_0, q_1, q_2, q_3, q_4, q_5, q_6, q_7, q_8, q_9, q_10, q_11, q_12, q_15, q_16, q_20, q_21, q_25, q_30, q_31, q_32, q_40, q_44, q_48, q_50, q_57, q_59, q_60, q_64, q_81, q_97, q_98, q_99, q_100, q_101, q_102, q_103, q_104, q_105, q_107, q_108, q_110, q_111, q_114, q_115, q_116, q_119, q_120, q_121, q_122, q_136, q_160, q_200, q_255, q_300, q_400, q_401, q_402, q_460, q_479, q_480, q_920, q_999, q_1000, q_1023, q_1024, q_4020, q_9999, q_99999, q_1000000, q_1000000000, q_100001, q_100002, q_100003, q_100004, q_400000, nn_1, r_0, r_1, r_2, r_3, r_4, r_6, r_7, r_8, r_9, r_10, r_11, r_21, r_40, r_48, r_57, r_60, r_97, r_122, r_200, r_300, r_479, r_920, r_9999, r_99999, r_m1, rd_pu, rd_gI, rd_gB, rd_gL, rd_gQ, rd_rI, rd_rB, rd_rQ, rd_rK, rd_dq, rd_cq, rd_div, rd_rem, rd_mb, rd_mif, rd_within, rd_in, Bool.true_and, Bool.and_true, Bool.cond_self, Bool.cond_false_right, Bool.cond_true_left, cond_true, cond_false, rd_sAt, wp_rd, wp_mb, wp_mif, wp_sI, wp_sB, wp_sL, wp_sQ, wp_wI, wp_wB, wp_wQ, orR_l, orR_r, orE_l, orE_r, sK_l, sK_r, sK_c, cond_tr, fi_ufi, fi_ufi1, fi_ufi2, fb_ufb, fb_ufb1, fb_ufb2, fl_ufl, fl_ufl1, fl_ufl2, fr_ufr, fr_ufr1, fr_ufr2, ai_sa, ai_sa1, ab_sab, ab_sab1, ar_sar, ar_sar1, upf_eq, upf_ne, fi_ufb, fi_ufl, fi_ufr, fi_sa, fi_sab, fi_sar, fb_ufi, fb_ufl, fb_ufr, fb_sa, fb_sab, fb_sar, fl_ufi, fl_ufb, fl_ufr, fl_sa, fl_sab, fl_sar, fr_ufi, fr_ufb, fr_ufl, fr_sa, fr_sab, fr_sar, ai_ufi, ai_ufb, ai_ufl, ai_ufr, ai_sab, ai_sar, ab_ufi, ab_ufb, ab_ufl, ab_ufr, ab_sa, ab_sar, ar_ufi, ar_ufb, ar_ufl, ar_ufr, ar_sa, ar_sab, sa_sa, sab_sab, sar_sar, upf_upf, ufi_ufi, tnN, inbN, addN, subN, mulN, decN, divN, remN, n2_lt, n2_le, n2_gt, n2_ge, n2_eq, n2_ne, n0_lt, n0_ge, n0_gt, n0_le, n0_eq, n0_ne, m2_eq, m2_ne, m2_eqq, m2_neq, m0_lt, m0_ge, m0_eq, m0_ne, m2_eqN, m2_neN, wi_N, wi_P, wi_NN, inN_N, li_wi, Nat.reduceAdd, Nat.reduceSub, Nat.reduceMul, Nat.reduceDiv, Nat.reduceMod, Nat.reduceLT, Nat.reduceLeDiff, Nat.reduceEqDiff, decide_true, decide_false, Nat.add_zero, Nat.zero_add, Nat.mul_one, Nat.one_mul, Nat.mul_zero, Nat.zero_mul, n0_gts, Prod.mk.injEq, modN, decide_eq_true_eq, decide_eq_false_iff_not, Bool.and_eq_true, Bool.or_eq_true, Bool.not_eq_true', Bool.not_eq_false', Bool.not_eq_true, Bool.not_eq_false, Bool.not_not, Bool.not_true, Bool.not_false, Bool.true_eq_false, Bool.false_eq_true, true_and, and_true, false_and, and_false, true_implies, false_implies, implies_true, not_true_eq_false, not_false_eq_true, ne_eq, Bool.and_eq_false_imp, Bool.or_eq_false_iff, eq_self, or_false, false_or, or_true, true_or, c2, hjc, h6, ek, i60, d2, h8, v2]
        intro x hx
        rw [bt_or, bt_one (by omega) hx, hs x hx, List.range_succ, List.any_append]
        congr 1
        simp only [List.any_cons, List.any_nil, Bool.or_false, h8, v2, decide_true, Bool.true_and]
        congr 1
        rw [ofN_inj (by omega) (by omega)]
        exact propext ⟨fun h => h.symm, fun h => h.symm⟩
      · simp (disch := omega) only [q_0, q_1, q_2, q_3, q_4, q_5, q_6, q_7, q_8, q_9, q_10, q_11, q_12, q_15, q_16, q_20, q_21, q_25, q_30, q_31, q_32, q_40, q_44, q_48, q_50, q_57, q_59, q_60, q_64, q_81, q_97, q_98, q_99, q_100, q_101, q_102, q_103, q_104, q_105, q_107, q_108, q_110, q_111, q_114, q_115, q_116, q_119, q_120, q_121, q_122, q_136, q_160, q_200, q_255, q_300, q_400, q_401, q_402, q_460, q_479, q_480, q_920, q_999, q_1000, q_1023, q_1024, q_4020, q_9999, q_99999, q_1000000, q_1000000000, q_100001, q_100002, q_100003, q_100004, q_400000, nn_1, r_0, r_1, r_2, r_3, r_4, r_6, r_7, r_8, r_9, r_10, r_11, r_21, r_40, r_48, r_57, r_60, r_97, r_122, r_200, r_300, r_479, r_920, r_9999, r_99999, r_m1, rd_pu, rd_gI, rd_gB, rd_gL, rd_gQ, rd_rI, rd_rB, rd_rQ, rd_rK, rd_dq, rd_cq, rd_div, rd_rem, rd_mb, rd_mif, rd_within, rd_in, Bool.true_and, Bool.and_true, Bool.cond_self, Bool.cond_false_right, Bool.cond_true_left, cond_true, cond_false, rd_sAt, wp_rd, wp_mb, wp_mif, wp_sI, wp_sB, wp_sL, wp_sQ, wp_wI, wp_wB, wp_wQ, orR_l, orR_r, orE_l, orE_r, sK_l, sK_r, sK_c, cond_tr, fi_ufi, fi_ufi1, fi_ufi2, fb_ufb, fb_ufb1, fb_ufb2, fl_ufl, fl_ufl1, fl_ufl2, fr_ufr, fr_ufr1, fr_ufr2, ai_sa, ai_sa1, ab_sab, ab_sab1, ar_sar, ar_sar1, upf_eq, upf_ne, fi_ufb, fi_ufl, fi_ufr, fi_sa, fi_sab, fi_sar, fb_ufi, fb_ufl, fb_ufr, fb_sa, fb_sab, fb_sar, fl_ufi, fl_ufb, fl_ufr, fl_sa, fl_sab, fl_sar, fr_ufi, fr_ufb, fr_ufl, fr_sa, fr_sab, fr_sar, ai_ufi, ai_ufb, ai_ufl, ai_ufr, ai_sab, ai_sar, ab_ufi, ab_ufb, ab_ufl, ab_ufr, ab_sa, ab_sar, ar_ufi, ar_ufb, ar_ufl, ar_ufr, ar_sa, ar_sab, sa_sa, sab_sab, sar_sar, upf_upf, ufi_ufi, tnN, inbN, addN, subN, mulN, decN, divN, remN, n2_lt, n2_le, n2_gt, n2_ge, n2_eq, n2_ne, n0_lt, n0_ge, n0_gt, n0_le, n0_eq, n0_ne, m2_eq, m2_ne, m2_eqq, m2_neq, m0_lt, m0_ge, m0_eq, m0_ne, m2_eqN, m2_neN, wi_N, wi_P, wi_NN, inN_N, li_wi, Nat.reduceAdd, Nat.reduceSub, Nat.reduceMul, Nat.reduceDiv, Nat.reduceMod, Nat.reduceLT, Nat.reduceLeDiff, Nat.reduceEqDiff, decide_true, decide_false, Nat.add_zero, Nat.zero_add, Nat.mul_one, Nat.one_mul, Nat.mul_zero, Nat.zero_mul, n0_gts, Prod.mk.injEq, modN, decide_eq_true_eq, decide_eq_false_iff_not, Bool.and_eq_true, Bool.or_eq_true, Bool.not_eq_true', Bool.not_eq_false', Bool.not_eq_true, Bool.not_eq_false, Bool.not_not, Bool.not_true, Bool.not_false, Bool.true_eq_false, Bool.false_eq_true, true_and, and_true, false_and, and_false, true_implies, false_implies, implies_true, not_true_eq_false, not_false_eq_true, ne_eq, Bool.and_eq_false_imp, Bool.or_eq_false_iff, eq_self, or_false, false_or, or_true, true_or, c2, hjc, h6, ek, i60, d2, h8]
        intro x hx
        rw [hs x hx, List.range_succ, List.any_append]
        simp [h8]
    · have e : j = cl k := by omega
      subst e
      simp (disch := omega) only [q_0, q_1, q_2, q_3, q_4, q_5, q_6, q_7, q_8, q_9, q_10, q_11, q_12, q_15, q_16, q_20, q_21, q_25, q_30, q_31, q_32, q_40, q_44, q_48, q_50, q_57, q_59, q_60, q_64, q_81, q_97, q_98, q_99, q_100, q_101, q_102, q_103, q_104, q_105, q_107, q_108, q_110, q_111, q_114, q_115, q_116, q_119, q_120, q_121, q_122, q_136, q_160, q_200, q_255, q_300, q_400, q_401, q_402, q_460, q_479, q_480, q_920, q_999, q_1000, q_1023, q_1024, q_4020, q_9999, q_99999, q_1000000, q_1000000000, q_100001, q_100002, q_100003, q_100004, q_400000, nn_1, r_0, r_1, r_2, r_3, r_4, r_6, r_7, r_8, r_9, r_10, r_11, r_21, r_40, r_48, r_57, r_60, r_97, r_122, r_200, r_300, r_479, r_920, r_9999, r_99999, r_m1, rd_pu, rd_gI, rd_gB, rd_gL, rd_gQ, rd_rI, rd_rB, rd_rQ, rd_rK, rd_dq, rd_cq, rd_div, rd_rem, rd_mb, rd_mif, rd_within, rd_in, Bool.true_and, Bool.and_true, Bool.cond_self, Bool.cond_false_right, Bool.cond_true_left, cond_true, cond_false, rd_sAt, wp_rd, wp_mb, wp_mif, wp_sI, wp_sB, wp_sL, wp_sQ, wp_wI, wp_wB, wp_wQ, orR_l, orR_r, orE_l, orE_r, sK_l, sK_r, sK_c, cond_tr, fi_ufi, fi_ufi1, fi_ufi2, fb_ufb, fb_ufb1, fb_ufb2, fl_ufl, fl_ufl1, fl_ufl2, fr_ufr, fr_ufr1, fr_ufr2, ai_sa, ai_sa1, ab_sab, ab_sab1, ar_sar, ar_sar1, upf_eq, upf_ne, fi_ufb, fi_ufl, fi_ufr, fi_sa, fi_sab, fi_sar, fb_ufi, fb_ufl, fb_ufr, fb_sa, fb_sab, fb_sar, fl_ufi, fl_ufb, fl_ufr, fl_sa, fl_sab, fl_sar, fr_ufi, fr_ufb, fr_ufl, fr_sa, fr_sab, fr_sar, ai_ufi, ai_ufb, ai_ufl, ai_ufr, ai_sab, ai_sar, ab_ufi, ab_ufb, ab_ufl, ab_ufr, ab_sa, ab_sar, ar_ufi, ar_ufb, ar_ufl, ar_ufr, ar_sa, ar_sab, sa_sa, sab_sab, sar_sar, upf_upf, ufi_ufi, tnN, inbN, addN, subN, mulN, decN, divN, remN, n2_lt, n2_le, n2_gt, n2_ge, n2_eq, n2_ne, n0_lt, n0_ge, n0_gt, n0_le, n0_eq, n0_ne, m2_eq, m2_ne, m2_eqq, m2_neq, m0_lt, m0_ge, m0_eq, m0_ne, m2_eqN, m2_neN, wi_N, wi_P, wi_NN, inN_N, li_wi, Nat.reduceAdd, Nat.reduceSub, Nat.reduceMul, Nat.reduceDiv, Nat.reduceMod, Nat.reduceLT, Nat.reduceLeDiff, Nat.reduceEqDiff, decide_true, decide_false, Nat.add_zero, Nat.zero_add, Nat.mul_one, Nat.one_mul, Nat.mul_zero, Nat.zero_mul, n0_gts, Prod.mk.injEq, modN, decide_eq_true_eq, decide_eq_false_iff_not, Bool.and_eq_true, Bool.or_eq_true, Bool.not_eq_true', Bool.not_eq_false', Bool.not_eq_true, Bool.not_eq_false, Bool.not_not, Bool.not_true, Bool.not_false, Bool.true_eq_false, Bool.false_eq_true, true_and, and_true, false_and, and_false, true_implies, false_implies, implies_true, not_true_eq_false, not_false_eq_true, ne_eq, Bool.and_eq_false_imp, Bool.or_eq_false_iff, eq_self, or_false, false_or, or_true, true_or, c2, h6, hjc]
      exact hs
  · rintro s S' ⟨rfl, hs⟩
    exact hQ s hs
end
