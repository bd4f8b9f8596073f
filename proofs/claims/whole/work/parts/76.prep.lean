/-! a pair prepared -/
def SetB (s : Int32) (q : Nat) : Prop := ∀ w, w < 32 → (bt s w = true ↔ wS q w)
theorem sab2_add (f g : Nat → Nat → Nat) : sab2 (fun a b => f a b + g a b) = sab2 f + sab2 g := by
  unfold sab2
  rw [← sm_add]
  refine sm_cg fun a _ => ?_
  rw [← sm_add]
  refine sm_cg fun b _ => ?_
  by_cases h : a = b <;> simp [h]
theorem sab2_one {a b L : Nat} (ha : a < 8) (hb : b < 8) (hab : a ≠ b) : sab2 (fun x y => if x = a ∧ y = b then L else 0) = L := by
  unfold sab2
  rw [sm_one (p := a) ha (fun x _ hx => sm_zero fun y _ => by simp [hx]), sm_one (p := b) hb (fun y _ hy => by simp [hy])]
  simp [hab]
theorem sab2_le {f g : Nat → Nat → Nat} (h : ∀ a b, a < 8 → b < 8 → f a b ≤ g a b) : sab2 f ≤ sab2 g := by
  unfold sab2
  refine sm_le fun a ha => sm_le fun b hb => ?_
  by_cases e : a = b
  · simp [e]
  · simp only [e, if_false]; exact h a b ha hb
theorem sab2_cg {f g : Nat → Nat → Nat} (h : ∀ a b, a < 8 → b < 8 → a ≠ b → f a b = g a b) : sab2 f = sab2 g := by
  unfold sab2
  refine sm_cg fun a ha => sm_cg fun b hb => ?_
  by_cases e : a = b
  · simp [e]
  · simp only [e, if_false]; exact h a b ha hb e
section
variable (al : Nat → Bool) (A B M : Nat → Nat)
def PairOK (a b u : Nat) (c7 c8 c9 c10 : Nat → Int32) : Prop := ∃ s m v, c9 (a * 8 + b) = Int32.ofNat s ∧ c10 (a * 8 + b) = Int32.ofNat m ∧ m = (seg al A B M a b).length ∧ s + m ≤ u ∧ (∀ i, i < m → c7 (s + i) = Int32.ofNat (v i) ∧ SetB (c8 (s + i)) (v i)) ∧ Bij v m (fun q => q ∈ seg al A B M a b) ∧ (∀ i j, i < j → j < m → v i < v j)
def IPool (u : Nat) (c7 c8 c9 c10 : Nat → Int32) : Prop := (∀ a b, a < 8 → b < 8 → a ≠ b → c10 (a * 8 + b) = nn ∨ PairOK al A B M a b u c7 c8 c9 c10) ∧ (∀ a, a < 8 → c10 (a * 8 + a) = nn) ∧ u = sab2 (fun a b => if c10 (a * 8 + b) = nn then 0 else (seg al A B M a b).length)
end
def NP (S : Sg) (c7 c8 c9 c10 : Nat → Int32) (u : Nat) : Sg := ufi (sa (sa (sa (sa S 7 c7) 8 c8) 9 c9) 10 c10) 2 8 (Int32.ofNat u)
section
variable {al : Nat → Bool} {A B M : Nat → Nat} {S : Sg}
theorem rd_pairOf {a b : Nat} (ha : a < 8) (hb : b < 8) : Net_pairOf (Int32.ofNat a) (Int32.ofNat b) = rd (fun _ => true) (fun _ => Int32.ofNat (a * 8 + b)) := by
  have ha' : ¬ 8 ≤ a := by omega
  have hb' : ¬ 8 ≤ b := by omega
  unfold Net_pairOf
  simp (disch := omega) only [q_0, q_1, q_2, q_3, q_4, q_5, q_6, q_7, q_8, q_9, q_10, q_11, q_12, q_15, q_16, q_20, q_21, q_25, q_30, q_31, q_32, q_40, q_44, q_48, q_50, q_57, q_59, q_60, q_64, q_81, q_97, q_98, q_99, q_100, q_101, q_102, q_103, q_104, q_105, q_107, q_108, q_110, q_111, q_114, q_115, q_116, q_119, q_120, q_121, q_122, q_136, q_160, q_200, q_255, q_300, q_400, q_401, q_402, q_460, q_479, q_480, q_920, q_999, q_1000, q_1023, q_1024, q_4020, q_9999, q_99999, q_1000000, q_1000000000, q_100001, q_100002, q_100003, q_100004, q_400000, nn_1, r_0, r_1, r_2, r_3, r_4, r_6, r_7, r_8, r_9, r_10, r_11, r_21, r_40, r_48, r_57, r_60, r_97, r_122, r_200, r_300, r_479, r_920, r_9999, r_99999, r_m1, rd_pu, rd_gI, rd_gB, rd_gL, rd_gQ, rd_rI, rd_rB, rd_rQ, rd_rK, rd_dq, rd_cq, rd_div, rd_rem, rd_mb, rd_mif, rd_within, rd_in, Bool.true_and, Bool.and_true, Bool.cond_self, Bool.cond_false_right, Bool.cond_true_left, cond_true, cond_false, rd_sAt, tnN, inbN, addN, subN, mulN, decN, divN, remN, n2_lt, n2_le, n2_gt, n2_ge, n2_eq, n2_ne, n0_lt, n0_ge, n0_gt, n0_le, n0_eq, n0_ne, m2_eq, m2_ne, m2_eqq, m2_neq, m0_lt, m0_ge, m0_eq, m0_ne, m2_eqN, m2_neN, wi_N, wi_P, wi_NN, inN_N, li_wi, Nat.reduceAdd, Nat.reduceSub, Nat.reduceMul, Nat.reduceDiv, Nat.reduceMod, Nat.reduceLT, Nat.reduceLeDiff, Nat.reduceEqDiff, decide_true, decide_false, Nat.add_zero, Nat.zero_add, Nat.mul_one, Nat.one_mul, Nat.mul_zero, Nat.zero_mul, n0_gts, Prod.mk.injEq, modN, ha', hb', Bool.or_false]
theorem IPool_le {c3 c4 c5 : Nat → Int32} (H : NetL al A B M c3 c4 c5) {u : Nat} {c7 c8 c9 c10 : Nat → Int32} (h : IPool al A B M u c7 c8 c9 c10) : u ≤ 4020 := by
  rw [h.2.2]
  refine Nat.le_trans (sab2_le (g := fun a b => (seg al A B M a b).length) fun a b _ _ => ?_) (seg_all H)
  split <;> omega
theorem IPool_room {c3 c4 c5 : Nat → Int32} (H : NetL al A B M c3 c4 c5) {u : Nat} {c7 c8 c9 c10 : Nat → Int32} (h : IPool al A B M u c7 c8 c9 c10) {a b : Nat} (ha : a < 8) (hb : b < 8) (hab : a ≠ b) (hn : c10 (a * 8 + b) = nn) : u + (seg al A B M a b).length ≤ 4020 := by
  have e := sab2_add (fun x y => if c10 (x * 8 + y) = nn then 0 else (seg al A B M x y).length) (fun x y => if x = a ∧ y = b then (seg al A B M a b).length else 0)
  rw [sab2_one ha hb hab, ← h.2.2] at e
  rw [← e]
  refine Nat.le_trans (sab2_le (g := fun a b => (seg al A B M a b).length) fun x y _ _ => ?_) (seg_all H)
  by_cases c : x = a ∧ y = b
  · obtain ⟨rfl, rfl⟩ := c
    simp [hn]
  · simp only [c, if_false]
    split <;> omega
theorem wp_prepare (H : NetL al A B M (ai S 3) (ai S 4) (ai S 5)) {u : Nat} (hu : fi S 2 8 = Int32.ofNat u) (hP : IPool al A B M u (ai S 7) (ai S 8) (ai S 9) (ai S 10)) {a b : Nat} (ha : a < 8) (hb : b < 8) (hab : a ≠ b) {Q : Unit → Sg → Prop}
    (hQ : ∀ c7 c8 c9 c10 u', IPool al A B M u' c7 c8 c9 c10 → PairOK al A B M a b u' c7 c8 c9 c10 → (∀ x y, x < 8 → y < 8 → x ≠ y → PairOK al A B M x y u (ai S 7) (ai S 8) (ai S 9) (ai S 10) → PairOK al A B M x y u' c7 c8 c9 c10) → Q () (NP S c7 c8 c9 c10 u')) : WP (Net_prepare (Int32.ofNat a) (Int32.ofNat b)) S Q := by
  have hu7 := IPool_le H hP
  have h64 : a * 8 + b < 64 := by omega
  have eid : NP S (ai S 7) (ai S 8) (ai S 9) (ai S 10) u = S := by
    unfold NP
    rw [sa_id S 7, sa_id S 8, sa_id S 9, sa_id S 10, ufi_id' S hu]
  unfold Net_prepare
  rcases hP.1 a b ha hb hab with hn | hok
  · have hroom := IPool_room H hP ha hb hab hn
    simp (disch := omega) only [q_0, q_1, q_2, q_3, q_4, q_5, q_6, q_7, q_8, q_9, q_10, q_11, q_12, q_15, q_16, q_20, q_21, q_25, q_30, q_31, q_32, q_40, q_44, q_48, q_50, q_57, q_59, q_60, q_64, q_81, q_97, q_98, q_99, q_100, q_101, q_102, q_103, q_104, q_105, q_107, q_108, q_110, q_111, q_114, q_115, q_116, q_119, q_120, q_121, q_122, q_136, q_160, q_200, q_255, q_300, q_400, q_401, q_402, q_460, q_479, q_480, q_920, q_999, q_1000, q_1023, q_1024, q_4020, q_9999, q_99999, q_1000000, q_1000000000, q_100001, q_100002, q_100003, q_100004, q_400000, nn_1, r_0, r_1, r_2, r_3, r_4, r_6, r_7, r_8, r_9, r_10, r_11, r_21, r_40, r_48, r_57, r_60, r_97, r_122, r_200, r_300, r_479, r_920, r_9999, r_99999, r_m1, rd_pu, rd_gI, rd_gB, rd_gL, rd_gQ, rd_rI, rd_rB, rd_rQ, rd_rK, rd_dq, rd_cq, rd_div, rd_rem, rd_mb, rd_mif, rd_within, rd_in, Bool.true_and, Bool.and_true, Bool.cond_self, Bool.cond_false_right, Bool.cond_true_left, cond_true, cond_false, rd_sAt, wp_rd, wp_mb, wp_mif, wp_sI, wp_sB, wp_sL, wp_sQ, wp_wI, wp_wB, wp_wQ, orR_l, orR_r, orE_l, orE_r, sK_l, sK_r, sK_c, cond_tr, fi_ufi, fi_ufi1, fi_ufi2, fb_ufb, fb_ufb1, fb_ufb2, fl_ufl, fl_ufl1, fl_ufl2, fr_ufr, fr_ufr1, fr_ufr2, ai_sa, ai_sa1, ab_sab, ab_sab1, ar_sar, ar_sar1, upf_eq, upf_ne, fi_ufb, fi_ufl, fi_ufr, fi_sa, fi_sab, fi_sar, fb_ufi, fb_ufl, fb_ufr, fb_sa, fb_sab, fb_sar, fl_ufi, fl_ufb, fl_ufr, fl_sa, fl_sab, fl_sar, fr_ufi, fr_ufb, fr_ufl, fr_sa, fr_sab, fr_sar, ai_ufi, ai_ufb, ai_ufl, ai_ufr, ai_sab, ai_sar, ab_ufi, ab_ufb, ab_ufl, ab_ufr, ab_sa, ab_sar, ar_ufi, ar_ufb, ar_ufl, ar_ufr, ar_sa, ar_sab, sa_sa, sab_sab, sar_sar, upf_upf, ufi_ufi, tnN, inbN, addN, subN, mulN, decN, divN, remN, n2_lt, n2_le, n2_gt, n2_ge, n2_eq, n2_ne, n0_lt, n0_ge, n0_gt, n0_le, n0_eq, n0_ne, m2_eq, m2_ne, m2_eqq, m2_neq, m0_lt, m0_ge, m0_eq, m0_ne, m2_eqN, m2_neN, wi_N, wi_P, wi_NN, inN_N, li_wi, Nat.reduceAdd, Nat.reduceSub, Nat.reduceMul, Nat.reduceDiv, Nat.reduceMod, Nat.reduceLT, Nat.reduceLeDiff, Nat.reduceEqDiff, decide_true, decide_false, Nat.add_zero, Nat.zero_add, Nat.mul_one, Nat.one_mul, Nat.mul_zero, Nat.zero_mul, n0_gts, Prod.mk.injEq, modN, decide_eq_true_eq, decide_eq_false_iff_not, Bool.and_eq_true, Bool.or_eq_true, Bool.not_eq_true', Bool.not_eq_false', Bool.not_eq_true, Bool.not_eq_false, Bool.not_not, Bool.not_true, Bool.not_false, Bool.true_eq_false, Bool.false_eq_true, true_and, and_true, false_and, and_false, true_implies, false_implies, implies_true, not_true_eq_false, not_false_eq_true, ne_eq, Bool.and_eq_false_imp, Bool.or_eq_false_iff, eq_self, or_false, false_or, or_true, true_or, rd_pairOf ha hb, h64, hn, hu]
    have e0 : sa S 9 (upf (ai S 9) (a * 8 + b) (Int32.ofNat u)) = NS (sa S 9 (upf (ai S 9) (a * 8 + b) (Int32.ofNat u))) (ai S 7) u := by
      unfold NS
      have e1 : sa (sa S 9 (upf (ai S 9) (a * 8 + b) (Int32.ofNat u))) 7 (ai S 7) = sa S 9 (upf (ai S 9) (a * 8 + b) (Int32.ofNat u)) := by
        have := sa_id (sa S 9 (upf (ai S 9) (a * 8 + b) (Int32.ofNat u))) 7
        rw [ai_sa1 _ _ _ _ (by decide)] at this
        exact this
      rw [e1, ufi_id' _ (by rw [fi_sa]; exact hu)]
    rw [e0]
    have H9 : NetL al A B M (ai (sa S 9 (upf (ai S 9) (a * 8 + b) (Int32.ofNat u))) 3) (ai (sa S 9 (upf (ai S 9) (a * 8 + b) (Int32.ofNat u))) 4) (ai (sa S 9 (upf (ai S 9) (a * 8 + b) (Int32.ofNat u))) 5) := by
      simp (disch := omega) only [fi_ufi, fi_ufi1, fi_ufi2, fb_ufb, fb_ufb1, fb_ufb2, fl_ufl, fl_ufl1, fl_ufl2, fr_ufr, fr_ufr1, fr_ufr2, ai_sa, ai_sa1, ab_sab, ab_sab1, ar_sar, ar_sar1, upf_eq, upf_ne, fi_ufb, fi_ufl, fi_ufr, fi_sa, fi_sab, fi_sar, fb_ufi, fb_ufl, fb_ufr, fb_sa, fb_sab, fb_sar, fl_ufi, fl_ufb, fl_ufr, fl_sa, fl_sab, fl_sar, fr_ufi, fr_ufb, fr_ufl, fr_sa, fr_sab, fr_sar, ai_ufi, ai_ufb, ai_ufl, ai_ufr, ai_sab, ai_sar, ab_ufi, ab_ufb, ab_ufl, ab_ufr, ab_sa, ab_sar, ar_ufi, ar_ufb, ar_ufl, ar_ufr, ar_sa, ar_sab, sa_sa, sab_sab, sar_sar, upf_upf, ufi_ufi]
      exact H
    refine wp_fill (p0 := ai S 7) H9 hu7 ha hb fun pool u' hA => ?_
    obtain ⟨a1, a2, a3⟩ := hA
    generalize hL : (seg al A B M a b).length = m at *
    have eu : u' = u + m := by omega
    subst eu
    have e9 : ∀ p, ai (NS (sa S 9 (upf (ai S 9) (a * 8 + b) (Int32.ofNat u))) p (u + m)) 9 = upf (ai S 9) (a * 8 + b) (Int32.ofNat u) := fun p => by rw [NS_ax _ _ _ _ (by omega), ai_sa]
    have eum : u + m - u = m := by omega
    simp (disch := omega) only [q_0, q_1, q_2, q_3, q_4, q_5, q_6, q_7, q_8, q_9, q_10, q_11, q_12, q_15, q_16, q_20, q_21, q_25, q_30, q_31, q_32, q_40, q_44, q_48, q_50, q_57, q_59, q_60, q_64, q_81, q_97, q_98, q_99, q_100, q_101, q_102, q_103, q_104, q_105, q_107, q_108, q_110, q_111, q_114, q_115, q_116, q_119, q_120, q_121, q_122, q_136, q_160, q_200, q_255, q_300, q_400, q_401, q_402, q_460, q_479, q_480, q_920, q_999, q_1000, q_1023, q_1024, q_4020, q_9999, q_99999, q_1000000, q_1000000000, q_100001, q_100002, q_100003, q_100004, q_400000, nn_1, r_0, r_1, r_2, r_3, r_4, r_6, r_7, r_8, r_9, r_10, r_11, r_21, r_40, r_48, r_57, r_60, r_97, r_122, r_200, r_300, r_479, r_920, r_9999, r_99999, r_m1, rd_pu, rd_gI, rd_gB, rd_gL, rd_gQ, rd_rI, rd_rB, rd_rQ, rd_rK, rd_dq, rd_cq, rd_div, rd_rem, rd_mb, rd_mif, rd_within, rd_in, Bool.true_and, Bool.and_true, Bool.cond_self, Bool.cond_false_right, Bool.cond_true_left, cond_true, cond_false, rd_sAt, wp_rd, wp_mb, wp_mif, wp_sI, wp_sB, wp_sL, wp_sQ, wp_wI, wp_wB, wp_wQ, orR_l, orR_r, orE_l, orE_r, sK_l, sK_r, sK_c, cond_tr, fi_ufi, fi_ufi1, fi_ufi2, fb_ufb, fb_ufb1, fb_ufb2, fl_ufl, fl_ufl1, fl_ufl2, fr_ufr, fr_ufr1, fr_ufr2, ai_sa, ai_sa1, ab_sab, ab_sab1, ar_sar, ar_sar1, upf_eq, upf_ne, fi_ufb, fi_ufl, fi_ufr, fi_sa, fi_sab, fi_sar, fb_ufi, fb_ufl, fb_ufr, fb_sa, fb_sab, fb_sar, fl_ufi, fl_ufb, fl_ufr, fl_sa, fl_sab, fl_sar, fr_ufi, fr_ufb, fr_ufl, fr_sa, fr_sab, fr_sar, ai_ufi, ai_ufb, ai_ufl, ai_ufr, ai_sab, ai_sar, ab_ufi, ab_ufb, ab_ufl, ab_ufr, ab_sa, ab_sar, ar_ufi, ar_ufb, ar_ufl, ar_ufr, ar_sa, ar_sab, sa_sa, sab_sab, sar_sar, upf_upf, ufi_ufi, tnN, inbN, addN, subN, mulN, decN, divN, remN, n2_lt, n2_le, n2_gt, n2_ge, n2_eq, n2_ne, n0_lt, n0_ge, n0_gt, n0_le, n0_eq, n0_ne, m2_eq, m2_ne, m2_eqq, m2_neq, m0_lt, m0_ge, m0_eq, m0_ne, m2_eqN, m2_neN, wi_N, wi_P, wi_NN, inN_N, li_wi, Nat.reduceAdd, Nat.reduceSub, Nat.reduceMul, Nat.reduceDiv, Nat.reduceMod, Nat.reduceLT, Nat.reduceLeDiff, Nat.reduceEqDiff, decide_true, decide_false, Nat.add_zero, Nat.zero_add, Nat.mul_one, Nat.one_mul, Nat.mul_zero, Nat.zero_mul, n0_gts, Prod.mk.injEq, modN, decide_eq_true_eq, decide_eq_false_iff_not, Bool.and_eq_true, Bool.or_eq_true, Bool.not_eq_true', Bool.not_eq_false', Bool.not_eq_true, Bool.not_eq_false, Bool.not_not, Bool.not_true, Bool.not_false, Bool.true_eq_false, Bool.false_eq_true, true_and, and_true, false_and, and_false, true_implies, false_implies, implies_true, not_true_eq_false, not_false_eq_true, ne_eq, Bool.and_eq_false_imp, Bool.or_eq_false_iff, eq_self, or_false, false_or, or_true, true_or, NS_f, h64, e9, eum]
    unfold Net_sortWays
    have e10 : ai (NS (sa S 9 (upf (ai S 9) (a * 8 + b) (Int32.ofNat u))) pool (u + m)) 10 = ai S 10 := by rw [NS_ax _ _ _ _ (by omega), ai_sa1 _ _ _ _ (by decide)]
    generalize hc10 : upf (ai (NS (sa S 9 (upf (ai S 9) (a * 8 + b) (Int32.ofNat u))) pool (u + m)) 10) (a * 8 + b) (Int32.ofNat m) = c10
    rw [e10] at hc10
    have eS : sa (NS (sa S 9 (upf (ai S 9) (a * 8 + b) (Int32.ofNat u))) pool (u + m)) 10 c10 = NS (sa (sa S 9 (upf (ai S 9) (a * 8 + b) (Int32.ofNat u))) 10 c10) pool (u + m) := by
      unfold NS
      show ufi (sa (sa (sa S 9 _) 7 pool) 10 c10) 2 8 _ = _
      rw [sa_cm _ pool c10 (by decide)]
    rw [eS]
    generalize hS2 : sa (sa S 9 (upf (ai S 9) (a * 8 + b) (Int32.ofNat u))) 10 c10 = S2
    have hv0 : ∀ i, i < m → pool (u + i) = Int32.ofNat ((seg al A B M a b).getD i 0) := fun i hi => a3 i hi (by omega)
    have hBij := seg_Bij (al := al) (A := A) (B := B) (M := M) (a := a) (b := b)
    rw [hL] at hBij
    simp (disch := omega) only [q_0, q_1, q_2, q_3, q_4, q_5, q_6, q_7, q_8, q_9, q_10, q_11, q_12, q_15, q_16, q_20, q_21, q_25, q_30, q_31, q_32, q_40, q_44, q_48, q_50, q_57, q_59, q_60, q_64, q_81, q_97, q_98, q_99, q_100, q_101, q_102, q_103, q_104, q_105, q_107, q_108, q_110, q_111, q_114, q_115, q_116, q_119, q_120, q_121, q_122, q_136, q_160, q_200, q_255, q_300, q_400, q_401, q_402, q_460, q_479, q_480, q_920, q_999, q_1000, q_1023, q_1024, q_4020, q_9999, q_99999, q_1000000, q_1000000000, q_100001, q_100002, q_100003, q_100004, q_400000, nn_1, r_0, r_1, r_2, r_3, r_4, r_6, r_7, r_8, r_9, r_10, r_11, r_21, r_40, r_48, r_57, r_60, r_97, r_122, r_200, r_300, r_479, r_920, r_9999, r_99999, r_m1, rd_pu, rd_gI, rd_gB, rd_gL, rd_gQ, rd_rI, rd_rB, rd_rQ, rd_rK, rd_dq, rd_cq, rd_div, rd_rem, rd_mb, rd_mif, rd_within, rd_in, Bool.true_and, Bool.and_true, Bool.cond_self, Bool.cond_false_right, Bool.cond_true_left, cond_true, cond_false, rd_sAt, wp_rd, wp_mb, wp_mif, wp_sI, wp_sB, wp_sL, wp_sQ, wp_wI, wp_wB, wp_wQ, orR_l, orR_r, orE_l, orE_r, sK_l, sK_r, sK_c, cond_tr, fi_ufi, fi_ufi1, fi_ufi2, fb_ufb, fb_ufb1, fb_ufb2, fl_ufl, fl_ufl1, fl_ufl2, fr_ufr, fr_ufr1, fr_ufr2, ai_sa, ai_sa1, ab_sab, ab_sab1, ar_sar, ar_sar1, upf_eq, upf_ne, fi_ufb, fi_ufl, fi_ufr, fi_sa, fi_sab, fi_sar, fb_ufi, fb_ufl, fb_ufr, fb_sa, fb_sab, fb_sar, fl_ufi, fl_ufb, fl_ufr, fl_sa, fl_sab, fl_sar, fr_ufi, fr_ufb, fr_ufl, fr_sa, fr_sab, fr_sar, ai_ufi, ai_ufb, ai_ufl, ai_ufr, ai_sab, ai_sar, ab_ufi, ab_ufb, ab_ufl, ab_ufr, ab_sa, ab_sar, ar_ufi, ar_ufb, ar_ufl, ar_ufr, ar_sa, ar_sab, sa_sa, sab_sab, sar_sar, upf_upf, ufi_ufi, tnN, inbN, addN, subN, mulN, decN, divN, remN, n2_lt, n2_le, n2_gt, n2_ge, n2_eq, n2_ne, n0_lt, n0_ge, n0_gt, n0_le, n0_eq, n0_ne, m2_eq, m2_ne, m2_eqq, m2_neq, m0_lt, m0_ge, m0_eq, m0_ne, m2_eqN, m2_neN, wi_N, wi_P, wi_NN, inN_N, li_wi, Nat.reduceAdd, Nat.reduceSub, Nat.reduceMul, Nat.reduceDiv, Nat.reduceMod, Nat.reduceLT, Nat.reduceLeDiff, Nat.reduceEqDiff, decide_true, decide_false, Nat.add_zero, Nat.zero_add, Nat.mul_one, Nat.one_mul, Nat.mul_zero, Nat.zero_mul, n0_gts, Prod.mk.injEq, modN, decide_eq_true_eq, decide_eq_false_iff_not, Bool.and_eq_true, Bool.or_eq_true, Bool.not_eq_true', Bool.not_eq_false', Bool.not_eq_true, Bool.not_eq_false, Bool.not_not, Bool.not_true, Bool.not_false, Bool.true_eq_false, Bool.false_eq_true, true_and, and_true, false_and, and_false, true_implies, false_implies, implies_true, not_true_eq_false, not_false_eq_true, ne_eq, Bool.and_eq_false_imp, Bool.or_eq_false_iff, eq_self, or_false, false_or, or_true, true_or]
    refine wp_isort (S := S2) (s := u) (m := m) (X := fun q => q ∈ seg al A B M a b) (fun q hq => by have := (seg_bd H hq).1; omega) rfl (by omega) hv0 hBij fun p v b1 b2 b3 b4 => ?_
    have e8 : ai (NS S2 p (u + m)) 8 = ai S 8 := by
      rw [NS_ax _ _ _ _ (by omega), ← hS2]
      simp (disch := omega) only [fi_ufi, fi_ufi1, fi_ufi2, fb_ufb, fb_ufb1, fb_ufb2, fl_ufl, fl_ufl1, fl_ufl2, fr_ufr, fr_ufr1, fr_ufr2, ai_sa, ai_sa1, ab_sab, ab_sab1, ar_sar, ar_sar1, upf_eq, upf_ne, fi_ufb, fi_ufl, fi_ufr, fi_sa, fi_sab, fi_sar, fb_ufi, fb_ufl, fb_ufr, fb_sa, fb_sab, fb_sar, fl_ufi, fl_ufb, fl_ufr, fl_sa, fl_sab, fl_sar, fr_ufi, fr_ufb, fr_ufl, fr_sa, fr_sab, fr_sar, ai_ufi, ai_ufb, ai_ufl, ai_ufr, ai_sab, ai_sar, ab_ufi, ab_ufb, ab_ufl, ab_ufr, ab_sa, ab_sar, ar_ufi, ar_ufb, ar_ufl, ar_ufr, ar_sa, ar_sab, sa_sa, sab_sab, sar_sar, upf_upf, ufi_ufi]
    refine WP.mono (wp_for m (by unfold FU; omega) (fun i s S' => s = Int32.ofNat (u + i) ∧ ∃ g, S' = sa (NS S2 p (u + m)) 8 g ∧ (∀ j, j < u → g j = ai S 8 j) ∧ (∀ j, j < i → SetB (g (u + j)) (v j))) ?_ ⟨rfl, ai S 8, by rw [← e8, sa_id], fun _ _ => rfl, fun j hj => by omega⟩ (Q := fun _ S' => ∃ g, S' = sa (NS S2 p (u + m)) 8 g ∧ (∀ j, j < u → g j = ai S 8 j) ∧ (∀ j, j < m → SetB (g (u + j)) (v j)))) ?_
    · rintro i s S' hi ⟨rfl, g, rfl, g1, g2⟩
      unfold Net_sortWays_l3
      have ef : fi (sa (NS S2 p (u + m)) 8 g) 2 8 = Int32.ofNat (u + m) := by rw [fi_sa, NS_f]
      have e7 : ai (sa (NS S2 p (u + m)) 8 g) 7 = p := by rw [ai_sa1 _ _ _ _ (by decide), NS_a]
      by_cases him : i < m
      · have hlt : u + i < u + m := by omega
        have i7 : u + i < 4020 := by omega
        have hvb := seg_bd H (b3.1 i him)
        simp (disch := omega) only [q_0, q_1, q_2, q_3, q_4, q_5, q_6, q_7, q_8, q_9, q_10, q_11, q_12, q_15, q_16, q_20, q_21, q_25, q_30, q_31, q_32, q_40, q_44, q_48, q_50, q_57, q_59, q_60, q_64, q_81, q_97, q_98, q_99, q_100, q_101, q_102, q_103, q_104, q_105, q_107, q_108, q_110, q_111, q_114, q_115, q_116, q_119, q_120, q_121, q_122, q_136, q_160, q_200, q_255, q_300, q_400, q_401, q_402, q_460, q_479, q_480, q_920, q_999, q_1000, q_1023, q_1024, q_4020, q_9999, q_99999, q_1000000, q_1000000000, q_100001, q_100002, q_100003, q_100004, q_400000, nn_1, r_0, r_1, r_2, r_3, r_4, r_6, r_7, r_8, r_9, r_10, r_11, r_21, r_40, r_48, r_57, r_60, r_97, r_122, r_200, r_300, r_479, r_920, r_9999, r_99999, r_m1, rd_pu, rd_gI, rd_gB, rd_gL, rd_gQ, rd_rI, rd_rB, rd_rQ, rd_rK, rd_dq, rd_cq, rd_div, rd_rem, rd_mb, rd_mif, rd_within, rd_in, Bool.true_and, Bool.and_true, Bool.cond_self, Bool.cond_false_right, Bool.cond_true_left, cond_true, cond_false, rd_sAt, wp_rd, wp_mb, wp_mif, wp_sI, wp_sB, wp_sL, wp_sQ, wp_wI, wp_wB, wp_wQ, orR_l, orR_r, orE_l, orE_r, sK_l, sK_r, sK_c, cond_tr, fi_ufi, fi_ufi1, fi_ufi2, fb_ufb, fb_ufb1, fb_ufb2, fl_ufl, fl_ufl1, fl_ufl2, fr_ufr, fr_ufr1, fr_ufr2, ai_sa, ai_sa1, ab_sab, ab_sab1, ar_sar, ar_sar1, upf_eq, upf_ne, fi_ufb, fi_ufl, fi_ufr, fi_sa, fi_sab, fi_sar, fb_ufi, fb_ufl, fb_ufr, fb_sa, fb_sab, fb_sar, fl_ufi, fl_ufb, fl_ufr, fl_sa, fl_sab, fl_sar, fr_ufi, fr_ufb, fr_ufl, fr_sa, fr_sab, fr_sar, ai_ufi, ai_ufb, ai_ufl, ai_ufr, ai_sab, ai_sar, ab_ufi, ab_ufb, ab_ufl, ab_ufr, ab_sa, ab_sar, ar_ufi, ar_ufb, ar_ufl, ar_ufr, ar_sa, ar_sab, sa_sa, sab_sab, sar_sar, upf_upf, ufi_ufi, tnN, inbN, addN, subN, mulN, decN, divN, remN, n2_lt, n2_le, n2_gt, n2_ge, n2_eq, n2_ne, n0_lt, n0_ge, n0_gt, n0_le, n0_eq, n0_ne, m2_eq, m2_ne, m2_eqq, m2_neq, m0_lt, m0_ge, m0_eq, m0_ne, m2_eqN, m2_neN, wi_N, wi_P, wi_NN, inN_N, li_wi, Nat.reduceAdd, Nat.reduceSub, Nat.reduceMul, Nat.reduceDiv, Nat.reduceMod, Nat.reduceLT, Nat.reduceLeDiff, Nat.reduceEqDiff, decide_true, decide_false, Nat.add_zero, Nat.zero_add, Nat.mul_one, Nat.one_mul, Nat.mul_zero, Nat.zero_mul, n0_gts, Prod.mk.injEq, modN, decide_eq_true_eq, decide_eq_false_iff_not, Bool.and_eq_true, Bool.or_eq_true, Bool.not_eq_true', Bool.not_eq_false', Bool.not_eq_true, Bool.not_eq_false, Bool.not_not, Bool.not_true, Bool.not_false, Bool.true_eq_false, Bool.false_eq_true, true_and, and_true, false_and, and_false, true_implies, false_implies, implies_true, not_true_eq_false, not_false_eq_true, ne_eq, Bool.and_eq_false_imp, Bool.or_eq_false_iff, eq_self, or_false, false_or, or_true, true_or, ef, e7, hlt, i7, b2 i him]
        refine wp_setOf (by omega) fun s hs => ?_
        simp (disch := omega) only [q_0, q_1, q_2, q_3, q_4, q_5, q_6, q_7, q_8, q_9, q_10, q_11, q_12, q_15, q_16, q_20, q_21, q_25, q_30, q_31, q_32, q_40, q_44, q_48, q_50, q_57, q_59, q_60, q_64, q_81, q_97, q_98, q_99, q_100, q_101, q_102, q_103, q_104, q_105, q_107, q_108, q_110, q_111, q_114, q_115, q_116, q_119, q_120, q_121, q_122, q_136, q_160, q_200, q_255, q_300, q_400, q_401, q_402, q_460, q_479, q_480, q_920, q_999, q_1000, q_1023, q_1024, q_4020, q_9999, q_99999, q_1000000, q_1000000000, q_100001, q_100002, q_100003, q_100004, q_400000, nn_1, r_0, r_1, r_2, r_3, r_4, r_6, r_7, r_8, r_9, r_10, r_11, r_21, r_40, r_48, r_57, r_60, r_97, r_122, r_200, r_300, r_479, r_920, r_9999, r_99999, r_m1, rd_pu, rd_gI, rd_gB, rd_gL, rd_gQ, rd_rI, rd_rB, rd_rQ, rd_rK, rd_dq, rd_cq, rd_div, rd_rem, rd_mb, rd_mif, rd_within, rd_in, Bool.true_and, Bool.and_true, Bool.cond_self, Bool.cond_false_right, Bool.cond_true_left, cond_true, cond_false, rd_sAt, wp_rd, wp_mb, wp_mif, wp_sI, wp_sB, wp_sL, wp_sQ, wp_wI, wp_wB, wp_wQ, orR_l, orR_r, orE_l, orE_r, sK_l, sK_r, sK_c, cond_tr, fi_ufi, fi_ufi1, fi_ufi2, fb_ufb, fb_ufb1, fb_ufb2, fl_ufl, fl_ufl1, fl_ufl2, fr_ufr, fr_ufr1, fr_ufr2, ai_sa, ai_sa1, ab_sab, ab_sab1, ar_sar, ar_sar1, upf_eq, upf_ne, fi_ufb, fi_ufl, fi_ufr, fi_sa, fi_sab, fi_sar, fb_ufi, fb_ufl, fb_ufr, fb_sa, fb_sab, fb_sar, fl_ufi, fl_ufb, fl_ufr, fl_sa, fl_sab, fl_sar, fr_ufi, fr_ufb, fr_ufl, fr_sa, fr_sab, fr_sar, ai_ufi, ai_ufb, ai_ufl, ai_ufr, ai_sab, ai_sar, ab_ufi, ab_ufb, ab_ufl, ab_ufr, ab_sa, ab_sar, ar_ufi, ar_ufb, ar_ufl, ar_ufr, ar_sa, ar_sab, sa_sa, sab_sab, sar_sar, upf_upf, ufi_ufi, tnN, inbN, addN, subN, mulN, decN, divN, remN, n2_lt, n2_le, n2_gt, n2_ge, n2_eq, n2_ne, n0_lt, n0_ge, n0_gt, n0_le, n0_eq, n0_ne, m2_eq, m2_ne, m2_eqq, m2_neq, m0_lt, m0_ge, m0_eq, m0_ne, m2_eqN, m2_neN, wi_N, wi_P, wi_NN, inN_N, li_wi, Nat.reduceAdd, Nat.reduceSub, Nat.reduceMul, Nat.reduceDiv, Nat.reduceMod, Nat.reduceLT, Nat.reduceLeDiff, Nat.reduceEqDiff, decide_true, decide_false, Nat.add_zero, Nat.zero_add, Nat.mul_one, Nat.one_mul, Nat.mul_zero, Nat.zero_mul, n0_gts, Prod.mk.injEq, modN, decide_eq_true_eq, decide_eq_false_iff_not, Bool.and_eq_true, Bool.or_eq_true, Bool.not_eq_true', Bool.not_eq_false', Bool.not_eq_true, Bool.not_eq_false, Bool.not_not, Bool.not_true, Bool.not_false, Bool.true_eq_false, Bool.false_eq_true, true_and, and_true, false_and, and_false, true_implies, false_implies, implies_true, not_true_eq_false, not_false_eq_true, ne_eq, Bool.and_eq_false_imp, Bool.or_eq_false_iff, eq_self, or_false, false_or, or_true, true_or]
        refine ⟨him, by rw [Nat.add_assoc], _, rfl, fun j hj => ?_, fun j hj => ?_⟩
        · rw [upf_ne _ _ _ _ (by omega)]; exact g1 j hj
        · by_cases e : j = i
          · subst e; rw [upf_eq]; exact hs
          · rw [upf_ne _ _ _ _ (by omega)]; exact g2 j (by omega)
      · have e : i = m := by omega
        subst e
        have hlt : ¬ u + i < u + i := by omega
        simp (disch := omega) only [q_0, q_1, q_2, q_3, q_4, q_5, q_6, q_7, q_8, q_9, q_10, q_11, q_12, q_15, q_16, q_20, q_21, q_25, q_30, q_31, q_32, q_40, q_44, q_48, q_50, q_57, q_59, q_60, q_64, q_81, q_97, q_98, q_99, q_100, q_101, q_102, q_103, q_104, q_105, q_107, q_108, q_110, q_111, q_114, q_115, q_116, q_119, q_120, q_121, q_122, q_136, q_160, q_200, q_255, q_300, q_400, q_401, q_402, q_460, q_479, q_480, q_920, q_999, q_1000, q_1023, q_1024, q_4020, q_9999, q_99999, q_1000000, q_1000000000, q_100001, q_100002, q_100003, q_100004, q_400000, nn_1, r_0, r_1, r_2, r_3, r_4, r_6, r_7, r_8, r_9, r_10, r_11, r_21, r_40, r_48, r_57, r_60, r_97, r_122, r_200, r_300, r_479, r_920, r_9999, r_99999, r_m1, rd_pu, rd_gI, rd_gB, rd_gL, rd_gQ, rd_rI, rd_rB, rd_rQ, rd_rK, rd_dq, rd_cq, rd_div, rd_rem, rd_mb, rd_mif, rd_within, rd_in, Bool.true_and, Bool.and_true, Bool.cond_self, Bool.cond_false_right, Bool.cond_true_left, cond_true, cond_false, rd_sAt, wp_rd, wp_mb, wp_mif, wp_sI, wp_sB, wp_sL, wp_sQ, wp_wI, wp_wB, wp_wQ, orR_l, orR_r, orE_l, orE_r, sK_l, sK_r, sK_c, cond_tr, fi_ufi, fi_ufi1, fi_ufi2, fb_ufb, fb_ufb1, fb_ufb2, fl_ufl, fl_ufl1, fl_ufl2, fr_ufr, fr_ufr1, fr_ufr2, ai_sa, ai_sa1, ab_sab, ab_sab1, ar_sar, ar_sar1, upf_eq, upf_ne, fi_ufb, fi_ufl, fi_ufr, fi_sa, fi_sab, fi_sar, fb_ufi, fb_ufl, fb_ufr, fb_sa, fb_sab, fb_sar, fl_ufi, fl_ufb, fl_ufr, fl_sa, fl_sab, fl_sar, fr_ufi, fr_ufb, fr_ufl, fr_sa, fr_sab, fr_sar, ai_ufi, ai_ufb, ai_ufl, ai_ufr, ai_sab, ai_sar, ab_ufi, ab_ufb, ab_ufl, ab_ufr, ab_sa, ab_sar, ar_ufi, ar_ufb, ar_ufl, ar_ufr, ar_sa, ar_sab, sa_sa, sab_sab, sar_sar, upf_upf, ufi_ufi, tnN, inbN, addN, subN, mulN, decN, divN, remN, n2_lt, n2_le, n2_gt, n2_ge, n2_eq, n2_ne, n0_lt, n0_ge, n0_gt, n0_le, n0_eq, n0_ne, m2_eq, m2_ne, m2_eqq, m2_neq, m0_lt, m0_ge, m0_eq, m0_ne, m2_eqN, m2_neN, wi_N, wi_P, wi_NN, inN_N, li_wi, Nat.reduceAdd, Nat.reduceSub, Nat.reduceMul, Nat.reduceDiv, Nat.reduceMod, Nat.reduceLT, Nat.reduceLeDiff, Nat.reduceEqDiff, decide_true, decide_false, Nat.add_zero, Nat.zero_add, Nat.mul_one, Nat.one_mul, Nat.mul_zero, Nat.zero_mul, n0_gts, Prod.mk.injEq, modN, decide_eq_true_eq, decide_eq_false_iff_not, Bool.and_eq_true, Bool.or_eq_true, Bool.not_eq_true', Bool.not_eq_false', Bool.not_eq_true, Bool.not_eq_false, Bool.not_not, Bool.not_true, Bool.not_false, Bool.true_eq_false, Bool.false_eq_true, true_and, and_true, false_and, and_false, true_implies, false_implies, implies_true, not_true_eq_false, not_false_eq_true, ne_eq, Bool.and_eq_false_imp, Bool.or_eq_false_iff, eq_self, or_false, false_or, or_true, true_or, ef, hlt]
        exact ⟨g, rfl, g1, g2⟩
    · rintro _ S' ⟨g, rfl, g1, g2⟩
      have eF : sa (NS S2 p (u + m)) 8 g = NP S p g (upf (ai S 9) (a * 8 + b) (Int32.ofNat u)) c10 (u + m) := by
        rw [← hS2]
        unfold NS NP
        show ufi (sa (sa (sa (sa S 9 _) 10 c10) 7 p) 8 g) 2 8 _ = _
        rw [sa_cm _ c10 p (by decide), sa_cm _ _ p (by decide), sa_cm _ c10 g (by decide), sa_cm _ _ g (by decide)]
      rw [eF]
      have hpair : PairOK al A B M a b (u + m) p g (upf (ai S 9) (a * 8 + b) (Int32.ofNat u)) c10 := ⟨u, m, v, upf_eq _ _ _, by rw [← hc10]; exact upf_eq _ _ _, hL.symm, Nat.le_refl _, fun i hi => ⟨b2 i hi, g2 i hi⟩, b3, b4⟩
      have hold : ∀ x y, x < 8 → y < 8 → x ≠ y → PairOK al A B M x y u (ai S 7) (ai S 8) (ai S 9) (ai S 10) → PairOK al A B M x y (u + m) p g (upf (ai S 9) (a * 8 + b) (Int32.ofNat u)) c10 := by
        rintro x y hx hy hxy ⟨s', m', v', d1, d2, d3, d4, d5, d6, d7⟩
        by_cases c : x = a ∧ y = b
        · obtain ⟨rfl, rfl⟩ := c
          exact hpair
        · have hne : x * 8 + y ≠ a * 8 + b := by omega
          refine ⟨s', m', v', by rw [upf_ne _ _ _ _ hne]; exact d1, by rw [← hc10, upf_ne _ _ _ _ hne]; exact d2, d3, by omega, fun i hi => ?_, d6, d7⟩
          rw [b1 _ (by omega), a2 _ (by omega), g1 _ (by omega)]
          exact d5 i hi
      refine hQ _ _ _ _ _ ⟨fun x y hx hy hxy => ?_, fun x hx => ?_, ?_⟩ hpair hold
      · by_cases c : x = a ∧ y = b
        · obtain ⟨rfl, rfl⟩ := c
          exact Or.inr hpair
        · have hne : x * 8 + y ≠ a * 8 + b := by omega
          rcases hP.1 x y hx hy hxy with h | h
          · exact Or.inl (by rw [← hc10, upf_ne _ _ _ _ hne]; exact h)
          · exact Or.inr (hold x y hx hy hxy h)
      · rw [← hc10, upf_ne _ _ _ _ (by omega)]; exact hP.2.1 x hx
      · have e := sab2_add (fun x y => if ai S 10 (x * 8 + y) = nn then 0 else (seg al A B M x y).length) (fun x y => if x = a ∧ y = b then m else 0)
        rw [sab2_one ha hb hab, ← hP.2.2] at e
        rw [← e]
        refine sab2_cg fun x y hx hy hxy => ?_
        rw [← hc10]
        by_cases c : x = a ∧ y = b
        · obtain ⟨rfl, rfl⟩ := c
          rw [upf_eq, if_neg (ne_nn (by omega))]
          simp [hn, hL]
        · rw [upf_ne _ _ _ _ (by omega)]
          simp [c]
  · obtain ⟨s, m, v, d1, d2, d3, d4, d5, d6, d7⟩ := hok
    have hm7 : m ≤ 4020 := by omega
    simp (disch := omega) only [q_0, q_1, q_2, q_3, q_4, q_5, q_6, q_7, q_8, q_9, q_10, q_11, q_12, q_15, q_16, q_20, q_21, q_25, q_30, q_31, q_32, q_40, q_44, q_48, q_50, q_57, q_59, q_60, q_64, q_81, q_97, q_98, q_99, q_100, q_101, q_102, q_103, q_104, q_105, q_107, q_108, q_110, q_111, q_114, q_115, q_116, q_119, q_120, q_121, q_122, q_136, q_160, q_200, q_255, q_300, q_400, q_401, q_402, q_460, q_479, q_480, q_920, q_999, q_1000, q_1023, q_1024, q_4020, q_9999, q_99999, q_1000000, q_1000000000, q_100001, q_100002, q_100003, q_100004, q_400000, nn_1, r_0, r_1, r_2, r_3, r_4, r_6, r_7, r_8, r_9, r_10, r_11, r_21, r_40, r_48, r_57, r_60, r_97, r_122, r_200, r_300, r_479, r_920, r_9999, r_99999, r_m1, rd_pu, rd_gI, rd_gB, rd_gL, rd_gQ, rd_rI, rd_rB, rd_rQ, rd_rK, rd_dq, rd_cq, rd_div, rd_rem, rd_mb, rd_mif, rd_within, rd_in, Bool.true_and, Bool.and_true, Bool.cond_self, Bool.cond_false_right, Bool.cond_true_left, cond_true, cond_false, rd_sAt, wp_rd, wp_mb, wp_mif, wp_sI, wp_sB, wp_sL, wp_sQ, wp_wI, wp_wB, wp_wQ, orR_l, orR_r, orE_l, orE_r, sK_l, sK_r, sK_c, cond_tr, fi_ufi, fi_ufi1, fi_ufi2, fb_ufb, fb_ufb1, fb_ufb2, fl_ufl, fl_ufl1, fl_ufl2, fr_ufr, fr_ufr1, fr_ufr2, ai_sa, ai_sa1, ab_sab, ab_sab1, ar_sar, ar_sar1, upf_eq, upf_ne, fi_ufb, fi_ufl, fi_ufr, fi_sa, fi_sab, fi_sar, fb_ufi, fb_ufl, fb_ufr, fb_sa, fb_sab, fb_sar, fl_ufi, fl_ufb, fl_ufr, fl_sa, fl_sab, fl_sar, fr_ufi, fr_ufb, fr_ufl, fr_sa, fr_sab, fr_sar, ai_ufi, ai_ufb, ai_ufl, ai_ufr, ai_sab, ai_sar, ab_ufi, ab_ufb, ab_ufl, ab_ufr, ab_sa, ab_sar, ar_ufi, ar_ufb, ar_ufl, ar_ufr, ar_sa, ar_sab, sa_sa, sab_sab, sar_sar, upf_upf, ufi_ufi, tnN, inbN, addN, subN, mulN, decN, divN, remN, n2_lt, n2_le, n2_gt, n2_ge, n2_eq, n2_ne, n0_lt, n0_ge, n0_gt, n0_le, n0_eq, n0_ne, m2_eq, m2_ne, m2_eqq, m2_neq, m0_lt, m0_ge, m0_eq, m0_ne, m2_eqN, m2_neN, wi_N, wi_P, wi_NN, inN_N, li_wi, Nat.reduceAdd, Nat.reduceSub, Nat.reduceMul, Nat.reduceDiv, Nat.reduceMod, Nat.reduceLT, Nat.reduceLeDiff, Nat.reduceEqDiff, decide_true, decide_false, Nat.add_zero, Nat.zero_add, Nat.mul_one, Nat.one_mul, Nat.mul_zero, Nat.zero_mul, n0_gts, Prod.mk.injEq, modN, decide_eq_true_eq, decide_eq_false_iff_not, Bool.and_eq_true, Bool.or_eq_true, Bool.not_eq_true', Bool.not_eq_false', Bool.not_eq_true, Bool.not_eq_false, Bool.not_not, Bool.not_true, Bool.not_false, Bool.true_eq_false, Bool.false_eq_true, true_and, and_true, false_and, and_false, true_implies, false_implies, implies_true, not_true_eq_false, not_false_eq_true, ne_eq, Bool.and_eq_false_imp, Bool.or_eq_false_iff, eq_self, or_false, false_or, or_true, true_or, rd_pairOf ha hb, h64, d2]
    have := hQ (ai S 7) (ai S 8) (ai S 9) (ai S 10) u hP ⟨s, m, v, d1, d2, d3, d4, d5, d6, d7⟩ (fun _ _ _ _ _ h => h)
    rw [eid] at this
    exact this
end
