/-! going on by minutes: both sides -/
theorem NP_2 (S : Sg) (c7 c8 c9 c10 : Nat → Int32) (u : Nat) : fi (NP S c7 c8 c9 c10 u) 2 8 = Int32.ofNat u := by unfold NP; rw [fi_ufi]
theorem NP_f (S : Sg) (c7 c8 c9 c10 : Nat → Int32) (u : Nat) {a b : Nat} (h : a ≠ 2 ∨ b ≠ 8) : fi (NP S c7 c8 c9 c10 u) a b = fi S a b := by
  unfold NP
  rcases h with h | h
  · rw [fi_ufi1 _ _ _ _ _ _ h]; rfl
  · rw [fi_ufi2 _ _ _ _ _ _ h]; rfl
theorem NP_NP (S : Sg) (c7 c8 c9 c10 d7 d8 d9 d10 : Nat → Int32) (u v : Nat) : NP (NP S c7 c8 c9 c10 u) d7 d8 d9 d10 v = NP S d7 d8 d9 d10 v := by
  have e : ∀ (S : Sg) (a k : Nat) (x : Int32) (t : Nat) (g : Nat → Int32), sa (ufi S a k x) t g = ufi (sa S t g) a k x := fun _ _ _ _ _ _ => rfl
  unfold NP
  rw [e, e, e, e, ufi_ufi, sa_cm (sa (sa (sa S 7 c7) 8 c8) 9 c9) c10 d7 (by decide), sa_cm (sa (sa S 7 c7) 8 c8) c9 d7 (by decide), sa_cm (sa S 7 c7) c8 d7 (by decide), sa_sa, sa_cm (sa (sa (sa S 7 d7) 8 c8) 9 c9) c10 d8 (by decide), sa_cm (sa (sa S 7 d7) 8 c8) c9 d8 (by decide), sa_sa, sa_cm (sa (sa (sa S 7 d7) 8 d8) 9 c9) c10 d9 (by decide), sa_sa, sa_sa]
theorem NP_id (S : Sg) {u : Nat} (h : fi S 2 8 = Int32.ofNat u) : NP S (ai S 7) (ai S 8) (ai S 9) (ai S 10) u = S := by
  unfold NP
  rw [sa_id, sa_id, sa_id, sa_id, ufi_id' S h]
theorem NP_Ag (S : Sg) (c7 c8 c9 c10 : Nat → Int32) (u : Nat) : AgC [2, 7, 8, 9, 10] S (NP S c7 c8 c9 c10 u) := ((((AgC.rf.sa (by decide)).sa (by decide)).sa (by decide)).sa (by decide)).ufi (by decide)
section
variable {al : Nat → Bool} {A B M : Nat → Nat} {S : Sg} {nc uc : Nat} {E : Nat → Nat → Nat}
theorem wp_prepWays (hn : nc ≤ 40) (HL : NetL al A B M (ai S 3) (ai S 4) (ai S 5)) (hu : fi S 2 8 = Int32.ofNat uc) (hP : IPool al A B M uc (ai S 7) (ai S 8) (ai S 9) (ai S 10)) (h5 : fi S 29 5 = Int32.ofNat nc) (hE : ∀ c, c < nc → E 0 c < 8 ∧ E 1 c < 8 ∧ E 0 c ≠ E 1 c ∧ fi S (29 + 6 + c) 0 = Int32.ofNat (E 0 c) ∧ fi S (29 + 6 + c) 1 = Int32.ofNat (E 1 c)) {Q : Unit → Sg → Prop}
    (hQ : ∀ c7 c8 c9 c10 u, IPool al A B M u c7 c8 c9 c10 → (∀ c, c < nc → PairOK al A B M (E 0 c) (E 1 c) u c7 c8 c9 c10) → Q () (NP S c7 c8 c9 c10 u)) : WP (Day_prepareWays 29) S Q := by
  unfold Day_prepareWays
  simp (disch := omega) only [q_0, q_1, q_2, q_3, q_4, q_5, q_6, q_7, q_8, q_9, q_10, q_11, q_12, q_15, q_16, q_20, q_21, q_25, q_30, q_31, q_32, q_40, q_44, q_48, q_50, q_57, q_59, q_60, q_64, q_81, q_97, q_98, q_99, q_100, q_101, q_102, q_103, q_104, q_105, q_107, q_108, q_110, q_111, q_114, q_115, q_116, q_119, q_120, q_121, q_122, q_136, q_160, q_200, q_255, q_300, q_400, q_401, q_402, q_460, q_479, q_480, q_920, q_999, q_1000, q_1023, q_1024, q_4020, q_9999, q_99999, q_1000000, q_1000000000, q_100001, q_100002, q_100003, q_100004, q_400000, nn_1, r_0, r_1, r_2, r_3, r_4, r_6, r_7, r_8, r_9, r_10, r_11, r_21, r_40, r_48, r_57, r_60, r_97, r_122, r_200, r_300, r_479, r_920, r_9999, r_99999, r_m1, rd_pu, rd_gI, rd_gB, rd_gL, rd_gQ, rd_rI, rd_rB, rd_rQ, rd_rK, rd_dq, rd_cq, rd_div, rd_rem, rd_mb, rd_mif, rd_within, rd_in, Bool.true_and, Bool.and_true, Bool.cond_self, Bool.cond_false_right, Bool.cond_true_left, cond_true, cond_false, rd_sAt, wp_rd, wp_mb, wp_mif, wp_sI, wp_sB, wp_sL, wp_sQ, wp_wI, wp_wB, wp_wQ, orR_l, orR_r, orE_l, orE_r, sK_l, sK_r, sK_c, cond_tr, fi_ufi, fi_ufi1, fi_ufi2, fb_ufb, fb_ufb1, fb_ufb2, fl_ufl, fl_ufl1, fl_ufl2, fr_ufr, fr_ufr1, fr_ufr2, ai_sa, ai_sa1, ab_sab, ab_sab1, ar_sar, ar_sar1, upf_eq, upf_ne, fi_ufb, fi_ufl, fi_ufr, fi_sa, fi_sab, fi_sar, fb_ufi, fb_ufl, fb_ufr, fb_sa, fb_sab, fb_sar, fl_ufi, fl_ufb, fl_ufr, fl_sa, fl_sab, fl_sar, fr_ufi, fr_ufb, fr_ufl, fr_sa, fr_sab, fr_sar, ai_ufi, ai_ufb, ai_ufl, ai_ufr, ai_sab, ai_sar, ab_ufi, ab_ufb, ab_ufl, ab_ufr, ab_sa, ab_sar, ar_ufi, ar_ufb, ar_ufl, ar_ufr, ar_sa, ar_sab, sa_sa, sab_sab, sar_sar, upf_upf, ufi_ufi, tnN, inbN, addN, subN, mulN, decN, divN, remN, n2_lt, n2_le, n2_gt, n2_ge, n2_eq, n2_ne, n0_lt, n0_ge, n0_gt, n0_le, n0_eq, n0_ne, m2_eq, m2_ne, m2_eqq, m2_neq, m0_lt, m0_ge, m0_eq, m0_ne, m2_eqN, m2_neN, wi_N, wi_P, wi_NN, inN_N, li_wi, Nat.reduceAdd, Nat.reduceSub, Nat.reduceMul, Nat.reduceDiv, Nat.reduceMod, Nat.reduceLT, Nat.reduceLeDiff, Nat.reduceEqDiff, decide_true, decide_false, Nat.add_zero, Nat.zero_add, Nat.mul_one, Nat.one_mul, Nat.mul_zero, Nat.zero_mul, n0_gts, Prod.mk.injEq, modN, decide_eq_true_eq, decide_eq_false_iff_not, Bool.and_eq_true, Bool.or_eq_true, Bool.not_eq_true', Bool.not_eq_false', Bool.not_eq_true, Bool.not_eq_false, Bool.not_not, Bool.not_true, Bool.not_false, Bool.true_eq_false, Bool.false_eq_true, true_and, and_true, false_and, and_false, true_implies, false_implies, implies_true, not_true_eq_false, not_false_eq_true, ne_eq, Bool.and_eq_false_imp, Bool.or_eq_false_iff, eq_self, or_false, false_or, or_true, true_or]
  refine WP.mono (wp_for nc (by unfold FU; omega) (fun k x S' => x = Int32.ofNat k ∧ ∃ c7 c8 c9 c10 u, S' = NP S c7 c8 c9 c10 u ∧ IPool al A B M u c7 c8 c9 c10 ∧ ∀ c, c < k → PairOK al A B M (E 0 c) (E 1 c) u c7 c8 c9 c10) ?_ ⟨rfl, _, _, _, _, uc, (NP_id S hu).symm, hP, fun c hc => by omega⟩ (Q := fun _ S' => ∃ c7 c8 c9 c10 u, S' = NP S c7 c8 c9 c10 u ∧ IPool al A B M u c7 c8 c9 c10 ∧ ∀ c, c < nc → PairOK al A B M (E 0 c) (E 1 c) u c7 c8 c9 c10)) ?_
  · rintro k x S' hk ⟨rfl, c7, c8, c9, c10, u, rfl, q1, q2⟩
    unfold Day_prepareWays_l1
    have f5 : fi (NP S c7 c8 c9 c10 u) 29 5 = Int32.ofNat nc := by rw [NP_f _ _ _ _ _ _ (Or.inl (by decide))]; exact h5
    by_cases hkn : k < nc
    · have hk40 : k < 40 := by omega
      have ec : cst 30 k = 29 + 6 + k := by unfold cst; omega
      obtain ⟨e1, e2, e3, e4, e5⟩ := hE k hkn
      have f0 : fi (NP S c7 c8 c9 c10 u) (29 + 6 + k) 0 = Int32.ofNat (E 0 k) := by rw [NP_f _ _ _ _ _ _ (Or.inl (by omega))]; exact e4
      have f1 : fi (NP S c7 c8 c9 c10 u) (29 + 6 + k) 1 = Int32.ofNat (E 1 k) := by rw [NP_f _ _ _ _ _ _ (Or.inl (by omega))]; exact e5
      obtain ⟨a7, a8, a9, a10⟩ := NP_ai S c7 c8 c9 c10 u
      simp (disch := omega) only [q_0, q_1, q_2, q_3, q_4, q_5, q_6, q_7, q_8, q_9, q_10, q_11, q_12, q_15, q_16, q_20, q_21, q_25, q_30, q_31, q_32, q_40, q_44, q_48, q_50, q_57, q_59, q_60, q_64, q_81, q_97, q_98, q_99, q_100, q_101, q_102, q_103, q_104, q_105, q_107, q_108, q_110, q_111, q_114, q_115, q_116, q_119, q_120, q_121, q_122, q_136, q_160, q_200, q_255, q_300, q_400, q_401, q_402, q_460, q_479, q_480, q_920, q_999, q_1000, q_1023, q_1024, q_4020, q_9999, q_99999, q_1000000, q_1000000000, q_100001, q_100002, q_100003, q_100004, q_400000, nn_1, r_0, r_1, r_2, r_3, r_4, r_6, r_7, r_8, r_9, r_10, r_11, r_21, r_40, r_48, r_57, r_60, r_97, r_122, r_200, r_300, r_479, r_920, r_9999, r_99999, r_m1, rd_pu, rd_gI, rd_gB, rd_gL, rd_gQ, rd_rI, rd_rB, rd_rQ, rd_rK, rd_dq, rd_cq, rd_div, rd_rem, rd_mb, rd_mif, rd_within, rd_in, Bool.true_and, Bool.and_true, Bool.cond_self, Bool.cond_false_right, Bool.cond_true_left, cond_true, cond_false, rd_sAt, wp_rd, wp_mb, wp_mif, wp_sI, wp_sB, wp_sL, wp_sQ, wp_wI, wp_wB, wp_wQ, orR_l, orR_r, orE_l, orE_r, sK_l, sK_r, sK_c, cond_tr, fi_ufi, fi_ufi1, fi_ufi2, fb_ufb, fb_ufb1, fb_ufb2, fl_ufl, fl_ufl1, fl_ufl2, fr_ufr, fr_ufr1, fr_ufr2, ai_sa, ai_sa1, ab_sab, ab_sab1, ar_sar, ar_sar1, upf_eq, upf_ne, fi_ufb, fi_ufl, fi_ufr, fi_sa, fi_sab, fi_sar, fb_ufi, fb_ufl, fb_ufr, fb_sa, fb_sab, fb_sar, fl_ufi, fl_ufb, fl_ufr, fl_sa, fl_sab, fl_sar, fr_ufi, fr_ufb, fr_ufl, fr_sa, fr_sab, fr_sar, ai_ufi, ai_ufb, ai_ufl, ai_ufr, ai_sab, ai_sar, ab_ufi, ab_ufb, ab_ufl, ab_ufr, ab_sa, ab_sar, ar_ufi, ar_ufb, ar_ufl, ar_ufr, ar_sa, ar_sab, sa_sa, sab_sab, sar_sar, upf_upf, ufi_ufi, tnN, inbN, addN, subN, mulN, decN, divN, remN, n2_lt, n2_le, n2_gt, n2_ge, n2_eq, n2_ne, n0_lt, n0_ge, n0_gt, n0_le, n0_eq, n0_ne, m2_eq, m2_ne, m2_eqq, m2_neq, m0_lt, m0_ge, m0_eq, m0_ne, m2_eqN, m2_neN, wi_N, wi_P, wi_NN, inN_N, li_wi, Nat.reduceAdd, Nat.reduceSub, Nat.reduceMul, Nat.reduceDiv, Nat.reduceMod, Nat.reduceLT, Nat.reduceLeDiff, Nat.reduceEqDiff, decide_true, decide_false, Nat.add_zero, Nat.zero_add, Nat.mul_one, Nat.one_mul, Nat.mul_zero, Nat.zero_mul, n0_gts, Prod.mk.injEq, modN, decide_eq_true_eq, decide_eq_false_iff_not, Bool.and_eq_true, Bool.or_eq_true, Bool.not_eq_true', Bool.not_eq_false', Bool.not_eq_true, Bool.not_eq_false, Bool.not_not, Bool.not_true, Bool.not_false, Bool.true_eq_false, Bool.false_eq_true, true_and, and_true, false_and, and_false, true_implies, false_implies, implies_true, not_true_eq_false, not_false_eq_true, ne_eq, Bool.and_eq_false_imp, Bool.or_eq_false_iff, eq_self, or_false, false_or, or_true, true_or, f5, hkn, hk40, ec, f0, f1]
      refine wp_prepare (al := al) (A := A) (B := B) (M := M) (S := NP S c7 c8 c9 c10 u) (by rw [NP_ax _ _ _ _ _ _ (by decide), NP_ax _ _ _ _ _ _ (by decide), NP_ax _ _ _ _ _ _ (by decide)]; exact HL) (u := u) (NP_2 _ _ _ _ _ _) (by rw [a7, a8, a9, a10]; exact q1) e1 e2 e3 fun d7 d8 d9 d10 v p1 p2 p3 => ?_
      rw [a7, a8, a9, a10] at p3
      rw [NP_NP]
      refine ⟨d7, d8, d9, d10, v, rfl, p1, fun c hc => ?_⟩
      by_cases e : c = k
      · subst e; exact p2
      · obtain ⟨x1, x2, x3, -⟩ := hE c (by omega)
        exact p3 _ _ x1 x2 x3 (q2 c (by omega))
    · have e : k = nc := by omega
      subst e
      simp (disch := omega) only [q_0, q_1, q_2, q_3, q_4, q_5, q_6, q_7, q_8, q_9, q_10, q_11, q_12, q_15, q_16, q_20, q_21, q_25, q_30, q_31, q_32, q_40, q_44, q_48, q_50, q_57, q_59, q_60, q_64, q_81, q_97, q_98, q_99, q_100, q_101, q_102, q_103, q_104, q_105, q_107, q_108, q_110, q_111, q_114, q_115, q_116, q_119, q_120, q_121, q_122, q_136, q_160, q_200, q_255, q_300, q_400, q_401, q_402, q_460, q_479, q_480, q_920, q_999, q_1000, q_1023, q_1024, q_4020, q_9999, q_99999, q_1000000, q_1000000000, q_100001, q_100002, q_100003, q_100004, q_400000, nn_1, r_0, r_1, r_2, r_3, r_4, r_6, r_7, r_8, r_9, r_10, r_11, r_21, r_40, r_48, r_57, r_60, r_97, r_122, r_200, r_300, r_479, r_920, r_9999, r_99999, r_m1, rd_pu, rd_gI, rd_gB, rd_gL, rd_gQ, rd_rI, rd_rB, rd_rQ, rd_rK, rd_dq, rd_cq, rd_div, rd_rem, rd_mb, rd_mif, rd_within, rd_in, Bool.true_and, Bool.and_true, Bool.cond_self, Bool.cond_false_right, Bool.cond_true_left, cond_true, cond_false, rd_sAt, wp_rd, wp_mb, wp_mif, wp_sI, wp_sB, wp_sL, wp_sQ, wp_wI, wp_wB, wp_wQ, orR_l, orR_r, orE_l, orE_r, sK_l, sK_r, sK_c, cond_tr, fi_ufi, fi_ufi1, fi_ufi2, fb_ufb, fb_ufb1, fb_ufb2, fl_ufl, fl_ufl1, fl_ufl2, fr_ufr, fr_ufr1, fr_ufr2, ai_sa, ai_sa1, ab_sab, ab_sab1, ar_sar, ar_sar1, upf_eq, upf_ne, fi_ufb, fi_ufl, fi_ufr, fi_sa, fi_sab, fi_sar, fb_ufi, fb_ufl, fb_ufr, fb_sa, fb_sab, fb_sar, fl_ufi, fl_ufb, fl_ufr, fl_sa, fl_sab, fl_sar, fr_ufi, fr_ufb, fr_ufl, fr_sa, fr_sab, fr_sar, ai_ufi, ai_ufb, ai_ufl, ai_ufr, ai_sab, ai_sar, ab_ufi, ab_ufb, ab_ufl, ab_ufr, ab_sa, ab_sar, ar_ufi, ar_ufb, ar_ufl, ar_ufr, ar_sa, ar_sab, sa_sa, sab_sab, sar_sar, upf_upf, ufi_ufi, tnN, inbN, addN, subN, mulN, decN, divN, remN, n2_lt, n2_le, n2_gt, n2_ge, n2_eq, n2_ne, n0_lt, n0_ge, n0_gt, n0_le, n0_eq, n0_ne, m2_eq, m2_ne, m2_eqq, m2_neq, m0_lt, m0_ge, m0_eq, m0_ne, m2_eqN, m2_neN, wi_N, wi_P, wi_NN, inN_N, li_wi, Nat.reduceAdd, Nat.reduceSub, Nat.reduceMul, Nat.reduceDiv, Nat.reduceMod, Nat.reduceLT, Nat.reduceLeDiff, Nat.reduceEqDiff, decide_true, decide_false, Nat.add_zero, Nat.zero_add, Nat.mul_one, Nat.one_mul, Nat.mul_zero, Nat.zero_mul, n0_gts, Prod.mk.injEq, modN, decide_eq_true_eq, decide_eq_false_iff_not, Bool.and_eq_true, Bool.or_eq_true, Bool.not_eq_true', Bool.not_eq_false', Bool.not_eq_true, Bool.not_eq_false, Bool.not_not, Bool.not_true, Bool.not_false, Bool.true_eq_false, Bool.false_eq_true, true_and, and_true, false_and, and_false, true_implies, false_implies, implies_true, not_true_eq_false, not_false_eq_true, ne_eq, Bool.and_eq_false_imp, Bool.or_eq_false_iff, eq_self, or_false, false_or, or_true, true_or, f5, Nat.lt_irrefl]
      exact ⟨c7, c8, c9, c10, u, rfl, q1, q2⟩
  · rintro _ S' ⟨c7, c8, c9, c10, u, rfl, q1, q2⟩
    exact hQ c7 c8 c9 c10 u q1 q2
end
def mnC : List Nat := [24, 25, 26, 29, 31, 32, 33, 35, 36, 37, 38, 39, 40, 41, 42, 43, 44, 45, 46, 47, 48, 49, 50, 51, 52, 53, 54, 55, 56, 57, 58, 59, 60, 61, 62, 63, 64, 65, 66, 67, 68, 69, 70, 71, 72, 73, 74]
theorem mnC_c : ∀ a, a < 75 → 35 ≤ a → a ∈ mnC := by decide
theorem MnC_Ag {S S' : Sg} (h : MnC 29 S S') : AgC mnC S S' := fun a ha => by
  have n1 : a ≠ 29 := fun e => ha (by rw [e]; decide)
  have n2 : a ≠ 24 := fun e => ha (by rw [e]; decide)
  have n3 : a ≠ 25 := fun e => ha (by rw [e]; decide)
  have n4 : a ≠ 26 := fun e => ha (by rw [e]; decide)
  have n5 : a ≠ 31 := fun e => ha (by rw [e]; decide)
  have n6 : a ≠ 32 := fun e => ha (by rw [e]; decide)
  have n7 : a ≠ 33 := fun e => ha (by rw [e]; decide)
  have n8 : a < 29 + 6 ∨ 29 + 46 ≤ a := by
    refine Classical.byContradiction fun hn => ha (mnC_c a (by omega) (by omega))
  exact ⟨funext fun b => h.1 a b n1 n2 n8, by rw [h.2.2.2.1], h.2.2.2.2.1 a (by omega) (by omega) (by omega) n3 n4, by rw [h.2.2.2.2.2.1]⟩
def mnY : List Nat := [136, 137, 138, 139, 147, 148, 149, 158, 159, 160, 161, 162, 163, 164, 165, 166, 167, 168, 170, 171, 172, 173]
def mnZ : List Nat := [59, 64, 34, 36, 37, 15, 11]
set_option maxRecDepth 8000 in
theorem mnY_c : ∀ a, a < 174 → (136 ≤ a ∧ a ≤ 139 ∨ a = 147 ∨ a = 148 ∨ a = 149 ∨ 158 ≤ a ∧ a ≤ 168 ∨ 170 ≤ a) → a ∈ mnY := by decide
theorem MnR_Ag {S S' : Sg} (h : MnR S S') : AgR mnY mnZ S S' := by
  refine ⟨fun a ha => ?_, fun b hb => ?_⟩
  · have n : ¬ (a < 174 ∧ (136 ≤ a ∧ a ≤ 139 ∨ a = 147 ∨ a = 148 ∨ a = 149 ∨ 158 ≤ a ∧ a ≤ 168 ∨ 170 ≤ a)) := fun e => ha (mnY_c a e.1 e.2)
    exact ⟨h.2.2.2.1 a (by omega), h.2.2.2.2 a (by omega) (by omega)⟩
  · have n : ∀ x, x ∈ mnZ → b ≠ x := fun x hx e => hb (by rw [e]; exact hx)
    exact ⟨h.2.1 b (n _ (by decide)) (n _ (by decide)) (n _ (by decide)) (n _ (by decide)) (n _ (by decide)) (n _ (by decide)), h.2.2.1 127 b (Or.inr (n _ (by decide)))⟩
def goC : List Nat := 1 :: 80 :: 2 :: 7 :: 8 :: 9 :: 10 :: mnC
def goZ : List Nat := 24 :: 38 :: mnZ
section
variable {nw nof : Nat} {A B M cn : Nat → Nat} {nc m : Nat} {E D : Nat → Nat → Nat} {hd : Nat → Option Nat} {SC SR : Sg} {ks no : Nat} {W K F T : Nat → Nat}
/-- one minute of the real day -/
theorem R_min1 (HN : IN nw nof A B M cn SC SR) (HD : ID nw M nc m E D hd SC SR) (HP : IP nw ks W K F T SC SR) (HO : IO no SC SR) {hn : Nat → Nat} (hcr : ICrew hn (ai SC 16) (ai SR 135)) (h24 : fi SR 127 24 = Int32.ofNat 0) (hm : m < 480) {uc : Nat} (huc : uc ≤ 4020) (hPO : ∀ c, c < nc → PairOK (LN nw nof) A B M (E 0 c) (E 1 c) uc (ai SC 7) (ai SC 8) (ai SC 9) (ai SC 10)) {Q : Int32 → Sg → Int32 → Sg → Prop}
    (hQ : ∀ r D' hd' SC' SR', IN nw nof A B M cn SC' (ufi SR' 127 38 (Int32.ofNat (m + 1))) → ID nw M nc (m + 1) E D' hd' SC' (ufi SR' 127 38 (Int32.ofNat (m + 1))) → IO no SC' (ufi SR' 127 38 (Int32.ofNat (m + 1))) → AgC mnC SC SC' → AgR mnY mnZ SR SR' → Q r SC' r SR') : W2 (Day_nextMinute 29) SC (MO_doMinute (Int32.ofNat m)) SR Q := by
  have HN0 := HN
  have HO0 := HO
  have HP0 := HP
  have hphi := IN_phi HN
  obtain ⟨n1, n2, n3, n4, n5, n6, n7, n8, n9, n10, n11, n12⟩ := HN
  obtain ⟨d1, d2, d3, d4, d5, d6, d7, d8, d9, d10⟩ := HD
  obtain ⟨p1, p2⟩ := HP
  have hno : ∀ w, nw ≤ w → w < nw → wy W K F T w m ks = none := fun w h1 h2 => by omega
  refine R_minute (nw := nw) (na := 0) (Or.inl rfl) d1 d2 (IO_OD HO) HO.2 (by rw [h24, d8]) (by rw [d7]; exact hphi) n8 huc hPO n9 n4 n7 (by omega) n1 n12 p1 (fun w _ => rfl) hno hcr d4 hm d6 fun r D' hd' SC' SR' x1 x2 x3 x4 x5 x6 x7 x8 x9 x10 => ?_
  have AC := MnC_Ag x2
  have AR := MnR_Ag x3
  have hnc : nc ≤ 40 := d1.1.2.1
  have u38 : ∀ b, b ≠ 38 → fi (ufi SR' 127 38 (Int32.ofNat (m + 1))) 127 b = fi SR' 127 b := fun b h => fi_ufi2 _ _ _ _ _ _ h
  refine hQ r D' hd' SC' SR' ?_ ?_ ?_ AC AR
  · refine ⟨n1, n2, by rw [x2.1 _ _ (by decide) (by decide) (by decide)]; exact n3, by rw [u38 _ (by decide), x3.2.1 _ (by decide) (by decide) (by decide) (by decide) (by decide) (by decide)]; exact n4, by rw [x2.1 _ _ (by decide) (by decide) (by decide)]; exact n5, by rw [u38 _ (by decide), x3.2.1 _ (by decide) (by decide) (by decide) (by decide) (by decide) (by decide)]; exact n6, by rw [u38 _ (by decide), x3.2.1 _ (by decide) (by decide) (by decide) (by decide) (by decide) (by decide)]; exact n7, ?_, ?_, ?_, ?_, fun _ => ?_⟩
    · rw [(AC 3 (by decide)).2.2.1, (AC 4 (by decide)).2.2.1, (AC 5 (by decide)).2.2.1]; exact n8
    · show NetM nw A B M (ai SR' 128) (ai SR' 129) (ai SR' 130)
      rw [(AR.1 128 (by decide)).1, (AR.1 129 (by decide)).1, (AR.1 130 (by decide)).1]; exact n9
    · intro k hk
      show cn k ≤ 9999 ∧ ai SC' 6 k = _ ∧ ai SR' 178 k = _ ∧ ai SR' 179 k = _ ∧ ai SR' 180 k = _ ∧ ai SR' 181 k = _
      rw [(AC 6 (by decide)).2.2.1, (AR.1 178 (by decide)).1, (AR.1 179 (by decide)).1, (AR.1 180 (by decide)).1, (AR.1 181 (by decide)).1]
      exact n10 k hk
    · rw [(AC 2 (by decide)).1, (AC 7 (by decide)).2.2.1, (AC 8 (by decide)).2.2.1, (AC 9 (by decide)).2.2.1, (AC 10 (by decide)).2.2.1]; exact n11
    · rw [u38 _ (by decide)]; exact x8
  · refine ⟨DD_cg x1 rfl rfl (fun _ _ _ _ _ => rfl) (u38 _ (by decide)) (fun _ _ _ => rfl), ?_, by omega, x4, by rw [fi_ufi], by rw [u38 _ (by decide)]; exact x5, by rw [x2.2.1 _ (by decide) (by decide) (by decide) (by decide) (by decide)]; exact d7, by rw [x2.2.1 _ (by decide) (by decide) (by decide) (by decide) (by decide)]; exact d8, ⟨fun c hc => ?_, d9.2.1, fun c h1 h2 => ?_⟩, fun w hw => ?_⟩
    · show SS 29 nc nc E SC' SR'
      exact SS_mn hnc d2 x2 x3
    · obtain ⟨⟨v, v1, v2, v3⟩, q2, q3, q4, q5⟩ := d9.1 c hc
      obtain ⟨p51, p52⟩ := x10 c
      refine ⟨⟨v, v1, by rw [x2.2.2.1 _ _ (by omega) (by omega)]; exact v2, ?_⟩, ?_, ?_, fun h => ?_, by omega⟩
      · show ai SR' 156 c = _
        rw [(AR.1 156 (by decide)).1]; exact v3
      · show fb SC' _ 8 = ab SR' 157 c
        rw [(AR.1 157 (by decide)).2, x2.2.2.2.1]; exact q2
      · rw [x2.2.2.1 _ _ (by omega) (by omega), q3]
        by_cases e : D 0 c = 5
        · rw [if_pos e, if_pos (p51.2 e), p52 e]
        · rw [if_neg e, if_neg (fun h => e (p51.1 h))]
      · rw [p52 (p51.1 h)]; exact q4 (p51.1 h)
    · have k := fun b (hb : b ≠ 18) => x2.2.2.2.2.2.2 nc c b d1.2.1.1 hnc h1 h2 hb
      rw [k 9 (by decide), k 10 (by decide), k 11 (by decide), k 12 (by decide), k 13 (by decide), k 14 (by decide), k 15 (by decide), k 16 (by decide), k 7 (by decide), x2.2.2.2.1]
      exact d9.2.2 c h1 h2
    · obtain ⟨i1, i2⟩ := d10 w hw
      obtain ⟨G1, G2, G3⟩ := x9
      show ai SC' 31 w = (if w < nw then ai SR' 167 w else Int32.ofNat 0) ∧ ai SC' 32 w = (if w < nw then ai SR' 168 w else Int32.ofNat 0)
      by_cases h : w < nw
      · obtain ⟨x, y, e1, e2, e3, e4⟩ := G1 w h
        rw [if_pos h] at i1 i2
        rw [if_pos h, if_pos h]
        simp only [Nat.reduceAdd] at e1 e3
        rw [e1, e2, e3, e4, i1, i2]
        exact ⟨rfl, rfl⟩
      · obtain ⟨e1, e2⟩ := G2 w hw (fun w' hw' e => h (by have e' : w' = w := e; omega))
        rw [if_neg h] at i1 i2
        rw [if_neg h, if_neg h]
        simp only [Nat.reduceAdd] at e1 e2
        rw [e1, e2]
        exact ⟨i1, i2⟩
  · have g : AgR mnY (38 :: mnZ) SR (ufi SR' 127 38 (Int32.ofNat (m + 1))) := (AR.mo (fun _ h => h) (fun _ h => List.mem_cons_of_mem _ h)).ufi (by decide)
    have c := fun a h => (AC a h).2.2.1
    unfold IO
    rw [(AC 17 (by decide)).1, c 18 (by decide), c 19 (by decide), c 20 (by decide), c 21 (by decide), c 22 (by decide), c 23 (by decide), (g.1 140 (by decide)).1, (g.1 141 (by decide)).1, (g.1 142 (by decide)).1, (g.1 143 (by decide)).1, (g.1 144 (by decide)).1, (g.1 145 (by decide)).1, (g.2 17 (by decide)).1]
    exact ⟨HO.1, x6⟩
end
