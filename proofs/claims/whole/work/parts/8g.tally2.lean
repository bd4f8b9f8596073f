/-! idle and waited: both sides -/
def FtC (t : Nat) (S S' : Sg) : Prop := (∀ a b, (b ≠ 12 ∨ a < t + 6 ∨ t + 46 ≤ a) → fi S' a b = fi S a b) ∧ fb S' = fb S ∧ ab S' = ab S ∧ (∀ a, a ≠ t + 2 → a ≠ t + 3 → ai S' a = ai S a) ∧ ∀ k c b, fi S t 5 = Int32.ofNat k → k ≤ 40 → k ≤ c → c < 40 → fi S' (t + 6 + c) b = fi S (t + 6 + c) b
def FtR (S S' : Sg) : Prop := fi S' = fi S ∧ fb S' = fb S ∧ (∀ a, a ≠ 173 → ab S' a = ab S a) ∧ ∀ a, a ≠ 161 → a ≠ 167 → a ≠ 168 → ai S' a = ai S a
/-- idle and talked grow alike -/
def Grow (t : Nat) (f : Nat → Nat) (n : Nat) (SC SR SC' SR' : Sg) : Prop := (∀ w, w < n → ∃ x y, ai SC' (t + 2) (f w) = ai SC (t + 2) (f w) + x ∧ ai SR' 167 w = ai SR 167 w + x ∧ ai SC' (t + 3) (f w) = ai SC (t + 3) (f w) + y ∧ ai SR' 168 w = ai SR 168 w + y) ∧ (∀ x, x < 20 → (∀ w, w < n → f w ≠ x) → ai SC' (t + 2) x = ai SC (t + 2) x ∧ ai SC' (t + 3) x = ai SC (t + 3) x) ∧ ∀ w, n ≤ w → ai SR' 167 w = ai SR 167 w ∧ ai SR' 168 w = ai SR 168 w
theorem add_0r (x : Int32) : x + Int32.ofNat 0 = x := Int32.add_zero x
section
variable {t : Nat} {f : Nat → Nat} {n : Nat} {al : Nat → Bool} {A' B' M' A B M : Nat → Nat} {uc : Nat} {nc nR : Nat} {E D : Nat → Nat → Nat} {m most hold : Nat} {SC SR : Sg} {u ks : Nat} {W K F T : Nat → Nat} {hd : Nat → Option Nat} {rn : Nat} {row : Nat → Nat} {key : Nat → Nat} {fp : Nat → Nat} {nw na : Nat}
theorem DD_wait (H : DD t f n M nc nR (m + 1) E D hd SC SR) (hD5 : ∀ c, c < nc → D 5 c ≤ m) {du : Nat → Bool} {SC' SR' : Sg} (hC : FtC t SC SC') (hR : FtR SR SR') (h12 : ∀ c, c < nc → fi SC' (t + 6 + c) 12 = Int32.ofNat (wD D du 5 c)) (h61 : ∀ c, c < nc → ai SR' 161 c = Int32.ofNat (wD D du 5 c)) : DD t f n M nc nR (m + 1) E (wD D du) hd SC' SR' := by
  obtain ⟨⟨g1, g2, g3, hf⟩, ⟨c1, c2, c3⟩, ⟨r1, r2, r3, r4⟩, hK, h6s, hH1, hH2⟩ := H
  have z : ∀ x c, x ≠ 5 → wD D du x c = D x c := fun x c h => wD_ne h
  refine ⟨⟨g1, g2, g3, hf⟩, ⟨?_, ?_, fun c hc => ?_⟩, ⟨by rw [hR.1]; exact r1, by rw [hR.2.2.2 _ (by decide) (by decide) (by decide)]; exact r2, fun c hc => ?_, fun c h1 h2 => by rw [hR.2.2.2 _ (by decide) (by decide) (by decide)]; exact r4 c h1 h2⟩, fun c hc => ?_, fun c hc => ?_, fun w c hw h => ?_, fun c j hc hs hj => ?_⟩
  · rw [hC.1 _ _ (Or.inl (by decide))]; exact c1
  · rw [hC.1 _ _ (Or.inr (Or.inl (by omega)))]; exact c2
  · obtain ⟨d1, d2, d3, d4, d5, d6, d7, d8⟩ := c3 c hc
    unfold KC
    rw [z 0 c (by decide), z 1 c (by decide), z 2 c (by decide), z 3 c (by decide), z 4 c (by decide), z 6 c (by decide), hC.1 _ 9 (Or.inl (by decide)), hC.1 _ 10 (Or.inl (by decide)), hC.1 _ 11 (Or.inl (by decide)), hC.1 _ 13 (Or.inl (by decide)), hC.1 _ 14 (Or.inl (by decide)), hC.1 _ 15 (Or.inl (by decide)), hC.1 _ 16 (Or.inl (by decide))]
    exact ⟨d1, d2, d3, h12 c hc, d5, d6, d7, d8⟩
  · obtain ⟨d1, d2, d3, d4, d5, d6, d7⟩ := r3 c hc
    have a := hR.2.2.2
    unfold KR
    rw [z 0 c (by decide), z 1 c (by decide), z 2 c (by decide), z 3 c (by decide), z 4 c (by decide), z 6 c (by decide), a 158 (by decide) (by decide) (by decide), a 159 (by decide) (by decide) (by decide), a 160 (by decide) (by decide) (by decide), a 162 (by decide) (by decide) (by decide), a 163 (by decide) (by decide) (by decide), a 164 (by decide) (by decide) (by decide), a 165 (by decide) (by decide) (by decide)]
    exact ⟨d1, d2, d3, h61 c hc, d5, d6, d7⟩
  · obtain ⟨k1, k2, k3, k4, k5, k6, k7, k8, k9, k10⟩ := hK c hc
    unfold KI
    rw [z 0 c (by decide), z 1 c (by decide), z 2 c (by decide), z 3 c (by decide), z 4 c (by decide), z 6 c (by decide)]
    have := hD5 c hc
    exact ⟨k1, k2, k3, k4, k5, k6, k7, k8, k9, by rw [wD_5]; split <;> omega⟩
  · rw [z 0 c (by decide)]; exact h6s c hc
  · rw [z 0 c (by decide), z 1 c (by decide), z 2 c (by decide)]; exact hH1 w c hw h
  · rw [z 0 c (by decide)] at hs
    rw [z 2 c (by decide)] at hj
    rw [z 1 c (by decide)]
    exact hH2 c j hc hs hj
theorem R_tally (ht : t = 29 ∨ t = 80) (H : DD t f n M nc nR (m + 1) E D hd SC SR) (hD5 : ∀ c, c < nc → D 5 c ≤ m) (hS : SS t nc nR E SC SR) (hX : CX t f n al A' B' M' A B M uc (fun w => (wy W K F T w m ks).isNone) nc E m most hold SC) (hY : RX n A B M u ks W K F T most hold SR) (hm : m < 480) (hmo : most < 32) (hR : RowP nc rn row key (tmB E m) D) (h17 : fi SC t 17 = Int32.ofNat rn) (har : ∀ i, i < rn → ar SC (t + 5) i = some (t + 6 + row i)) (hfp : ∀ c, c < nR → LeW n A B M (E 0 c) (E 1 c) most (fun _ => true) (fp c)) (h18 : ∀ i, i < rn → fi SC (t + 6 + row i) 18 = Int32.ofNat (if fp (row i) = 0 then 0 else fq f (fp (row i)))) (hw0 : fi SR 127 0 = Int32.ofNat nw) (hw1 : fi SR 127 1 = Int32.ofNat na) (hwn : nw + na = n) {Q : Sg → Sg → Prop}
    (hQ : ∀ SC' SR' du, DD t f n M nc nR (m + 1) E (wD D du) hd SC' SR' → FtC t SC SC' → FtR SR SR' → Grow t f n SC SR SC' SR' → Q SC' SR') : W2 (Day_tally t) SC (MO_count5 (Int32.ofNat m)) SR fun _ SC' _ SR' => Q SC' SR' := by
  have H' := H
  obtain ⟨⟨g1, g2, g3, hf⟩, ⟨c1, c2, c3⟩, ⟨r1, r2, r3, r4⟩, hK, h6s, hH1, hH2⟩ := H
  have hfree := cx_free hX H'
  obtain ⟨y1, y2, y3, y4, y5, y6⟩ := hY
  have hWF : ∀ c, c < nR → fp c = 0 ∨ WF n M (fp c) := fun c hc => by
    by_cases e : fp c = 0
    · exact Or.inl e
    · exact Or.inr (LeW_WF y1 (hS c hc).2.2.1 (hfp c hc) e)
  unfold W2 Day_tally
  simp (disch := omega) only [q_0, q_1, q_2, q_3, q_4, q_5, q_6, q_7, q_8, q_9, q_10, q_11, q_12, q_15, q_16, q_20, q_21, q_25, q_30, q_31, q_32, q_40, q_44, q_48, q_50, q_57, q_59, q_60, q_64, q_81, q_97, q_98, q_99, q_100, q_101, q_102, q_103, q_104, q_105, q_107, q_108, q_110, q_111, q_114, q_115, q_116, q_119, q_120, q_121, q_122, q_136, q_160, q_200, q_255, q_300, q_400, q_401, q_402, q_460, q_479, q_480, q_920, q_999, q_1000, q_1023, q_1024, q_4020, q_9999, q_99999, q_1000000, q_1000000000, q_100001, q_100002, q_100003, q_100004, q_400000, nn_1, r_0, r_1, r_2, r_3, r_4, r_6, r_7, r_8, r_9, r_10, r_11, r_21, r_40, r_48, r_57, r_60, r_97, r_122, r_200, r_300, r_479, r_920, r_9999, r_99999, r_m1, rd_pu, rd_gI, rd_gB, rd_gL, rd_gQ, rd_rI, rd_rB, rd_rQ, rd_rK, rd_dq, rd_cq, rd_div, rd_rem, rd_mb, rd_mif, rd_within, rd_in, Bool.true_and, Bool.and_true, Bool.cond_self, Bool.cond_false_right, Bool.cond_true_left, cond_true, cond_false, rd_sAt, wp_rd, wp_mb, wp_mif, wp_sI, wp_sB, wp_sL, wp_sQ, wp_wI, wp_wB, wp_wQ, orR_l, orR_r, orE_l, orE_r, sK_l, sK_r, sK_c, cond_tr, fi_ufi, fi_ufi1, fi_ufi2, fb_ufb, fb_ufb1, fb_ufb2, fl_ufl, fl_ufl1, fl_ufl2, fr_ufr, fr_ufr1, fr_ufr2, ai_sa, ai_sa1, ab_sab, ab_sab1, ar_sar, ar_sar1, upf_eq, upf_ne, fi_ufb, fi_ufl, fi_ufr, fi_sa, fi_sab, fi_sar, fb_ufi, fb_ufl, fb_ufr, fb_sa, fb_sab, fb_sar, fl_ufi, fl_ufb, fl_ufr, fl_sa, fl_sab, fl_sar, fr_ufi, fr_ufb, fr_ufl, fr_sa, fr_sab, fr_sar, ai_ufi, ai_ufb, ai_ufl, ai_ufr, ai_sab, ai_sar, ab_ufi, ab_ufb, ab_ufl, ab_ufr, ab_sa, ab_sar, ar_ufi, ar_ufb, ar_ufl, ar_ufr, ar_sa, ar_sab, sa_sa, sab_sab, sar_sar, upf_upf, ufi_ufi, tnN, inbN, addN, subN, mulN, decN, divN, remN, n2_lt, n2_le, n2_gt, n2_ge, n2_eq, n2_ne, n0_lt, n0_ge, n0_gt, n0_le, n0_eq, n0_ne, m2_eq, m2_ne, m2_eqq, m2_neq, m0_lt, m0_ge, m0_eq, m0_ne, m2_eqN, m2_neN, wi_N, wi_P, wi_NN, inN_N, li_wi, Nat.reduceAdd, Nat.reduceSub, Nat.reduceMul, Nat.reduceDiv, Nat.reduceMod, Nat.reduceLT, Nat.reduceLeDiff, Nat.reduceEqDiff, decide_true, decide_false, Nat.add_zero, Nat.zero_add, Nat.mul_one, Nat.one_mul, Nat.mul_zero, Nat.zero_mul, n0_gts, Prod.mk.injEq, modN, decide_eq_true_eq, decide_eq_false_iff_not, Bool.and_eq_true, Bool.or_eq_true, Bool.not_eq_true', Bool.not_eq_false', Bool.not_eq_true, Bool.not_eq_false, Bool.not_not, Bool.not_true, Bool.not_false, Bool.true_eq_false, Bool.false_eq_true, true_and, and_true, false_and, and_false, true_implies, false_implies, implies_true, not_true_eq_false, not_false_eq_true, ne_eq, Bool.and_eq_false_imp, Bool.or_eq_false_iff, eq_self, or_false, false_or, or_true, true_or]
  refine wp_tally1 ht H' hR h17 har (fun c hc => hWF c (by omega)) h18 fun s FF f1 f2 hs => ?_
  generalize hdu : dueB (D 0) (E 3) (E 4) m = du at *
  have e5 : fi (sfi SC FF) t 5 = Int32.ofNat nc := by rw [fi_sfi, f2 _ _ (Or.inl (by decide))]; exact c1
  try simp (disch := omega) only [q_0, q_1, q_2, q_3, q_4, q_5, q_6, q_7, q_8, q_9, q_10, q_11, q_12, q_15, q_16, q_20, q_21, q_25, q_30, q_31, q_32, q_40, q_44, q_48, q_50, q_57, q_59, q_60, q_64, q_81, q_97, q_98, q_99, q_100, q_101, q_102, q_103, q_104, q_105, q_107, q_108, q_110, q_111, q_114, q_115, q_116, q_119, q_120, q_121, q_122, q_136, q_160, q_200, q_255, q_300, q_400, q_401, q_402, q_460, q_479, q_480, q_920, q_999, q_1000, q_1023, q_1024, q_4020, q_9999, q_99999, q_1000000, q_1000000000, q_100001, q_100002, q_100003, q_100004, q_400000, nn_1, r_0, r_1, r_2, r_3, r_4, r_6, r_7, r_8, r_9, r_10, r_11, r_21, r_40, r_48, r_57, r_60, r_97, r_122, r_200, r_300, r_479, r_920, r_9999, r_99999, r_m1, rd_pu, rd_gI, rd_gB, rd_gL, rd_gQ, rd_rI, rd_rB, rd_rQ, rd_rK, rd_dq, rd_cq, rd_div, rd_rem, rd_mb, rd_mif, rd_within, rd_in, Bool.true_and, Bool.and_true, Bool.cond_self, Bool.cond_false_right, Bool.cond_true_left, cond_true, cond_false, rd_sAt, wp_rd, wp_mb, wp_mif, wp_sI, wp_sB, wp_sL, wp_sQ, wp_wI, wp_wB, wp_wQ, orR_l, orR_r, orE_l, orE_r, sK_l, sK_r, sK_c, cond_tr, fi_ufi, fi_ufi1, fi_ufi2, fb_ufb, fb_ufb1, fb_ufb2, fl_ufl, fl_ufl1, fl_ufl2, fr_ufr, fr_ufr1, fr_ufr2, ai_sa, ai_sa1, ab_sab, ab_sab1, ar_sar, ar_sar1, upf_eq, upf_ne, fi_ufb, fi_ufl, fi_ufr, fi_sa, fi_sab, fi_sar, fb_ufi, fb_ufl, fb_ufr, fb_sa, fb_sab, fb_sar, fl_ufi, fl_ufb, fl_ufr, fl_sa, fl_sab, fl_sar, fr_ufi, fr_ufb, fr_ufl, fr_sa, fr_sab, fr_sar, ai_ufi, ai_ufb, ai_ufl, ai_ufr, ai_sab, ai_sar, ab_ufi, ab_ufb, ab_ufl, ab_ufr, ab_sa, ab_sar, ar_ufi, ar_ufb, ar_ufl, ar_ufr, ar_sa, ar_sab, sa_sa, sab_sab, sar_sar, upf_upf, ufi_ufi, tnN, inbN, addN, subN, mulN, decN, divN, remN, n2_lt, n2_le, n2_gt, n2_ge, n2_eq, n2_ne, n0_lt, n0_ge, n0_gt, n0_le, n0_eq, n0_ne, m2_eq, m2_ne, m2_eqq, m2_neq, m0_lt, m0_ge, m0_eq, m0_ne, m2_eqN, m2_neN, wi_N, wi_P, wi_NN, inN_N, li_wi, Nat.reduceAdd, Nat.reduceSub, Nat.reduceMul, Nat.reduceDiv, Nat.reduceMod, Nat.reduceLT, Nat.reduceLeDiff, Nat.reduceEqDiff, decide_true, decide_false, Nat.add_zero, Nat.zero_add, Nat.mul_one, Nat.one_mul, Nat.mul_zero, Nat.zero_mul, n0_gts, Prod.mk.injEq, modN, decide_eq_true_eq, decide_eq_false_iff_not, Bool.and_eq_true, Bool.or_eq_true, Bool.not_eq_true', Bool.not_eq_false', Bool.not_eq_true, Bool.not_eq_false, Bool.not_not, Bool.not_true, Bool.not_false, Bool.true_eq_false, Bool.false_eq_true, true_and, and_true, false_and, and_false, true_implies, false_implies, implies_true, not_true_eq_false, not_false_eq_true, ne_eq, Bool.and_eq_false_imp, Bool.or_eq_false_iff, eq_self, or_false, false_or, or_true, true_or]
  refine wp_tally2 (by omega) (sfi SC FF) e5 (D := D) (hd := hd) (f := f) (n := n) (fun c hc => ⟨(hK c hc).1, by rw [fi_sfi, f2 _ _ (Or.inl (by decide))]; exact (c3 c hc).1, by rw [fi_sfi, f2 _ _ (Or.inl (by decide))]; exact (c3 c hc).2.2.2.2.2.2.1⟩) fun s2 hs2 => ?_
  have e11 : fi (sfi SC FF) t 11 = fi SC t 11 := by rw [fi_sfi, f2 _ _ (Or.inl (by decide))]
  have e12 : fi (sfi SC FF) t 12 = fi SC t 12 := by rw [fi_sfi, f2 _ _ (Or.inr (Or.inl (by omega)))]
  try simp (disch := omega) only [q_0, q_1, q_2, q_3, q_4, q_5, q_6, q_7, q_8, q_9, q_10, q_11, q_12, q_15, q_16, q_20, q_21, q_25, q_30, q_31, q_32, q_40, q_44, q_48, q_50, q_57, q_59, q_60, q_64, q_81, q_97, q_98, q_99, q_100, q_101, q_102, q_103, q_104, q_105, q_107, q_108, q_110, q_111, q_114, q_115, q_116, q_119, q_120, q_121, q_122, q_136, q_160, q_200, q_255, q_300, q_400, q_401, q_402, q_460, q_479, q_480, q_920, q_999, q_1000, q_1023, q_1024, q_4020, q_9999, q_99999, q_1000000, q_1000000000, q_100001, q_100002, q_100003, q_100004, q_400000, nn_1, r_0, r_1, r_2, r_3, r_4, r_6, r_7, r_8, r_9, r_10, r_11, r_21, r_40, r_48, r_57, r_60, r_97, r_122, r_200, r_300, r_479, r_920, r_9999, r_99999, r_m1, rd_pu, rd_gI, rd_gB, rd_gL, rd_gQ, rd_rI, rd_rB, rd_rQ, rd_rK, rd_dq, rd_cq, rd_div, rd_rem, rd_mb, rd_mif, rd_within, rd_in, Bool.true_and, Bool.and_true, Bool.cond_self, Bool.cond_false_right, Bool.cond_true_left, cond_true, cond_false, rd_sAt, wp_rd, wp_mb, wp_mif, wp_sI, wp_sB, wp_sL, wp_sQ, wp_wI, wp_wB, wp_wQ, orR_l, orR_r, orE_l, orE_r, sK_l, sK_r, sK_c, cond_tr, fi_ufi, fi_ufi1, fi_ufi2, fb_ufb, fb_ufb1, fb_ufb2, fl_ufl, fl_ufl1, fl_ufl2, fr_ufr, fr_ufr1, fr_ufr2, ai_sa, ai_sa1, ab_sab, ab_sab1, ar_sar, ar_sar1, upf_eq, upf_ne, fi_ufb, fi_ufl, fi_ufr, fi_sa, fi_sab, fi_sar, fb_ufi, fb_ufl, fb_ufr, fb_sa, fb_sab, fb_sar, fl_ufi, fl_ufb, fl_ufr, fl_sa, fl_sab, fl_sar, fr_ufi, fr_ufb, fr_ufl, fr_sa, fr_sab, fr_sar, ai_ufi, ai_ufb, ai_ufl, ai_ufr, ai_sab, ai_sar, ab_ufi, ab_ufb, ab_ufl, ab_ufr, ab_sa, ab_sar, ar_ufi, ar_ufb, ar_ufl, ar_ufr, ar_sa, ar_sab, sa_sa, sab_sab, sar_sar, upf_upf, ufi_ufi, tnN, inbN, addN, subN, mulN, decN, divN, remN, n2_lt, n2_le, n2_gt, n2_ge, n2_eq, n2_ne, n0_lt, n0_ge, n0_gt, n0_le, n0_eq, n0_ne, m2_eq, m2_ne, m2_eqq, m2_neq, m0_lt, m0_ge, m0_eq, m0_ne, m2_eqN, m2_neN, wi_N, wi_P, wi_NN, inN_N, li_wi, Nat.reduceAdd, Nat.reduceSub, Nat.reduceMul, Nat.reduceDiv, Nat.reduceMod, Nat.reduceLT, Nat.reduceLeDiff, Nat.reduceEqDiff, decide_true, decide_false, Nat.add_zero, Nat.zero_add, Nat.mul_one, Nat.one_mul, Nat.mul_zero, Nat.zero_mul, n0_gts, Prod.mk.injEq, modN, decide_eq_true_eq, decide_eq_false_iff_not, Bool.and_eq_true, Bool.or_eq_true, Bool.not_eq_true', Bool.not_eq_false', Bool.not_eq_true, Bool.not_eq_false, Bool.not_not, Bool.not_true, Bool.not_false, Bool.true_eq_false, Bool.false_eq_true, true_and, and_true, false_and, and_false, true_implies, false_implies, implies_true, not_true_eq_false, not_false_eq_true, ne_eq, Bool.and_eq_false_imp, Bool.or_eq_false_iff, eq_self, or_false, false_or, or_true, true_or, e11, e12]
  refine wp_tally3 (sfi SC FF) s2 _ fun g h q1 q2 => ?_
  try simp (disch := omega) only [q_0, q_1, q_2, q_3, q_4, q_5, q_6, q_7, q_8, q_9, q_10, q_11, q_12, q_15, q_16, q_20, q_21, q_25, q_30, q_31, q_32, q_40, q_44, q_48, q_50, q_57, q_59, q_60, q_64, q_81, q_97, q_98, q_99, q_100, q_101, q_102, q_103, q_104, q_105, q_107, q_108, q_110, q_111, q_114, q_115, q_116, q_119, q_120, q_121, q_122, q_136, q_160, q_200, q_255, q_300, q_400, q_401, q_402, q_460, q_479, q_480, q_920, q_999, q_1000, q_1023, q_1024, q_4020, q_9999, q_99999, q_1000000, q_1000000000, q_100001, q_100002, q_100003, q_100004, q_400000, nn_1, r_0, r_1, r_2, r_3, r_4, r_6, r_7, r_8, r_9, r_10, r_11, r_21, r_40, r_48, r_57, r_60, r_97, r_122, r_200, r_300, r_479, r_920, r_9999, r_99999, r_m1, rd_pu, rd_gI, rd_gB, rd_gL, rd_gQ, rd_rI, rd_rB, rd_rQ, rd_rK, rd_dq, rd_cq, rd_div, rd_rem, rd_mb, rd_mif, rd_within, rd_in, Bool.true_and, Bool.and_true, Bool.cond_self, Bool.cond_false_right, Bool.cond_true_left, cond_true, cond_false, rd_sAt, wp_rd, wp_mb, wp_mif, wp_sI, wp_sB, wp_sL, wp_sQ, wp_wI, wp_wB, wp_wQ, orR_l, orR_r, orE_l, orE_r, sK_l, sK_r, sK_c, cond_tr, fi_ufi, fi_ufi1, fi_ufi2, fb_ufb, fb_ufb1, fb_ufb2, fl_ufl, fl_ufl1, fl_ufl2, fr_ufr, fr_ufr1, fr_ufr2, ai_sa, ai_sa1, ab_sab, ab_sab1, ar_sar, ar_sar1, upf_eq, upf_ne, fi_ufb, fi_ufl, fi_ufr, fi_sa, fi_sab, fi_sar, fb_ufi, fb_ufl, fb_ufr, fb_sa, fb_sab, fb_sar, fl_ufi, fl_ufb, fl_ufr, fl_sa, fl_sab, fl_sar, fr_ufi, fr_ufb, fr_ufl, fr_sa, fr_sab, fr_sar, ai_ufi, ai_ufb, ai_ufl, ai_ufr, ai_sab, ai_sar, ab_ufi, ab_ufb, ab_ufl, ab_ufr, ab_sa, ab_sar, ar_ufi, ar_ufb, ar_ufl, ar_ufr, ar_sa, ar_sab, sa_sa, sab_sab, sar_sar, upf_upf, ufi_ufi, tnN, inbN, addN, subN, mulN, decN, divN, remN, n2_lt, n2_le, n2_gt, n2_ge, n2_eq, n2_ne, n0_lt, n0_ge, n0_gt, n0_le, n0_eq, n0_ne, m2_eq, m2_ne, m2_eqq, m2_neq, m0_lt, m0_ge, m0_eq, m0_ne, m2_eqN, m2_neN, wi_N, wi_P, wi_NN, inN_N, li_wi, Nat.reduceAdd, Nat.reduceSub, Nat.reduceMul, Nat.reduceDiv, Nat.reduceMod, Nat.reduceLT, Nat.reduceLeDiff, Nat.reduceEqDiff, decide_true, decide_false, Nat.add_zero, Nat.zero_add, Nat.mul_one, Nat.one_mul, Nat.mul_zero, Nat.zero_mul, n0_gts, Prod.mk.injEq, modN, decide_eq_true_eq, decide_eq_false_iff_not, Bool.and_eq_true, Bool.or_eq_true, Bool.not_eq_true', Bool.not_eq_false', Bool.not_eq_true, Bool.not_eq_false, Bool.not_not, Bool.not_true, Bool.not_false, Bool.true_eq_false, Bool.false_eq_true, true_and, and_true, false_and, and_false, true_implies, false_implies, implies_true, not_true_eq_false, not_false_eq_true, ne_eq, Bool.and_eq_false_imp, Bool.or_eq_false_iff, eq_self, or_false, false_or, or_true, true_or]
  -- the reference
  unfold MO_count5
  have ref : WP (mb (lp FU MO_count5_l1 (Int32.ofNat 0)) fun _ => lp FU (MO_count5_l2 (Int32.ofNat m)) (Int32.ofNat 0)) SR fun _ R1 => ∃ g b, R1 = C5 SR g b ∧ (∀ c, c < nc → g c = Int32.ofNat (wD D du 5 c)) ∧ (∀ w, w < 20 → (b w = true ↔ WTp nc du fp w)) := by
    refine rm_count5a H' hS ⟨y1, y2, y3, y4, y5, y6⟩ hm hmo hfp fun g b x1 x2 => ⟨g, b, rfl, ?_, ?_⟩
    · rw [hdu] at x1; exact x1
    · rw [hdu] at x2; exact x2
  rw [wp_mb] at ref
  try simp (disch := omega) only [q_0, q_1, q_2, q_3, q_4, q_5, q_6, q_7, q_8, q_9, q_10, q_11, q_12, q_15, q_16, q_20, q_21, q_25, q_30, q_31, q_32, q_40, q_44, q_48, q_50, q_57, q_59, q_60, q_64, q_81, q_97, q_98, q_99, q_100, q_101, q_102, q_103, q_104, q_105, q_107, q_108, q_110, q_111, q_114, q_115, q_116, q_119, q_120, q_121, q_122, q_136, q_160, q_200, q_255, q_300, q_400, q_401, q_402, q_460, q_479, q_480, q_920, q_999, q_1000, q_1023, q_1024, q_4020, q_9999, q_99999, q_1000000, q_1000000000, q_100001, q_100002, q_100003, q_100004, q_400000, nn_1, r_0, r_1, r_2, r_3, r_4, r_6, r_7, r_8, r_9, r_10, r_11, r_21, r_40, r_48, r_57, r_60, r_97, r_122, r_200, r_300, r_479, r_920, r_9999, r_99999, r_m1, rd_pu, rd_gI, rd_gB, rd_gL, rd_gQ, rd_rI, rd_rB, rd_rQ, rd_rK, rd_dq, rd_cq, rd_div, rd_rem, rd_mb, rd_mif, rd_within, rd_in, Bool.true_and, Bool.and_true, Bool.cond_self, Bool.cond_false_right, Bool.cond_true_left, cond_true, cond_false, rd_sAt, wp_rd, wp_mb, wp_mif, wp_sI, wp_sB, wp_sL, wp_sQ, wp_wI, wp_wB, wp_wQ, orR_l, orR_r, orE_l, orE_r, sK_l, sK_r, sK_c, cond_tr, fi_ufi, fi_ufi1, fi_ufi2, fb_ufb, fb_ufb1, fb_ufb2, fl_ufl, fl_ufl1, fl_ufl2, fr_ufr, fr_ufr1, fr_ufr2, ai_sa, ai_sa1, ab_sab, ab_sab1, ar_sar, ar_sar1, upf_eq, upf_ne, fi_ufb, fi_ufl, fi_ufr, fi_sa, fi_sab, fi_sar, fb_ufi, fb_ufl, fb_ufr, fb_sa, fb_sab, fb_sar, fl_ufi, fl_ufb, fl_ufr, fl_sa, fl_sab, fl_sar, fr_ufi, fr_ufb, fr_ufl, fr_sa, fr_sab, fr_sar, ai_ufi, ai_ufb, ai_ufl, ai_ufr, ai_sab, ai_sar, ab_ufi, ab_ufb, ab_ufl, ab_ufr, ab_sa, ab_sar, ar_ufi, ar_ufb, ar_ufl, ar_ufr, ar_sa, ar_sab, sa_sa, sab_sab, sar_sar, upf_upf, ufi_ufi, tnN, inbN, addN, subN, mulN, decN, divN, remN, n2_lt, n2_le, n2_gt, n2_ge, n2_eq, n2_ne, n0_lt, n0_ge, n0_gt, n0_le, n0_eq, n0_ne, m2_eq, m2_ne, m2_eqq, m2_neq, m0_lt, m0_ge, m0_eq, m0_ne, m2_eqN, m2_neN, wi_N, wi_P, wi_NN, inN_N, li_wi, Nat.reduceAdd, Nat.reduceSub, Nat.reduceMul, Nat.reduceDiv, Nat.reduceMod, Nat.reduceLT, Nat.reduceLeDiff, Nat.reduceEqDiff, decide_true, decide_false, Nat.add_zero, Nat.zero_add, Nat.mul_one, Nat.one_mul, Nat.mul_zero, Nat.zero_mul, n0_gts, Prod.mk.injEq, modN, decide_eq_true_eq, decide_eq_false_iff_not, Bool.and_eq_true, Bool.or_eq_true, Bool.not_eq_true', Bool.not_eq_false', Bool.not_eq_true, Bool.not_eq_false, Bool.not_not, Bool.not_true, Bool.not_false, Bool.true_eq_false, Bool.false_eq_true, true_and, and_true, false_and, and_false, true_implies, false_implies, implies_true, not_true_eq_false, not_false_eq_true, ne_eq, Bool.and_eq_false_imp, Bool.or_eq_false_iff, eq_self, or_false, false_or, or_true, true_or]
  refine ref.mono fun _ T1 h2 => ?_
  refine h2.mono fun _ T2 h3 => ?_
  obtain ⟨g', b, rfl, x1, x2⟩ := h3
  refine rm_count5b (SR := C5 SR g' b) (n := n) (nw := nw) (na := na) (hd := hd) (D := D) (ks := ks) (W := W) (K := K) (F := F) (T := T) (m := m) hw0 hw1 hwn g3 (by rw [C5_ax _ _ _ (by decide)]; exact r2) (fun w c hw h => ?_) (by rw [C5_ax _ _ _ (by decide), C5_ax _ _ _ (by decide), C5_ax _ _ _ (by decide), C5_ax _ _ _ (by decide)]; exact y3) y4 hm fun gi hi z1 z2 z3 => ?_
  · have hc := (hH1 w c hw h).2.1
    rw [C5_ax _ _ _ (by decide)]
    exact ⟨(hK c hc).1, (r3 c hc).1⟩
  rw [C5_ab, C5_ax _ _ _ (by decide)] at z1
  rw [C5_ax _ _ _ (by decide)] at z2
  rw [C5_ax _ _ _ (by decide), C5_ax _ _ _ (by decide)] at z3
  have hFC : FtC t SC (sa (sa (sfi SC FF) (t + 2) g) (t + 3) h) := ⟨fun a b h => f2 a b (by omega), rfl, rfl, fun a h1 h2 => by rw [ai_sa1 _ _ _ _ h2, ai_sa1 _ _ _ _ h1]; rfl, fun k c b h1 h2 h3 h4 => by
    rw [c1, ofN_inj (by omega) (by omega)] at h1
    exact f2 _ b (Or.inr (Or.inr (by omega)))⟩
  have hFR : FtR SR (sa (sa (C5 SR g' b) 167 gi) 168 hi) := ⟨rfl, rfl, fun a h => by
    show ab (C5 SR g' b) a = _
    unfold C5
    exact ab_sab1 _ _ _ _ h, fun a h1 h2 h3 => by rw [ai_sa1 _ _ _ _ h3, ai_sa1 _ _ _ _ h2, C5_ax _ _ _ h1]⟩
  have ac2 : ai (sa (sa (sfi SC FF) (t + 2) g) (t + 3) h) (t + 2) = g := by rw [ai_sa1 _ _ _ _ (by omega), ai_sa]
  have ac3 : ai (sa (sa (sfi SC FF) (t + 2) g) (t + 3) h) (t + 3) = h := by rw [ai_sa]
  have ar7 : ai (sa (sa (C5 SR g' b) 167 gi) 168 hi) 167 = gi := by rw [ai_sa1 _ _ _ _ (by decide), ai_sa]
  have ar8 : ai (sa (sa (C5 SR g' b) 167 gi) 168 hi) 168 = hi := by rw [ai_sa]
  refine hQ _ _ du (DD_wait H' hD5 hFC hFR (fun c hc => f1 c hc) (fun c hc => ?_)) hFC hFR ⟨fun w hw => ?_, fun x hx hno => ?_, fun w hw => ?_⟩
  · rw [ai_sa1 _ _ _ _ (by decide), ai_sa1 _ _ _ _ (by decide), C5_a]; exact x1 c hc
  · have hfw := hf.1 w hw
    rw [ac2, ac3, ar7, ar8]
    refine ⟨_, _, q1 _ hfw, ?_, q2 _ hfw, ?_⟩
    · rw [z1 w hw]
      congr 2
      have e1 : bt (s &&& fi SC t 11 &&& (fi SC t 12 ^^^ nn)) (f w) = (bt s (f w) && frB hd W K F T ks m w) := by
        rw [Int32.and_assoc, bt_and, hfree w hw]
      rw [e1]
      congr 1
      rw [Bool.eq_iff_iff, x2 w (by omega), Bs_i hf hs hw]
    · rw [z2 w hw]
      congr 2
      rw [Bool.eq_iff_iff, Bs_i hf hs2 hw]
      cases hx : hd w with
      | none => simp
      | some c =>
        have hc := (hH1 w c hw hx).2.1
        simp only [Option.some.injEq, decide_eq_true_eq]
        constructor
        · intro h; exact ⟨c, hc, h, rfl⟩
        · rintro ⟨c', h1, h2, rfl⟩; exact h2
  · rw [ac2, ac3, q1 x hx, q2 x hx]
    have n1 : bt s x = false := by
      cases e : bt s x
      · rfl
      · obtain ⟨w, h1, h2, -⟩ := (hs x (by omega)).1 e
        exact absurd h2 (hno w h1)
    have n2 : bt s2 x = false := by
      cases e : bt s2 x
      · rfl
      · obtain ⟨w, h1, h2, -⟩ := (hs2 x (by omega)).1 e
        exact absurd h2 (hno w h1)
    rw [Int32.and_assoc, bt_and, n1, n2, Bool.false_and]
    exact ⟨add_0r _, add_0r _⟩
  · rw [ar7, ar8]; exact z3 w hw
end
