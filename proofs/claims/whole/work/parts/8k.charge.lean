/-! what a call owes: both sides -/
def LkC (S S' : Sg) : Prop := (∀ a b, a ≠ 24 → fi S' a b = fi S a b) ∧ fb S' = fb S ∧ (∀ a, a ≠ 25 ∧ a ≠ 26 → ai S' a = ai S a) ∧ ab S' = ab S
def LkR (S S' : Sg) : Prop := (∀ a b, (a ≠ 127 ∨ (b ≠ 34 ∧ b ≠ 36 ∧ b ≠ 37)) → fi S' a b = fi S a b) ∧ fb S' = fb S ∧ (∀ a, a ≠ 148 ∧ a ≠ 149 → ai S' a = ai S a) ∧ ∀ a, a ≠ 147 → ab S' a = ab S a
theorem LkC.rfl' {S : Sg} : LkC S S := ⟨fun _ _ _ => rfl, rfl, fun _ _ => rfl, rfl⟩
theorem LkR.rfl' {S : Sg} : LkR S S := ⟨fun _ _ _ => rfl, rfl, fun _ _ => rfl, fun _ _ => rfl⟩
theorem LkC.tr {S S1 S2 : Sg} (h : LkC S S1) (g : LkC S1 S2) : LkC S S2 := ⟨fun a b h1 => by rw [g.1 a b h1, h.1 a b h1], by rw [g.2.1, h.2.1], fun a h1 => by rw [g.2.2.1 a h1, h.2.2.1 a h1], by rw [g.2.2.2, h.2.2.2]⟩
theorem LkR.tr {S S1 S2 : Sg} (h : LkR S S1) (g : LkR S1 S2) : LkR S S2 := ⟨fun a b h1 => by rw [g.1 a b h1, h.1 a b h1], by rw [g.2.1, h.2.1], fun a h1 => by rw [g.2.2.1 a h1, h.2.2.1 a h1], fun a h1 => by rw [g.2.2.2 a h1, h.2.2.2 a h1]⟩
theorem LkC_RC (S : Sg) (q c25 c26 : Nat → Int32) : LkC S (RC S q c25 c26) := ⟨fun a b h => RC_fx (h := h) .., rfl, fun a h => RC_ax (h := h) .., rfl⟩
theorem LkR_RM (S : Sg) (b : Nat → Bool) (r8 r9 : Nat → Int32) (x y z : Int32) : LkR S (RM S b r8 r9 x y z) := by
  refine ⟨fun a k h => ?_, rfl, fun a h => RM_ax (h := h) .., fun a h => ?_⟩
  · by_cases e : a = 127
    · subst e
      exact RM_fx (h := by omega) ..
    · exact RM_fa (h := e) ..
  · unfold RM
    show ab (sab S 147 b) a = _
    exact ab_sab1 _ _ _ _ h
theorem mul_1r (x : Int32) : x * Int32.ofNat 1 = x := Int32.mul_one x
section
variable {t : Nat} {f : Nat → Nat} {n : Nat} {A B M : Nat → Nat} {nc nR mx : Nat} {E D : Nat → Nat → Nat} {hd : Nat → Option Nat} {SC SR : Sg} {no : Nat} {mi cl kd : Nat → Nat}
theorem DD_lk (H : DD t f n M nc nR mx E D hd SC SR) (ht : t = 29 ∨ t = 80) {SC' SR' : Sg} (hC : LkC SC SC') (hR : LkR SR SR') : DD t f n M nc nR mx E D hd SC' SR' := DD_cg H (hC.1 _ _ (by omega)) (hC.1 _ _ (by omega)) (fun c b h1 h2 h3 => hC.1 _ _ (by omega)) (hR.1 _ _ (Or.inr (by decide))) fun a h1 h2 => hR.2.2.1 _ (by omega)
theorem SS_lk (hn : nR ≤ 40) (H : SS t nc nR E SC SR) (ht : t = 29 ∨ t = 80) {SC' SR' : Sg} (hC : LkC SC SC') (hR : LkR SR SR') : SS t nc nR E SC' SR' := SS_mn hn H ⟨fun a b h1 h2 _ => hC.1 a b h2, fun b _ _ _ _ _ => hC.1 t b (by omega), fun c b _ _ => hC.1 _ b (by omega), hC.2.1, fun a _ _ _ h4 h5 => hC.2.2.1 a ⟨h4, h5⟩, hC.2.2.2⟩ ⟨fun a b h => hR.1 a b (Or.inl h), fun b _ _ h1 h2 h3 _ => hR.1 127 b (Or.inr ⟨h1, h2, h3⟩), fun a b _ => by rw [hR.2.1], fun a h => hR.2.2.1 a (by omega), fun a h _ => hR.2.2.2 a h⟩
theorem ODs_lk (H : ODs no mi cl kd SC SR) {SC' SR' : Sg} (hC : LkC SC SC') (hR : LkR SR SR') : ODs no mi cl kd SC' SR' := ODs_cg H (hC.1 _ _ (by decide)) (hR.1 _ _ (Or.inr (by decide))) (fun a h1 h2 => hC.2.2.1 a (by omega)) fun a h1 h2 => hR.2.2.1 a (by omega)
theorem R_charge (ht : t = 29 ∨ t = 80) (H : DD t f n M nc nR mx E D hd SC SR) (hmx : mx ≤ 480) (hS : SS t nc nR E SC SR) (HN : NetM n A B M (ai SR 128) (ai SR 129) (ai SR 130)) (hO : ODs no mi cl kd SC SR) (hCI : CIr no mi cl kd (ai SC 21) (ai SC 22) (fi SC 24) (ai SC 25) (ai SC 26)) (hwo : fi SR 127 24 = fi SC t 13) {c : Nat} (hc : c < nc) {Q : Int32 → Sg → Int32 → Sg → Prop}
    (hQ : ∀ r SC' SR', LkC SC SC' → LkR SR SR' → CIr no mi cl kd (ai SC' 21) (ai SC' 22) (fi SC' 24) (ai SC' 25) (ai SC' 26) → Q r SC' r SR') : W2 (Day_chargeOf t (t + 6 + c)) SC (MO_chargeFor (Int32.ofNat c)) SR Q := by
  have H0' := H
  obtain ⟨⟨g1, g2, g3, hf⟩, ⟨c1, c2, c3⟩, ⟨r1, r2, r3, r4⟩, hK, h6s, -⟩ := H
  have hc40 : c < 40 := by omega
  obtain ⟨d1, d2, d3, d4, d5, d6, d7, d8⟩ := c3 c hc
  obtain ⟨e1, e2, e3, e4, e5, e6, e7⟩ := r3 c hc
  obtain ⟨k1, k2, k3, k4, k5, k6, k7, k8, k9, k10⟩ := hK c hc
  obtain ⟨s1, s2, s3, s4, s5, s6, s7, ⟨b1, b2, b3, b4, b5, b6⟩, s8⟩ := hS c (by omega)
  obtain ⟨a1, a2, a3, a4, a5, a6⟩ := s8 hc
  unfold W2 Day_chargeOf MO_chargeFor
  by_cases hno : D 0 c ≠ 3 ∧ D 0 c ≠ 4
  · obtain ⟨n3, n4⟩ := hno
    simp (disch := omega) only [q_0, q_1, q_2, q_3, q_4, q_5, q_6, q_7, q_8, q_9, q_10, q_11, q_12, q_15, q_16, q_20, q_21, q_25, q_30, q_31, q_32, q_40, q_44, q_48, q_50, q_57, q_59, q_60, q_64, q_81, q_97, q_98, q_99, q_100, q_101, q_102, q_103, q_104, q_105, q_107, q_108, q_110, q_111, q_114, q_115, q_116, q_119, q_120, q_121, q_122, q_136, q_160, q_200, q_255, q_300, q_400, q_401, q_402, q_460, q_479, q_480, q_920, q_999, q_1000, q_1023, q_1024, q_7260, q_9999, q_99999, q_1000000, q_1000000000, q_100001, q_100002, q_100003, q_100004, q_400000, nn_1, r_0, r_1, r_2, r_3, r_4, r_6, r_7, r_8, r_9, r_10, r_11, r_21, r_40, r_48, r_57, r_60, r_97, r_122, r_200, r_300, r_479, r_920, r_9999, r_99999, r_m1, rd_pu, rd_gI, rd_gB, rd_gL, rd_gQ, rd_rI, rd_rB, rd_rQ, rd_rK, rd_dq, rd_cq, rd_div, rd_rem, rd_mb, rd_mif, rd_within, rd_in, Bool.true_and, Bool.and_true, Bool.cond_self, Bool.cond_false_right, Bool.cond_true_left, cond_true, cond_false, rd_sAt, wp_rd, wp_mb, wp_mif, wp_sI, wp_sB, wp_sL, wp_sQ, wp_wI, wp_wB, wp_wQ, orR_l, orR_r, orE_l, orE_r, sK_l, sK_r, sK_c, cond_tr, fi_ufi, fi_ufi1, fi_ufi2, fb_ufb, fb_ufb1, fb_ufb2, fl_ufl, fl_ufl1, fl_ufl2, fr_ufr, fr_ufr1, fr_ufr2, ai_sa, ai_sa1, ab_sab, ab_sab1, ar_sar, ar_sar1, upf_eq, upf_ne, fi_ufb, fi_ufl, fi_ufr, fi_sa, fi_sab, fi_sar, fb_ufi, fb_ufl, fb_ufr, fb_sa, fb_sab, fb_sar, fl_ufi, fl_ufb, fl_ufr, fl_sa, fl_sab, fl_sar, fr_ufi, fr_ufb, fr_ufl, fr_sa, fr_sab, fr_sar, ai_ufi, ai_ufb, ai_ufl, ai_ufr, ai_sab, ai_sar, ab_ufi, ab_ufb, ab_ufl, ab_ufr, ab_sa, ab_sar, ar_ufi, ar_ufb, ar_ufl, ar_ufr, ar_sa, ar_sab, sa_sa, sab_sab, sar_sar, upf_upf, ufi_ufi, tnN, inbN, addN, subN, mulN, decN, divN, remN, n2_lt, n2_le, n2_gt, n2_ge, n2_eq, n2_ne, n0_lt, n0_ge, n0_gt, n0_le, n0_eq, n0_ne, m2_eq, m2_ne, m2_eqq, m2_neq, m0_lt, m0_ge, m0_eq, m0_ne, m2_eqN, m2_neN, wi_N, wi_P, wi_NN, inN_N, li_wi, Nat.reduceAdd, Nat.reduceSub, Nat.reduceMul, Nat.reduceDiv, Nat.reduceMod, Nat.reduceLT, Nat.reduceLeDiff, Nat.reduceEqDiff, decide_true, decide_false, Nat.add_zero, Nat.zero_add, Nat.mul_one, Nat.one_mul, Nat.mul_zero, Nat.zero_mul, n0_gts, Prod.mk.injEq, modN, decide_eq_true_eq, decide_eq_false_iff_not, Bool.and_eq_true, Bool.or_eq_true, Bool.not_eq_true', Bool.not_eq_false', Bool.not_eq_true, Bool.not_eq_false, Bool.not_not, Bool.not_true, Bool.not_false, Bool.true_eq_false, Bool.false_eq_true, true_and, and_true, false_and, and_false, true_implies, false_implies, implies_true, not_true_eq_false, not_false_eq_true, ne_eq, Bool.and_eq_false_imp, Bool.or_eq_false_iff, eq_self, or_false, false_or, or_true, true_or, hc40, d1, e1, n3, n4]
    exact hQ _ SC SR LkC.rfl' LkR.rfl' hCI
  obtain ⟨p1, p2, p3, p4⟩ := k5 (by omega)
  have hW : WF n M (D 1 c) := by
    rcases k2 with h | h
    · exact absurd h p1
    · exact h
  obtain ⟨w1, w2, w3, w4, w5, w6⟩ := WF_b hW g3
  obtain ⟨v1, v2, v3, v4, v5⟩ := WF_f hW g3 hf
  rw [if_neg p1] at d5
  have d2' : fi SC (t + 6 + c) 10 = Int32.ofNat (D 3 c - 1) := by rw [d2, dn, if_neg (by omega)]
  have e2' : ai SR 159 c = Int32.ofNat (D 3 c - 1) := by rw [e2, dn, if_neg (by omega)]
  have hb480 : D 3 c - 1 < 480 := by omega
  obtain ⟨v1', T1, x1, v2', T2, x2, hh⟩ := R_look hO hCI hb480 (w := fi SC t 13) hwo (Q := fun _ T1 _ T2 => ∃ q c25 c26 b f r9 y z set, CIr no mi cl kd (ai SC 21) (ai SC 22) q c25 c26 ∧ RuA no mi cl kd (ai SC 21) (ai SC 22) set q c25 c26 ∧ (∀ i, i < (luS no mi cl kd (ai SC 21) set).1 → f i = Int32.ofNat ((luS no mi cl kd (ai SC 21) set).2 i)) ∧ RmH (hoS no mi cl kd (ai SC 21) (ai SC 22) set) y z r9 ∧ T1 = RC SC q c25 c26 ∧ T2 = RM SR b f r9 (Int32.ofNat (luS no mi cl kd (ai SC 21) set).1) y z)
    (fun q c25 c26 b f r9 y z set a1 a2 a3 a4 => ⟨q, c25, c26, b, f, r9, y, z, set, a1, a2, a3, a4, rfl, rfl⟩)
  obtain ⟨q, c25, c26, b, rf, r9, y, z, set, hC', ⟨hq3, hc25, hH⟩, hrf, hX, rfl, rfl⟩ := hh
  have HM := ODs_RM (ODs_RC hO q c25 c26) b rf r9 (Int32.ofNat (luS no mi cl kd (ai SC 21) set).1) y z
  have hRow := luS_ROW (no := no) (mi := mi) (cl := cl) (kd := kd) set (ai SC 21)
  have e21 : ai (RC SC q c25 c26) 21 = ai SC 21 := RC_ax _ _ _ _ _ (by omega)
  have e22 : ai (RC SC q c25 c26) 22 = ai SC 22 := RC_ax _ _ _ _ _ (by omega)
  have e23 : ai (RC SC q c25 c26) 23 = ai SC 23 := RC_ax _ _ _ _ _ (by omega)
  have cf := fun m Q => wp_coinFor HM hRow (by rw [RC_f]; exact hq3) (fun i hi => by rw [RC_a5]; exact hc25 i hi) m Q
  have co := fun m Q => wp_mchargeOf HM hRow (by rw [RM_f34]) (fun i hi => by rw [RM_a8]; exact hrf i hi) m Q
  have nf := fun m Q => wp_nightAt HM hRow (by rw [RC_f]; exact hq3) (fun i hi => by rw [RC_a5]; exact hc25 i hi) m Q
  have nn' := fun m Q => wp_nightOf HM hRow (by rw [RM_f34]) (fun i hi => by rw [RM_a8]; exact hrf i hi) m Q
  have LC := LkC_RC SC q c25 c26
  have LR := LkR_RM SR b rf r9 (Int32.ofNat (luS no mi cl kd (ai SC 21) set).1) y z
  have hDD := DD_lk H0' ht LC LR
  have hmil := fun Q => rm_milesOf (A := A) (B := B) hDD (by rw [LR.2.2.1 _ (by decide), LR.2.2.1 _ (by decide), LR.2.2.1 _ (by decide)]; exact HN) hc (Or.inl (by omega)) Q
  obtain ⟨y1, y2, y3, y4, y5, y6, mm, y7, y8, y9⟩ := hH
  obtain ⟨z1, z2, z3, z4, z5, z6, z7⟩ := hX
  have q6 : fi (RC SC q c25 c26) 24 6 = (hoS no mi cl kd (ai SC 21) (ai SC 22) set).1 3 := by rw [RC_f]; exact y3
  have q8 : fi (RC SC q c25 c26) 24 8 = (hoS no mi cl kd (ai SC 21) (ai SC 22) set).1 7 := by rw [RC_f]; exact y5
  have q6' : ai (RM SR b rf r9 (Int32.ofNat (luS no mi cl kd (ai SC 21) set).1) y z) 149 3 = (hoS no mi cl kd (ai SC 21) (ai SC 22) set).1 3 := by rw [RM_a9]; exact z3
  have q8' : ai (RM SR b rf r9 (Int32.ofNat (luS no mi cl kd (ai SC 21) set).1) y z) 149 7 = (hoS no mi cl kd (ai SC 21) (ai SC 22) set).1 7 := by rw [RM_a9]; exact z5
  generalize (hoS no mi cl kd (ai SC 21) (ai SC 22) set).1 3 = gr at *
  generalize (hoS no mi cl kd (ai SC 21) (ai SC 22) set).1 7 = bk at *
  have hCI' : CIr no mi cl kd (ai (RC SC q c25 c26) 21) (ai (RC SC q c25 c26) 22) (fi (RC SC q c25 c26) 24) (ai (RC SC q c25 c26) 25) (ai (RC SC q c25 c26) 26) := by
    have : fi (RC SC q c25 c26) 24 = q := funext fun k => RC_f ..
    rw [e21, e22, this, RC_a5, RC_a6]
    exact hC'
  rw [e21, e22] at cf co
  rw [e21, e22, e23] at nf nn'
  have fin := fun r => hQ r _ _ LC LR hCI'
  have fC : ∀ x, fi (RC SC q c25 c26) (t + 6 + c) x = fi SC (t + 6 + c) x := fun x => LC.1 _ _ (by omega)
  have fR : ∀ a x, a ≠ 148 ∧ a ≠ 149 → ai (RM SR b rf r9 (Int32.ofNat (luS no mi cl kd (ai SC 21) set).1) y z) a x = ai SR a x := fun a x h => by rw [LR.2.2.1 a h]
  generalize RC SC q c25 c26 = TC at *
  generalize RM SR b rf r9 (Int32.ofNat (luS no mi cl kd (ai SC 21) set).1) y z = TR at *
  have e1' := fun (Q : Unit → Sg → Prop) => WP.of_eq (Q := Q) x1
  have e2'' := fun (Q : Unit → Sg → Prop) => WP.of_eq (Q := Q) x2
  have f58 := fR 158 c (by decide)
  have f59 := fR 159 c (by decide)
  have f52 := fR 152 c (by decide)
  have f60 := fR 160 c (by decide)
  have f53 := fR 153 c (by decide)
  have f54 := fR 154 c (by decide)
  rw [e1] at f58
  rw [e2'] at f59
  rw [b3] at f52
  rw [b4] at f53
  rw [b5] at f54
  rw [e3 (Or.inl (by omega))] at f60
  have h9 := fC 9
  have h10 := fC 10
  have h2 := fC 2
  have h11 := fC 11
  have h3 := fC 3
  have h4 := fC 4
  have h13 := fC 13
  rw [d1] at h9
  rw [d2'] at h10
  rw [a3] at h2
  rw [d3 (Or.inl (by omega))] at h11
  rw [a4] at h3
  rw [a5] at h4
  rw [d5] at h13
  have hmw := rd_milesOf (q := fq f (D 1 c)) (by omega)
  rw [v4] at hmw
  by_cases st4 : D 0 c = 4
  · have o34 := k8 (Or.inr st4)
    have h11' : fi TC (t + 6 + c) 11 = Int32.ofNat (D 4 c - 1) := by rw [h11, dn, if_neg (by omega)]
    have f60' : ai TR 160 c = Int32.ofNat (D 4 c - 1) := by rw [f60, dn, if_neg (by omega)]
    unfold Call_minutesTalked
    rcases (by omega : E 3 c = 0 ∨ E 3 c = 1 ∨ E 3 c = 2) with k | k | k
    · simp (disch := omega) only [q_0, q_1, q_2, q_3, q_4, q_5, q_6, q_7, q_8, q_9, q_10, q_11, q_12, q_15, q_16, q_20, q_21, q_25, q_30, q_31, q_32, q_40, q_44, q_48, q_50, q_57, q_59, q_60, q_64, q_81, q_97, q_98, q_99, q_100, q_101, q_102, q_103, q_104, q_105, q_107, q_108, q_110, q_111, q_114, q_115, q_116, q_119, q_120, q_121, q_122, q_136, q_160, q_200, q_255, q_300, q_400, q_401, q_402, q_460, q_479, q_480, q_920, q_999, q_1000, q_1023, q_1024, q_7260, q_9999, q_99999, q_1000000, q_1000000000, q_100001, q_100002, q_100003, q_100004, q_400000, nn_1, r_0, r_1, r_2, r_3, r_4, r_6, r_7, r_8, r_9, r_10, r_11, r_21, r_40, r_48, r_57, r_60, r_97, r_122, r_200, r_300, r_479, r_920, r_9999, r_99999, r_m1, rd_pu, rd_gI, rd_gB, rd_gL, rd_gQ, rd_rI, rd_rB, rd_rQ, rd_rK, rd_dq, rd_cq, rd_div, rd_rem, rd_mb, rd_mif, rd_within, rd_in, Bool.true_and, Bool.and_true, Bool.cond_self, Bool.cond_false_right, Bool.cond_true_left, cond_true, cond_false, rd_sAt, wp_rd, wp_mb, wp_mif, wp_sI, wp_sB, wp_sL, wp_sQ, wp_wI, wp_wB, wp_wQ, orR_l, orR_r, orE_l, orE_r, sK_l, sK_r, sK_c, cond_tr, fi_ufi, fi_ufi1, fi_ufi2, fb_ufb, fb_ufb1, fb_ufb2, fl_ufl, fl_ufl1, fl_ufl2, fr_ufr, fr_ufr1, fr_ufr2, ai_sa, ai_sa1, ab_sab, ab_sab1, ar_sar, ar_sar1, upf_eq, upf_ne, fi_ufb, fi_ufl, fi_ufr, fi_sa, fi_sab, fi_sar, fb_ufi, fb_ufl, fb_ufr, fb_sa, fb_sab, fb_sar, fl_ufi, fl_ufb, fl_ufr, fl_sa, fl_sab, fl_sar, fr_ufi, fr_ufb, fr_ufl, fr_sa, fr_sab, fr_sar, ai_ufi, ai_ufb, ai_ufl, ai_ufr, ai_sab, ai_sar, ab_ufi, ab_ufb, ab_ufl, ab_ufr, ab_sa, ab_sar, ar_ufi, ar_ufb, ar_ufl, ar_ufr, ar_sa, ar_sab, sa_sa, sab_sab, sar_sar, upf_upf, ufi_ufi, tnN, inbN, addN, subN, mulN, decN, divN, remN, n2_lt, n2_le, n2_gt, n2_ge, n2_eq, n2_ne, n0_lt, n0_ge, n0_gt, n0_le, n0_eq, n0_ne, m2_eq, m2_ne, m2_eqq, m2_neq, m0_lt, m0_ge, m0_eq, m0_ne, m2_eqN, m2_neN, wi_N, wi_P, wi_NN, inN_N, li_wi, Nat.reduceAdd, Nat.reduceSub, Nat.reduceMul, Nat.reduceDiv, Nat.reduceMod, Nat.reduceLT, Nat.reduceLeDiff, Nat.reduceEqDiff, decide_true, decide_false, Nat.add_zero, Nat.zero_add, Nat.mul_one, Nat.one_mul, Nat.mul_zero, Nat.zero_mul, n0_gts, Prod.mk.injEq, modN, decide_eq_true_eq, decide_eq_false_iff_not, Bool.and_eq_true, Bool.or_eq_true, Bool.not_eq_true', Bool.not_eq_false', Bool.not_eq_true, Bool.not_eq_false, Bool.not_not, Bool.not_true, Bool.not_false, Bool.true_eq_false, Bool.false_eq_true, true_and, and_true, false_and, and_false, true_implies, false_implies, implies_true, not_true_eq_false, not_false_eq_true, ne_eq, Bool.and_eq_false_imp, Bool.or_eq_false_iff, eq_self, or_false, false_or, or_true, true_or, hc40, d1, e1, st4, d2', e2', e1', e2'', h9, h10, h11', h2, h3, h4, h13, hmw, cf, nf, co, nn', hmil, f58, f59, f52, f60', f53, f54, q6, q8, q6', q8', k, mul_1r]
      simp only [Bool.not_true, Bool.not_false, true_and, and_true, true_implies, false_implies, implies_true]
      exact fin _
    · sorry
    · sorry
  · sorry
end
