/-! a call dropped -/
def xD (D : Nat → Nat → Nat) (c m : Nat) : Nat → Nat → Nat := fun x y => if y = c then (if x = 0 then 5 else if x = 1 ∨ x = 2 then 0 else if x = 4 then m + 1 else D x c) else D x y
theorem xD_ne {D : Nat → Nat → Nat} {c m x y : Nat} (h : y ≠ c) : xD D c m x y = D x y := by unfold xD; rw [if_neg h]
def DS (S : Sg) (t k : Nat) : Sg := ufi (ufi (ufi (LG S t k) k 9 (Int32.ofNat 5)) k 11 (fi S t 6)) k 7 (fi S t 6)
section
variable {S : Sg} {t k : Nat}
theorem DS_x {a b : Nat} (h : a ≠ t ∨ b ≠ 12) (h2 : a ≠ k ∨ (b ≠ 15 ∧ b ≠ 14 ∧ b ≠ 13 ∧ b ≠ 9 ∧ b ≠ 11 ∧ b ≠ 7)) : fi (DS S t k) a b = fi S a b := by
  have e : ∀ (S : Sg) (x : Nat) (v : Int32), (a ≠ k ∨ b ≠ x) → fi (ufi S k x v) a b = fi S a b := fun S x v h => by
    rcases h with h | h
    · exact fi_ufi1 _ _ _ _ _ _ h
    · exact fi_ufi2 _ _ _ _ _ _ h
  unfold DS
  rw [e _ _ _ (by omega), e _ _ _ (by omega), e _ _ _ (by omega), LG_x h (by omega)]
theorem DS_12 (h : k ≠ t) : fi (DS S t k) t 12 = fi S t 12 &&& (fi S k 15 ^^^ nn) := by
  unfold DS
  rw [fi_ufi1 _ _ _ _ _ _ h.symm, fi_ufi1 _ _ _ _ _ _ h.symm, fi_ufi1 _ _ _ _ _ _ h.symm, LG_12 h]
theorem DS_9 : fi (DS S t k) k 9 = Int32.ofNat 5 := by unfold DS; rw [fi_ufi2 _ _ _ _ _ _ (by decide), fi_ufi2 _ _ _ _ _ _ (by decide), fi_ufi]
theorem DS_11 : fi (DS S t k) k 11 = fi S t 6 := by unfold DS; rw [fi_ufi2 _ _ _ _ _ _ (by decide), fi_ufi]
theorem DS_7 : fi (DS S t k) k 7 = fi S t 6 := by unfold DS; rw [fi_ufi]
theorem DS_13 : fi (DS S t k) k 13 = Int32.ofNat 0 := by unfold DS; rw [fi_ufi2 _ _ _ _ _ _ (by decide), fi_ufi2 _ _ _ _ _ _ (by decide), fi_ufi2 _ _ _ _ _ _ (by decide), LG_13]
theorem DS_14 : fi (DS S t k) k 14 = Int32.ofNat 0 := by unfold DS; rw [fi_ufi2 _ _ _ _ _ _ (by decide), fi_ufi2 _ _ _ _ _ _ (by decide), fi_ufi2 _ _ _ _ _ _ (by decide), LG_14]
theorem DS_15 : fi (DS S t k) k 15 = Int32.ofNat 0 := by unfold DS; rw [fi_ufi2 _ _ _ _ _ _ (by decide), fi_ufi2 _ _ _ _ _ _ (by decide), fi_ufi2 _ _ _ _ _ _ (by decide), LG_15]
theorem wp_drop {nc c st : Nat} (hn : nc ≤ 40) (h5 : fi S t 5 = Int32.ofNat nc) (hc : c < nc) (hst : st ≤ 5) (h9 : fi S (t + 6 + c) 9 = Int32.ofNat st) (Q : Bool → Sg → Prop) : WP (Day_drop t (Int32.ofNat c)) S Q ↔ (st ≤ 1 → Q true (DS S t (t + 6 + c))) ∧ (¬ st ≤ 1 → Q false S) := by
  have hc40 : c < 40 := by omega
  have ec : cst (t + 1) c = t + 6 + c := by unfold cst; omega
  have hle : ¬ nc ≤ c := by omega
  have hop := fun Q => wp_isOpen (S := S) (k := t + 6 + c) hst h9 Q
  unfold Day_drop
  by_cases ho : st ≤ 1
  · have e6 : ∀ b, (b = 6 ∨ b = 5) → fi (LG S t (t + 6 + c)) t b = fi S t b := fun b h => LG_x (Or.inr (by omega)) (Or.inl (by omega))
    simp (disch := omega) only [q_0, q_1, q_2, q_3, q_4, q_5, q_6, q_7, q_8, q_9, q_10, q_11, q_12, q_15, q_16, q_20, q_21, q_25, q_30, q_31, q_32, q_40, q_44, q_48, q_50, q_57, q_59, q_60, q_64, q_81, q_97, q_98, q_99, q_100, q_101, q_102, q_103, q_104, q_105, q_107, q_108, q_110, q_111, q_114, q_115, q_116, q_119, q_120, q_121, q_122, q_136, q_160, q_200, q_255, q_300, q_400, q_401, q_402, q_460, q_479, q_480, q_920, q_999, q_1000, q_1023, q_1024, q_4020, q_9999, q_99999, q_1000000, q_1000000000, q_100001, q_100002, q_100003, q_100004, q_400000, nn_1, r_0, r_1, r_2, r_3, r_4, r_6, r_7, r_8, r_9, r_10, r_11, r_21, r_40, r_48, r_57, r_60, r_97, r_122, r_200, r_300, r_479, r_920, r_9999, r_99999, r_m1, rd_pu, rd_gI, rd_gB, rd_gL, rd_gQ, rd_rI, rd_rB, rd_rQ, rd_rK, rd_dq, rd_cq, rd_div, rd_rem, rd_mb, rd_mif, rd_within, rd_in, Bool.true_and, Bool.and_true, Bool.cond_self, Bool.cond_false_right, Bool.cond_true_left, cond_true, cond_false, rd_sAt, wp_rd, wp_mb, wp_mif, wp_sI, wp_sB, wp_sL, wp_sQ, wp_wI, wp_wB, wp_wQ, orR_l, orR_r, orE_l, orE_r, sK_l, sK_r, sK_c, cond_tr, fi_ufi, fi_ufi1, fi_ufi2, fb_ufb, fb_ufb1, fb_ufb2, fl_ufl, fl_ufl1, fl_ufl2, fr_ufr, fr_ufr1, fr_ufr2, ai_sa, ai_sa1, ab_sab, ab_sab1, ar_sar, ar_sar1, upf_eq, upf_ne, fi_ufb, fi_ufl, fi_ufr, fi_sa, fi_sab, fi_sar, fb_ufi, fb_ufl, fb_ufr, fb_sa, fb_sab, fb_sar, fl_ufi, fl_ufb, fl_ufr, fl_sa, fl_sab, fl_sar, fr_ufi, fr_ufb, fr_ufl, fr_sa, fr_sab, fr_sar, ai_ufi, ai_ufb, ai_ufl, ai_ufr, ai_sab, ai_sar, ab_ufi, ab_ufb, ab_ufl, ab_ufr, ab_sa, ab_sar, ar_ufi, ar_ufb, ar_ufl, ar_ufr, ar_sa, ar_sab, sa_sa, sab_sab, sar_sar, upf_upf, ufi_ufi, tnN, inbN, addN, subN, mulN, decN, divN, remN, n2_lt, n2_le, n2_gt, n2_ge, n2_eq, n2_ne, n0_lt, n0_ge, n0_gt, n0_le, n0_eq, n0_ne, m2_eq, m2_ne, m2_eqq, m2_neq, m0_lt, m0_ge, m0_eq, m0_ne, m2_eqN, m2_neN, wi_N, wi_P, wi_NN, inN_N, li_wi, Nat.reduceAdd, Nat.reduceSub, Nat.reduceMul, Nat.reduceDiv, Nat.reduceMod, Nat.reduceLT, Nat.reduceLeDiff, Nat.reduceEqDiff, decide_true, decide_false, Nat.add_zero, Nat.zero_add, Nat.mul_one, Nat.one_mul, Nat.mul_zero, Nat.zero_mul, n0_gts, Prod.mk.injEq, modN, decide_eq_true_eq, decide_eq_false_iff_not, Bool.and_eq_true, Bool.or_eq_true, Bool.not_eq_true', Bool.not_eq_false', Bool.not_eq_true, Bool.not_eq_false, Bool.not_not, Bool.not_true, Bool.not_false, Bool.true_eq_false, Bool.false_eq_true, true_and, and_true, false_and, and_false, true_implies, false_implies, implies_true, not_true_eq_false, not_false_eq_true, ne_eq, Bool.and_eq_false_imp, Bool.or_eq_false_iff, eq_self, or_false, false_or, or_true, true_or, h5, hle, hc40, ec, hop, ho, wp_letGo (show t + 6 + c ≠ t by omega), e6 6 (Or.inl rfl)]
    exact Iff.rfl
  · simp (disch := omega) only [q_0, q_1, q_2, q_3, q_4, q_5, q_6, q_7, q_8, q_9, q_10, q_11, q_12, q_15, q_16, q_20, q_21, q_25, q_30, q_31, q_32, q_40, q_44, q_48, q_50, q_57, q_59, q_60, q_64, q_81, q_97, q_98, q_99, q_100, q_101, q_102, q_103, q_104, q_105, q_107, q_108, q_110, q_111, q_114, q_115, q_116, q_119, q_120, q_121, q_122, q_136, q_160, q_200, q_255, q_300, q_400, q_401, q_402, q_460, q_479, q_480, q_920, q_999, q_1000, q_1023, q_1024, q_4020, q_9999, q_99999, q_1000000, q_1000000000, q_100001, q_100002, q_100003, q_100004, q_400000, nn_1, r_0, r_1, r_2, r_3, r_4, r_6, r_7, r_8, r_9, r_10, r_11, r_21, r_40, r_48, r_57, r_60, r_97, r_122, r_200, r_300, r_479, r_920, r_9999, r_99999, r_m1, rd_pu, rd_gI, rd_gB, rd_gL, rd_gQ, rd_rI, rd_rB, rd_rQ, rd_rK, rd_dq, rd_cq, rd_div, rd_rem, rd_mb, rd_mif, rd_within, rd_in, Bool.true_and, Bool.and_true, Bool.cond_self, Bool.cond_false_right, Bool.cond_true_left, cond_true, cond_false, rd_sAt, wp_rd, wp_mb, wp_mif, wp_sI, wp_sB, wp_sL, wp_sQ, wp_wI, wp_wB, wp_wQ, orR_l, orR_r, orE_l, orE_r, sK_l, sK_r, sK_c, cond_tr, fi_ufi, fi_ufi1, fi_ufi2, fb_ufb, fb_ufb1, fb_ufb2, fl_ufl, fl_ufl1, fl_ufl2, fr_ufr, fr_ufr1, fr_ufr2, ai_sa, ai_sa1, ab_sab, ab_sab1, ar_sar, ar_sar1, upf_eq, upf_ne, fi_ufb, fi_ufl, fi_ufr, fi_sa, fi_sab, fi_sar, fb_ufi, fb_ufl, fb_ufr, fb_sa, fb_sab, fb_sar, fl_ufi, fl_ufb, fl_ufr, fl_sa, fl_sab, fl_sar, fr_ufi, fr_ufb, fr_ufl, fr_sa, fr_sab, fr_sar, ai_ufi, ai_ufb, ai_ufl, ai_ufr, ai_sab, ai_sar, ab_ufi, ab_ufb, ab_ufl, ab_ufr, ab_sa, ab_sar, ar_ufi, ar_ufb, ar_ufl, ar_ufr, ar_sa, ar_sab, sa_sa, sab_sab, sar_sar, upf_upf, ufi_ufi, tnN, inbN, addN, subN, mulN, decN, divN, remN, n2_lt, n2_le, n2_gt, n2_ge, n2_eq, n2_ne, n0_lt, n0_ge, n0_gt, n0_le, n0_eq, n0_ne, m2_eq, m2_ne, m2_eqq, m2_neq, m0_lt, m0_ge, m0_eq, m0_ne, m2_eqN, m2_neN, wi_N, wi_P, wi_NN, inN_N, li_wi, Nat.reduceAdd, Nat.reduceSub, Nat.reduceMul, Nat.reduceDiv, Nat.reduceMod, Nat.reduceLT, Nat.reduceLeDiff, Nat.reduceEqDiff, decide_true, decide_false, Nat.add_zero, Nat.zero_add, Nat.mul_one, Nat.one_mul, Nat.mul_zero, Nat.zero_mul, n0_gts, Prod.mk.injEq, modN, decide_eq_true_eq, decide_eq_false_iff_not, Bool.and_eq_true, Bool.or_eq_true, Bool.not_eq_true', Bool.not_eq_false', Bool.not_eq_true, Bool.not_eq_false, Bool.not_not, Bool.not_true, Bool.not_false, Bool.true_eq_false, Bool.false_eq_true, true_and, and_true, false_and, and_false, true_implies, false_implies, implies_true, not_true_eq_false, not_false_eq_true, ne_eq, Bool.and_eq_false_imp, Bool.or_eq_false_iff, eq_self, or_false, false_or, or_true, true_or, h5, hle, hc40, ec, hop, ho]
end
section
variable {t : Nat} {f : Nat → Nat} {n : Nat} {M : Nat → Nat} {nc nR m : Nat} {E D : Nat → Nat → Nat} {hd : Nat → Option Nat} {SC SR SR' : Sg}
theorem DD_drop (H : DD t f n M nc nR m E D hd SC SR) (h6 : fi SC t 6 = Int32.ofNat m) {d : Nat} (hdc : d < nc) (hst : D 0 d ≤ 1) (r39 : fi SR' 127 39 = fi SR 127 39) (r66 : HDR (clr hd d) (ai SR' 166)) (r58 : ∀ x, ai SR' 158 x = upf (ai SR 158) d (Int32.ofNat 5) x) (r59 : ai SR' 159 = ai SR 159) (r60 : ∀ x, x ≠ d → ai SR' 160 x = ai SR 160 x) (r60' : t = 29 → ai SR' 160 d = Int32.ofNat m) (r61 : ai SR' 161 = ai SR 161) (r62 : ∀ x, x ≠ d → ai SR' 162 x = ai SR 162 x) (r63 : ai SR' 163 = ai SR 163) (r64 : ∀ x, x ≠ d → ai SR' 164 x = ai SR 164 x) (r64' : t = 29 → ai SR' 164 d = Int32.ofNat 0) (r65 : ai SR' 165 = ai SR 165) : DD t f n M nc nR m E (xD D d m) (clr hd d) (DS SC t (t + 6 + d)) SR' := by
  obtain ⟨⟨g1, g2, g3, hf⟩, ⟨c1, c2, c3⟩, ⟨r1, r2, r3, r4⟩, hK, h6s, hH1, hH2⟩ := H
  have hkt : t + 6 + d ≠ t := by omega
  have z0 : xD D d m 0 d = 5 := by simp [xD]
  have z1 : xD D d m 1 d = 0 := by simp [xD]
  have z2 : xD D d m 2 d = 0 := by simp [xD]
  have z3 : xD D d m 3 d = D 3 d := by simp [xD]
  have z4 : xD D d m 4 d = m + 1 := by simp [xD]
  have z5 : xD D d m 5 d = D 5 d := by simp [xD]
  have z6 : xD D d m 6 d = D 6 d := by simp [xD]
  refine ⟨⟨g1, g2, g3, hf⟩, ⟨?_, ?_, fun c hc => ?_⟩, ⟨by rw [r39]; exact r1, r66, fun c hc => ?_, fun c h1 h2 => ?_⟩, fun c hc => ?_, fun c hc => ?_, fun w c hw h => ?_, fun c j hc hs hj => ?_⟩
  · rw [DS_x (Or.inr (by decide)) (Or.inl (by omega))]; exact c1
  · rw [DS_12 hkt]
    refine Bs_cg (Bs_sub hf c2 (c3 d hdc).2.2.2.2.2.2.1) fun w hw => ⟨?_, ?_⟩
    · rintro ⟨⟨c, h1⟩, h2⟩
      exact ⟨c, clr_some.2 ⟨h1, fun e => h2 (by rw [h1, e])⟩⟩
    · rintro ⟨c, h⟩
      obtain ⟨h1, h2⟩ := clr_some.1 h
      exact ⟨⟨c, h1⟩, fun e => h2 (by rw [h1] at e; cases e; rfl)⟩
  · obtain ⟨d1, d2, d3, d4, d5, d6, d7, d8⟩ := c3 c hc
    by_cases e : c = d
    · subst e
      unfold KC
      rw [z0, z1, z2, z3, z4, z5, z6, DS_9, DS_11, DS_13, DS_14, DS_15, DS_x (Or.inl (by omega)) (Or.inr (by decide)), DS_x (Or.inl (by omega)) (Or.inr (by decide)), DS_x (Or.inl (by omega)) (Or.inr (by decide)), h6]
      exact ⟨rfl, d2, fun _ => dn_N m, d4, rfl, rfl, Bs_emp fun w _ h => (clr_some.1 h).2 rfl, fun h => by omega⟩
    · have z : ∀ x, xD D d m x c = D x c := fun x => xD_ne e
      have l : ∀ b, fi (DS SC t (t + 6 + d)) (t + 6 + c) b = fi SC (t + 6 + c) b := fun b => DS_x (Or.inl (by omega)) (Or.inl (by omega))
      unfold KC
      rw [z, z, z, z, z, z, z, l, l, l, l, l, l, l, l]
      exact ⟨d1, d2, d3, d4, d5, d6, Bs_cg d7 fun w _ => ⟨fun h => clr_some.2 ⟨h, e⟩, fun h => (clr_some.1 h).1⟩, d8⟩
  · obtain ⟨d1, d2, d3, d4, d5, d6, d7⟩ := r3 c hc
    unfold KR
    rw [r58, r59, r61, r63, r65]
    by_cases e : c = d
    · subst e
      have w0 : wN 0 = 0 := rfl
      rw [z0, z1, z2, z3, z4, z5, z6, upf_eq, w0]
      refine ⟨rfl, d2, fun h => ?_, d4, fun h => by omega, fun h => by omega, fun h => ?_⟩
      · rw [r60' (by omega)]; exact dn_N m
      · exact ⟨r64' (by omega), fun j hj => absurd hj (Nat.not_lt_zero j)⟩
    · have z : ∀ x, xD D d m x c = D x c := fun x => xD_ne e
      rw [upf_ne _ _ _ _ e, r60 c e, r62 c e, r64 c e, z, z, z, z, z, z, z]
      exact ⟨d1, d2, d3, d4, d5, d6, d7⟩
  · rw [r58, upf_ne _ _ _ _ (by omega)]; exact r4 c h1 h2
  · obtain ⟨k1, k2, k3, k4, k5, k6, k7, k8, k9, k10⟩ := hK c hc
    unfold KI
    by_cases e : c = d
    · subst e
      rw [z0, z1, z2, z3, z4, z5, z6]
      exact ⟨by omega, Or.inl rfl, fun _ => ⟨rfl, rfl⟩, by omega, by omega, fun _ => k6 (by omega), by omega, by omega, by omega, k10⟩
    · have z : ∀ x, xD D d m x c = D x c := fun x => xD_ne e
      rw [z, z, z, z, z, z, z]
      exact ⟨k1, k2, k3, k4, k5, k6, k7, k8, k9, k10⟩
  · rw [xD_ne (by omega)]; exact h6s c hc
  · obtain ⟨h1, h2⟩ := clr_some.1 h
    have z : ∀ x, xD D d m x c = D x c := fun x => xD_ne h2
    rw [z, z, z]
    exact hH1 w c hw h1
  · have e : c ≠ d := fun e => by subst e; rw [z2] at hj; omega
    have z : ∀ x, xD D d m x c = D x c := fun x => xD_ne e
    rw [z] at hs hj
    rw [z]
    exact clr_some.2 ⟨hH2 c j hc hs hj, e⟩
end
def daC : List Nat := 1 :: 80 :: dayC
def daY : List Nat := [150, 151, 152, 153, 154, 155, 156, 157, 158, 159, 160, 161, 162, 163, 164, 165, 166]
section
variable {nw : Nat} {M : Nat → Nat} {nc m : Nat} {E D : Nat → Nat → Nat} {hd : Nat → Option Nat} {SC SR : Sg}
theorem R_cancel (HD : ID nw M nc m E D hd SC SR) (x : Int32) {Q : Int32 → Sg → Int32 → Sg → Prop} (h0 : ∀ r, Q r SC r SR) (hQ : ∀ r SC' SR' D' hd', ID nw M nc m E D' hd' SC' SR' → AgC daC SC SC' → AgR daY [] SR SR' → Flg SC' → Q r SC' r SR') : W2 (TR_cancel x) SC (MO_cancel x) SR Q := by
  obtain ⟨d1, d2, d3, d4, d5, d6, d7, d8, d9, d10⟩ := HD
  have d1' := d1
  obtain ⟨⟨g1, g2, g3, hf⟩, ⟨c1, c2, c3⟩, ⟨r1, r2, r3, r4⟩, hK, h6s, -⟩ := d1
  unfold W2 TR_cancel MO_cancel
  cases hx : inN x nc
  · simp (disch := omega) only [q_0, q_1, q_2, q_3, q_4, q_5, q_6, q_7, q_8, q_9, q_10, q_11, q_12, q_15, q_16, q_20, q_21, q_25, q_30, q_31, q_32, q_40, q_44, q_48, q_50, q_57, q_59, q_60, q_64, q_81, q_97, q_98, q_99, q_100, q_101, q_102, q_103, q_104, q_105, q_107, q_108, q_110, q_111, q_114, q_115, q_116, q_119, q_120, q_121, q_122, q_136, q_160, q_200, q_255, q_300, q_400, q_401, q_402, q_460, q_479, q_480, q_920, q_999, q_1000, q_1023, q_1024, q_4020, q_9999, q_99999, q_1000000, q_1000000000, q_100001, q_100002, q_100003, q_100004, q_400000, nn_1, r_0, r_1, r_2, r_3, r_4, r_6, r_7, r_8, r_9, r_10, r_11, r_21, r_40, r_48, r_57, r_60, r_97, r_122, r_200, r_300, r_479, r_920, r_9999, r_99999, r_m1, rd_pu, rd_gI, rd_gB, rd_gL, rd_gQ, rd_rI, rd_rB, rd_rQ, rd_rK, rd_dq, rd_cq, rd_div, rd_rem, rd_mb, rd_mif, rd_within, rd_in, Bool.true_and, Bool.and_true, Bool.cond_self, Bool.cond_false_right, Bool.cond_true_left, cond_true, cond_false, rd_sAt, wp_rd, wp_mb, wp_mif, wp_sI, wp_sB, wp_sL, wp_sQ, wp_wI, wp_wB, wp_wQ, orR_l, orR_r, orE_l, orE_r, sK_l, sK_r, sK_c, cond_tr, fi_ufi, fi_ufi1, fi_ufi2, fb_ufb, fb_ufb1, fb_ufb2, fl_ufl, fl_ufl1, fl_ufl2, fr_ufr, fr_ufr1, fr_ufr2, ai_sa, ai_sa1, ab_sab, ab_sab1, ar_sar, ar_sar1, upf_eq, upf_ne, fi_ufb, fi_ufl, fi_ufr, fi_sa, fi_sab, fi_sar, fb_ufi, fb_ufl, fb_ufr, fb_sa, fb_sab, fb_sar, fl_ufi, fl_ufb, fl_ufr, fl_sa, fl_sab, fl_sar, fr_ufi, fr_ufb, fr_ufl, fr_sa, fr_sab, fr_sar, ai_ufi, ai_ufb, ai_ufl, ai_ufr, ai_sab, ai_sar, ab_ufi, ab_ufb, ab_ufl, ab_ufr, ab_sa, ab_sar, ar_ufi, ar_ufb, ar_ufl, ar_ufr, ar_sa, ar_sab, sa_sa, sab_sab, sar_sar, upf_upf, ufi_ufi, tnN, inbN, addN, subN, mulN, decN, divN, remN, n2_lt, n2_le, n2_gt, n2_ge, n2_eq, n2_ne, n0_lt, n0_ge, n0_gt, n0_le, n0_eq, n0_ne, m2_eq, m2_ne, m2_eqq, m2_neq, m0_lt, m0_ge, m0_eq, m0_ne, m2_eqN, m2_neN, wi_N, wi_P, wi_NN, inN_N, li_wi, Nat.reduceAdd, Nat.reduceSub, Nat.reduceMul, Nat.reduceDiv, Nat.reduceMod, Nat.reduceLT, Nat.reduceLeDiff, Nat.reduceEqDiff, decide_true, decide_false, Nat.add_zero, Nat.zero_add, Nat.mul_one, Nat.one_mul, Nat.mul_zero, Nat.zero_mul, n0_gts, Prod.mk.injEq, modN, decide_eq_true_eq, decide_eq_false_iff_not, Bool.and_eq_true, Bool.or_eq_true, Bool.not_eq_true', Bool.not_eq_false', Bool.not_eq_true, Bool.not_eq_false, Bool.not_not, Bool.not_true, Bool.not_false, Bool.true_eq_false, Bool.false_eq_true, true_and, and_true, false_and, and_false, true_implies, false_implies, implies_true, not_true_eq_false, not_false_eq_true, ne_eq, Bool.and_eq_false_imp, Bool.or_eq_false_iff, eq_self, or_false, false_or, or_true, true_or, rd_isTown, rd_isWire, rd_isCall, rm_isTown, rm_isMiles, rm_isMinute, rm_noWire, rm_noCall, rm_one, wp_changed, c1, r1, wi_P, hx]
    exact h0 _
  obtain ⟨c, hc, rfl⟩ := inN_e hx
  have hcd : c < nc - 1 + 1 := by omega
  have hc40 : c < 40 := by omega
  have hk5 := (hK c hc).1
  have e1 := (c3 c hc).1
  have a1 := (r3 c hc).1
  have hdrop := fun Q => wp_drop (S := SC) (t := 29) g2 c1 hc hk5 e1 Q
  have hop := fun Q => rm_isOpen (S := SR) (st := D 0) hc40 hk5 a1 Q
  by_cases ho : D 0 c ≤ 1
  · simp (disch := omega) only [q_0, q_1, q_2, q_3, q_4, q_5, q_6, q_7, q_8, q_9, q_10, q_11, q_12, q_15, q_16, q_20, q_21, q_25, q_30, q_31, q_32, q_40, q_44, q_48, q_50, q_57, q_59, q_60, q_64, q_81, q_97, q_98, q_99, q_100, q_101, q_102, q_103, q_104, q_105, q_107, q_108, q_110, q_111, q_114, q_115, q_116, q_119, q_120, q_121, q_122, q_136, q_160, q_200, q_255, q_300, q_400, q_401, q_402, q_460, q_479, q_480, q_920, q_999, q_1000, q_1023, q_1024, q_4020, q_9999, q_99999, q_1000000, q_1000000000, q_100001, q_100002, q_100003, q_100004, q_400000, nn_1, r_0, r_1, r_2, r_3, r_4, r_6, r_7, r_8, r_9, r_10, r_11, r_21, r_40, r_48, r_57, r_60, r_97, r_122, r_200, r_300, r_479, r_920, r_9999, r_99999, r_m1, rd_pu, rd_gI, rd_gB, rd_gL, rd_gQ, rd_rI, rd_rB, rd_rQ, rd_rK, rd_dq, rd_cq, rd_div, rd_rem, rd_mb, rd_mif, rd_within, rd_in, Bool.true_and, Bool.and_true, Bool.cond_self, Bool.cond_false_right, Bool.cond_true_left, cond_true, cond_false, rd_sAt, wp_rd, wp_mb, wp_mif, wp_sI, wp_sB, wp_sL, wp_sQ, wp_wI, wp_wB, wp_wQ, orR_l, orR_r, orE_l, orE_r, sK_l, sK_r, sK_c, cond_tr, fi_ufi, fi_ufi1, fi_ufi2, fb_ufb, fb_ufb1, fb_ufb2, fl_ufl, fl_ufl1, fl_ufl2, fr_ufr, fr_ufr1, fr_ufr2, ai_sa, ai_sa1, ab_sab, ab_sab1, ar_sar, ar_sar1, upf_eq, upf_ne, fi_ufb, fi_ufl, fi_ufr, fi_sa, fi_sab, fi_sar, fb_ufi, fb_ufl, fb_ufr, fb_sa, fb_sab, fb_sar, fl_ufi, fl_ufb, fl_ufr, fl_sa, fl_sab, fl_sar, fr_ufi, fr_ufb, fr_ufl, fr_sa, fr_sab, fr_sar, ai_ufi, ai_ufb, ai_ufl, ai_ufr, ai_sab, ai_sar, ab_ufi, ab_ufb, ab_ufl, ab_ufr, ab_sa, ab_sar, ar_ufi, ar_ufb, ar_ufl, ar_ufr, ar_sa, ar_sab, sa_sa, sab_sab, sar_sar, upf_upf, ufi_ufi, tnN, inbN, addN, subN, mulN, decN, divN, remN, n2_lt, n2_le, n2_gt, n2_ge, n2_eq, n2_ne, n0_lt, n0_ge, n0_gt, n0_le, n0_eq, n0_ne, m2_eq, m2_ne, m2_eqq, m2_neq, m0_lt, m0_ge, m0_eq, m0_ne, m2_eqN, m2_neN, wi_N, wi_P, wi_NN, inN_N, li_wi, Nat.reduceAdd, Nat.reduceSub, Nat.reduceMul, Nat.reduceDiv, Nat.reduceMod, Nat.reduceLT, Nat.reduceLeDiff, Nat.reduceEqDiff, decide_true, decide_false, Nat.add_zero, Nat.zero_add, Nat.mul_one, Nat.one_mul, Nat.mul_zero, Nat.zero_mul, n0_gts, Prod.mk.injEq, modN, decide_eq_true_eq, decide_eq_false_iff_not, Bool.and_eq_true, Bool.or_eq_true, Bool.not_eq_true', Bool.not_eq_false', Bool.not_eq_true, Bool.not_eq_false, Bool.not_not, Bool.not_true, Bool.not_false, Bool.true_eq_false, Bool.false_eq_true, true_and, and_true, false_and, and_false, true_implies, false_implies, implies_true, not_true_eq_false, not_false_eq_true, ne_eq, Bool.and_eq_false_imp, Bool.or_eq_false_iff, eq_self, or_false, false_or, or_true, true_or, rd_isTown, rd_isWire, rd_isCall, rm_isTown, rm_isMiles, rm_isMinute, rm_noWire, rm_noCall, rm_one, wp_changed, c1, r1, wi_P, hcd, hdrop, hop, ho]
    refine rm_letGo r2 hc40 fun g hg => ?_
    simp (disch := omega) only [q_0, q_1, q_2, q_3, q_4, q_5, q_6, q_7, q_8, q_9, q_10, q_11, q_12, q_15, q_16, q_20, q_21, q_25, q_30, q_31, q_32, q_40, q_44, q_48, q_50, q_57, q_59, q_60, q_64, q_81, q_97, q_98, q_99, q_100, q_101, q_102, q_103, q_104, q_105, q_107, q_108, q_110, q_111, q_114, q_115, q_116, q_119, q_120, q_121, q_122, q_136, q_160, q_200, q_255, q_300, q_400, q_401, q_402, q_460, q_479, q_480, q_920, q_999, q_1000, q_1023, q_1024, q_4020, q_9999, q_99999, q_1000000, q_1000000000, q_100001, q_100002, q_100003, q_100004, q_400000, nn_1, r_0, r_1, r_2, r_3, r_4, r_6, r_7, r_8, r_9, r_10, r_11, r_21, r_40, r_48, r_57, r_60, r_97, r_122, r_200, r_300, r_479, r_920, r_9999, r_99999, r_m1, rd_pu, rd_gI, rd_gB, rd_gL, rd_gQ, rd_rI, rd_rB, rd_rQ, rd_rK, rd_dq, rd_cq, rd_div, rd_rem, rd_mb, rd_mif, rd_within, rd_in, Bool.true_and, Bool.and_true, Bool.cond_self, Bool.cond_false_right, Bool.cond_true_left, cond_true, cond_false, rd_sAt, wp_rd, wp_mb, wp_mif, wp_sI, wp_sB, wp_sL, wp_sQ, wp_wI, wp_wB, wp_wQ, orR_l, orR_r, orE_l, orE_r, sK_l, sK_r, sK_c, cond_tr, fi_ufi, fi_ufi1, fi_ufi2, fb_ufb, fb_ufb1, fb_ufb2, fl_ufl, fl_ufl1, fl_ufl2, fr_ufr, fr_ufr1, fr_ufr2, ai_sa, ai_sa1, ab_sab, ab_sab1, ar_sar, ar_sar1, upf_eq, upf_ne, fi_ufb, fi_ufl, fi_ufr, fi_sa, fi_sab, fi_sar, fb_ufi, fb_ufl, fb_ufr, fb_sa, fb_sab, fb_sar, fl_ufi, fl_ufb, fl_ufr, fl_sa, fl_sab, fl_sar, fr_ufi, fr_ufb, fr_ufl, fr_sa, fr_sab, fr_sar, ai_ufi, ai_ufb, ai_ufl, ai_ufr, ai_sab, ai_sar, ab_ufi, ab_ufb, ab_ufl, ab_ufr, ab_sa, ab_sar, ar_ufi, ar_ufb, ar_ufl, ar_ufr, ar_sa, ar_sab, sa_sa, sab_sab, sar_sar, upf_upf, ufi_ufi, tnN, inbN, addN, subN, mulN, decN, divN, remN, n2_lt, n2_le, n2_gt, n2_ge, n2_eq, n2_ne, n0_lt, n0_ge, n0_gt, n0_le, n0_eq, n0_ne, m2_eq, m2_ne, m2_eqq, m2_neq, m0_lt, m0_ge, m0_eq, m0_ne, m2_eqN, m2_neN, wi_N, wi_P, wi_NN, inN_N, li_wi, Nat.reduceAdd, Nat.reduceSub, Nat.reduceMul, Nat.reduceDiv, Nat.reduceMod, Nat.reduceLT, Nat.reduceLeDiff, Nat.reduceEqDiff, decide_true, decide_false, Nat.add_zero, Nat.zero_add, Nat.mul_one, Nat.one_mul, Nat.mul_zero, Nat.zero_mul, n0_gts, Prod.mk.injEq, modN, decide_eq_true_eq, decide_eq_false_iff_not, Bool.and_eq_true, Bool.or_eq_true, Bool.not_eq_true', Bool.not_eq_false', Bool.not_eq_true, Bool.not_eq_false, Bool.not_not, Bool.not_true, Bool.not_false, Bool.true_eq_false, Bool.false_eq_true, true_and, and_true, false_and, and_false, true_implies, false_implies, implies_true, not_true_eq_false, not_false_eq_true, ne_eq, Bool.and_eq_false_imp, Bool.or_eq_false_iff, eq_self, or_false, false_or, or_true, true_or, hc40, d5]
    generalize hR1 : sa (sa SR 166 g) 162 (upf (ai SR 162) c (Int32.ofNat 0)) = R1
    have fx : ∀ a, a ≠ 166 ∧ a ≠ 162 → ai R1 a = ai SR a := fun a h => by rw [← hR1, ai_sa1 _ _ _ _ h.2, ai_sa1 _ _ _ _ h.1]
    have f66 : ai R1 166 = g := by rw [← hR1, ai_sa1 _ _ _ _ (by decide), ai_sa]
    have f62 : ai R1 162 = upf (ai SR 162) c (Int32.ofNat 0) := by rw [← hR1, ai_sa]
    have ff : fi R1 = fi SR ∧ ab R1 = ab SR ∧ fb R1 = fb SR := by rw [← hR1]; exact ⟨rfl, rfl, rfl⟩
    generalize hR2 : sa (sa (sa R1 164 (upf (ai SR 164) c (Int32.ofNat 0))) 158 (upf (ai SR 158) c (Int32.ofNat 5))) 160 (upf (ai SR 160) c (Int32.ofNat m)) = R2
    have gx : ∀ a, a ≠ 164 ∧ a ≠ 158 ∧ a ≠ 160 → ai R2 a = ai R1 a := fun a h => by rw [← hR2, ai_sa1 _ _ _ _ h.2.2, ai_sa1 _ _ _ _ h.2.1, ai_sa1 _ _ _ _ h.1]
    have g64 : ai R2 164 = upf (ai SR 164) c (Int32.ofNat 0) := by rw [← hR2, ai_sa1 _ _ _ _ (by decide), ai_sa1 _ _ _ _ (by decide), ai_sa]
    have g58 : ai R2 158 = upf (ai SR 158) c (Int32.ofNat 5) := by rw [← hR2, ai_sa1 _ _ _ _ (by decide), ai_sa]
    have g60 : ai R2 160 = upf (ai SR 160) c (Int32.ofNat m) := by rw [← hR2, ai_sa]
    have gf : fi R2 = fi SR ∧ ab R2 = ab SR ∧ fb R2 = fb SR := by rw [← hR2]; exact ff
    have HDD := DD_drop (SR' := R2) d1' d4 hc ho (by rw [gf.1]) (by rw [gx _ (by decide), f66]; exact hg) (fun z => by rw [g58]) (by rw [gx _ (by decide), fx _ (by decide)]) (fun z hz => by rw [g60, upf_ne _ _ _ _ hz]) (fun _ => by rw [g60, upf_eq]) (by rw [gx _ (by decide), fx _ (by decide)]) (fun z hz => by rw [gx _ (by decide), f62, upf_ne _ _ _ _ hz]) (by rw [gx _ (by decide), fx _ (by decide)]) (fun z hz => by rw [g64, upf_ne _ _ _ _ hz]) (fun _ => by rw [g64, upf_eq]) (by rw [gx _ (by decide), fx _ (by decide)])
    have Lx : ∀ a b, (a ≠ 29 ∨ b ≠ 12) → (a ≠ 29 + 6 + c ∨ (b ≠ 15 ∧ b ≠ 14 ∧ b ≠ 13 ∧ b ≠ 9 ∧ b ≠ 11 ∧ b ≠ 7)) → (a ≠ 1 ∨ b ≠ 11) → fi (ufi (ufb (DS SC 29 (29 + 6 + c)) 80 14 false) 1 11 (Int32.ofNat 0)) a b = fi SC a b := fun a b h1 h2 h3 => by
      have : fi (ufi (ufb (DS SC 29 (29 + 6 + c)) 80 14 false) 1 11 (Int32.ofNat 0)) a b = fi (DS SC 29 (29 + 6 + c)) a b := by
        rcases h3 with h3 | h3
        · rw [fi_ufi1 _ _ _ _ _ _ h3]; rfl
        · rw [fi_ufi2 _ _ _ _ _ _ h3]; rfl
      rw [this, DS_x h1 h2]
    have Lb : ∀ a b, a ≠ 80 → fb (ufi (ufb (DS SC 29 (29 + 6 + c)) 80 14 false) 1 11 (Int32.ofNat 0)) a b = fb SC a b := fun a b h => by
      show fb (ufb (DS SC 29 (29 + 6 + c)) 80 14 false) a b = _
      rw [fb_ufb1 _ _ _ _ _ _ h]; rfl
    have rfx : ∀ a, a ∉ daY → ai R2 a = ai SR a := fun a ha => by
      have n : ∀ x, x ∈ daY → a ≠ x := fun x hx e => ha (by rw [e]; exact hx)
      rw [gx a ⟨n _ (by decide), n _ (by decide), n _ (by decide)⟩, fx a ⟨n _ (by decide), n _ (by decide)⟩]
    have HDD2 : DD 29 (fun w => w) nw M nc nc m E (xD D c m) (clr hd c) (ufi (ufb (DS SC 29 (29 + 6 + c)) 80 14 false) 1 11 (Int32.ofNat 0)) R2 := DD_cg HDD (fi_ufi1 _ _ _ _ _ _ (by decide)) (fi_ufi1 _ _ _ _ _ _ (by decide)) (fun c' b _ _ _ => fi_ufi1 _ _ _ _ _ _ (by omega)) rfl (fun _ _ _ => rfl)
    have L7 : fi (ufi (ufb (DS SC 29 (29 + 6 + c)) 80 14 false) 1 11 (Int32.ofNat 0)) (29 + 6 + c) 7 = Int32.ofNat m := by
      rw [fi_ufi1 _ _ _ _ _ _ (by omega)]
      show fi (DS SC 29 (29 + 6 + c)) (29 + 6 + c) 7 = _
      rw [DS_7]; exact d4
    have La : ai (ufi (ufb (DS SC 29 (29 + 6 + c)) 80 14 false) 1 11 (Int32.ofNat 0)) = ai SC ∧ ab (ufi (ufb (DS SC 29 (29 + 6 + c)) 80 14 false) 1 11 (Int32.ofNat 0)) = ab SC := ⟨rfl, rfl⟩
    have fR : ∀ a, a ≠ 166 ∧ a ≠ 162 ∧ a ≠ 164 ∧ a ≠ 158 ∧ a ≠ 160 → ai R2 a = ai SR a := fun a h => by rw [gx a ⟨h.2.2.1, h.2.2.2.1, h.2.2.2.2⟩, fx a ⟨h.1, h.2.1⟩]
    have LF : Flg (ufi (ufb (DS SC 29 (29 + 6 + c)) 80 14 false) 1 11 (Int32.ofNat 0)) := ⟨fb_ufb _ _ _ _, fi_ufi _ _ _ _⟩
    show Q _ (ufi (ufb (DS SC 29 (29 + 6 + c)) 80 14 false) 1 11 (Int32.ofNat 0)) _ R2
    generalize ufi (ufb (DS SC 29 (29 + 6 + c)) 80 14 false) 1 11 (Int32.ofNat 0) = S2 at *
    have L29 : ∀ b, b ≠ 12 → fi S2 29 b = fi SC 29 b := fun b h => Lx _ _ (Or.inr h) (Or.inl (by omega)) (Or.inl (by decide))
    refine hQ _ S2 R2 (xD D c m) (clr hd c) ⟨HDD2, fun c' hc' => ?_, d3, by rw [L29 _ (by decide)]; exact d4, by rw [gf.1]; exact d5, by rw [L29 _ (by decide), gf.1]; exact d6, by rw [L29 _ (by decide)]; exact d7, by rw [L29 _ (by decide)]; exact d8, ⟨fun c' hc' => ?_, d9.2.1, fun c' h1 h2 => ?_⟩, fun w hw => ?_⟩ (fun a ha => ?_) ⟨fun a ha => ⟨rfx a ha, by rw [gf.2.1]⟩, fun b _ => ⟨by rw [gf.1], by rw [gf.2.2]⟩⟩ LF
    · obtain ⟨s1, s2, s3, s4, s5, s6, s7, ⟨b1, b2, b3, b4, b5, b6⟩, s8⟩ := d2 c' hc'
      have l : ∀ b, b < 6 → fi S2 (29 + 6 + c') b = fi SC (29 + 6 + c') b := fun b h => Lx _ _ (Or.inl (by omega)) (Or.inr (by omega)) (Or.inl (by omega))
      rw [← l 0 (by decide), ← l 1 (by decide), ← l 2 (by decide), ← l 3 (by decide), ← l 4 (by decide), ← l 5 (by decide)] at s8
      exact ⟨s1, s2, s3, s4, s5, s6, s7, ⟨by rw [fR _ (by decide)]; exact b1, by rw [fR _ (by decide)]; exact b2, by rw [fR _ (by decide)]; exact b3, by rw [fR _ (by decide)]; exact b4, by rw [fR _ (by decide)]; exact b5, by rw [fR _ (by decide)]; exact b6⟩, s8⟩
    · obtain ⟨⟨v, v1, v2, v3⟩, q2, q3, q4, q5⟩ := d9.1 c' hc'
      refine ⟨⟨v, v1, by rw [Lx _ _ (Or.inl (by omega)) (Or.inr (by decide)) (Or.inl (by omega))]; exact v2, by rw [fR _ (by decide)]; exact v3⟩, by rw [Lb _ _ (by omega), gf.2.1]; exact q2, ?_, ?_, q5⟩
      · by_cases e : c' = c
        · subst e
          have z0 : xD D c' m 0 c' = 5 := by simp [xD]
          have z4 : xD D c' m 4 c' = m + 1 := by simp [xD]
          rw [L7, z0, z4, if_pos rfl]; exact dn_N m
        · rw [xD_ne e, xD_ne e, Lx _ _ (Or.inl (by omega)) (Or.inl (by omega)) (Or.inl (by omega))]; exact q3
      · by_cases e : c' = c
        · subst e
          have z4 : xD D c' m 4 c' = m + 1 := by simp [xD]
          rw [z4]; intro _; omega
        · rw [xD_ne e, xD_ne e]; exact q4
    · have l : ∀ b, fi S2 (29 + 6 + c') b = fi SC (29 + 6 + c') b := fun b => Lx _ _ (Or.inl (by omega)) (Or.inl (by omega)) (Or.inl (by omega))
      rw [l, l, l, l, l, l, l, l, l, Lb _ _ (by omega)]
      exact d9.2.2 c' h1 h2
    · rw [La.1, fR _ (by decide), fR _ (by decide)]; exact d10 w hw
    · have n1 : a ≠ 1 := fun e => ha (by rw [e]; decide)
      have n2 : a ≠ 80 := fun e => ha (by rw [e]; decide)
      have n3 : a ≠ 29 := fun e => ha (by rw [e]; decide)
      have n4 : a ≠ 29 + 6 + c := fun e => ha (by rw [e]; exact List.mem_cons_of_mem _ (List.mem_cons_of_mem _ (dayC_c c hc40)))
      exact ⟨funext fun b => Lx a b (Or.inl n3) (Or.inl n4) (Or.inl n1), funext fun b => Lb a b n2, by rw [La.1], by rw [La.2]⟩
  · simp (disch := omega) only [q_0, q_1, q_2, q_3, q_4, q_5, q_6, q_7, q_8, q_9, q_10, q_11, q_12, q_15, q_16, q_20, q_21, q_25, q_30, q_31, q_32, q_40, q_44, q_48, q_50, q_57, q_59, q_60, q_64, q_81, q_97, q_98, q_99, q_100, q_101, q_102, q_103, q_104, q_105, q_107, q_108, q_110, q_111, q_114, q_115, q_116, q_119, q_120, q_121, q_122, q_136, q_160, q_200, q_255, q_300, q_400, q_401, q_402, q_460, q_479, q_480, q_920, q_999, q_1000, q_1023, q_1024, q_4020, q_9999, q_99999, q_1000000, q_1000000000, q_100001, q_100002, q_100003, q_100004, q_400000, nn_1, r_0, r_1, r_2, r_3, r_4, r_6, r_7, r_8, r_9, r_10, r_11, r_21, r_40, r_48, r_57, r_60, r_97, r_122, r_200, r_300, r_479, r_920, r_9999, r_99999, r_m1, rd_pu, rd_gI, rd_gB, rd_gL, rd_gQ, rd_rI, rd_rB, rd_rQ, rd_rK, rd_dq, rd_cq, rd_div, rd_rem, rd_mb, rd_mif, rd_within, rd_in, Bool.true_and, Bool.and_true, Bool.cond_self, Bool.cond_false_right, Bool.cond_true_left, cond_true, cond_false, rd_sAt, wp_rd, wp_mb, wp_mif, wp_sI, wp_sB, wp_sL, wp_sQ, wp_wI, wp_wB, wp_wQ, orR_l, orR_r, orE_l, orE_r, sK_l, sK_r, sK_c, cond_tr, fi_ufi, fi_ufi1, fi_ufi2, fb_ufb, fb_ufb1, fb_ufb2, fl_ufl, fl_ufl1, fl_ufl2, fr_ufr, fr_ufr1, fr_ufr2, ai_sa, ai_sa1, ab_sab, ab_sab1, ar_sar, ar_sar1, upf_eq, upf_ne, fi_ufb, fi_ufl, fi_ufr, fi_sa, fi_sab, fi_sar, fb_ufi, fb_ufl, fb_ufr, fb_sa, fb_sab, fb_sar, fl_ufi, fl_ufb, fl_ufr, fl_sa, fl_sab, fl_sar, fr_ufi, fr_ufb, fr_ufl, fr_sa, fr_sab, fr_sar, ai_ufi, ai_ufb, ai_ufl, ai_ufr, ai_sab, ai_sar, ab_ufi, ab_ufb, ab_ufl, ab_ufr, ab_sa, ab_sar, ar_ufi, ar_ufb, ar_ufl, ar_ufr, ar_sa, ar_sab, sa_sa, sab_sab, sar_sar, upf_upf, ufi_ufi, tnN, inbN, addN, subN, mulN, decN, divN, remN, n2_lt, n2_le, n2_gt, n2_ge, n2_eq, n2_ne, n0_lt, n0_ge, n0_gt, n0_le, n0_eq, n0_ne, m2_eq, m2_ne, m2_eqq, m2_neq, m0_lt, m0_ge, m0_eq, m0_ne, m2_eqN, m2_neN, wi_N, wi_P, wi_NN, inN_N, li_wi, Nat.reduceAdd, Nat.reduceSub, Nat.reduceMul, Nat.reduceDiv, Nat.reduceMod, Nat.reduceLT, Nat.reduceLeDiff, Nat.reduceEqDiff, decide_true, decide_false, Nat.add_zero, Nat.zero_add, Nat.mul_one, Nat.one_mul, Nat.mul_zero, Nat.zero_mul, n0_gts, Prod.mk.injEq, modN, decide_eq_true_eq, decide_eq_false_iff_not, Bool.and_eq_true, Bool.or_eq_true, Bool.not_eq_true', Bool.not_eq_false', Bool.not_eq_true, Bool.not_eq_false, Bool.not_not, Bool.not_true, Bool.not_false, Bool.true_eq_false, Bool.false_eq_true, true_and, and_true, false_and, and_false, true_implies, false_implies, implies_true, not_true_eq_false, not_false_eq_true, ne_eq, Bool.and_eq_false_imp, Bool.or_eq_false_iff, eq_self, or_false, false_or, or_true, true_or, rd_isTown, rd_isWire, rd_isCall, rm_isTown, rm_isMiles, rm_isMinute, rm_noWire, rm_noCall, rm_one, wp_changed, c1, r1, wi_P, hcd, hdrop, hop, ho]
    exact h0 _
end
