/-! a minute: both sides -/
theorem W2_gI {α β : Type} {a k : Nat} {p : Int32 → PM α} {S : Sg} {q : PM β} {R : Sg} {Q : α → Sg → β → Sg → Prop} (h : W2 (p (fi S a k)) S q R Q) : W2 (mb (gI a k) p) S q R Q := h
section
variable {no : Nat} {mi cl kd : Nat → Nat} {SC SR : Sg}
theorem ODs_cg (H : ODs no mi cl kd SC SR) {SC' SR' : Sg} (h1 : fi SC' 17 6 = fi SC 17 6) (h2 : fi SR' 127 17 = fi SR 127 17) (h3 : ∀ a, 18 ≤ a → a ≤ 23 → ai SC' a = ai SC a) (h4 : ∀ a, 140 ≤ a → a ≤ 145 → ai SR' a = ai SR a) : ODs no mi cl kd SC' SR' := by
  unfold ODs at H ⊢
  rw [h1, h2, h3 18 (by omega) (by omega), h3 19 (by omega) (by omega), h3 20 (by omega) (by omega), h3 21 (by omega) (by omega), h3 22 (by omega) (by omega), h3 23 (by omega) (by omega), h4 140 (by omega) (by omega), h4 141 (by omega) (by omega), h4 142 (by omega) (by omega), h4 143 (by omega) (by omega), h4 144 (by omega) (by omega), h4 145 (by omega) (by omega)]
  exact H
end
theorem SS_mn {t nc nR : Nat} {E : Nat → Nat → Nat} {S S1 R R1 : Sg} (hn : nR ≤ 40) (h : SS t nc nR E S R) (hC : MnC t S S1) (hR : MnR R R1) : SS t nc nR E S1 R1 := by
  intro c hc
  obtain ⟨a1, a2, a3, a4, a5, a6, a7, ⟨b1, b2, b3, b4, b5, b6⟩, a8⟩ := h c hc
  have r := hR.2.2.2.1
  have k := hC.2.2.1
  refine ⟨a1, a2, a3, a4, a5, a6, a7, ⟨?_, ?_, ?_, ?_, ?_, ?_⟩, fun h => ?_⟩
  · rw [r _ (by omega)]; exact b1
  · rw [r _ (by omega)]; exact b2
  · rw [r _ (by omega)]; exact b3
  · rw [r _ (by omega)]; exact b4
  · rw [r _ (by omega)]; exact b5
  · rw [r _ (by omega)]; exact b6
  · obtain ⟨d1, d2, d3, d4, d5, d6⟩ := a8 h
    refine ⟨?_, ?_, ?_, ?_, ?_, ?_⟩
    · rw [k _ _ (by omega) (by omega)]; exact d1
    · rw [k _ _ (by omega) (by omega)]; exact d2
    · rw [k _ _ (by omega) (by omega)]; exact d3
    · rw [k _ _ (by omega) (by omega)]; exact d4
    · rw [k _ _ (by omega) (by omega)]; exact d5
    · rw [k _ _ (by omega) (by omega)]; exact d6
theorem LQ_f (S : Sg) (c6 c7 c8 c9 : Nat → Int32) (u : Nat) : fi (LQ S c6 c7 c8 c9 u) 127 15 = Int32.ofNat u ∧ (∀ a b, (a ≠ 127 ∨ b ≠ 15) → fi (LQ S c6 c7 c8 c9 u) a b = fi S a b) ∧ fb (LQ S c6 c7 c8 c9 u) 127 11 = true ∧ (∀ a b, (a ≠ 127 ∨ b ≠ 11) → fb (LQ S c6 c7 c8 c9 u) a b = fb S a b) ∧ ab (LQ S c6 c7 c8 c9 u) = ab S ∧ ∀ a, (a < 136 ∨ 139 < a) → ai (LQ S c6 c7 c8 c9 u) a = ai S a := by
  unfold LQ
  refine ⟨MP_f (ufb S 127 11 true) c6 c7 c8 u, fun a b h => ?_, ?_, fun a b h => ?_, rfl, fun a h => ?_⟩
  · show fi (MP (ufb S 127 11 true) c6 c7 c8 u) a b = _
    unfold MP
    rcases h with h | h
    · rw [fi_ufi1 _ _ _ _ _ _ h]; rfl
    · rw [fi_ufi2 _ _ _ _ _ _ h]; rfl
  · show fb (ufb S 127 11 true) 127 11 = true
    rw [fb_ufb]
  · show fb (ufb S 127 11 true) a b = _
    rcases h with h | h
    · exact fb_ufb1 _ _ _ _ _ _ h
    · exact fb_ufb2 _ _ _ _ _ _ h
  · rw [ai_sa1 _ _ _ _ (by omega), MP_x _ _ _ _ _ (by omega)]; rfl
section
variable {t : Nat} {f : Nat → Nat} {n : Nat} {al : Nat → Bool} {A' B' M' A B M : Nat → Nat} {uc : Nat} {nc nR : Nat} {E D : Nat → Nat → Nat} {m : Nat} {SC SR : Sg} {ks : Nat} {W K F T : Nat → Nat} {hd : Nat → Option Nat} {nw na : Nat} {hn : Nat → Nat} {no : Nat} {mi cl kd : Nat → Nat}
theorem R_minute (ht : t = 29 ∨ t = 80) (H : DD t f n M nc nR m E D hd SC SR) (hS : SS t nc nR E SC SR) (hO : ODs no mi cl kd SC SR) (hCI : CIr no mi cl kd (ai SC 21) (ai SC 22) (fi SC 24) (ai SC 25) (ai SC 26)) (hwo : fi SR 127 24 = fi SC t 13) (P : Phi f n (fi SC t 10) al A' B' M' A B M) (HL : NetL al A' B' M' (ai SC 3) (ai SC 4) (ai SC 5)) (huc : uc ≤ 4020) (hPO : ∀ c, c < nc → PairOK al A' B' M' (E 0 c) (E 1 c) uc (ai SC 7) (ai SC 8) (ai SC 9) (ai SC 10)) (HN : NetM n A B M (ai SR 128) (ai SR 129) (ai SR 130)) (hw0 : fi SR 127 0 = Int32.ofNat nw) (hw1 : fi SR 127 1 = Int32.ofNat na) (hwn : nw + na = n) (hnw : nw ≤ 16) (hlay : fb SR 127 11 = true → ∃ u, fi SR 127 15 = Int32.ofNat u ∧ Laid n A B M u (ai SR 136) (ai SR 137) (ai SR 138) (ai SR 139)) (hsp : ISp ks W K F T SC SR) (hwy : ∀ w, w < n → wy W K F T (f w) m ks = wy W K F T w m ks) (hoff : ∀ w, nw ≤ w → w < n → wy W K F T w m ks = none) (hcr : ICrew hn (ai SC 16) (ai SR 135)) (h6 : fi SC t 6 = Int32.ofNat m) (hm : m < 480) (hrg : fi SC t 7 = fi SR 127 59) {Q : Int32 → Sg → Int32 → Sg → Prop}
    (hQ : ∀ r D' hd' SC' SR', DD t f n M nc nR (m + 1) E D' hd' SC' SR' → MnC t SC SC' → MnR SR SR' → fi SC' t 6 = Int32.ofNat (m + 1) → fi SC' t 7 = fi SR' 127 59 → CIr no mi cl kd (ai SC 21) (ai SC 22) (fi SC' 24) (ai SC' 25) (ai SC' 26) → fb SR' 127 11 = true → (∃ u, fi SR' 127 15 = Int32.ofNat u ∧ Laid n A B M u (ai SR' 136) (ai SR' 137) (ai SR' 138) (ai SR' 139)) → Grow t f n SC SR SC' SR' → P5 D D' → Q r SC' r SR') : W2 (Day_nextMinute t) SC (MO_doMinute (Int32.ofNat m)) SR Q := by
  have hnR := H.1.2.1
  have hnc := H.1.1
  have hn20 := H.1.2.2.1
  have hf := H.1.2.2.2
  rw [nextMinute_eq, doMinute_eq]
  refine W2.r (wp_layPaths HN hw0 hw1 hwn hlay fun c6 c7 c8 c9 u hLd => ?_)
  obtain ⟨p136, p137, p138, p139⟩ := LQ_a SR c6 c7 c8 c9 u
  obtain ⟨l15, lf, lb, lbx, lab, lax⟩ := LQ_f SR c6 c7 c8 c9 u
  generalize LQ SR c6 c7 c8 c9 u = R1 at *
  have hO1 : ODs no mi cl kd SC R1 := ODs_cg hO rfl (lf _ _ (Or.inr (by decide))) (fun _ _ _ => rfl) fun a h1 h2 => lax a (by omega)
  refine W2.seq (W2_gI (W2_gI ?_))
  rw [h6]
  refine R_look hO1 hCI hm (by rw [lf _ _ (Or.inr (by decide))]; exact hwo) fun q c25 c26 b rf r9 y z set k1 k2 k3 k4 => ?_
  have hHB := HB_hoS (mi := mi) (cl := cl) (kd := kd) hO set
  obtain ⟨k21, k22, k23⟩ := k2
  generalize hoS no mi cl kd (ai SC 21) (ai SC 22) set = HH at *
  obtain ⟨most, mo1, mo2, mo3⟩ := hHB 1 (by decide)
  obtain ⟨hold, ho1, ho2, -⟩ := hHB 2 (by decide)
  have mo4 := mo3 rfl
  obtain ⟨x4, x5, -, -, -, x9, kn, hkn, xk, x26⟩ := k23
  obtain ⟨z1, z2, -, -, -, z36, z37⟩ := k4
  obtain ⟨ky, hky⟩ : ∃ ky : Nat → Nat, ∀ k, ky k < 8 ∧ jsr' HH.2.2 (Int32.ofNat (3 * k)) &&& Int32.ofNat 7 = Int32.ofNat (ky k) := by
    refine ⟨fun k => Classical.choose (and7 (jsr' HH.2.2 (Int32.ofNat (3 * k)))), fun k => Classical.choose_spec (and7 (jsr' HH.2.2 (Int32.ofNat (3 * k))))⟩
  -- the states behind the look
  have rm_a9 : ai (RM R1 b rf r9 (Int32.ofNat (luS no mi cl kd (ai SC 21) set).1) y z) 149 = r9 := RM_a9 ..
  have rm_ax : ∀ a, a ≠ 148 ∧ a ≠ 149 → ai (RM R1 b rf r9 (Int32.ofNat (luS no mi cl kd (ai SC 21) set).1) y z) a = ai R1 a := fun a h => RM_ax (h := h) ..
  have rm_36 : fi (RM R1 b rf r9 (Int32.ofNat (luS no mi cl kd (ai SC 21) set).1) y z) 127 36 = y := RM_f36 ..
  have rm_37 : fi (RM R1 b rf r9 (Int32.ofNat (luS no mi cl kd (ai SC 21) set).1) y z) 127 37 = z := RM_f37 ..
  have rm_fx : ∀ k, k ≠ 34 ∧ k ≠ 36 ∧ k ≠ 37 → fi (RM R1 b rf r9 (Int32.ofNat (luS no mi cl kd (ai SC 21) set).1) y z) 127 k = fi R1 127 k := fun k h => RM_fx (h := h) ..
  have rm_fa : ∀ a k, a ≠ 127 → fi (RM R1 b rf r9 (Int32.ofNat (luS no mi cl kd (ai SC 21) set).1) y z) a k = fi R1 a k := fun a k h => RM_fa (h := h) ..
  have rm_fb : fb (RM R1 b rf r9 (Int32.ofNat (luS no mi cl kd (ai SC 21) set).1) y z) = fb R1 := rfl
  have rm_ab : ∀ a, a ≠ 147 → ab (RM R1 b rf r9 (Int32.ofNat (luS no mi cl kd (ai SC 21) set).1) y z) a = ab R1 a := fun a h => by
    unfold RM
    show ab (sab R1 147 b) a = _
    exact ab_sab1 _ _ _ _ h
  generalize RM R1 b rf r9 (Int32.ofNat (luS no mi cl kd (ai SC 21) set).1) y z = R2 at *
  have rc_24 : ∀ k, fi (RC SC q c25 c26) 24 k = q k := fun k => RC_f ..
  have rc_fx : ∀ a k, a ≠ 24 → fi (RC SC q c25 c26) a k = fi SC a k := fun a k h => RC_fx (h := h) ..
  have rc_25 : ai (RC SC q c25 c26) 25 = c25 := RC_a5 ..
  have rc_26 : ai (RC SC q c25 c26) 26 = c26 := RC_a6 ..
  have rc_ax : ∀ a, a ≠ 25 ∧ a ≠ 26 → ai (RC SC q c25 c26) a = ai SC a := fun a h => RC_ax (h := h) ..
  have rc_fb : fb (RC SC q c25 c26) = fb SC := rfl
  have rc_ab : ab (RC SC q c25 c26) = ab SC := rfl
  generalize RC SC q c25 c26 = S1 at *
  show W2 _ S1 _ R2 Q
  -- what may be used
  have t24 : t ≠ 24 := by omega
  have e6 : fi S1 t 6 = Int32.ofNat m := by rw [rc_fx _ _ t24]; exact h6
  refine W2.l (WP.mono (Q := fun _ S' => ∃ s, (∀ w, w < 32 → bt s w = (wy W K F T w m ks).isSome) ∧ ufi S1 t 11 (fi S1 t 10 &&& (s ^^^ nn)) = S') ?_ ?_)
  · simp (disch := omega) only [q_0, q_1, q_2, q_3, q_4, q_5, q_6, q_7, q_8, q_9, q_10, q_11, q_12, q_15, q_16, q_20, q_21, q_25, q_30, q_31, q_32, q_40, q_44, q_48, q_50, q_57, q_59, q_60, q_64, q_81, q_97, q_98, q_99, q_100, q_101, q_102, q_103, q_104, q_105, q_107, q_108, q_110, q_111, q_114, q_115, q_116, q_119, q_120, q_121, q_122, q_136, q_160, q_200, q_255, q_300, q_400, q_401, q_402, q_460, q_479, q_480, q_920, q_999, q_1000, q_1023, q_1024, q_4020, q_9999, q_99999, q_1000000, q_1000000000, q_100001, q_100002, q_100003, q_100004, q_400000, nn_1, r_0, r_1, r_2, r_3, r_4, r_6, r_7, r_8, r_9, r_10, r_11, r_21, r_40, r_48, r_57, r_60, r_97, r_122, r_200, r_300, r_479, r_920, r_9999, r_99999, r_m1, rd_pu, rd_gI, rd_gB, rd_gL, rd_gQ, rd_rI, rd_rB, rd_rQ, rd_rK, rd_dq, rd_cq, rd_div, rd_rem, rd_mb, rd_mif, rd_within, rd_in, Bool.true_and, Bool.and_true, Bool.cond_self, Bool.cond_false_right, Bool.cond_true_left, cond_true, cond_false, rd_sAt, wp_rd, wp_mb, wp_mif, wp_sI, wp_sB, wp_sL, wp_sQ, wp_wI, wp_wB, wp_wQ, orR_l, orR_r, orE_l, orE_r, sK_l, sK_r, sK_c, cond_tr, fi_ufi, fi_ufi1, fi_ufi2, fb_ufb, fb_ufb1, fb_ufb2, fl_ufl, fl_ufl1, fl_ufl2, fr_ufr, fr_ufr1, fr_ufr2, ai_sa, ai_sa1, ab_sab, ab_sab1, ar_sar, ar_sar1, upf_eq, upf_ne, fi_ufb, fi_ufl, fi_ufr, fi_sa, fi_sab, fi_sar, fb_ufi, fb_ufl, fb_ufr, fb_sa, fb_sab, fb_sar, fl_ufi, fl_ufb, fl_ufr, fl_sa, fl_sab, fl_sar, fr_ufi, fr_ufb, fr_ufl, fr_sa, fr_sab, fr_sar, ai_ufi, ai_ufb, ai_ufl, ai_ufr, ai_sab, ai_sar, ab_ufi, ab_ufb, ab_ufl, ab_ufr, ab_sa, ab_sar, ar_ufi, ar_ufb, ar_ufl, ar_ufr, ar_sa, ar_sab, sa_sa, sab_sab, sar_sar, upf_upf, ufi_ufi, tnN, inbN, addN, subN, mulN, decN, divN, remN, n2_lt, n2_le, n2_gt, n2_ge, n2_eq, n2_ne, n0_lt, n0_ge, n0_gt, n0_le, n0_eq, n0_ne, m2_eq, m2_ne, m2_eqq, m2_neq, m0_lt, m0_ge, m0_eq, m0_ne, m2_eqN, m2_neN, wi_N, wi_P, wi_NN, inN_N, li_wi, Nat.reduceAdd, Nat.reduceSub, Nat.reduceMul, Nat.reduceDiv, Nat.reduceMod, Nat.reduceLT, Nat.reduceLeDiff, Nat.reduceEqDiff, decide_true, decide_false, Nat.add_zero, Nat.zero_add, Nat.mul_one, Nat.one_mul, Nat.mul_zero, Nat.zero_mul, n0_gts, Prod.mk.injEq, modN, decide_eq_true_eq, decide_eq_false_iff_not, Bool.and_eq_true, Bool.or_eq_true, Bool.not_eq_true', Bool.not_eq_false', Bool.not_eq_true, Bool.not_eq_false, Bool.not_not, Bool.not_true, Bool.not_false, Bool.true_eq_false, Bool.false_eq_true, true_and, and_true, false_and, and_false, true_implies, false_implies, implies_true, not_true_eq_false, not_false_eq_true, ne_eq, Bool.and_eq_false_imp, Bool.or_eq_false_iff, eq_self, or_false, false_or, or_true, true_or, e6]
    refine wp_unusable (k := ks) (W := W) (K := K) (F := F) (T := T) (by rw [rc_ax _ (by decide), rc_ax _ (by decide), rc_ax _ (by decide), rc_ax _ (by decide)]; exact hsp.2.2.1) (by rw [rc_fx _ _ (by decide)]; exact hsp.1) (by omega) fun s hs => ?_
    exact ⟨s, hs, rfl⟩
  rintro _ S2 ⟨s, hs, hS2⟩
  rw [rc_fx _ 10 t24] at hS2
  have s2_11 : fi S2 t 11 = fi SC t 10 &&& (s ^^^ nn) := by rw [← hS2, fi_ufi]
  have s2_f : ∀ a k, (a ≠ t ∨ k ≠ 11) → a ≠ 24 → fi S2 a k = fi SC a k := fun a k h h2 => by
    rw [← hS2, ← rc_fx a k h2]
    rcases h with h | h
    · exact fi_ufi1 _ _ _ _ _ _ h
    · exact fi_ufi2 _ _ _ _ _ _ h
  have s2_24 : ∀ k, fi S2 24 k = q k := fun k => by rw [← hS2, ← rc_24 k]; exact fi_ufi1 _ _ _ _ _ _ t24.symm
  have s2_a : ai S2 = ai S1 := by rw [← hS2]; rfl
  have MC2 : MnC t SC S2 := ⟨fun a b h1 h2 _ => s2_f a b (Or.inl h1) h2, fun b _ _ h _ _ => s2_f t b (Or.inr h) t24, fun c b _ _ => s2_f _ b (Or.inl (by omega)) (by omega), by rw [← hS2]; exact rc_fb, fun a _ _ _ h4 h5 => by rw [s2_a]; exact rc_ax a ⟨h4, h5⟩, by rw [← hS2]; exact rc_ab, fun k c b _ _ _ _ _ => s2_f _ b (Or.inl (by omega)) (by omega)⟩
  -- how far
  obtain ⟨fp, hfp⟩ : ∃ fp : Nat → Nat, ∀ c, LeW n A B M (E 0 c) (E 1 c) most (fun _ => true) (fp c) := ⟨fun c => Classical.choose (LeW_ex n A B M (E 0 c) (E 1 c) most fun _ => true), fun c => Classical.choose_spec (LeW_ex n A B M (E 0 c) (E 1 c) most fun _ => true)⟩
  have r39 : fi R2 127 39 = Int32.ofNat nR := by rw [rm_fx _ (by decide), lf _ _ (Or.inr (by decide))]; exact H.2.2.1.1
  have r2a : ∀ a, (a < 136 ∨ 139 < a) → a ≠ 148 ∧ a ≠ 149 → ai R2 a = ai SR a := fun a h1 h2 => by rw [rm_ax a h2, lax a h1]
  refine W2.r (rm_far (S := R2) (n := n) (A := A) (B := B) (M := M) (E := E) (u := u) (fp := fp) (most := most) hnR r39 HN (by rw [rm_ax _ (by decide), rm_ax _ (by decide), rm_ax _ (by decide), rm_ax _ (by decide), p136, p137, p138, p139]; exact hLd) (fun c hc => ?_) (by omega) (by rw [rm_a9, z1, mo2]) (fun c _ => hfp c) fun g172 hg172 => ?_)
  · obtain ⟨s1, s2, s3, s4, s5, s6, s7, ⟨b1, b2, -⟩, s8⟩ := hS c hc
    rw [r2a 150 (by omega) (by decide), r2a 151 (by omega) (by decide)]
    exact ⟨s1, s2, s3, b1, b2⟩
  generalize hR3 : sa R2 172 g172 = R3
  have r3_172 : ai R3 172 = g172 := by rw [← hR3, ai_sa]
  have r3_ax : ∀ a, a ≠ 172 → ai R3 a = ai R2 a := fun a h => by rw [← hR3]; exact ai_sa1 _ _ _ _ h
  have r3_f : fi R3 = fi R2 := by rw [← hR3]; rfl
  have r3_b : fb R3 = fb R2 := by rw [← hR3]; rfl
  have r3_ab : ab R3 = ab R2 := by rw [← hR3]; rfl
  have MR3 : MnR SR R3 := ⟨fun a b h => by rw [r3_f, rm_fa a b h, lf a b (Or.inl h)], fun b _ _ h1 h2 h3 h4 => by rw [r3_f, rm_fx b ⟨h1, h2, h3⟩, lf _ _ (Or.inr h4)], fun a b h => by rw [r3_b, rm_fb]; exact lbx a b h, fun a h => by rw [r3_ax a (by omega), r2a a (by omega) (by omega)], fun a h1 _ => by rw [r3_ab, rm_ab a h1, lab]⟩
  have hS3 : SS t nc nR E S2 R3 := SS_mn hnR hS MC2 MR3
  have H3 : DD t f n M nc nR m E D hd S2 R3 := DD_cg H (s2_f _ _ (Or.inr (by decide)) t24) (s2_f _ _ (Or.inr (by decide)) t24) (fun c b _ _ _ => s2_f _ _ (Or.inl (by omega)) (by omega)) (MR3.2.1 _ (by decide) (by decide) (by decide) (by decide) (by decide) (by decide)) (fun a h1 h2 => by rw [r3_ax a (by omega), r2a a (by omega) (by omega)])
  have hX3 : CX t f n al A' B' M' A B M uc (fun w => (wy W K F T w m ks).isNone) nc E m most hold S2 := by
    have a := MC2.2.2.2.2.1
    refine ⟨by rw [s2_f _ _ (Or.inr (by decide)) t24]; exact P, by rw [a _ (by omega) (by omega) (by omega) (by decide) (by decide), a _ (by omega) (by omega) (by omega) (by decide) (by decide), a _ (by omega) (by omega) (by omega) (by decide) (by decide)]; exact HL, huc, fun c hc => by rw [a _ (by omega) (by omega) (by omega) (by decide) (by decide), a _ (by omega) (by omega) (by omega) (by decide) (by decide), a _ (by omega) (by omega) (by omega) (by decide) (by decide), a _ (by omega) (by omega) (by omega) (by decide) (by decide)]; exact hPO c hc, by rw [s2_24, x4, mo2], by rw [s2_24, x5, ho2], by rw [s2_f _ _ (Or.inr (by decide)) t24]; exact h6, fun w hw => ?_, fun x hx h => ?_⟩
    · have hb := (P.2.1 w hw).2.2.1
      have hlt := hf.1 w hw
      rw [s2_11, bt_and, bt_not _ (by omega), hb, hs _ (by omega), hwy w hw]
      show (true && !(wy W K F T w m ks).isSome) = (wy W K F T w m ks).isNone
      cases wy W K F T w m ks <;> rfl
    · rw [s2_11, bt_and, Bool.and_eq_true] at h
      rw [s2_f _ _ (Or.inr (by decide)) t24]
      exact h.1
  have hY3 : RX n A B M u ks W K F T most hold R3 := by
    have a := MR3.2.2.2.1
    refine ⟨by rw [a _ (by omega), a _ (by omega), a _ (by omega)]; exact HN, by rw [r3_ax _ (by decide), r3_ax _ (by decide), r3_ax _ (by decide), r3_ax _ (by decide), rm_ax _ (by decide), rm_ax _ (by decide), rm_ax _ (by decide), rm_ax _ (by decide), p136, p137, p138, p139]; exact hLd, by rw [a _ (by omega), a _ (by omega), a _ (by omega), a _ (by omega)]; exact hsp.2.2.2, by rw [MR3.2.1 _ (by decide) (by decide) (by decide) (by decide) (by decide) (by decide)]; exact hsp.2.1, by rw [r3_ax _ (by decide), rm_a9, z1, mo2], by rw [r3_ax _ (by decide), rm_a9, z2, ho2]⟩
  have hKF3 : KFs nR E (fun c => wM (fp c)) ky kn R3 := by
    refine ⟨hkn, by rw [r3_f, rm_37, z37, xk], fun k hk => by rw [r3_f, rm_36, z36]; exact (hky k).2, fun k => (hky k).1, fun c hc => ?_, fun c hc => ?_⟩
    · obtain ⟨s1, s2, s3, s4, s5, s6, s7, -⟩ := hS c hc
      exact ⟨s4, s7⟩
    · obtain ⟨s1, s2, s3, s4, s5, s6, s7, ⟨b1, b2, b3, b4, b5, b6⟩, s8⟩ := hS3 c hc
      refine ⟨s5, by omega, by omega, by have := kM_lt (fp c); show wM (fp c) ≤ 1023; omega, b4, b6, b3, by rw [r3_172]; exact hg172 c hc⟩
  have hrg3 : fi S2 t 7 = fi R3 127 59 := by
    rw [s2_f _ _ (Or.inr (by decide)) t24, r3_f, rm_fx _ (by decide), lf _ _ (Or.inr (by decide))]; exact hrg
  have htm3 : ∀ c, c < nc → D 0 c = 1 → tmB E m c = true := fun c hc h => by
    have := ((H.2.2.2.1 c hc).2.2.2.1 h).2.2.2.2
    unfold tmB
    by_cases e : E 3 c = 2
    · rw [decide_eq_true (this e), Bool.or_true]
    · rw [decide_eq_false e]; rfl
  have hmo32 : most < 32 := by omega
  have hlx : ∀ c, c < nR → E 0 c < 8 ∧ E 1 c < 8 ∧ E 0 c ≠ E 1 c := fun c hc => ⟨(hS c hc).1, (hS c hc).2.1, (hS c hc).2.2.1⟩
  have hWF : ∀ c, c < nR → fp c = 0 ∨ WF n M (fp c) := fun c hc => by
    by_cases e : fp c = 0
    · exact Or.inl e
    · exact Or.inr (LeW_WF HN (hlx c hc).2.2 (hfp c) e)
  -- ended and cut
  refine W2.l (WP.mono (R_endCut (Q := fun S4 R4 => W2 (mb (Day_lineUp t) fun _ => mb (Day_breakRings t) fun _ => mb (Day_serve t) fun r => mb (Day_tally t) fun _ => mb (mb (gI t 6) fun a17 => mb (pu (1 : Int32)) fun a18 => sI t 6 (a17 + a18)) fun _ => pu r) S4 (mb MO_breakRings fun _ => mb (MO_handOn (Int32.ofNat m)) fun n => mb (MO_count5 (Int32.ofNat m)) fun _ => pu n) R4 Q) H3 hS3 hX3.2.2.2.2.2.2.1 hm (by omega) (fun w hw => hX3.2.2.2.2.2.2.2.1 w hw) hY3.2.2.1 hY3.2.2.2.1 hnw (by rw [MR3.2.1 _ (by decide) (by decide) (by decide) (by decide) (by decide) (by decide)]; exact hw0) hoff (by omega) fun D4 hd4 S4 R4 H4 KC4 KR4 e74 e594 P54 => ?_) fun _ S4 h => W2.r (h.mono fun _ R h2 => W2.r (h2.mono fun _ R4 h3 => h3)))
  have hX4 := CX_kp ht hX3 KC4
  have hY4 := RX_kp hY3 KR4
  have hS4 := SS_kp hnR hS3 KC4 KR4
  have hKF4 := KFs_kp hKF3 KR4 hnR
  have f24 : ∀ b, fi S4 24 b = q b := fun b => by rw [KC4.1 _ _ t24.symm (by omega), s2_24]
  -- lined up
  refine W2.l (wp_lineUp (nR := nR) (nc := nc) (m := m) (E := E) (D := D4) (fr' := fun c => wM (fp c)) (ky := ky) (fst := fun c => if fp c = 0 then 0 else fq f (fp c)) (kn := kn) (most := most) ht hnR hnc (by omega) H4.2.1.1 hX4.2.2.2.2.2.2.1 hX4.2.2.2.2.1 hkn (by rw [f24, x9, xk]) (fun i hi => by rw [KC4.2.2.2.2.1 _ (by omega), s2_a, rc_26, x26 i hi]; exact (hky i).2) (fun i => (hky i).1) (fun c hc => ⟨(hS c hc).2.2.2.1, (hS c hc).2.2.2.2.2.2.1⟩) (fun c hc => ?_) (fun c hc => ⟨(H4.2.2.2.1 c hc).1, (H4.2.1.2.2 c hc).1⟩) (fun c hc => ?_) (fun c hc S' ha Q hq => ?_) fun S5 hL h17 har h18 => ?_)
  · obtain ⟨s1, s2, s3, s4, s5, s6, s7, s8, s9⟩ := hS4 c (by omega)
    obtain ⟨a1, a2, a3, a4, a5, a6⟩ := s9 hc
    exact ⟨s5, fun e => by have := s6 e; omega, a1, a2, a3, a4, a5, a6⟩
  · show (if fp c = 0 then 0 else fq f (fp c)) < 134217728 ∧ wM (fp c) = wM (if fp c = 0 then 0 else fq f (fp c))
    rcases hWF c (by omega) with h | h
    · rw [if_pos h, h]; exact ⟨by omega, rfl⟩
    · obtain ⟨w1, -⟩ := WF_b h hn20
      obtain ⟨v1, v2, v3, v4, v5⟩ := WF_f h hn20 hf
      rw [if_neg w1]; exact ⟨v2, v4.symm⟩
  · have hbt : ∀ w, w < n → bt (fi S4 t 10) (f w) = true := fun w hw => (hX4.1.2.1 w hw).2.2.1
    have hgd : (fun q => gd (fun _ => true) (fun _ => true) true q (wN q)) = fun _ => true := by funext q; exact gd_tt q _
    exact cx_first hX4 HN hc (hlx c (by omega)) hmo32 (fun w _ h => h) (fr := fun _ => true) (nw := fun _ => true) (all := true) (fun w hw => hbt w hw) (fun w hw => hbt w hw) (fun w hw _ => hbt w hw) (by rw [hgd]; exact hfp c) ha hq
  have hbd := luR_bd (KY nR E (fun c => wM (fp c)) ky kn) (dueB (D4 0) (E 3) (E 4) m) nc
  have hsort := luR_sort (key := KY nR E (fun c => wM (fp c)) ky kn) (ON := dueB (D4 0) (E 3) (E 4) m) (N := 40) (fun c d h1 h2 h3 => KY_ne h1 h2 h3) nc (by omega)
  have hall := luR_all (key := KY nR E (fun c => wM (fp c)) ky kn) (ON := dueB (D4 0) (E 3) (E 4) m) nc
  obtain ⟨rn, row, hlu⟩ : ∃ rn row, luR (KY nR E (fun c => wM (fp c)) ky kn) (dueB (D4 0) (E 3) (E 4) m) nc = (rn, row) := ⟨_, _, rfl⟩
  rw [hlu] at hbd hsort hall h17 har
  simp only at hbd hsort hall h17 har
  have hdue : ∀ c, dueB (D4 0) (E 3) (E 4) m c = (decide (D4 0 c ≤ 1) && tmB E m c) := fun c => rfl
  have hRow : RowP nc rn row (KY nR E (fun c => wM (fp c)) ky kn) (tmB E m) D4 := by
    refine ⟨hbd.1, fun i hi => ?_, hsort, fun c hc h1 h2 => hall c hc (by rw [hdue, decide_eq_true h1, h2]; rfl)⟩
    obtain ⟨p1, p2⟩ := hbd.2 i hi
    rw [hdue, Bool.and_eq_true] at p2
    exact ⟨p1, p2.2⟩
  have hst4 : ∀ i, i < rn → D4 0 (row i) ≤ 1 := fun i hi => by
    obtain ⟨p1, p2⟩ := hbd.2 i hi
    rw [hdue, Bool.and_eq_true] at p2
    exact of_decide_eq_true p2.1
  have htm4 : ∀ c, c < nc → D4 0 c = 1 → tmB E m c = true := fun c hc h => by
    have := ((H4.2.2.2.1 c hc).2.2.2.1 h).2.2.2.2
    unfold tmB
    by_cases e : E 3 c = 2
    · rw [decide_eq_true (this e), Bool.or_true]
    · rw [decide_eq_false e]; rfl
  have KC5 := LUF_kp hL
  have hF5 := hL.2.2.2.2
  have H5 : DD t f n M nc nR m E D4 hd4 S5 R4 := DD_cg H4 (hF5 _ _ (Or.inr (by decide)) (Or.inl (by decide))) (hF5 _ _ (Or.inr (by decide)) (Or.inl (by decide))) (fun c b h1 h2 h3 => hF5 _ _ (Or.inl (by omega)) (Or.inl (by omega))) rfl fun _ _ _ => rfl
  have hX5 := CX_kp ht hX4 KC5
  have hrg5 : fi S5 t 7 = fi R4 127 59 := by
    rw [hF5 _ _ (Or.inr (by decide)) (Or.inl (by decide)), e74, e594]; exact hrg3
  -- rings
  refine W2.seq (R_rings ht rfl H5 hKF4 hRow hst4 htm4 h17 har hrg5 fun D6 hd6 S6 R6 H6 e016 htm6 RW6 KR6 hrg6 P56 => ?_)
  have hX6 := CX_kp ht hX5 RW6.1
  have hY6 := RX_kp hY4 KR6
  have hS6 : SS t nc nR E S6 R6 := SS_kp hnR (SS_kp hnR hS4 KC5 KpR.rfl') RW6.1 KR6
  have hKF6 := KFs_kp hKF4 KR6 hnR
  have hc16 : ai S6 16 = ai SC 16 := by
    rw [RW6.1.2.2.2.2.1 _ (by omega), KC5.2.2.2.2.1 _ (by omega), KC4.2.2.2.2.1 _ (by omega), s2_a, rc_ax _ (by decide)]
  have hc135 : ai R6 135 = ai SR 135 := by
    rw [KR6.2.2.1 _ (by omega), KR4.2.2.1 _ (by omega), MR3.2.2.2.1 _ (by omega)]
  have hlu6 : luR (KY nR E (fun c => wM (fp c)) ky kn) (dueB (D6 0) (E 3) (E 4) m) nc = (rn, row) := by
    rw [← hlu]
    congr 1
    funext c
    show (decide (D6 0 c ≤ 1) && _) = (decide (D4 0 c ≤ 1) && _)
    congr 1
    exact decide_eq_decide.2 (e016 c)
  have h176 : fi S6 t 17 = Int32.ofNat rn := by rw [RW6.2.2.1]; exact h17
  have har6 : ∀ i, i < rn → ar S6 (t + 5) i = some (t + 6 + row i) := fun i hi => by rw [RW6.2.1]; exact har i hi
  -- served
  refine W2.seq (R_serve ht (DD_mx H6 (Nat.le_succ m)) hS6 hX6 hY6 hKF6 hm hmo32 (by omega) hlu6 htm6 h176 har6 (by rw [hc16, hc135]; exact hcr) fun r D7 hd7 S7 R7 H7 e017 e57 htm7 RW7 KR7 e77 e597 hr P57 => ?_)
  have hX7 := CX_kp ht hX6 RW7.1
  have hY7 := RX_kp hY6 KR7
  have hS7 := SS_kp hnR hS6 RW7.1 KR7
  have hRow7 : RowP nc rn row (KY nR E (fun c => wM (fp c)) ky kn) (tmB E m) D7 := RowP_D hRow fun c hc h => (e016 c).1 (e017 c hc h)
  have MR7 : MnR SR R7 := ((MR3.tr (KpR_Mn KR4)).tr (KpR_Mn KR6)).tr (KpR_Mn KR7)
  have hw07 : fi R7 127 0 = Int32.ofNat nw := by rw [MR7.2.1 _ (by decide) (by decide) (by decide) (by decide) (by decide) (by decide)]; exact hw0
  have hw17 : fi R7 127 1 = Int32.ofNat na := by rw [MR7.2.1 _ (by decide) (by decide) (by decide) (by decide) (by decide) (by decide)]; exact hw1
  -- tallied
  refine W2.seq (R_tally ht H7 (fun c hc => by rw [e57]; exact (H6.2.2.2.1 c hc).2.2.2.2.2.2.2.2.2) hS7 hX7 hY7 hm hmo32 hRow7 (by rw [RW7.2.2.1]; exact h176) (fun i hi => by rw [RW7.2.1]; exact har6 i hi) (fun c _ => hfp c) (fun i hi => ?_) hw07 hw17 hwn fun S8 R8 du H8 FC8 FR8 G8 => ?_)
  · obtain ⟨p1, p2⟩ := hbd.2 i hi
    rw [RW7.2.2.2 _ (by omega), RW6.2.2.2 _ (by omega)]
    exact h18 _ p1 p2
  refine W2.l (WP.mono (Q := fun _ S' => S' = ufi S8 t 6 (fi S8 t 6 + 1)) ⟨(), _, rfl, rfl⟩ ?_)
  rintro _ S9 rfl
  have n6 : fi S8 t 6 = Int32.ofNat m := by rw [FC8.1 _ _ (Or.inl (by decide))]; exact hX7.2.2.2.2.2.2.1
  have e67 : fi S8 t 7 = fi R8 127 59 := by rw [FC8.1 _ _ (Or.inl (by decide)), FR8.1, e77, e597]; exact hrg6
  have ku : ∀ a b, (a ≠ t ∨ b ≠ 6) → fi (ufi S8 t 6 (fi S8 t 6 + 1)) a b = fi S8 a b := fun a b h => by
    rcases h with h | h
    · exact fi_ufi1 _ _ _ _ _ _ h
    · exact fi_ufi2 _ _ _ _ _ _ h
  have MC7 : MnC t SC S7 := (((MC2.tr (KpC_Mn KC4)).tr (KpC_Mn KC5)).tr (KpC_Mn RW6.1)).tr (KpC_Mn RW7.1)
  have MC9 : MnC t SC (ufi S8 t 6 (fi S8 t 6 + 1)) := (MC7.tr (FtC_Mn FC8)).tr ⟨fun a b h1 _ _ => ku a b (Or.inl h1), fun b h1 _ _ _ _ => ku t b (Or.inr h1), fun c b _ _ => ku _ b (Or.inl (by omega)), rfl, fun _ _ _ _ _ _ => rfl, rfl, fun k c b _ _ _ _ _ => ku _ b (Or.inl (by omega))⟩
  have c24 : fi (ufi S8 t 6 (fi S8 t 6 + 1)) 24 = q := by
    funext b
    rw [ku _ _ (Or.inl t24.symm), FC8.1 _ _ (Or.inr (Or.inl (by omega))), RW7.1.1 _ _ t24.symm (by omega), RW6.1.1 _ _ t24.symm (by omega), KC5.1 _ _ t24.symm (by omega), f24]
  have ca7 : ∀ a, a ≠ t + 4 → ai S7 a = ai S1 a := fun a h => by rw [RW7.1.2.2.2.2.1 _ h, RW6.1.2.2.2.2.1 _ h, KC5.2.2.2.2.1 _ h, KC4.2.2.2.2.1 _ h, s2_a]
  have ca8 : ∀ a, a ≠ t + 2 → a ≠ t + 3 → a ≠ t + 4 → ai S8 a = ai S1 a := fun a h1 h2 h3 => by rw [FC8.2.2.2.1 a h1 h2, ca7 a h3]
  have ra7 : ∀ a, (a = 167 ∨ a = 168) → ai R7 a = ai SR a := fun a h => by rw [KR7.2.2.1 _ (by omega), KR6.2.2.1 _ (by omega), KR4.2.2.1 _ (by omega), r3_ax _ (by omega), r2a _ (by omega) (by omega)]
  have rl8 : ∀ a, 136 ≤ a → a ≤ 139 → ai R8 a = ai R3 a := fun a h1 h2 => by rw [FR8.2.2.2 _ (by omega) (by omega) (by omega), KR7.2.2.1 _ (by omega), KR6.2.2.1 _ (by omega), KR4.2.2.1 _ (by omega)]
  refine ⟨r, _, rfl, r, _, rfl, hQ r (wD D7 du) hd7 _ R8 (DD_cg H8 (ku _ _ (Or.inr (by decide))) (ku _ _ (Or.inr (by decide))) (fun c b _ _ _ => ku _ _ (Or.inl (by omega))) rfl (fun _ _ _ => rfl)) MC9 (MR7.tr (FtR_Mn FR8)) ?_ ?_ ?_ ?_ ?_ ?_ (((P54.tr P56).tr P57).tr fun c => by rw [wD_ne (by decide), wD_ne (by decide)]; exact ⟨Iff.rfl, fun _ => rfl⟩)⟩
  · rw [fi_ufi, n6]; exact addN m 1
  · rw [ku _ _ (Or.inr (by decide))]; exact e67
  · rw [c24]
    show CIr no mi cl kd (ai SC 21) (ai SC 22) q (ai S8 25) (ai S8 26)
    rw [ca8 _ (by omega) (by omega) (by omega), ca8 _ (by omega) (by omega) (by omega), rc_25, rc_26]
    exact k1
  · rw [FR8.2.1, KR7.2.1, KR6.2.1, KR4.2.1, r3_b, rm_fb]; exact lb
  · refine ⟨u, ?_, ?_⟩
    · rw [FR8.1, KR7.1 _ _ (Or.inr (by decide)), KR6.1 _ _ (Or.inr (by decide)), KR4.1 _ _ (Or.inr (by decide)), r3_f, rm_fx _ (by decide)]; exact l15
    · rw [rl8 _ (by omega) (by omega), rl8 _ (by omega) (by omega), rl8 _ (by omega) (by omega), rl8 _ (by omega) (by omega)]
      exact hY3.2.1
  · unfold Grow at G8 ⊢
    rw [ca7 _ (by omega), ca7 _ (by omega), ra7 _ (Or.inl rfl), ra7 _ (Or.inr rfl), rc_ax _ (by omega), rc_ax _ (by omega)] at G8
    exact G8
end
