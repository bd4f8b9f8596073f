/-! a call put back: both sides -/
def zD (D : Nat → Nat → Nat) (d : Nat) : Nat → Nat → Nat := fun x c => if c = d ∧ x ≤ 2 then 0 else D x c
theorem zD_ne {D : Nat → Nat → Nat} {d x c : Nat} (h : c ≠ d ∨ 2 < x) : zD D d x c = D x c := by unfold zD; rw [if_neg (by omega)]
theorem zD_eq {D : Nat → Nat → Nat} {d x : Nat} (h : x ≤ 2) : zD D d x d = 0 := by unfold zD; rw [if_pos ⟨rfl, h⟩]
def RwF (t : Nat) (S S' : Sg) : Prop := KpC t S S' ∧ ar S' = ar S ∧ fi S' t 17 = fi S t 17 ∧ ∀ c, c < 40 → fi S' (t + 6 + c) 18 = fi S (t + 6 + c) 18
theorem RwF.rfl' {t : Nat} {S : Sg} : RwF t S S := ⟨KpC.rfl', rfl, rfl, fun _ _ => rfl⟩
theorem RwF.tr {t : Nat} {S S1 S2 : Sg} (h : RwF t S S1) (g : RwF t S1 S2) : RwF t S S2 := ⟨h.1.tr g.1, by rw [g.2.1, h.2.1], by rw [g.2.2.1, h.2.2.1], fun c hc => by rw [g.2.2.2 c hc, h.2.2.2 c hc]⟩
theorem clr_some {hd : Nat → Option Nat} {d w c : Nat} : clr hd d w = some c ↔ hd w = some c ∧ c ≠ d := by
  unfold clr
  by_cases e : hd w = some d
  · rw [if_pos e, e]
    exact ⟨fun h => (by cases h), fun h => (by cases h.1; exact absurd rfl h.2)⟩
  · rw [if_neg e]
    exact ⟨fun h => ⟨h, fun e2 => (by subst e2; exact e h)⟩, fun h => h.1⟩
section
variable {S : Sg} {t k : Nat}
theorem LG_12 (h : k ≠ t) : fi (LG S t k) t 12 = fi S t 12 &&& (fi S k 15 ^^^ nn) := by
  unfold LG
  rw [fi_ufi1 _ _ _ _ _ _ h.symm, fi_ufi1 _ _ _ _ _ _ h.symm, fi_ufi1 _ _ _ _ _ _ h.symm, fi_ufi1 _ _ _ _ _ _ h.symm, fi_ufi]
theorem LG_x {a b : Nat} (h : a ≠ t ∨ b ≠ 12) (h2 : a ≠ k ∨ (b ≠ 15 ∧ b ≠ 14 ∧ b ≠ 13 ∧ b ≠ 9)) : fi (LG S t k) a b = fi S a b := by
  unfold LG
  have e : ∀ (S : Sg) (x : Nat) (v : Int32), (a ≠ k ∨ b ≠ x) → fi (ufi S k x v) a b = fi S a b := fun S x v h => by
    rcases h with h | h
    · exact fi_ufi1 _ _ _ _ _ _ h
    · exact fi_ufi2 _ _ _ _ _ _ h
  rw [e _ _ _ (by omega), e _ _ _ (by omega), e _ _ _ (by omega), e _ _ _ (by omega)]
  rcases h with h | h
  · exact fi_ufi1 _ _ _ _ _ _ h
  · exact fi_ufi2 _ _ _ _ _ _ h
theorem LG_9 : fi (LG S t k) k 9 = Int32.ofNat 0 := by unfold LG; rw [fi_ufi]
theorem LG_13 : fi (LG S t k) k 13 = Int32.ofNat 0 := by unfold LG; rw [fi_ufi2 _ _ _ _ _ _ (by decide), fi_ufi]
theorem LG_14 : fi (LG S t k) k 14 = Int32.ofNat 0 := by unfold LG; rw [fi_ufi2 _ _ _ _ _ _ (by decide), fi_ufi2 _ _ _ _ _ _ (by decide), fi_ufi]
theorem LG_15 : fi (LG S t k) k 15 = Int32.ofNat 0 := by unfold LG; rw [fi_ufi2 _ _ _ _ _ _ (by decide), fi_ufi2 _ _ _ _ _ _ (by decide), fi_ufi2 _ _ _ _ _ _ (by decide), fi_ufi]
theorem LG_rw {d nc : Nat} (h5' : fi S t 5 = Int32.ofNat nc) (hn : nc ≤ 40) (hd : d < nc) : RwF t S (LG S t (t + 6 + d)) := ⟨⟨fun a b h1 h2 => LG_x (Or.inl h1) (Or.inl (by omega)), fun b h1 h2 h3 => LG_x (Or.inr h2) (Or.inl (by omega)), fun c b h1 h2 => LG_x (Or.inl (by omega)) (Or.inr (by omega)), rfl, fun _ _ => rfl, rfl, fun k c b h1 h2 h3 h4 h5 => LG_x (Or.inl (by omega)) (Or.inl (by rw [h5', ofN_inj (by omega) (by omega)] at h1; omega))⟩, rfl, LG_x (Or.inr (by decide)) (Or.inl (by omega)), fun c hc => LG_x (Or.inl (by omega)) (Or.inr (by decide))⟩
end
section
variable {t : Nat} {f : Nat → Nat} {n : Nat} {M : Nat → Nat} {nc nR mx : Nat} {E D : Nat → Nat → Nat} {hd : Nat → Option Nat} {SC SR : Sg}
theorem DD_cg (H : DD t f n M nc nR mx E D hd SC SR) {SC' SR' : Sg} (a5 : fi SC' t 5 = fi SC t 5) (a12 : fi SC' t 12 = fi SC t 12) (ac : ∀ c b, c < 40 → 9 ≤ b → b ≤ 16 → fi SC' (t + 6 + c) b = fi SC (t + 6 + c) b) (r39 : fi SR' 127 39 = fi SR 127 39) (ra : ∀ a, 158 ≤ a → a ≤ 166 → ai SR' a = ai SR a) : DD t f n M nc nR mx E D hd SC' SR' := by
  obtain ⟨⟨g1, g2, g3, hf⟩, ⟨c1, c2, c3⟩, ⟨r1, r2, r3, r4⟩, hK, h6s, hH⟩ := H
  refine ⟨⟨g1, g2, g3, hf⟩, ⟨by rw [a5]; exact c1, by rw [a12]; exact c2, fun c hc => ?_⟩, ⟨by rw [r39]; exact r1, by rw [ra _ (by omega) (by omega)]; exact r2, fun c hc => ?_, fun c h1 h2 => by rw [ra _ (by omega) (by omega)]; exact r4 c h1 h2⟩, hK, h6s, hH⟩
  · have h := c3 c hc
    unfold KC at h ⊢
    rw [ac c _ (by omega) (by omega) (by omega), ac c _ (by omega) (by omega) (by omega), ac c _ (by omega) (by omega) (by omega), ac c _ (by omega) (by omega) (by omega), ac c _ (by omega) (by omega) (by omega), ac c _ (by omega) (by omega) (by omega), ac c _ (by omega) (by omega) (by omega), ac c _ (by omega) (by omega) (by omega)]
    exact h
  · have h := r3 c hc
    unfold KR at h ⊢
    rw [ra _ (by omega) (by omega), ra _ (by omega) (by omega), ra _ (by omega) (by omega), ra _ (by omega) (by omega), ra _ (by omega) (by omega), ra _ (by omega) (by omega), ra _ (by omega) (by omega), ra _ (by omega) (by omega)]
    exact h
def PB (S : Sg) (g : Nat → Int32) (d : Nat) : Sg := sa (sa (sa (sa S 166 g) 162 (upf (ai S 162) d (Int32.ofNat 0))) 164 (upf (ai S 164) d (Int32.ofNat 0))) 158 (upf (ai S 158) d (Int32.ofNat 0))
theorem PB_a (S : Sg) (g : Nat → Int32) (d : Nat) : ai (PB S g d) 166 = g ∧ ai (PB S g d) 162 = upf (ai S 162) d (Int32.ofNat 0) ∧ ai (PB S g d) 164 = upf (ai S 164) d (Int32.ofNat 0) ∧ ai (PB S g d) 158 = upf (ai S 158) d (Int32.ofNat 0) := by
  unfold PB
  refine ⟨?_, ?_, ?_, ?_⟩
  · rw [ai_sa1 _ _ _ _ (by decide), ai_sa1 _ _ _ _ (by decide), ai_sa1 _ _ _ _ (by decide), ai_sa]
  · rw [ai_sa1 _ _ _ _ (by decide), ai_sa1 _ _ _ _ (by decide), ai_sa]
  · rw [ai_sa1 _ _ _ _ (by decide), ai_sa]
  · rw [ai_sa]
theorem PB_x (S : Sg) (g : Nat → Int32) (d : Nat) {a : Nat} (h : a ≠ 166 ∧ a ≠ 162 ∧ a ≠ 164 ∧ a ≠ 158) : ai (PB S g d) a = ai S a := by
  unfold PB
  rw [ai_sa1 _ _ _ _ h.2.2.2, ai_sa1 _ _ _ _ h.2.2.1, ai_sa1 _ _ _ _ h.2.1, ai_sa1 _ _ _ _ h.1]
theorem PB_kp (S : Sg) (g : Nat → Int32) (d : Nat) : KpR S (PB S g d) := ⟨fun _ _ _ => rfl, rfl, fun a h => PB_x S g d (by omega), fun _ _ => rfl⟩
theorem DD_back (H : DD t f n M nc nR mx E D hd SC SR) {d : Nat} (hdc : d < nc) (hst : D 0 d ≤ 1) {g : Nat → Int32} (hg : HDR (clr hd d) g) : DD t f n M nc nR mx E (zD D d) (clr hd d) (LG SC t (t + 6 + d)) (PB SR g d) := by
  obtain ⟨⟨g1, g2, g3, hf⟩, ⟨c1, c2, c3⟩, ⟨r1, r2, r3, r4⟩, hK, h6s, hH1, hH2⟩ := H
  obtain ⟨p66, p62, p64, p58⟩ := PB_a SR g d
  have hkt : t + 6 + d ≠ t := by omega
  refine ⟨⟨g1, g2, g3, hf⟩, ⟨?_, ?_, fun c hc => ?_⟩, ⟨r1, by rw [p66]; exact hg, fun c hc => ?_, fun c h1 h2 => ?_⟩, fun c hc => ?_, fun c hc => ?_, fun w c hw h => ?_, fun c j hc hs hj => ?_⟩
  · rw [LG_x (Or.inr (by decide)) (Or.inl (by omega))]; exact c1
  · rw [LG_12 hkt]
    refine Bs_cg (Bs_sub hf c2 (c3 d hdc).2.2.2.2.2.2.1) fun w hw => ⟨?_, ?_⟩
    · rintro ⟨⟨c, h1⟩, h2⟩
      exact ⟨c, clr_some.2 ⟨h1, fun e => h2 (by rw [h1, e])⟩⟩
    · rintro ⟨c, h⟩
      obtain ⟨h1, h2⟩ := clr_some.1 h
      exact ⟨⟨c, h1⟩, fun e => h2 (by rw [h1] at e; cases e; rfl)⟩
  · obtain ⟨d1, d2, d3, d4, d5, d6, d7, d8⟩ := c3 c hc
    by_cases e : c = d
    · subst e
      refine ⟨by rw [LG_9, zD_eq (by omega)], ?_, fun _ => ?_, ?_, by rw [LG_13, zD_eq (by omega)]; rfl, by rw [LG_14, zD_eq (by omega)], by rw [LG_15]; exact Bs_emp fun w _ h => (clr_some.1 h).2 rfl, fun h => by rw [zD_eq (by omega)] at h; cases h⟩
      · rw [LG_x (Or.inl (by omega)) (Or.inr (by decide)), zD_ne (Or.inr (by omega))]; exact d2
      · rw [LG_x (Or.inl (by omega)) (Or.inr (by decide)), zD_ne (Or.inr (by omega))]; exact d3 (Or.inl (by omega))
      · rw [LG_x (Or.inl (by omega)) (Or.inr (by decide)), zD_ne (Or.inr (by omega))]; exact d4
    · have z : ∀ x, zD D d x c = D x c := fun x => zD_ne (Or.inl e)
      have l : ∀ b, fi (LG SC t (t + 6 + d)) (t + 6 + c) b = fi SC (t + 6 + c) b := fun b => LG_x (Or.inl (by omega)) (Or.inl (by omega))
      unfold KC
      rw [z, z, z, z, z, z, z, l, l, l, l, l, l, l, l]
      exact ⟨d1, d2, d3, d4, d5, d6, Bs_cg d7 fun w _ => ⟨fun h => clr_some.2 ⟨h, e⟩, fun h => (clr_some.1 h).1⟩, d8⟩
  · obtain ⟨d1, d2, d3, d4, d5, d6, d7⟩ := r3 c hc
    unfold KR
    rw [p58, p62, p64, PB_x _ _ _ (by decide), PB_x _ _ _ (by decide), PB_x _ _ _ (by decide), PB_x _ _ _ (by decide), PB_x _ _ _ (by decide)]
    by_cases e : c = d
    · subst e
      have w0 : wN 0 = 0 := rfl
      have z0 : zD D c 0 c = 0 := zD_eq (by omega)
      have z1 : zD D c 1 c = 0 := zD_eq (by omega)
      have z2 : zD D c 2 c = 0 := zD_eq (by omega)
      have z3 : zD D c 3 c = D 3 c := zD_ne (Or.inr (by omega))
      have z4 : zD D c 4 c = D 4 c := zD_ne (Or.inr (by omega))
      have z5 : zD D c 5 c = D 5 c := zD_ne (Or.inr (by omega))
      have z6 : zD D c 6 c = D 6 c := zD_ne (Or.inr (by omega))
      rw [upf_eq, upf_eq, upf_eq, z0, z1, z2, z3, z4, z5, z6, w0]
      exact ⟨rfl, d2, fun _ => d3 (Or.inl (by omega)), d4, fun _ => rfl, fun h => (by omega), fun _ => ⟨rfl, fun j hj => by omega⟩⟩
    · have z : ∀ x, zD D d x c = D x c := fun x => zD_ne (Or.inl e)
      rw [upf_ne _ _ _ _ e, upf_ne _ _ _ _ e, upf_ne _ _ _ _ e, z, z, z, z, z, z, z]
      exact ⟨d1, d2, d3, d4, d5, d6, d7⟩
  · rw [p58, upf_ne _ _ _ _ (by omega)]; exact r4 c h1 h2
  · obtain ⟨k1, k2, k3, k4, k5, k6, k7, k8, k9, k10⟩ := hK c hc
    unfold KI
    by_cases e : c = d
    · subst e
      have z0 : zD D c 0 c = 0 := zD_eq (by omega)
      have z1 : zD D c 1 c = 0 := zD_eq (by omega)
      have z2 : zD D c 2 c = 0 := zD_eq (by omega)
      have z3 : zD D c 3 c = D 3 c := zD_ne (Or.inr (by omega))
      have z4 : zD D c 4 c = D 4 c := zD_ne (Or.inr (by omega))
      have z5 : zD D c 5 c = D 5 c := zD_ne (Or.inr (by omega))
      have z6 : zD D c 6 c = D 6 c := zD_ne (Or.inr (by omega))
      rw [z0, z1, z2, z3, z4, z5, z6]
      exact ⟨by omega, Or.inl rfl, by omega, by omega, by omega, by omega, by omega, by omega, by omega, by omega⟩
    · have z : ∀ x, zD D d x c = D x c := fun x => zD_ne (Or.inl e)
      simp only [z]
      exact ⟨k1, k2, k3, k4, k5, k6, k7, k8, k9, k10⟩
  · rw [zD_ne (Or.inl (by omega))]; exact h6s c hc
  · obtain ⟨h1, h2⟩ := clr_some.1 h
    have z : ∀ x, zD D d x c = D x c := fun x => zD_ne (Or.inl h2)
    rw [z, z, z]
    exact hH1 w c hw h1
  · have e : c ≠ d := fun e => by subst e; rw [zD_eq (by omega)] at hj; omega
    have z : ∀ x, zD D d x c = D x c := fun x => zD_ne (Or.inl e)
    rw [z] at hs hj
    rw [z]
    exact clr_some.2 ⟨hH2 c j hc hs hj, e⟩
end
/-! how many are held -/
def hN (D : Nat → Nat → Nat) : Nat → Nat
  | 0 => 0
  | c + 1 => hN D c + if D 0 c = 1 then 1 else 0
theorem hN_le (D : Nat → Nat → Nat) : ∀ n, hN D n ≤ n := by
  intro n
  induction n with
  | zero => exact Nat.le_refl _
  | succ n ih => unfold hN; split <;> omega
theorem hN_0 {D : Nat → Nat → Nat} : ∀ n, hN D n = 0 → ∀ c, c < n → D 0 c ≠ 1 := by
  intro n
  induction n with
  | zero => intro _ c h; omega
  | succ n ih =>
    intro h c hc
    unfold hN at h
    by_cases e : c = n
    · subst e; intro h2; rw [if_pos h2] at h; omega
    · exact ih (by omega) c (by omega)
theorem hN_z {D : Nat → Nat → Nat} {d : Nat} (h1 : D 0 d = 1) : ∀ n, hN (zD D d) n + (if d < n then 1 else 0) = hN D n := by
  intro n
  induction n with
  | zero => rfl
  | succ n ih =>
    unfold hN
    by_cases e : n = d
    · subst e
      rw [if_neg (by omega)] at ih
      have z0 : zD D n 0 n = 0 := zD_eq (by omega)
      rw [z0, if_pos h1, if_neg (show ¬ (0 : Nat) = 1 by omega), if_pos (show n < n + 1 by omega)]
      omega
    · rw [zD_ne (Or.inl e)]
      have : (if d < n + 1 then 1 else 0) = (if d < n then 1 else 0) := by
        by_cases h : d < n
        · rw [if_pos h, if_pos (by omega)]
        · rw [if_neg h, if_neg (by omega)]
      omega
/-! who waits, in the class -/
theorem eq_ne0 (x : Int32) : cmp0 .eq x = !cmp0 .ne x := by rw [jj0_eq, jj0_ne, Bool.not_not]
theorem and_0l (x : Int32) : Int32.ofNat 0 &&& x = Int32.ofNat 0 := by
  apply bt_ext
  intro w hw
  rw [bt_and, bt_zero]; rfl
section
variable {S : Sg} {t : Nat} {f : Nat → Nat} {n rn : Nat} {row : Nat → Nat} {hd : Nat → Option Nat}
theorem wp_heldWith0 (Q : Option Nat → Sg → Prop) : WP (Day_heldWith t (Int32.ofNat 0)) S Q ↔ Q none S := by
  refine WP.fix ?_
  unfold Day_heldWith
  simp (disch := omega) only [q_0, q_1, q_2, q_3, q_4, q_5, q_6, q_7, q_8, q_9, q_10, q_11, q_12, q_15, q_16, q_20, q_21, q_25, q_30, q_31, q_32, q_40, q_44, q_48, q_50, q_57, q_59, q_60, q_64, q_81, q_97, q_98, q_99, q_100, q_101, q_102, q_103, q_104, q_105, q_107, q_108, q_110, q_111, q_114, q_115, q_116, q_119, q_120, q_121, q_122, q_136, q_160, q_200, q_255, q_300, q_400, q_401, q_402, q_460, q_479, q_480, q_920, q_999, q_1000, q_1023, q_1024, q_4020, q_9999, q_99999, q_1000000, q_1000000000, q_100001, q_100002, q_100003, q_100004, q_400000, nn_1, r_0, r_1, r_2, r_3, r_4, r_6, r_7, r_8, r_9, r_10, r_11, r_21, r_40, r_48, r_57, r_60, r_97, r_122, r_200, r_300, r_479, r_920, r_9999, r_99999, r_m1, rd_pu, rd_gI, rd_gB, rd_gL, rd_gQ, rd_rI, rd_rB, rd_rQ, rd_rK, rd_dq, rd_cq, rd_div, rd_rem, rd_mb, rd_mif, rd_within, rd_in, Bool.true_and, Bool.and_true, Bool.cond_self, Bool.cond_false_right, Bool.cond_true_left, cond_true, cond_false, rd_sAt, wp_rd, wp_mb, wp_mif, wp_sI, wp_sB, wp_sL, wp_sQ, wp_wI, wp_wB, wp_wQ, orR_l, orR_r, orE_l, orE_r, sK_l, sK_r, sK_c, cond_tr, fi_ufi, fi_ufi1, fi_ufi2, fb_ufb, fb_ufb1, fb_ufb2, fl_ufl, fl_ufl1, fl_ufl2, fr_ufr, fr_ufr1, fr_ufr2, ai_sa, ai_sa1, ab_sab, ab_sab1, ar_sar, ar_sar1, upf_eq, upf_ne, fi_ufb, fi_ufl, fi_ufr, fi_sa, fi_sab, fi_sar, fb_ufi, fb_ufl, fb_ufr, fb_sa, fb_sab, fb_sar, fl_ufi, fl_ufb, fl_ufr, fl_sa, fl_sab, fl_sar, fr_ufi, fr_ufb, fr_ufl, fr_sa, fr_sab, fr_sar, ai_ufi, ai_ufb, ai_ufl, ai_ufr, ai_sab, ai_sar, ab_ufi, ab_ufb, ab_ufl, ab_ufr, ab_sa, ab_sar, ar_ufi, ar_ufb, ar_ufl, ar_ufr, ar_sa, ar_sab, sa_sa, sab_sab, sar_sar, upf_upf, ufi_ufi, tnN, inbN, addN, subN, mulN, decN, divN, remN, n2_lt, n2_le, n2_gt, n2_ge, n2_eq, n2_ne, n0_lt, n0_ge, n0_gt, n0_le, n0_eq, n0_ne, m2_eq, m2_ne, m2_eqq, m2_neq, m0_lt, m0_ge, m0_eq, m0_ne, m2_eqN, m2_neN, wi_N, wi_P, wi_NN, inN_N, li_wi, Nat.reduceAdd, Nat.reduceSub, Nat.reduceMul, Nat.reduceDiv, Nat.reduceMod, Nat.reduceLT, Nat.reduceLeDiff, Nat.reduceEqDiff, decide_true, decide_false, Nat.add_zero, Nat.zero_add, Nat.mul_one, Nat.one_mul, Nat.mul_zero, Nat.zero_mul, n0_gts, Prod.mk.injEq, modN, decide_eq_true_eq, decide_eq_false_iff_not, Bool.and_eq_true, Bool.or_eq_true, Bool.not_eq_true', Bool.not_eq_false', Bool.not_eq_true, Bool.not_eq_false, Bool.not_not, Bool.not_true, Bool.not_false, Bool.true_eq_false, Bool.false_eq_true, true_and, and_true, false_and, and_false, true_implies, false_implies, implies_true, not_true_eq_false, not_false_eq_true, ne_eq, Bool.and_eq_false_imp, Bool.or_eq_false_iff, eq_self, or_false, false_or, or_true, true_or, and_0l]
theorem wp_heldWith (ht : t = 29 ∨ t = 80) (hf : Inj f n) (hb : Bs f n (fun w => ∃ c, hd w = some c) (fi S t 12)) (hrn : rn ≤ 40) (h17 : fi S t 17 = Int32.ofNat rn) (hrow : ∀ i, i < rn → row i < 40 ∧ ar S (t + 5) i = some (t + 6 + row i)) (hh : ∀ i, i < rn → Bs f n (fun w => hd w = some (row i)) (fi S (t + 6 + row i) 15)) {w0 : Nat} (hw : w0 < n) {Q : Option Nat → Sg → Prop} (hQ0 : (∀ i, i < rn → hd w0 ≠ some (row i)) → Q none S) (hQ1 : ∀ i, i < rn → hd w0 = some (row i) → Q (some (t + 6 + row i)) S) : WP (Day_heldWith t (jsh (Int32.ofNat 1) (Int32.ofNat (f w0)))) S Q := by
  have hs := Bs_one hf hw
  have e1 := Bs_ne0 hf (Bs_and hf hs hb)
  have e2 := eq_ne0 (jsh (Int32.ofNat 1) (Int32.ofNat (f w0)) &&& fi S t 12)
  unfold Day_heldWith
  cases hc : cmp0 .ne (jsh (Int32.ofNat 1) (Int32.ofNat (f w0)) &&& fi S t 12)
  · rw [hc] at e2
    simp (disch := omega) only [q_0, q_1, q_2, q_3, q_4, q_5, q_6, q_7, q_8, q_9, q_10, q_11, q_12, q_15, q_16, q_20, q_21, q_25, q_30, q_31, q_32, q_40, q_44, q_48, q_50, q_57, q_59, q_60, q_64, q_81, q_97, q_98, q_99, q_100, q_101, q_102, q_103, q_104, q_105, q_107, q_108, q_110, q_111, q_114, q_115, q_116, q_119, q_120, q_121, q_122, q_136, q_160, q_200, q_255, q_300, q_400, q_401, q_402, q_460, q_479, q_480, q_920, q_999, q_1000, q_1023, q_1024, q_4020, q_9999, q_99999, q_1000000, q_1000000000, q_100001, q_100002, q_100003, q_100004, q_400000, nn_1, r_0, r_1, r_2, r_3, r_4, r_6, r_7, r_8, r_9, r_10, r_11, r_21, r_40, r_48, r_57, r_60, r_97, r_122, r_200, r_300, r_479, r_920, r_9999, r_99999, r_m1, rd_pu, rd_gI, rd_gB, rd_gL, rd_gQ, rd_rI, rd_rB, rd_rQ, rd_rK, rd_dq, rd_cq, rd_div, rd_rem, rd_mb, rd_mif, rd_within, rd_in, Bool.true_and, Bool.and_true, Bool.cond_self, Bool.cond_false_right, Bool.cond_true_left, cond_true, cond_false, rd_sAt, wp_rd, wp_mb, wp_mif, wp_sI, wp_sB, wp_sL, wp_sQ, wp_wI, wp_wB, wp_wQ, orR_l, orR_r, orE_l, orE_r, sK_l, sK_r, sK_c, cond_tr, fi_ufi, fi_ufi1, fi_ufi2, fb_ufb, fb_ufb1, fb_ufb2, fl_ufl, fl_ufl1, fl_ufl2, fr_ufr, fr_ufr1, fr_ufr2, ai_sa, ai_sa1, ab_sab, ab_sab1, ar_sar, ar_sar1, upf_eq, upf_ne, fi_ufb, fi_ufl, fi_ufr, fi_sa, fi_sab, fi_sar, fb_ufi, fb_ufl, fb_ufr, fb_sa, fb_sab, fb_sar, fl_ufi, fl_ufb, fl_ufr, fl_sa, fl_sab, fl_sar, fr_ufi, fr_ufb, fr_ufl, fr_sa, fr_sab, fr_sar, ai_ufi, ai_ufb, ai_ufl, ai_ufr, ai_sab, ai_sar, ab_ufi, ab_ufb, ab_ufl, ab_ufr, ab_sa, ab_sar, ar_ufi, ar_ufb, ar_ufl, ar_ufr, ar_sa, ar_sab, sa_sa, sab_sab, sar_sar, upf_upf, ufi_ufi, tnN, inbN, addN, subN, mulN, decN, divN, remN, n2_lt, n2_le, n2_gt, n2_ge, n2_eq, n2_ne, n0_lt, n0_ge, n0_gt, n0_le, n0_eq, n0_ne, m2_eq, m2_ne, m2_eqq, m2_neq, m0_lt, m0_ge, m0_eq, m0_ne, m2_eqN, m2_neN, wi_N, wi_P, wi_NN, inN_N, li_wi, Nat.reduceAdd, Nat.reduceSub, Nat.reduceMul, Nat.reduceDiv, Nat.reduceMod, Nat.reduceLT, Nat.reduceLeDiff, Nat.reduceEqDiff, decide_true, decide_false, Nat.add_zero, Nat.zero_add, Nat.mul_one, Nat.one_mul, Nat.mul_zero, Nat.zero_mul, n0_gts, Prod.mk.injEq, modN, decide_eq_true_eq, decide_eq_false_iff_not, Bool.and_eq_true, Bool.or_eq_true, Bool.not_eq_true', Bool.not_eq_false', Bool.not_eq_true, Bool.not_eq_false, Bool.not_not, Bool.not_true, Bool.not_false, Bool.true_eq_false, Bool.false_eq_true, true_and, and_true, false_and, and_false, true_implies, false_implies, implies_true, not_true_eq_false, not_false_eq_true, ne_eq, Bool.and_eq_false_imp, Bool.or_eq_false_iff, eq_self, or_false, false_or, or_true, true_or, e2]
    refine hQ0 fun i hi h => ?_
    have := e1.2 ⟨w0, hw, rfl, _, h⟩
    rw [hc] at this; cases this
  · rw [hc] at e2
    simp (disch := omega) only [q_0, q_1, q_2, q_3, q_4, q_5, q_6, q_7, q_8, q_9, q_10, q_11, q_12, q_15, q_16, q_20, q_21, q_25, q_30, q_31, q_32, q_40, q_44, q_48, q_50, q_57, q_59, q_60, q_64, q_81, q_97, q_98, q_99, q_100, q_101, q_102, q_103, q_104, q_105, q_107, q_108, q_110, q_111, q_114, q_115, q_116, q_119, q_120, q_121, q_122, q_136, q_160, q_200, q_255, q_300, q_400, q_401, q_402, q_460, q_479, q_480, q_920, q_999, q_1000, q_1023, q_1024, q_4020, q_9999, q_99999, q_1000000, q_1000000000, q_100001, q_100002, q_100003, q_100004, q_400000, nn_1, r_0, r_1, r_2, r_3, r_4, r_6, r_7, r_8, r_9, r_10, r_11, r_21, r_40, r_48, r_57, r_60, r_97, r_122, r_200, r_300, r_479, r_920, r_9999, r_99999, r_m1, rd_pu, rd_gI, rd_gB, rd_gL, rd_gQ, rd_rI, rd_rB, rd_rQ, rd_rK, rd_dq, rd_cq, rd_div, rd_rem, rd_mb, rd_mif, rd_within, rd_in, Bool.true_and, Bool.and_true, Bool.cond_self, Bool.cond_false_right, Bool.cond_true_left, cond_true, cond_false, rd_sAt, wp_rd, wp_mb, wp_mif, wp_sI, wp_sB, wp_sL, wp_sQ, wp_wI, wp_wB, wp_wQ, orR_l, orR_r, orE_l, orE_r, sK_l, sK_r, sK_c, cond_tr, fi_ufi, fi_ufi1, fi_ufi2, fb_ufb, fb_ufb1, fb_ufb2, fl_ufl, fl_ufl1, fl_ufl2, fr_ufr, fr_ufr1, fr_ufr2, ai_sa, ai_sa1, ab_sab, ab_sab1, ar_sar, ar_sar1, upf_eq, upf_ne, fi_ufb, fi_ufl, fi_ufr, fi_sa, fi_sab, fi_sar, fb_ufi, fb_ufl, fb_ufr, fb_sa, fb_sab, fb_sar, fl_ufi, fl_ufb, fl_ufr, fl_sa, fl_sab, fl_sar, fr_ufi, fr_ufb, fr_ufl, fr_sa, fr_sab, fr_sar, ai_ufi, ai_ufb, ai_ufl, ai_ufr, ai_sab, ai_sar, ab_ufi, ab_ufb, ab_ufl, ab_ufr, ab_sa, ab_sar, ar_ufi, ar_ufb, ar_ufl, ar_ufr, ar_sa, ar_sab, sa_sa, sab_sab, sar_sar, upf_upf, ufi_ufi, tnN, inbN, addN, subN, mulN, decN, divN, remN, n2_lt, n2_le, n2_gt, n2_ge, n2_eq, n2_ne, n0_lt, n0_ge, n0_gt, n0_le, n0_eq, n0_ne, m2_eq, m2_ne, m2_eqq, m2_neq, m0_lt, m0_ge, m0_eq, m0_ne, m2_eqN, m2_neN, wi_N, wi_P, wi_NN, inN_N, li_wi, Nat.reduceAdd, Nat.reduceSub, Nat.reduceMul, Nat.reduceDiv, Nat.reduceMod, Nat.reduceLT, Nat.reduceLeDiff, Nat.reduceEqDiff, decide_true, decide_false, Nat.add_zero, Nat.zero_add, Nat.mul_one, Nat.one_mul, Nat.mul_zero, Nat.zero_mul, n0_gts, Prod.mk.injEq, modN, decide_eq_true_eq, decide_eq_false_iff_not, Bool.and_eq_true, Bool.or_eq_true, Bool.not_eq_true', Bool.not_eq_false', Bool.not_eq_true, Bool.not_eq_false, Bool.not_not, Bool.not_true, Bool.not_false, Bool.true_eq_false, Bool.false_eq_true, true_and, and_true, false_and, and_false, true_implies, false_implies, implies_true, not_true_eq_false, not_false_eq_true, ne_eq, Bool.and_eq_false_imp, Bool.or_eq_false_iff, eq_self, or_false, false_or, or_true, true_or, e2]
    refine WP.mono (wp_for rn (by unfold FU; omega) (fun k x S' => x = Int32.ofNat k ∧ S = S' ∧ ∀ i, i < k → hd w0 ≠ some (row i)) ?_ ⟨rfl, rfl, fun i hi => by omega⟩ (Q := fun x S' => S = S' ∧ ((∃ i, x = .inl (some (t + 6 + row i)) ∧ i < rn ∧ hd w0 = some (row i)) ∨ (∃ v, x = .inr v ∧ ∀ i, i < rn → hd w0 ≠ some (row i))))) ?_
    · rintro k x S' hk ⟨rfl, rfl, hno⟩
      unfold Day_heldWith_l1
      by_cases hkn : k < rn
      · obtain ⟨r1, r2⟩ := hrow k hkn
        have hic := isC_call ht r1
        have hk40 : k < 40 := by omega
        have e3 := Bs_ne0 hf (Bs_and hf (hh k hkn) hs)
        cases hx : cmp0 .ne (fi S (t + 6 + row k) 15 &&& jsh (Int32.ofNat 1) (Int32.ofNat (f w0)))
        · simp (disch := omega) only [q_0, q_1, q_2, q_3, q_4, q_5, q_6, q_7, q_8, q_9, q_10, q_11, q_12, q_15, q_16, q_20, q_21, q_25, q_30, q_31, q_32, q_40, q_44, q_48, q_50, q_57, q_59, q_60, q_64, q_81, q_97, q_98, q_99, q_100, q_101, q_102, q_103, q_104, q_105, q_107, q_108, q_110, q_111, q_114, q_115, q_116, q_119, q_120, q_121, q_122, q_136, q_160, q_200, q_255, q_300, q_400, q_401, q_402, q_460, q_479, q_480, q_920, q_999, q_1000, q_1023, q_1024, q_4020, q_9999, q_99999, q_1000000, q_1000000000, q_100001, q_100002, q_100003, q_100004, q_400000, nn_1, r_0, r_1, r_2, r_3, r_4, r_6, r_7, r_8, r_9, r_10, r_11, r_21, r_40, r_48, r_57, r_60, r_97, r_122, r_200, r_300, r_479, r_920, r_9999, r_99999, r_m1, rd_pu, rd_gI, rd_gB, rd_gL, rd_gQ, rd_rI, rd_rB, rd_rQ, rd_rK, rd_dq, rd_cq, rd_div, rd_rem, rd_mb, rd_mif, rd_within, rd_in, Bool.true_and, Bool.and_true, Bool.cond_self, Bool.cond_false_right, Bool.cond_true_left, cond_true, cond_false, rd_sAt, wp_rd, wp_mb, wp_mif, wp_sI, wp_sB, wp_sL, wp_sQ, wp_wI, wp_wB, wp_wQ, orR_l, orR_r, orE_l, orE_r, sK_l, sK_r, sK_c, cond_tr, fi_ufi, fi_ufi1, fi_ufi2, fb_ufb, fb_ufb1, fb_ufb2, fl_ufl, fl_ufl1, fl_ufl2, fr_ufr, fr_ufr1, fr_ufr2, ai_sa, ai_sa1, ab_sab, ab_sab1, ar_sar, ar_sar1, upf_eq, upf_ne, fi_ufb, fi_ufl, fi_ufr, fi_sa, fi_sab, fi_sar, fb_ufi, fb_ufl, fb_ufr, fb_sa, fb_sab, fb_sar, fl_ufi, fl_ufb, fl_ufr, fl_sa, fl_sab, fl_sar, fr_ufi, fr_ufb, fr_ufl, fr_sa, fr_sab, fr_sar, ai_ufi, ai_ufb, ai_ufl, ai_ufr, ai_sab, ai_sar, ab_ufi, ab_ufb, ab_ufl, ab_ufr, ab_sa, ab_sar, ar_ufi, ar_ufb, ar_ufl, ar_ufr, ar_sa, ar_sab, sa_sa, sab_sab, sar_sar, upf_upf, ufi_ufi, tnN, inbN, addN, subN, mulN, decN, divN, remN, n2_lt, n2_le, n2_gt, n2_ge, n2_eq, n2_ne, n0_lt, n0_ge, n0_gt, n0_le, n0_eq, n0_ne, m2_eq, m2_ne, m2_eqq, m2_neq, m0_lt, m0_ge, m0_eq, m0_ne, m2_eqN, m2_neN, wi_N, wi_P, wi_NN, inN_N, li_wi, Nat.reduceAdd, Nat.reduceSub, Nat.reduceMul, Nat.reduceDiv, Nat.reduceMod, Nat.reduceLT, Nat.reduceLeDiff, Nat.reduceEqDiff, decide_true, decide_false, Nat.add_zero, Nat.zero_add, Nat.mul_one, Nat.one_mul, Nat.mul_zero, Nat.zero_mul, n0_gts, Prod.mk.injEq, modN, decide_eq_true_eq, decide_eq_false_iff_not, Bool.and_eq_true, Bool.or_eq_true, Bool.not_eq_true', Bool.not_eq_false', Bool.not_eq_true, Bool.not_eq_false, Bool.not_not, Bool.not_true, Bool.not_false, Bool.true_eq_false, Bool.false_eq_true, true_and, and_true, false_and, and_false, true_implies, false_implies, implies_true, not_true_eq_false, not_false_eq_true, ne_eq, Bool.and_eq_false_imp, Bool.or_eq_false_iff, eq_self, or_false, false_or, or_true, true_or, h17, hkn, hk40, r2, hic, Option.any_some, Option.getD_some, hx]
          intro i hi
          by_cases e : i = k
          · subst e
            intro h
            have := e3.2 ⟨w0, hw, h, rfl⟩
            rw [hx] at this; cases this
          · exact hno i (by omega)
        · simp (disch := omega) only [q_0, q_1, q_2, q_3, q_4, q_5, q_6, q_7, q_8, q_9, q_10, q_11, q_12, q_15, q_16, q_20, q_21, q_25, q_30, q_31, q_32, q_40, q_44, q_48, q_50, q_57, q_59, q_60, q_64, q_81, q_97, q_98, q_99, q_100, q_101, q_102, q_103, q_104, q_105, q_107, q_108, q_110, q_111, q_114, q_115, q_116, q_119, q_120, q_121, q_122, q_136, q_160, q_200, q_255, q_300, q_400, q_401, q_402, q_460, q_479, q_480, q_920, q_999, q_1000, q_1023, q_1024, q_4020, q_9999, q_99999, q_1000000, q_1000000000, q_100001, q_100002, q_100003, q_100004, q_400000, nn_1, r_0, r_1, r_2, r_3, r_4, r_6, r_7, r_8, r_9, r_10, r_11, r_21, r_40, r_48, r_57, r_60, r_97, r_122, r_200, r_300, r_479, r_920, r_9999, r_99999, r_m1, rd_pu, rd_gI, rd_gB, rd_gL, rd_gQ, rd_rI, rd_rB, rd_rQ, rd_rK, rd_dq, rd_cq, rd_div, rd_rem, rd_mb, rd_mif, rd_within, rd_in, Bool.true_and, Bool.and_true, Bool.cond_self, Bool.cond_false_right, Bool.cond_true_left, cond_true, cond_false, rd_sAt, wp_rd, wp_mb, wp_mif, wp_sI, wp_sB, wp_sL, wp_sQ, wp_wI, wp_wB, wp_wQ, orR_l, orR_r, orE_l, orE_r, sK_l, sK_r, sK_c, cond_tr, fi_ufi, fi_ufi1, fi_ufi2, fb_ufb, fb_ufb1, fb_ufb2, fl_ufl, fl_ufl1, fl_ufl2, fr_ufr, fr_ufr1, fr_ufr2, ai_sa, ai_sa1, ab_sab, ab_sab1, ar_sar, ar_sar1, upf_eq, upf_ne, fi_ufb, fi_ufl, fi_ufr, fi_sa, fi_sab, fi_sar, fb_ufi, fb_ufl, fb_ufr, fb_sa, fb_sab, fb_sar, fl_ufi, fl_ufb, fl_ufr, fl_sa, fl_sab, fl_sar, fr_ufi, fr_ufb, fr_ufl, fr_sa, fr_sab, fr_sar, ai_ufi, ai_ufb, ai_ufl, ai_ufr, ai_sab, ai_sar, ab_ufi, ab_ufb, ab_ufl, ab_ufr, ab_sa, ab_sar, ar_ufi, ar_ufb, ar_ufl, ar_ufr, ar_sa, ar_sab, sa_sa, sab_sab, sar_sar, upf_upf, ufi_ufi, tnN, inbN, addN, subN, mulN, decN, divN, remN, n2_lt, n2_le, n2_gt, n2_ge, n2_eq, n2_ne, n0_lt, n0_ge, n0_gt, n0_le, n0_eq, n0_ne, m2_eq, m2_ne, m2_eqq, m2_neq, m0_lt, m0_ge, m0_eq, m0_ne, m2_eqN, m2_neN, wi_N, wi_P, wi_NN, inN_N, li_wi, Nat.reduceAdd, Nat.reduceSub, Nat.reduceMul, Nat.reduceDiv, Nat.reduceMod, Nat.reduceLT, Nat.reduceLeDiff, Nat.reduceEqDiff, decide_true, decide_false, Nat.add_zero, Nat.zero_add, Nat.mul_one, Nat.one_mul, Nat.mul_zero, Nat.zero_mul, n0_gts, Prod.mk.injEq, modN, decide_eq_true_eq, decide_eq_false_iff_not, Bool.and_eq_true, Bool.or_eq_true, Bool.not_eq_true', Bool.not_eq_false', Bool.not_eq_true, Bool.not_eq_false, Bool.not_not, Bool.not_true, Bool.not_false, Bool.true_eq_false, Bool.false_eq_true, true_and, and_true, false_and, and_false, true_implies, false_implies, implies_true, not_true_eq_false, not_false_eq_true, ne_eq, Bool.and_eq_false_imp, Bool.or_eq_false_iff, eq_self, or_false, false_or, or_true, true_or, h17, hkn, hk40, r2, hic, Option.any_some, Option.getD_some, hx]
          obtain ⟨w, h1, h2, h3⟩ := e3.1 hx
          have h3' : w = w0 := h3
          subst h3'
          exact Or.inl ⟨k, rfl, hkn, h2⟩
      · have e : k = rn := by omega
        subst e
        simp (disch := omega) only [q_0, q_1, q_2, q_3, q_4, q_5, q_6, q_7, q_8, q_9, q_10, q_11, q_12, q_15, q_16, q_20, q_21, q_25, q_30, q_31, q_32, q_40, q_44, q_48, q_50, q_57, q_59, q_60, q_64, q_81, q_97, q_98, q_99, q_100, q_101, q_102, q_103, q_104, q_105, q_107, q_108, q_110, q_111, q_114, q_115, q_116, q_119, q_120, q_121, q_122, q_136, q_160, q_200, q_255, q_300, q_400, q_401, q_402, q_460, q_479, q_480, q_920, q_999, q_1000, q_1023, q_1024, q_4020, q_9999, q_99999, q_1000000, q_1000000000, q_100001, q_100002, q_100003, q_100004, q_400000, nn_1, r_0, r_1, r_2, r_3, r_4, r_6, r_7, r_8, r_9, r_10, r_11, r_21, r_40, r_48, r_57, r_60, r_97, r_122, r_200, r_300, r_479, r_920, r_9999, r_99999, r_m1, rd_pu, rd_gI, rd_gB, rd_gL, rd_gQ, rd_rI, rd_rB, rd_rQ, rd_rK, rd_dq, rd_cq, rd_div, rd_rem, rd_mb, rd_mif, rd_within, rd_in, Bool.true_and, Bool.and_true, Bool.cond_self, Bool.cond_false_right, Bool.cond_true_left, cond_true, cond_false, rd_sAt, wp_rd, wp_mb, wp_mif, wp_sI, wp_sB, wp_sL, wp_sQ, wp_wI, wp_wB, wp_wQ, orR_l, orR_r, orE_l, orE_r, sK_l, sK_r, sK_c, cond_tr, fi_ufi, fi_ufi1, fi_ufi2, fb_ufb, fb_ufb1, fb_ufb2, fl_ufl, fl_ufl1, fl_ufl2, fr_ufr, fr_ufr1, fr_ufr2, ai_sa, ai_sa1, ab_sab, ab_sab1, ar_sar, ar_sar1, upf_eq, upf_ne, fi_ufb, fi_ufl, fi_ufr, fi_sa, fi_sab, fi_sar, fb_ufi, fb_ufl, fb_ufr, fb_sa, fb_sab, fb_sar, fl_ufi, fl_ufb, fl_ufr, fl_sa, fl_sab, fl_sar, fr_ufi, fr_ufb, fr_ufl, fr_sa, fr_sab, fr_sar, ai_ufi, ai_ufb, ai_ufl, ai_ufr, ai_sab, ai_sar, ab_ufi, ab_ufb, ab_ufl, ab_ufr, ab_sa, ab_sar, ar_ufi, ar_ufb, ar_ufl, ar_ufr, ar_sa, ar_sab, sa_sa, sab_sab, sar_sar, upf_upf, ufi_ufi, tnN, inbN, addN, subN, mulN, decN, divN, remN, n2_lt, n2_le, n2_gt, n2_ge, n2_eq, n2_ne, n0_lt, n0_ge, n0_gt, n0_le, n0_eq, n0_ne, m2_eq, m2_ne, m2_eqq, m2_neq, m0_lt, m0_ge, m0_eq, m0_ne, m2_eqN, m2_neN, wi_N, wi_P, wi_NN, inN_N, li_wi, Nat.reduceAdd, Nat.reduceSub, Nat.reduceMul, Nat.reduceDiv, Nat.reduceMod, Nat.reduceLT, Nat.reduceLeDiff, Nat.reduceEqDiff, decide_true, decide_false, Nat.add_zero, Nat.zero_add, Nat.mul_one, Nat.one_mul, Nat.mul_zero, Nat.zero_mul, n0_gts, Prod.mk.injEq, modN, decide_eq_true_eq, decide_eq_false_iff_not, Bool.and_eq_true, Bool.or_eq_true, Bool.not_eq_true', Bool.not_eq_false', Bool.not_eq_true, Bool.not_eq_false, Bool.not_not, Bool.not_true, Bool.not_false, Bool.true_eq_false, Bool.false_eq_true, true_and, and_true, false_and, and_false, true_implies, false_implies, implies_true, not_true_eq_false, not_false_eq_true, ne_eq, Bool.and_eq_false_imp, Bool.or_eq_false_iff, eq_self, or_false, false_or, or_true, true_or, h17, Nat.lt_irrefl]
        exact Or.inr ⟨(), hno⟩
    · rintro x S' ⟨rfl, ⟨i, rfl, h1, h2⟩ | ⟨v, rfl, h⟩⟩
      · simp (disch := omega) only [q_0, q_1, q_2, q_3, q_4, q_5, q_6, q_7, q_8, q_9, q_10, q_11, q_12, q_15, q_16, q_20, q_21, q_25, q_30, q_31, q_32, q_40, q_44, q_48, q_50, q_57, q_59, q_60, q_64, q_81, q_97, q_98, q_99, q_100, q_101, q_102, q_103, q_104, q_105, q_107, q_108, q_110, q_111, q_114, q_115, q_116, q_119, q_120, q_121, q_122, q_136, q_160, q_200, q_255, q_300, q_400, q_401, q_402, q_460, q_479, q_480, q_920, q_999, q_1000, q_1023, q_1024, q_4020, q_9999, q_99999, q_1000000, q_1000000000, q_100001, q_100002, q_100003, q_100004, q_400000, nn_1, r_0, r_1, r_2, r_3, r_4, r_6, r_7, r_8, r_9, r_10, r_11, r_21, r_40, r_48, r_57, r_60, r_97, r_122, r_200, r_300, r_479, r_920, r_9999, r_99999, r_m1, rd_pu, rd_gI, rd_gB, rd_gL, rd_gQ, rd_rI, rd_rB, rd_rQ, rd_rK, rd_dq, rd_cq, rd_div, rd_rem, rd_mb, rd_mif, rd_within, rd_in, Bool.true_and, Bool.and_true, Bool.cond_self, Bool.cond_false_right, Bool.cond_true_left, cond_true, cond_false, rd_sAt, wp_rd, wp_mb, wp_mif, wp_sI, wp_sB, wp_sL, wp_sQ, wp_wI, wp_wB, wp_wQ, orR_l, orR_r, orE_l, orE_r, sK_l, sK_r, sK_c, cond_tr, fi_ufi, fi_ufi1, fi_ufi2, fb_ufb, fb_ufb1, fb_ufb2, fl_ufl, fl_ufl1, fl_ufl2, fr_ufr, fr_ufr1, fr_ufr2, ai_sa, ai_sa1, ab_sab, ab_sab1, ar_sar, ar_sar1, upf_eq, upf_ne, fi_ufb, fi_ufl, fi_ufr, fi_sa, fi_sab, fi_sar, fb_ufi, fb_ufl, fb_ufr, fb_sa, fb_sab, fb_sar, fl_ufi, fl_ufb, fl_ufr, fl_sa, fl_sab, fl_sar, fr_ufi, fr_ufb, fr_ufl, fr_sa, fr_sab, fr_sar, ai_ufi, ai_ufb, ai_ufl, ai_ufr, ai_sab, ai_sar, ab_ufi, ab_ufb, ab_ufl, ab_ufr, ab_sa, ab_sar, ar_ufi, ar_ufb, ar_ufl, ar_ufr, ar_sa, ar_sab, sa_sa, sab_sab, sar_sar, upf_upf, ufi_ufi, tnN, inbN, addN, subN, mulN, decN, divN, remN, n2_lt, n2_le, n2_gt, n2_ge, n2_eq, n2_ne, n0_lt, n0_ge, n0_gt, n0_le, n0_eq, n0_ne, m2_eq, m2_ne, m2_eqq, m2_neq, m0_lt, m0_ge, m0_eq, m0_ne, m2_eqN, m2_neN, wi_N, wi_P, wi_NN, inN_N, li_wi, Nat.reduceAdd, Nat.reduceSub, Nat.reduceMul, Nat.reduceDiv, Nat.reduceMod, Nat.reduceLT, Nat.reduceLeDiff, Nat.reduceEqDiff, decide_true, decide_false, Nat.add_zero, Nat.zero_add, Nat.mul_one, Nat.one_mul, Nat.mul_zero, Nat.zero_mul, n0_gts, Prod.mk.injEq, modN, decide_eq_true_eq, decide_eq_false_iff_not, Bool.and_eq_true, Bool.or_eq_true, Bool.not_eq_true', Bool.not_eq_false', Bool.not_eq_true, Bool.not_eq_false, Bool.not_not, Bool.not_true, Bool.not_false, Bool.true_eq_false, Bool.false_eq_true, true_and, and_true, false_and, and_false, true_implies, false_implies, implies_true, not_true_eq_false, not_false_eq_true, ne_eq, Bool.and_eq_false_imp, Bool.or_eq_false_iff, eq_self, or_false, false_or, or_true, true_or]
        exact hQ1 i h1 h2
      · simp (disch := omega) only [q_0, q_1, q_2, q_3, q_4, q_5, q_6, q_7, q_8, q_9, q_10, q_11, q_12, q_15, q_16, q_20, q_21, q_25, q_30, q_31, q_32, q_40, q_44, q_48, q_50, q_57, q_59, q_60, q_64, q_81, q_97, q_98, q_99, q_100, q_101, q_102, q_103, q_104, q_105, q_107, q_108, q_110, q_111, q_114, q_115, q_116, q_119, q_120, q_121, q_122, q_136, q_160, q_200, q_255, q_300, q_400, q_401, q_402, q_460, q_479, q_480, q_920, q_999, q_1000, q_1023, q_1024, q_4020, q_9999, q_99999, q_1000000, q_1000000000, q_100001, q_100002, q_100003, q_100004, q_400000, nn_1, r_0, r_1, r_2, r_3, r_4, r_6, r_7, r_8, r_9, r_10, r_11, r_21, r_40, r_48, r_57, r_60, r_97, r_122, r_200, r_300, r_479, r_920, r_9999, r_99999, r_m1, rd_pu, rd_gI, rd_gB, rd_gL, rd_gQ, rd_rI, rd_rB, rd_rQ, rd_rK, rd_dq, rd_cq, rd_div, rd_rem, rd_mb, rd_mif, rd_within, rd_in, Bool.true_and, Bool.and_true, Bool.cond_self, Bool.cond_false_right, Bool.cond_true_left, cond_true, cond_false, rd_sAt, wp_rd, wp_mb, wp_mif, wp_sI, wp_sB, wp_sL, wp_sQ, wp_wI, wp_wB, wp_wQ, orR_l, orR_r, orE_l, orE_r, sK_l, sK_r, sK_c, cond_tr, fi_ufi, fi_ufi1, fi_ufi2, fb_ufb, fb_ufb1, fb_ufb2, fl_ufl, fl_ufl1, fl_ufl2, fr_ufr, fr_ufr1, fr_ufr2, ai_sa, ai_sa1, ab_sab, ab_sab1, ar_sar, ar_sar1, upf_eq, upf_ne, fi_ufb, fi_ufl, fi_ufr, fi_sa, fi_sab, fi_sar, fb_ufi, fb_ufl, fb_ufr, fb_sa, fb_sab, fb_sar, fl_ufi, fl_ufb, fl_ufr, fl_sa, fl_sab, fl_sar, fr_ufi, fr_ufb, fr_ufl, fr_sa, fr_sab, fr_sar, ai_ufi, ai_ufb, ai_ufl, ai_ufr, ai_sab, ai_sar, ab_ufi, ab_ufb, ab_ufl, ab_ufr, ab_sa, ab_sar, ar_ufi, ar_ufb, ar_ufl, ar_ufr, ar_sa, ar_sab, sa_sa, sab_sab, sar_sar, upf_upf, ufi_ufi, tnN, inbN, addN, subN, mulN, decN, divN, remN, n2_lt, n2_le, n2_gt, n2_ge, n2_eq, n2_ne, n0_lt, n0_ge, n0_gt, n0_le, n0_eq, n0_ne, m2_eq, m2_ne, m2_eqq, m2_neq, m0_lt, m0_ge, m0_eq, m0_ne, m2_eqN, m2_neN, wi_N, wi_P, wi_NN, inN_N, li_wi, Nat.reduceAdd, Nat.reduceSub, Nat.reduceMul, Nat.reduceDiv, Nat.reduceMod, Nat.reduceLT, Nat.reduceLeDiff, Nat.reduceEqDiff, decide_true, decide_false, Nat.add_zero, Nat.zero_add, Nat.mul_one, Nat.one_mul, Nat.mul_zero, Nat.zero_mul, n0_gts, Prod.mk.injEq, modN, decide_eq_true_eq, decide_eq_false_iff_not, Bool.and_eq_true, Bool.or_eq_true, Bool.not_eq_true', Bool.not_eq_false', Bool.not_eq_true, Bool.not_eq_false, Bool.not_not, Bool.not_true, Bool.not_false, Bool.true_eq_false, Bool.false_eq_true, true_and, and_true, false_and, and_false, true_implies, false_implies, implies_true, not_true_eq_false, not_false_eq_true, ne_eq, Bool.and_eq_false_imp, Bool.or_eq_false_iff, eq_self, or_false, false_or, or_true, true_or]
        exact hQ0 h
end
