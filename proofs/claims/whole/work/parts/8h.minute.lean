/-! a minute: both sides -/
def HB (H : HO) : Prop := ∀ k, k ≠ 0 → ∃ v, v < 10000 ∧ H.1 k = Int32.ofNat v ∧ (k = 1 → 1 ≤ v ∧ v ≤ 3)
section
variable {no : Nat} {mi cl kd : Nat → Nat} {SC SR : Sg}
theorem HB_0 : HB H0 := by
  intro k hk
  show ∃ v, v < 10000 ∧ (if k = 1 then Int32.ofNat 2 else if k = 2 then Int32.ofNat 0 else if k = 3 then Int32.ofNat 5 else if k = 4 then Int32.ofNat 6 else Int32.ofNat 50) = Int32.ofNat v ∧ _
  by_cases e1 : k = 1
  · exact ⟨2, by omega, by rw [if_pos e1], fun _ => by omega⟩
  · rw [if_neg e1]
    by_cases e2 : k = 2
    · exact ⟨0, by omega, by rw [if_pos e2], fun h => absurd h e1⟩
    · rw [if_neg e2]
      by_cases e3 : k = 3
      · exact ⟨5, by omega, by rw [if_pos e3], fun h => absurd h e1⟩
      · rw [if_neg e3]
        by_cases e4 : k = 4
        · exact ⟨6, by omega, by rw [if_pos e4], fun h => absurd h e1⟩
        · exact ⟨50, by omega, by rw [if_neg e4], fun h => absurd h e1⟩
theorem HB_apC (H : ODs no mi cl kd SC SR) {X : HO} (hX : HB X) {r : Nat} (hr : r < no) : ∀ j, j ≤ cl r → HB (apC kd (ai SC 21) (ai SC 22) X r j) := by
  intro j
  induction j with
  | zero => intro _; exact hX
  | succ j ih =>
    intro hj
    have ih' := ih (by omega)
    obtain ⟨h1, h2, h3, h4⟩ := H
    obtain ⟨m1, m2, m3, c1, c2, c3, c4⟩ := h4 r hr
    obtain ⟨d1, d2, d3, d4⟩ := c4 j (by omega)
    obtain ⟨kk, e1, e2, e3, e4, e5, -⟩ := d4
    rw [d2, ofN_inj (by omega) (by omega)] at e2
    simp only [apC, ap1]
    split
    · exact ih'
    · next hz =>
      obtain ⟨v, v1, v2, v3, v4, v5⟩ := e5 (by omega)
      intro k hk
      show ∃ v, v < 10000 ∧ upf _ (kd (10 * r + j)) (ai SC 21 (10 * r + j)) k = Int32.ofNat v ∧ _
      by_cases e : k = kd (10 * r + j)
      · rw [e, upf_eq]
        exact ⟨v, v1, v2, fun h => v4 (by omega)⟩
      · rw [upf_ne _ _ _ _ e]; exact ih' k hk
theorem HB_hoS (H : ODs no mi cl kd SC SR) (set : Nat → Bool) : HB (hoS no mi cl kd (ai SC 21) (ai SC 22) set) := by
  have hR := luS_ROW (no := no) (mi := mi) (cl := cl) (kd := kd) set (ai SC 21)
  unfold hoS
  have key : ∀ i, i ≤ (luS no mi cl kd (ai SC 21) set).1 → HB (apR cl kd (ai SC 21) (ai SC 22) H0 (luS no mi cl kd (ai SC 21) set).2 i) := by
    intro i
    induction i with
    | zero => intro _; exact HB_0
    | succ i ih => intro hi; exact HB_apC H (ih (by omega)) (hR.2 i (by omega)) _ (Nat.le_refl _)
  exact key _ (Nat.le_refl _)
end
theorem and7 (x : Int32) : ∃ v, v < 8 ∧ x &&& Int32.ofNat 7 = Int32.ofNat v := by
  have h : x &&& Int32.ofNat 7 = Int32.ofNat (x.toBitVec.toNat % 8) := by
    apply bt_ext
    intro w hw
    rw [bt_and, bt_ofNat, bt_ofNat, decide_eq_true hw, Bool.true_and, Bool.true_and, show (8 : Nat) = 2 ^ 3 from rfl, Nat.testBit_mod_two_pow, show (7 : Nat) = 2 ^ 3 - 1 from rfl, Nat.testBit_two_pow_sub_one, Bool.and_comm]
    rfl
  exact ⟨_, Nat.mod_lt _ (by omega), h⟩
theorem gd_tt (q : Nat) : ∀ j, gd (fun _ => true) (fun _ => true) true q j = true
  | 0 => rfl
  | 1 => rfl
  | j + 2 => by
    show (gd (fun _ => true) (fun _ => true) true q (j + 1) && _) = true
    rw [gd_tt q (j + 1)]; rfl
theorem pu_mb {α β : Type} (a : α) (k : α → PM β) : mb (pu a) k = k a := by
  funext S
  exact rfl
theorem nextMinute_eq (t : Nat) : Day_nextMinute t = mb (mb (gI t 6) fun a2 => mb (gI t 13) fun a3 => Rules_look a2 a3) fun _ => mb (mb (mb (gI t 10) fun a8 => mb (mb (mb (gI t 6) fun a5 => Spans_unusable a5) fun a6 => mb (pu ((-1) : Int32)) fun a7 => pu (a6 ^^^ a7)) fun a9 => pu (a8 &&& a9)) fun a10 => sI t 11 a10) fun _ => mb (Day_endAndCut t) fun _ => mb (Day_lineUp t) fun _ => mb (Day_breakRings t) fun _ => mb (Day_serve t) fun r => mb (Day_tally t) fun _ => mb (mb (gI t 6) fun a17 => mb (pu (1 : Int32)) fun a18 => sI t 6 (a17 + a18)) fun _ => pu r := by
  unfold Day_nextMinute
  simp only [pu_mb]
theorem doMinute_eq (m : Int32) : MO_doMinute m = mb MO_layPaths fun _ => mb (MO_findHolds m) fun _ => mb (lp FU MO_doMinute_l1 (0 : Int32)) fun _ => mb (MO_endSome m) fun _ => mb (MO_cutSome m) fun _ => mb MO_breakRings fun _ => mb (MO_handOn m) fun n => mb (MO_count5 m) fun _ => pu n := by
  unfold MO_doMinute
  simp only [pu_mb]
/-- what a whole minute leaves as it is -/
def MnC (t : Nat) (S S' : Sg) : Prop := (∀ a b, a ≠ t → a ≠ 24 → (a < t + 6 ∨ t + 46 ≤ a) → fi S' a b = fi S a b) ∧ (∀ b, b ≠ 6 → b ≠ 7 → b ≠ 11 → b ≠ 12 → b ≠ 17 → fi S' t b = fi S t b) ∧ (∀ c b, c < 40 → b < 9 → fi S' (t + 6 + c) b = fi S (t + 6 + c) b) ∧ fb S' = fb S ∧ (∀ a, a ≠ t + 2 → a ≠ t + 3 → a ≠ t + 4 → a ≠ 25 → a ≠ 26 → ai S' a = ai S a) ∧ ab S' = ab S ∧ ∀ k c b, fi S t 5 = Int32.ofNat k → k ≤ 40 → k ≤ c → c < 40 → b ≠ 18 → fi S' (t + 6 + c) b = fi S (t + 6 + c) b
def MnR (S S' : Sg) : Prop := (∀ a b, a ≠ 127 → fi S' a b = fi S a b) ∧ (∀ b, b ≠ 59 → b ≠ 64 → b ≠ 34 → b ≠ 36 → b ≠ 37 → b ≠ 15 → fi S' 127 b = fi S 127 b) ∧ (∀ a b, (a ≠ 127 ∨ b ≠ 11) → fb S' a b = fb S a b) ∧ (∀ a, (a < 136 ∨ (139 < a ∧ a ≠ 148 ∧ a ≠ 149 ∧ a < 158) ∨ 172 < a ∨ a = 169) → ai S' a = ai S a) ∧ (∀ a, a ≠ 147 → a ≠ 173 → ab S' a = ab S a)
theorem MnC.tr {t : Nat} {S S1 S2 : Sg} (h : MnC t S S1) (g : MnC t S1 S2) : MnC t S S2 := by
  obtain ⟨a1, a2, a3, a4, a5, a6, a7⟩ := h
  obtain ⟨b1, b2, b3, b4, b5, b6, b7⟩ := g
  exact ⟨fun a b h1 h2 h3 => by rw [b1 a b h1 h2 h3, a1 a b h1 h2 h3], fun b h1 h2 h3 h4 h5 => by rw [b2 b h1 h2 h3 h4 h5, a2 b h1 h2 h3 h4 h5], fun c b h1 h2 => by rw [b3 c b h1 h2, a3 c b h1 h2], by rw [b4, a4], fun a h1 h2 h3 h4 h5 => by rw [b5 a h1 h2 h3 h4 h5, a5 a h1 h2 h3 h4 h5], by rw [b6, a6], fun k c b h1 h2 h3 h4 h5 => by rw [b7 k c b (by rw [a2 _ (by decide) (by decide) (by decide) (by decide) (by decide)]; exact h1) h2 h3 h4 h5, a7 k c b h1 h2 h3 h4 h5]⟩
theorem MnC.rfl' {t : Nat} {S : Sg} : MnC t S S := ⟨fun _ _ _ _ _ => rfl, fun _ _ _ _ _ _ => rfl, fun _ _ _ _ => rfl, rfl, fun _ _ _ _ _ _ => rfl, rfl, fun _ _ _ _ _ _ _ _ => rfl⟩
theorem MnR.tr {S S1 S2 : Sg} (h : MnR S S1) (g : MnR S1 S2) : MnR S S2 := by
  obtain ⟨a1, a2, a3, a4, a5⟩ := h
  obtain ⟨b1, b2, b3, b4, b5⟩ := g
  exact ⟨fun a b h1 => by rw [b1 a b h1, a1 a b h1], fun b h1 h2 h3 h4 h5 h6 => by rw [b2 b h1 h2 h3 h4 h5 h6, a2 b h1 h2 h3 h4 h5 h6], fun a b h1 => by rw [b3 a b h1, a3 a b h1], fun a h1 => by rw [b4 a h1, a4 a h1], fun a h1 h2 => by rw [b5 a h1 h2, a5 a h1 h2]⟩
theorem MnR.rfl' {S : Sg} : MnR S S := ⟨fun _ _ _ => rfl, fun _ _ _ _ _ _ _ => rfl, fun _ _ _ => rfl, fun _ _ => rfl, fun _ _ _ => rfl⟩
theorem KpC_Mn {t : Nat} {S S' : Sg} (h : KpC t S S') : MnC t S S' := ⟨fun a b h1 h2 h3 => h.1 a b h1 h3, fun b h1 h2 h3 h4 h5 => h.2.1 b h2 h4 h5, h.2.2.1, h.2.2.2.1, fun a h1 h2 h3 _ _ => h.2.2.2.2.1 a h3, h.2.2.2.2.2.1, h.2.2.2.2.2.2⟩
theorem KpR_Mn {S S' : Sg} (h : KpR S S') : MnR S S' := ⟨fun a b h1 => h.1 a b (Or.inl h1), fun b h1 h2 _ _ _ _ => h.1 127 b (Or.inr ⟨h1, h2⟩), fun a b _ => by rw [h.2.1], fun a h1 => h.2.2.1 a (by omega), fun a h1 h2 => h.2.2.2 a h2⟩
theorem FtC_Mn {t : Nat} {S S' : Sg} (h : FtC t S S') : MnC t S S' := ⟨fun a b h1 h2 h3 => h.1 a b (Or.inr h3), fun b h1 h2 h3 h4 h5 => h.1 t b (Or.inl h4), fun c b h1 h2 => h.1 _ b (Or.inl (by omega)), h.2.1, fun a h1 h2 _ _ _ => h.2.2.2.1 a h1 h2, h.2.2.1, fun k c b h1 h2 h3 h4 _ => h.2.2.2.2 k c b h1 h2 h3 h4⟩
theorem FtR_Mn {S S' : Sg} (h : FtR S S') : MnR S S' := ⟨fun a b _ => by rw [h.1], fun b _ _ _ _ _ _ => by rw [h.1], fun a b _ => by rw [h.2.1], fun a h1 => h.2.2.2 a (by omega) (by omega) (by omega), fun a h1 h2 => h.2.2.1 a h2⟩
section
variable {S : Sg} {n nR : Nat} {A B M : Nat → Nat} {E : Nat → Nat → Nat} {u most : Nat} {fp : Nat → Nat} {c8 c9 c0 : Nat → Int32}
theorem rm_far (hn : nR ≤ 40) (h39 : fi S 127 39 = Int32.ofNat nR) (HN : NetM n A B M c8 c9 c0) (hL : Laid n A B M u (ai S 136) (ai S 137) (ai S 138) (ai S 139)) (hE : ∀ c, c < nR → E 0 c < 8 ∧ E 1 c < 8 ∧ E 0 c ≠ E 1 c ∧ ai S 150 c = Int32.ofNat (E 0 c) ∧ ai S 151 c = Int32.ofNat (E 1 c)) (hmo : most < 32) (h49 : ai S 149 1 = Int32.ofNat most) (hfp : ∀ c, c < nR → LeW n A B M (E 0 c) (E 1 c) most (fun _ => true) (fp c)) {Q : Unit → Sg → Prop} (hQ : ∀ g, (∀ c, c < nR → g c = Int32.ofNat (wM (fp c))) → Q () (sa S 172 g)) : WP (lp FU MO_doMinute_l1 (Int32.ofNat 0)) S Q := by
  refine WP.mono (wp_for nR (by unfold FU; omega) (fun k x S' => x = Int32.ofNat k ∧ ∃ g, S' = sa S 172 g ∧ ∀ c, c < k → g c = Int32.ofNat (wM (fp c))) ?_ ⟨rfl, ai S 172, by rw [sa_id], fun c hc => by omega⟩ (Q := fun _ S' => ∃ g, S' = sa S 172 g ∧ ∀ c, c < nR → g c = Int32.ofNat (wM (fp c)))) ?_
  · rintro k x S' hk ⟨rfl, g, rfl, hg⟩
    unfold MO_doMinute_l1
    have e39 : fi (sa S 172 g) 127 39 = Int32.ofNat nR := h39
    have ax : ∀ a, a ≠ 172 → ai (sa S 172 g) a = ai S a := fun a h => ai_sa1 _ _ _ _ h
    by_cases hkn : k < nR
    · have hk40 : k < 40 := by omega
      obtain ⟨x1, x2, x3, x4, x5⟩ := hE k hkn
      have hfar := fun Q hQ => rm_far_LeW (S := sa S 172 g) HN (by rw [ax _ (by decide), ax _ (by decide), ax _ (by decide), ax _ (by decide)]; exact hL) x1 x2 x3 hk40 hmo (by rw [ax _ (by decide)]; exact x4) (by rw [ax _ (by decide)]; exact x5) (by rw [ax _ (by decide)]; exact h49) (hfp k hkn) (Q := Q) hQ
      simp (disch := omega) only [q_0, q_1, q_2, q_3, q_4, q_5, q_6, q_7, q_8, q_9, q_10, q_11, q_12, q_15, q_16, q_20, q_21, q_25, q_30, q_31, q_32, q_40, q_44, q_48, q_50, q_57, q_59, q_60, q_64, q_81, q_97, q_98, q_99, q_100, q_101, q_102, q_103, q_104, q_105, q_107, q_108, q_110, q_111, q_114, q_115, q_116, q_119, q_120, q_121, q_122, q_136, q_160, q_200, q_255, q_300, q_400, q_401, q_402, q_460, q_479, q_480, q_920, q_999, q_1000, q_1023, q_1024, q_4020, q_9999, q_99999, q_1000000, q_1000000000, q_100001, q_100002, q_100003, q_100004, q_400000, nn_1, r_0, r_1, r_2, r_3, r_4, r_6, r_7, r_8, r_9, r_10, r_11, r_21, r_40, r_48, r_57, r_60, r_97, r_122, r_200, r_300, r_479, r_920, r_9999, r_99999, r_m1, rd_pu, rd_gI, rd_gB, rd_gL, rd_gQ, rd_rI, rd_rB, rd_rQ, rd_rK, rd_dq, rd_cq, rd_div, rd_rem, rd_mb, rd_mif, rd_within, rd_in, Bool.true_and, Bool.and_true, Bool.cond_self, Bool.cond_false_right, Bool.cond_true_left, cond_true, cond_false, rd_sAt, wp_rd, wp_mb, wp_mif, wp_sI, wp_sB, wp_sL, wp_sQ, wp_wI, wp_wB, wp_wQ, orR_l, orR_r, orE_l, orE_r, sK_l, sK_r, sK_c, cond_tr, fi_ufi, fi_ufi1, fi_ufi2, fb_ufb, fb_ufb1, fb_ufb2, fl_ufl, fl_ufl1, fl_ufl2, fr_ufr, fr_ufr1, fr_ufr2, ai_sa, ai_sa1, ab_sab, ab_sab1, ar_sar, ar_sar1, upf_eq, upf_ne, fi_ufb, fi_ufl, fi_ufr, fi_sa, fi_sab, fi_sar, fb_ufi, fb_ufl, fb_ufr, fb_sa, fb_sab, fb_sar, fl_ufi, fl_ufb, fl_ufr, fl_sa, fl_sab, fl_sar, fr_ufi, fr_ufb, fr_ufl, fr_sa, fr_sab, fr_sar, ai_ufi, ai_ufb, ai_ufl, ai_ufr, ai_sab, ai_sar, ab_ufi, ab_ufb, ab_ufl, ab_ufr, ab_sa, ab_sar, ar_ufi, ar_ufb, ar_ufl, ar_ufr, ar_sa, ar_sab, sa_sa, sab_sab, sar_sar, upf_upf, ufi_ufi, tnN, inbN, addN, subN, mulN, decN, divN, remN, n2_lt, n2_le, n2_gt, n2_ge, n2_eq, n2_ne, n0_lt, n0_ge, n0_gt, n0_le, n0_eq, n0_ne, m2_eq, m2_ne, m2_eqq, m2_neq, m0_lt, m0_ge, m0_eq, m0_ne, m2_eqN, m2_neN, wi_N, wi_P, wi_NN, inN_N, li_wi, Nat.reduceAdd, Nat.reduceSub, Nat.reduceMul, Nat.reduceDiv, Nat.reduceMod, Nat.reduceLT, Nat.reduceLeDiff, Nat.reduceEqDiff, decide_true, decide_false, Nat.add_zero, Nat.zero_add, Nat.mul_one, Nat.one_mul, Nat.mul_zero, Nat.zero_mul, n0_gts, Prod.mk.injEq, modN, decide_eq_true_eq, decide_eq_false_iff_not, Bool.and_eq_true, Bool.or_eq_true, Bool.not_eq_true', Bool.not_eq_false', Bool.not_eq_true, Bool.not_eq_false, Bool.not_not, Bool.not_true, Bool.not_false, Bool.true_eq_false, Bool.false_eq_true, true_and, and_true, false_and, and_false, true_implies, false_implies, implies_true, not_true_eq_false, not_false_eq_true, ne_eq, Bool.and_eq_false_imp, Bool.or_eq_false_iff, eq_self, or_false, false_or, or_true, true_or, e39, hkn, hk40]
      refine hfar _ ⟨upf g k (Int32.ofNat (wM (fp k))), by rw [sa_sa, ai_sa], fun c hc => ?_⟩
      by_cases e : c = k
      · subst e; exact upf_eq _ _ _
      · rw [upf_ne _ _ _ _ e]; exact hg c (by omega)
    · have e : k = nR := by omega
      subst e
      simp (disch := omega) only [q_0, q_1, q_2, q_3, q_4, q_5, q_6, q_7, q_8, q_9, q_10, q_11, q_12, q_15, q_16, q_20, q_21, q_25, q_30, q_31, q_32, q_40, q_44, q_48, q_50, q_57, q_59, q_60, q_64, q_81, q_97, q_98, q_99, q_100, q_101, q_102, q_103, q_104, q_105, q_107, q_108, q_110, q_111, q_114, q_115, q_116, q_119, q_120, q_121, q_122, q_136, q_160, q_200, q_255, q_300, q_400, q_401, q_402, q_460, q_479, q_480, q_920, q_999, q_1000, q_1023, q_1024, q_4020, q_9999, q_99999, q_1000000, q_1000000000, q_100001, q_100002, q_100003, q_100004, q_400000, nn_1, r_0, r_1, r_2, r_3, r_4, r_6, r_7, r_8, r_9, r_10, r_11, r_21, r_40, r_48, r_57, r_60, r_97, r_122, r_200, r_300, r_479, r_920, r_9999, r_99999, r_m1, rd_pu, rd_gI, rd_gB, rd_gL, rd_gQ, rd_rI, rd_rB, rd_rQ, rd_rK, rd_dq, rd_cq, rd_div, rd_rem, rd_mb, rd_mif, rd_within, rd_in, Bool.true_and, Bool.and_true, Bool.cond_self, Bool.cond_false_right, Bool.cond_true_left, cond_true, cond_false, rd_sAt, wp_rd, wp_mb, wp_mif, wp_sI, wp_sB, wp_sL, wp_sQ, wp_wI, wp_wB, wp_wQ, orR_l, orR_r, orE_l, orE_r, sK_l, sK_r, sK_c, cond_tr, fi_ufi, fi_ufi1, fi_ufi2, fb_ufb, fb_ufb1, fb_ufb2, fl_ufl, fl_ufl1, fl_ufl2, fr_ufr, fr_ufr1, fr_ufr2, ai_sa, ai_sa1, ab_sab, ab_sab1, ar_sar, ar_sar1, upf_eq, upf_ne, fi_ufb, fi_ufl, fi_ufr, fi_sa, fi_sab, fi_sar, fb_ufi, fb_ufl, fb_ufr, fb_sa, fb_sab, fb_sar, fl_ufi, fl_ufb, fl_ufr, fl_sa, fl_sab, fl_sar, fr_ufi, fr_ufb, fr_ufl, fr_sa, fr_sab, fr_sar, ai_ufi, ai_ufb, ai_ufl, ai_ufr, ai_sab, ai_sar, ab_ufi, ab_ufb, ab_ufl, ab_ufr, ab_sa, ab_sar, ar_ufi, ar_ufb, ar_ufl, ar_ufr, ar_sa, ar_sab, sa_sa, sab_sab, sar_sar, upf_upf, ufi_ufi, tnN, inbN, addN, subN, mulN, decN, divN, remN, n2_lt, n2_le, n2_gt, n2_ge, n2_eq, n2_ne, n0_lt, n0_ge, n0_gt, n0_le, n0_eq, n0_ne, m2_eq, m2_ne, m2_eqq, m2_neq, m0_lt, m0_ge, m0_eq, m0_ne, m2_eqN, m2_neN, wi_N, wi_P, wi_NN, inN_N, li_wi, Nat.reduceAdd, Nat.reduceSub, Nat.reduceMul, Nat.reduceDiv, Nat.reduceMod, Nat.reduceLT, Nat.reduceLeDiff, Nat.reduceEqDiff, decide_true, decide_false, Nat.add_zero, Nat.zero_add, Nat.mul_one, Nat.one_mul, Nat.mul_zero, Nat.zero_mul, n0_gts, Prod.mk.injEq, modN, decide_eq_true_eq, decide_eq_false_iff_not, Bool.and_eq_true, Bool.or_eq_true, Bool.not_eq_true', Bool.not_eq_false', Bool.not_eq_true, Bool.not_eq_false, Bool.not_not, Bool.not_true, Bool.not_false, Bool.true_eq_false, Bool.false_eq_true, true_and, and_true, false_and, and_false, true_implies, false_implies, implies_true, not_true_eq_false, not_false_eq_true, ne_eq, Bool.and_eq_false_imp, Bool.or_eq_false_iff, eq_self, or_false, false_or, or_true, true_or, e39, Nat.lt_irrefl]
      exact ⟨g, rfl, hg⟩
  · rintro _ S' ⟨g, rfl, hg⟩
    exact hQ g hg
end
