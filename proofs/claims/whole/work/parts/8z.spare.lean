/-! beside: the spare day begins, and takes a call over -/
section
variable {t : Nat} {f : Nat → Nat} {n : Nat} {M : Nat → Nat} {nc nR m : Nat} {E D : Nat → Nat → Nat} {hd : Nat → Option Nat} {SC SR SC' SR' : Sg}
def D0 : Nat → Nat → Nat := fun x _ => if x = 0 then 6 else 0
theorem DD_new (hR : nR ≤ 40) (hn : n ≤ 20) (hf : Inj f n) (h5 : fi SC t 5 = Int32.ofNat 0) (h12 : fi SC t 12 = Int32.ofNat 0) (h39 : fi SR 127 39 = Int32.ofNat nR) (h66 : ∀ w, w < 20 → ai SR 166 w = nn) (h58 : ∀ c, c < nR → ai SR 158 c = nn) : DD t f n M 0 nR m E D0 (fun _ => none) SC SR := by
  refine ⟨⟨Nat.zero_le _, hR, hn, hf⟩, ⟨h5, ?_, fun c hc => absurd hc (Nat.not_lt_zero c)⟩, ⟨h39, ?_, fun c hc => absurd hc (Nat.not_lt_zero c), fun c _ hc => h58 c hc⟩, fun c hc => absurd hc (Nat.not_lt_zero c), fun c _ => rfl, ?_⟩
  · rw [h12]
    exact Bs_emp fun w _ h => by obtain ⟨c, h⟩ := h; cases h
  · exact fun w hw => ⟨h66 w hw, fun c h => by cases h⟩
  · exact ⟨fun w c _ h => (by cases h), fun c j hc => absurd hc (Nat.not_lt_zero c)⟩
theorem DD_more (H : DD t f n M nc nR m E D hd SC SR) (hnc : nc < nR) (c5 : fi SC' t 5 = Int32.ofNat (nc + 1)) (c12 : fi SC' t 12 = fi SC t 12) (cc : ∀ c b, c < nc → fi SC' (t + 6 + c) b = fi SC (t + 6 + c) b) (cn : fi SC' (t + 6 + nc) 9 = Int32.ofNat 0 ∧ fi SC' (t + 6 + nc) 10 = nn ∧ fi SC' (t + 6 + nc) 11 = nn ∧ fi SC' (t + 6 + nc) 12 = Int32.ofNat 0 ∧ fi SC' (t + 6 + nc) 13 = Int32.ofNat 0 ∧ fi SC' (t + 6 + nc) 14 = Int32.ofNat 0 ∧ fi SC' (t + 6 + nc) 15 = Int32.ofNat 0)
    (r39 : fi SR' 127 39 = fi SR 127 39) (r11 : ai SR' 158 = upf (ai SR 158) nc (Int32.ofNat 0)) (r12 : ai SR' 159 = upf (ai SR 159) nc nn) (r13 : ai SR' 160 = upf (ai SR 160) nc nn) (r14 : ai SR' 161 = upf (ai SR 161) nc (Int32.ofNat 0)) (r15 : ai SR' 162 = upf (ai SR 162) nc (Int32.ofNat 0)) (r16 : ai SR' 163 = upf (ai SR 163) nc nn) (r17 : ai SR' 164 = upf (ai SR 164) nc (Int32.ofNat 0)) (r18 : ai SR' 165 = ai SR 165 ∧ ai SR' 166 = ai SR 166) : DD t f n M (nc + 1) nR m E (nD D nc) hd SC' SR' := by
  obtain ⟨⟨g1, g2, g3, hf⟩, ⟨c1, c2, c3⟩, ⟨q1, q2, q3, q4⟩, hK, h6s, hH1, hH2⟩ := H
  obtain ⟨z9, z10, z11, z12, z13, z14, z15⟩ := cn
  have hnone : ∀ w, w < n → hd w ≠ some nc := fun w hw h => by have := (hH1 w nc hw h).2.1; omega
  refine ⟨⟨hnc, g2, g3, hf⟩, ⟨c5, by rw [c12]; exact c2, fun c hc => ?_⟩, ⟨by rw [r39]; exact q1, by rw [r18.2]; exact q2, fun c hc => ?_, fun c h1 h2 => ?_⟩, fun c hc => ?_, fun c hc => ?_, fun w c hw h => ?_, fun c j hc hs hj => ?_⟩
  · unfold KC
    by_cases e : c = nc
    · subst e
      rw [nD_eq, nD_eq, nD_eq, nD_eq, nD_eq, nD_eq, nD_eq, z9, z10, z11, z12, z13, z14, z15]
      exact ⟨rfl, rfl, fun _ => rfl, rfl, rfl, rfl, Bs_emp fun w hw h => hnone w hw h, fun h => by omega⟩
    · have z : ∀ x, nD D nc x c = D x c := fun x => nD_ne e
      have l : ∀ y, fi SC' (t + 6 + c) y = fi SC (t + 6 + c) y := fun y => cc c y (by omega)
      rw [z, z, z, z, z, z, z, l, l, l, l, l, l, l, l]
      exact c3 c (by omega)
  · unfold KR
    rw [r11, r12, r13, r14, r15, r16, r17, r18.1]
    by_cases e : c = nc
    · subst e
      have w0 : wN 0 = 0 := rfl
      rw [nD_eq, nD_eq, nD_eq, nD_eq, nD_eq, nD_eq, nD_eq, upf_eq, upf_eq, upf_eq, upf_eq, upf_eq, upf_eq, upf_eq, w0]
      exact ⟨rfl, rfl, fun _ => rfl, rfl, fun _ => rfl, fun h => by omega, fun _ => ⟨rfl, fun j hj => by omega⟩⟩
    · have z : ∀ x, nD D nc x c = D x c := fun x => nD_ne e
      rw [z, z, z, z, z, z, z, upf_ne _ _ _ _ e, upf_ne _ _ _ _ e, upf_ne _ _ _ _ e, upf_ne _ _ _ _ e, upf_ne _ _ _ _ e, upf_ne _ _ _ _ e, upf_ne _ _ _ _ e]
      exact q3 c (by omega)
  · rw [r11, upf_ne _ _ _ _ (by omega)]; exact q4 c (by omega) h2
  · unfold KI
    by_cases e : c = nc
    · subst e
      rw [nD_eq, nD_eq, nD_eq, nD_eq, nD_eq, nD_eq, nD_eq]
      exact ⟨by omega, Or.inl rfl, fun _ => ⟨rfl, rfl⟩, by omega, by omega, fun _ => rfl, by omega, by omega, by omega, by omega⟩
    · have z : ∀ x, nD D nc x c = D x c := fun x => nD_ne e
      rw [z, z, z, z, z, z, z]
      exact hK c (by omega)
  · rw [nD_ne (by omega)]; exact h6s c (by omega)
  · have e : c ≠ nc := fun e => hnone w hw (by rw [← e]; exact h)
    have z : ∀ x, nD D nc x c = D x c := fun x => nD_ne e
    rw [z, z, z]
    obtain ⟨p1, p2, p3⟩ := hH1 w c hw h
    exact ⟨p1, by omega, p3⟩
  · have e : c ≠ nc := fun e => by subst e; rw [nD_eq] at hj; omega
    have z : ∀ x, nD D nc x c = D x c := fun x => nD_ne e
    rw [z] at hs hj
    rw [z]
    exact hH2 c j (by omega) hs hj
end
section
variable {S : Sg}
/-- the fields that a call begins with -/
theorem wp_startAnew {k : Nat} {Q : Unit → Sg → Prop} (hQ : ∀ S', (∀ a b, (a ≠ k ∨ b < 9 ∨ 16 < b) → fi S' a b = fi S a b) → (fi S' k 9 = Int32.ofNat 0 ∧ fi S' k 10 = nn ∧ fi S' k 11 = nn ∧ fi S' k 12 = Int32.ofNat 0 ∧ fi S' k 13 = Int32.ofNat 0 ∧ fi S' k 14 = Int32.ofNat 0 ∧ fi S' k 15 = Int32.ofNat 0) → fb S' = fb S → ai S' = ai S → ab S' = ab S → Q () S') : WP (Call_startAnew k) S Q := by
  unfold Call_startAnew
  simp (disch := omega) only [q_0, q_1, q_2, q_3, q_4, q_5, q_6, q_7, q_8, q_9, q_10, q_11, q_12, q_15, q_16, q_20, q_21, q_25, q_30, q_31, q_32, q_40, q_44, q_48, q_50, q_57, q_59, q_60, q_64, q_81, q_97, q_98, q_99, q_100, q_101, q_102, q_103, q_104, q_105, q_107, q_108, q_110, q_111, q_114, q_115, q_116, q_119, q_120, q_121, q_122, q_136, q_160, q_200, q_255, q_300, q_400, q_401, q_402, q_460, q_479, q_480, q_920, q_999, q_1000, q_1023, q_1024, q_4020, q_9999, q_99999, q_1000000, q_1000000000, q_100001, q_100002, q_100003, q_100004, q_400000, nn_1, r_0, r_1, r_2, r_3, r_4, r_6, r_7, r_8, r_9, r_10, r_11, r_21, r_40, r_48, r_57, r_60, r_97, r_122, r_200, r_300, r_479, r_920, r_9999, r_99999, r_m1, rd_pu, rd_gI, rd_gB, rd_gL, rd_gQ, rd_rI, rd_rB, rd_rQ, rd_rK, rd_dq, rd_cq, rd_div, rd_rem, rd_mb, rd_mif, rd_within, rd_in, Bool.true_and, Bool.and_true, Bool.cond_self, Bool.cond_false_right, Bool.cond_true_left, cond_true, cond_false, rd_sAt, wp_rd, wp_mb, wp_mif, wp_sI, wp_sB, wp_sL, wp_sQ, wp_wI, wp_wB, wp_wQ, orR_l, orR_r, orE_l, orE_r, sK_l, sK_r, sK_c, cond_tr, fi_ufi, fi_ufi1, fi_ufi2, fb_ufb, fb_ufb1, fb_ufb2, fl_ufl, fl_ufl1, fl_ufl2, fr_ufr, fr_ufr1, fr_ufr2, ai_sa, ai_sa1, ab_sab, ab_sab1, ar_sar, ar_sar1, upf_eq, upf_ne, fi_ufb, fi_ufl, fi_ufr, fi_sa, fi_sab, fi_sar, fb_ufi, fb_ufl, fb_ufr, fb_sa, fb_sab, fb_sar, fl_ufi, fl_ufb, fl_ufr, fl_sa, fl_sab, fl_sar, fr_ufi, fr_ufb, fr_ufl, fr_sa, fr_sab, fr_sar, ai_ufi, ai_ufb, ai_ufl, ai_ufr, ai_sab, ai_sar, ab_ufi, ab_ufb, ab_ufl, ab_ufr, ab_sa, ab_sar, ar_ufi, ar_ufb, ar_ufl, ar_ufr, ar_sa, ar_sab, sa_sa, sab_sab, sar_sar, upf_upf, ufi_ufi, tnN, inbN, addN, subN, mulN, decN, divN, remN, n2_lt, n2_le, n2_gt, n2_ge, n2_eq, n2_ne, n0_lt, n0_ge, n0_gt, n0_le, n0_eq, n0_ne, m2_eq, m2_ne, m2_eqq, m2_neq, m0_lt, m0_ge, m0_eq, m0_ne, m2_eqN, m2_neN, wi_N, wi_P, wi_NN, inN_N, li_wi, Nat.reduceAdd, Nat.reduceSub, Nat.reduceMul, Nat.reduceDiv, Nat.reduceMod, Nat.reduceLT, Nat.reduceLeDiff, Nat.reduceEqDiff, decide_true, decide_false, Nat.add_zero, Nat.zero_add, Nat.mul_one, Nat.one_mul, Nat.mul_zero, Nat.zero_mul, n0_gts, Prod.mk.injEq, modN, decide_eq_true_eq, decide_eq_false_iff_not, Bool.and_eq_true, Bool.or_eq_true, Bool.not_eq_true', Bool.not_eq_false', Bool.not_eq_true, Bool.not_eq_false, Bool.not_not, Bool.not_true, Bool.not_false, Bool.true_eq_false, Bool.false_eq_true, true_and, and_true, false_and, and_false, true_implies, false_implies, implies_true, not_true_eq_false, not_false_eq_true, ne_eq, Bool.and_eq_false_imp, Bool.or_eq_false_iff, eq_self, or_false, false_or, or_true, true_or]
  refine hQ _ (fun a b h => ?_) ⟨?_, ?_, ?_, ?_, ?_, ?_, ?_⟩ rfl rfl rfl
  · have e : ∀ (S : Sg) (j : Nat) (v : Int32), (a ≠ k ∨ b ≠ j) → fi (ufi S k j v) a b = fi S a b := fun S j v h => by
      rcases h with h | h
      · exact fi_ufi1 _ _ _ _ _ _ h
      · exact fi_ufi2 _ _ _ _ _ _ h
    rw [e _ _ _ (by omega), e _ _ _ (by omega), e _ _ _ (by omega), e _ _ _ (by omega), e _ _ _ (by omega), e _ _ _ (by omega), e _ _ _ (by omega), e _ _ _ (by omega)]
  all_goals simp (disch := omega) only [fi_ufi, fi_ufi1, fi_ufi2, fb_ufb, fb_ufb1, fb_ufb2, fl_ufl, fl_ufl1, fl_ufl2, fr_ufr, fr_ufr1, fr_ufr2, ai_sa, ai_sa1, ab_sab, ab_sab1, ar_sar, ar_sar1, upf_eq, upf_ne, fi_ufb, fi_ufl, fi_ufr, fi_sa, fi_sab, fi_sar, fb_ufi, fb_ufl, fb_ufr, fb_sa, fb_sab, fb_sar, fl_ufi, fl_ufb, fl_ufr, fl_sa, fl_sab, fl_sar, fr_ufi, fr_ufb, fr_ufl, fr_sa, fr_sab, fr_sar, ai_ufi, ai_ufb, ai_ufl, ai_ufr, ai_sab, ai_sar, ab_ufi, ab_ufb, ab_ufl, ab_ufr, ab_sa, ab_sar, ar_ufi, ar_ufb, ar_ufl, ar_ufr, ar_sa, ar_sab, sa_sa, sab_sab, sar_sar, upf_upf, ufi_ufi]
/-- how the reference starts a call -/
theorem rm_start {c : Nat} (hc : c < 40) {Q : Unit → Sg → Prop} (hQ : ∀ S', ai S' 158 = upf (ai S 158) c (Int32.ofNat 0) → ai S' 159 = upf (ai S 159) c nn → ai S' 160 = upf (ai S 160) c nn → ai S' 161 = upf (ai S 161) c (Int32.ofNat 0) → ai S' 162 = upf (ai S 162) c (Int32.ofNat 0) → ai S' 163 = upf (ai S 163) c nn → ai S' 164 = upf (ai S 164) c (Int32.ofNat 0) → AgR [158, 159, 160, 161, 162, 163, 164] [] S S' → Q () S') : WP (MO_start (Int32.ofNat c)) S Q := by
  unfold MO_start
  simp (disch := omega) only [q_0, q_1, q_2, q_3, q_4, q_5, q_6, q_7, q_8, q_9, q_10, q_11, q_12, q_15, q_16, q_20, q_21, q_25, q_30, q_31, q_32, q_40, q_44, q_48, q_50, q_57, q_59, q_60, q_64, q_81, q_97, q_98, q_99, q_100, q_101, q_102, q_103, q_104, q_105, q_107, q_108, q_110, q_111, q_114, q_115, q_116, q_119, q_120, q_121, q_122, q_136, q_160, q_200, q_255, q_300, q_400, q_401, q_402, q_460, q_479, q_480, q_920, q_999, q_1000, q_1023, q_1024, q_4020, q_9999, q_99999, q_1000000, q_1000000000, q_100001, q_100002, q_100003, q_100004, q_400000, nn_1, r_0, r_1, r_2, r_3, r_4, r_6, r_7, r_8, r_9, r_10, r_11, r_21, r_40, r_48, r_57, r_60, r_97, r_122, r_200, r_300, r_479, r_920, r_9999, r_99999, r_m1, rd_pu, rd_gI, rd_gB, rd_gL, rd_gQ, rd_rI, rd_rB, rd_rQ, rd_rK, rd_dq, rd_cq, rd_div, rd_rem, rd_mb, rd_mif, rd_within, rd_in, Bool.true_and, Bool.and_true, Bool.cond_self, Bool.cond_false_right, Bool.cond_true_left, cond_true, cond_false, rd_sAt, wp_rd, wp_mb, wp_mif, wp_sI, wp_sB, wp_sL, wp_sQ, wp_wI, wp_wB, wp_wQ, orR_l, orR_r, orE_l, orE_r, sK_l, sK_r, sK_c, cond_tr, fi_ufi, fi_ufi1, fi_ufi2, fb_ufb, fb_ufb1, fb_ufb2, fl_ufl, fl_ufl1, fl_ufl2, fr_ufr, fr_ufr1, fr_ufr2, ai_sa, ai_sa1, ab_sab, ab_sab1, ar_sar, ar_sar1, upf_eq, upf_ne, fi_ufb, fi_ufl, fi_ufr, fi_sa, fi_sab, fi_sar, fb_ufi, fb_ufl, fb_ufr, fb_sa, fb_sab, fb_sar, fl_ufi, fl_ufb, fl_ufr, fl_sa, fl_sab, fl_sar, fr_ufi, fr_ufb, fr_ufl, fr_sa, fr_sab, fr_sar, ai_ufi, ai_ufb, ai_ufl, ai_ufr, ai_sab, ai_sar, ab_ufi, ab_ufb, ab_ufl, ab_ufr, ab_sa, ab_sar, ar_ufi, ar_ufb, ar_ufl, ar_ufr, ar_sa, ar_sab, sa_sa, sab_sab, sar_sar, upf_upf, ufi_ufi, tnN, inbN, addN, subN, mulN, decN, divN, remN, n2_lt, n2_le, n2_gt, n2_ge, n2_eq, n2_ne, n0_lt, n0_ge, n0_gt, n0_le, n0_eq, n0_ne, m2_eq, m2_ne, m2_eqq, m2_neq, m0_lt, m0_ge, m0_eq, m0_ne, m2_eqN, m2_neN, wi_N, wi_P, wi_NN, inN_N, li_wi, Nat.reduceAdd, Nat.reduceSub, Nat.reduceMul, Nat.reduceDiv, Nat.reduceMod, Nat.reduceLT, Nat.reduceLeDiff, Nat.reduceEqDiff, decide_true, decide_false, Nat.add_zero, Nat.zero_add, Nat.mul_one, Nat.one_mul, Nat.mul_zero, Nat.zero_mul, n0_gts, Prod.mk.injEq, modN, decide_eq_true_eq, decide_eq_false_iff_not, Bool.and_eq_true, Bool.or_eq_true, Bool.not_eq_true', Bool.not_eq_false', Bool.not_eq_true, Bool.not_eq_false, Bool.not_not, Bool.not_true, Bool.not_false, Bool.true_eq_false, Bool.false_eq_true, true_and, and_true, false_and, and_false, true_implies, false_implies, implies_true, not_true_eq_false, not_false_eq_true, ne_eq, Bool.and_eq_false_imp, Bool.or_eq_false_iff, eq_self, or_false, false_or, or_true, true_or, hc]
  refine hQ _ ?_ ?_ ?_ ?_ ?_ ?_ ?_ (((((((AgR.rf.sa (by decide)).sa (by decide)).sa (by decide)).sa (by decide)).sa (by decide)).sa (by decide)).sa (by decide))
  all_goals simp (disch := omega) only [fi_ufi, fi_ufi1, fi_ufi2, fb_ufb, fb_ufb1, fb_ufb2, fl_ufl, fl_ufl1, fl_ufl2, fr_ufr, fr_ufr1, fr_ufr2, ai_sa, ai_sa1, ab_sab, ab_sab1, ar_sar, ar_sar1, upf_eq, upf_ne, fi_ufb, fi_ufl, fi_ufr, fi_sa, fi_sab, fi_sar, fb_ufi, fb_ufl, fb_ufr, fb_sa, fb_sab, fb_sar, fl_ufi, fl_ufb, fl_ufr, fl_sa, fl_sab, fl_sar, fr_ufi, fr_ufb, fr_ufl, fr_sa, fr_sab, fr_sar, ai_ufi, ai_ufb, ai_ufl, ai_ufr, ai_sab, ai_sar, ab_ufi, ab_ufb, ab_ufl, ab_ufr, ab_sa, ab_sar, ar_ufi, ar_ufb, ar_ufl, ar_ufr, ar_sa, ar_sab, sa_sa, sab_sab, sar_sar, upf_upf, ufi_ufi]
end
/-! two loops in step, where the first ends first -/
theorem wp_lpS {α β γ δ : Type} {f1 : α → PM (α ⊕ γ)} {f2 : β → PM (β ⊕ δ)} {Q : γ → Sg → δ → Sg → Prop} (n1 : Nat) (G : Nat) (hn : n1 + G < FU) (J : Nat → α → Sg → β → Sg → Prop) (h : ∀ k a1 S1 a2 S2, k < n1 → J k a1 S1 a2 S2 → WP (f1 a1) S1 fun q1 T1 => WP (f2 a2) S2 fun q2 T2 => sK2 (fun b1 T1 b2 T2 => J (k + 1) b1 T1 b2 T2) (fun _ _ _ _ => False) (fun _ _ _ _ => False) q1 T1 q2 T2) (hz : ∀ a1 S1 a2 S2, J n1 a1 S1 a2 S2 → WP (f1 a1) S1 (sK (fun _ _ => False) fun b1 T1 => ∀ F, G < F → WP (lp F f2 a2) S2 fun b2 T2 => Q b1 T1 b2 T2)) {a1 : α} {S1 : Sg} {a2 : β} {S2 : Sg} (h0 : J 0 a1 S1 a2 S2) : WP (lp FU f1 a1) S1 fun b1 T1 => WP (lp FU f2 a2) S2 fun b2 T2 => Q b1 T1 b2 T2 := by
  have key : ∀ F k a1 S1 a2 S2, k ≤ n1 → J k a1 S1 a2 S2 → (n1 - k) + G < F → WP (lp F f1 a1) S1 fun b1 T1 => WP (lp F f2 a2) S2 fun b2 T2 => Q b1 T1 b2 T2 := by
    intro F
    induction F with
    | zero => intro k a1 S1 a2 S2 _ _ hm; omega
    | succ m ih =>
      intro k a1 S1 a2 S2 hk hJ hm
      by_cases hkn : k < n1
      · obtain ⟨q1, T1, e1, q2, T2, e2, hq⟩ := h k a1 S1 a2 S2 hkn hJ
        unfold lp
        rw [wp_mb]
        refine ⟨q1, T1, e1, ?_⟩
        cases q1 with
        | inl b1 =>
          cases q2 with
          | inl b2 =>
            have := ih (k + 1) b1 T1 b2 T2 (by omega) hq (by omega)
            refine this.mono fun v S' hv => ?_
            rw [wp_mb]
            exact ⟨.inl b2, T2, e2, hv⟩
          | inr b2 => exact hq.elim
        | inr b1 => cases q2 <;> exact hq.elim
      · have e : k = n1 := by omega
        subst e
        obtain ⟨q1, T1, e1, hq⟩ := hz a1 S1 a2 S2 hJ
        cases q1 with
        | inl b1 => exact hq.elim
        | inr b1 =>
          have h2 := hq (m + 1) (by omega)
          have e3 : WP (lp (m + 1) f1 a1) S1 fun b1 T1 => WP (lp (m + 1) f2 a2) S2 fun b2 T2 => Q b1 T1 b2 T2 := by
            show WP (mb (f1 a1) _) S1 _
            rw [wp_mb]
            exact ⟨.inr b1, T1, e1, b1, T1, rfl, h2⟩
          exact e3
  exact key FU 0 a1 S1 a2 S2 (Nat.zero_le _) h0 (by omega)
/-- a loop's end, by a counter, with little fuel -/
theorem wp_forF {α β : Type} {f : α → PM (α ⊕ β)} {Q : β → Sg → Prop} (n : Nat) (J : Nat → α → Sg → Prop) (h : ∀ k a S, k ≤ n → J k a S → WP (f a) S (sK (fun a' S' => k < n ∧ J (k + 1) a' S') Q)) : ∀ F k a S, k ≤ n → J k a S → n - k < F → WP (lp F f a) S Q := by
  intro F
  induction F with
  | zero => intro k a S _ _ hm; omega
  | succ m ih =>
    intro k a S hk hJ hm
    unfold lp
    rw [wp_mb]
    refine (h k a S hk hJ).mono fun q S' hq => ?_
    cases q with
    | inl a' => exact ih (k + 1) a' S' (by have := hq.1; omega) hq.2 (by have := hq.1; omega)
    | inr b => exact ⟨b, S', rfl, hq⟩
