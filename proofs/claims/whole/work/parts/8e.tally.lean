/-! idle and waited: both sides -/
def WTp (nc : Nat) (du : Nat → Bool) (fp : Nat → Nat) (w : Nat) : Prop := ∃ c, c < nc ∧ du c = true ∧ ∃ j, j < wN (fp c) ∧ wP (fp c) j = w
def wD (D : Nat → Nat → Nat) (du : Nat → Bool) : Nat → Nat → Nat := fun x c => if x = 5 ∧ du c = true then D 5 c + 1 else D x c
theorem wD_ne {D : Nat → Nat → Nat} {du : Nat → Bool} {x c : Nat} (h : x ≠ 5) : wD D du x c = D x c := by unfold wD; rw [if_neg fun e => h e.1]
theorem wD_5 {D : Nat → Nat → Nat} {du : Nat → Bool} {c : Nat} : wD D du 5 c = if du c = true then D 5 c + 1 else D 5 c := by unfold wD; simp
section
variable {t : Nat} {f : Nat → Nat} {n : Nat} {M : Nat → Nat} {nc nR mx : Nat} {E D : Nat → Nat → Nat} {m : Nat} {SC SR : Sg} {hd : Nat → Option Nat} {rn : Nat} {row : Nat → Nat} {key : Nat → Nat} {fp : Nat → Nat}
theorem wp_tally1 (ht : t = 29 ∨ t = 80) (H : DD t f n M nc nR mx E D hd SC SR) (hR : RowP nc rn row key (tmB E m) D) (h17 : fi SC t 17 = Int32.ofNat rn) (har : ∀ i, i < rn → ar SC (t + 5) i = some (t + 6 + row i)) (hfp : ∀ c, c < nc → fp c = 0 ∨ WF n M (fp c)) (h18 : ∀ i, i < rn → fi SC (t + 6 + row i) 18 = Int32.ofNat (if fp (row i) = 0 then 0 else fq f (fp (row i)))) {Q : Int32 → Sg → Prop}
    (hQ : ∀ s F, (∀ c, c < nc → F (t + 6 + c) 12 = Int32.ofNat (wD D (dueB (D 0) (E 3) (E 4) m) 5 c)) → (∀ a b, (b ≠ 12 ∨ a < t + 6 ∨ t + 6 + nc ≤ a) → F a b = fi SC a b) → Bs f n (WTp nc (dueB (D 0) (E 3) (E 4) m) fp) s → Q s (sfi SC F)) : WP (lp FU (Day_tally_l1 t) (Int32.ofNat 0, Int32.ofNat 0)) SC Q := by
  obtain ⟨⟨g1, g2, g3, hf⟩, ⟨c1, c2, c3⟩, -, hK, h6s, hH1, hH2⟩ := H
  have hrn := hR.1
  have hdu : ∀ c, dueB (D 0) (E 3) (E 4) m c = (decide (D 0 c ≤ 1) && tmB E m c) := fun c => rfl
  generalize hON : dueB (D 0) (E 3) (E 4) m = ON at *
  have hrow40 : ∀ i, i < rn → row i < 40 := fun i hi => by have := (hR.2.1 i hi).1; omega
  have hrdu : ∀ i, i < rn → ON (row i) = decide (D 0 (row i) ≤ 1) := fun i hi => by rw [hdu, (hR.2.1 i hi).2, Bool.and_true]
  refine WP.mono (wp_for rn (by unfold FU; omega) (fun k x S' => x.2 = Int32.ofNat k ∧ ∃ F, S' = sfi SC F ∧ (∀ i, i < k → F (t + 6 + row i) 12 = Int32.ofNat (wD D ON 5 (row i))) ∧ (∀ a b, (b ≠ 12 ∨ ∀ i, i < k → a ≠ t + 6 + row i) → F a b = fi SC a b) ∧ Bs f n (fun w => ∃ i, i < k ∧ ON (row i) = true ∧ ∃ j, j < wN (fp (row i)) ∧ wP (fp (row i)) j = w) x.1) ?_ ⟨rfl, fi SC, by rw [sfi_id], fun i hi => by omega, fun _ _ _ => rfl, Bs_emp fun w _ ⟨i, hi, _⟩ => by omega⟩ (Q := fun s S' => ∃ F, S' = sfi SC F ∧ (∀ i, i < rn → F (t + 6 + row i) 12 = Int32.ofNat (wD D ON 5 (row i))) ∧ (∀ a b, (b ≠ 12 ∨ ∀ i, i < rn → a ≠ t + 6 + row i) → F a b = fi SC a b) ∧ Bs f n (fun w => ∃ i, i < rn ∧ ON (row i) = true ∧ ∃ j, j < wN (fp (row i)) ∧ wP (fp (row i)) j = w) s)) ?_
  · rintro k ⟨s, x⟩ S' hk ⟨hx, F, rfl, F1, F2, hs⟩
    simp only at hx hs
    subst hx
    unfold Day_tally_l1
    have f17 : F t 17 = Int32.ofNat rn := by rw [F2 _ _ (Or.inl (by decide))]; exact h17
    have eF : ∀ a b, fi (sfi SC F) a b = F a b := fun _ _ => rfl
    have eA : ar (sfi SC F) = ar SC := rfl
    by_cases hkn : k < rn
    · have hk40 : k < 40 := by omega
      have hrk := hR.2.1 k hkn
      have hic := isC_call ht (hrow40 k hkn)
      obtain ⟨d1, d2, d3, d4, -⟩ := c3 (row k) hrk.1
      have e9 : F (t + 6 + row k) 9 = Int32.ofNat (D 0 (row k)) := by rw [F2 _ _ (Or.inl (by decide))]; exact d1
      have e12 : F (t + 6 + row k) 12 = Int32.ofNat (D 5 (row k)) := by
        rw [F2 _ _ (Or.inr fun i hi h => ?_)]
        · exact d4
        · have := RowP_inj hR (show i < rn by omega) hkn (show row i = row k by omega)
          omega
      have e18 : ∀ v, F (t + 6 + row k) 18 = v ↔ fi SC (t + 6 + row k) 18 = v := fun v => by rw [F2 _ _ (Or.inl (by decide))]
      have hop := fun Q => wp_isOpen (S := sfi SC F) (k := t + 6 + row k) (st := D 0 (row k)) (hK _ hrk.1).1 (by rw [eF]; exact e9) Q
      by_cases ho : D 0 (row k) ≤ 1
      · have hon : ON (row k) = true := by rw [hrdu k hkn]; exact decide_eq_true ho
        have e18' : F (t + 6 + row k) 18 = Int32.ofNat (if fp (row k) = 0 then 0 else fq f (fp (row k))) := (e18 _).2 (h18 k hkn)
        have eu : ufi (sfi SC F) (t + 6 + row k) 12 (Int32.ofNat (D 5 (row k) + 1)) = sfi SC (up2 F (t + 6 + row k) 12 (Int32.ofNat (D 5 (row k) + 1))) := rfl
        have hqlt : (if fp (row k) = 0 then 0 else fq f (fp (row k))) < 134217728 := by
          split
          · omega
          · rcases hfp _ hrk.1 with h | h
            · contradiction
            · exact (WF_f h g3 hf).2.1
        obtain ⟨q0, hq0⟩ : ∃ q0, q0 = (if fp (row k) = 0 then 0 else fq f (fp (row k))) := ⟨_, rfl⟩
        rw [← hq0] at e18' hqlt
        simp (disch := omega) only [q_0, q_1, q_2, q_3, q_4, q_5, q_6, q_7, q_8, q_9, q_10, q_11, q_12, q_15, q_16, q_20, q_21, q_25, q_30, q_31, q_32, q_40, q_44, q_48, q_50, q_57, q_59, q_60, q_64, q_81, q_97, q_98, q_99, q_100, q_101, q_102, q_103, q_104, q_105, q_107, q_108, q_110, q_111, q_114, q_115, q_116, q_119, q_120, q_121, q_122, q_136, q_160, q_200, q_255, q_300, q_400, q_401, q_402, q_460, q_479, q_480, q_920, q_999, q_1000, q_1023, q_1024, q_4020, q_9999, q_99999, q_1000000, q_1000000000, q_100001, q_100002, q_100003, q_100004, q_400000, nn_1, r_0, r_1, r_2, r_3, r_4, r_6, r_7, r_8, r_9, r_10, r_11, r_21, r_40, r_48, r_57, r_60, r_97, r_122, r_200, r_300, r_479, r_920, r_9999, r_99999, r_m1, rd_pu, rd_gI, rd_gB, rd_gL, rd_gQ, rd_rI, rd_rB, rd_rQ, rd_rK, rd_dq, rd_cq, rd_div, rd_rem, rd_mb, rd_mif, rd_within, rd_in, Bool.true_and, Bool.and_true, Bool.cond_self, Bool.cond_false_right, Bool.cond_true_left, cond_true, cond_false, rd_sAt, wp_rd, wp_mb, wp_mif, wp_sI, wp_sB, wp_sL, wp_sQ, wp_wI, wp_wB, wp_wQ, orR_l, orR_r, orE_l, orE_r, sK_l, sK_r, sK_c, cond_tr, fi_ufi, fi_ufi1, fi_ufi2, fb_ufb, fb_ufb1, fb_ufb2, fl_ufl, fl_ufl1, fl_ufl2, fr_ufr, fr_ufr1, fr_ufr2, ai_sa, ai_sa1, ab_sab, ab_sab1, ar_sar, ar_sar1, upf_eq, upf_ne, fi_ufb, fi_ufl, fi_ufr, fi_sa, fi_sab, fi_sar, fb_ufi, fb_ufl, fb_ufr, fb_sa, fb_sab, fb_sar, fl_ufi, fl_ufb, fl_ufr, fl_sa, fl_sab, fl_sar, fr_ufi, fr_ufb, fr_ufl, fr_sa, fr_sab, fr_sar, ai_ufi, ai_ufb, ai_ufl, ai_ufr, ai_sab, ai_sar, ab_ufi, ab_ufb, ab_ufl, ab_ufr, ab_sa, ab_sar, ar_ufi, ar_ufb, ar_ufl, ar_ufr, ar_sa, ar_sab, sa_sa, sab_sab, sar_sar, upf_upf, ufi_ufi, tnN, inbN, addN, subN, mulN, decN, divN, remN, n2_lt, n2_le, n2_gt, n2_ge, n2_eq, n2_ne, n0_lt, n0_ge, n0_gt, n0_le, n0_eq, n0_ne, m2_eq, m2_ne, m2_eqq, m2_neq, m0_lt, m0_ge, m0_eq, m0_ne, m2_eqN, m2_neN, wi_N, wi_P, wi_NN, inN_N, li_wi, Nat.reduceAdd, Nat.reduceSub, Nat.reduceMul, Nat.reduceDiv, Nat.reduceMod, Nat.reduceLT, Nat.reduceLeDiff, Nat.reduceEqDiff, decide_true, decide_false, Nat.add_zero, Nat.zero_add, Nat.mul_one, Nat.one_mul, Nat.mul_zero, Nat.zero_mul, n0_gts, Prod.mk.injEq, modN, decide_eq_true_eq, decide_eq_false_iff_not, Bool.and_eq_true, Bool.or_eq_true, Bool.not_eq_true', Bool.not_eq_false', Bool.not_eq_true, Bool.not_eq_false, Bool.not_not, Bool.not_true, Bool.not_false, Bool.true_eq_false, Bool.false_eq_true, true_and, and_true, false_and, and_false, true_implies, false_implies, implies_true, not_true_eq_false, not_false_eq_true, ne_eq, Bool.and_eq_false_imp, Bool.or_eq_false_iff, eq_self, or_false, false_or, or_true, true_or, eA, eF, f17, hkn, hk40, har k hkn, hic, Option.any_some, Option.getD_some, hop, ho, e12, eu, e18']
        refine wp_setOf (q := q0) hqlt fun s2 hs2 => ?_
        rw [hq0] at hs2
        refine ⟨_, rfl, fun i hi => ?_, fun a b hab => ?_, ?_⟩
        · by_cases e : i = k
          · subst e
            rw [up2_eq, wD_5, if_pos hon]
          · have : row i ≠ row k := fun h => e (RowP_inj hR (by omega) hkn h)
            rw [up2_n _ _ _ _ (Or.inl (by omega))]
            exact F1 i (by omega)
        · rw [up2_n _ _ _ _ (by
            rcases hab with h | h
            · exact Or.inr h
            · exact Or.inl (h k (by omega)))]
          exact F2 a b (by
            rcases hab with h | h
            · exact Or.inl h
            · exact Or.inr fun i hi => h i (by omega))
        · have hb2 : Bs f n (fun w => ∃ j, j < wN (fp (row k)) ∧ wP (fp (row k)) j = w) s2 := by
            intro x hx
            rw [hs2 x hx]
            unfold wS
            by_cases e0 : fp (row k) = 0
            · rw [if_pos e0, e0]
              exact ⟨fun ⟨i, hi, _⟩ => absurd hi (Nat.not_lt_zero i), fun ⟨w, _, _, j, hj, _⟩ => absurd hj (Nat.not_lt_zero j)⟩
            · rw [if_neg e0]
              rcases hfp _ hrk.1 with h | h
              · exact absurd h e0
              · obtain ⟨v1, v2, v3, v4, v5⟩ := WF_f h g3 hf
                obtain ⟨w1, w2, w3, w4, w5, w6⟩ := WF_b h g3
                rw [v3]
                constructor
                · rintro ⟨j, hj, rfl⟩
                  exact ⟨wP (fp (row k)) j, w5 j hj, (v5 j hj).symm, j, hj, rfl⟩
                · rintro ⟨w, hw, rfl, j, hj, rfl⟩
                  exact ⟨j, hj, v5 j hj⟩
          refine Bs_cg (Bs_or hs hb2) fun w _ => ⟨?_, ?_⟩
          · rintro (⟨i, h1, h2⟩ | h)
            · exact ⟨i, by omega, h2⟩
            · exact ⟨k, by omega, hon, h⟩
          · rintro ⟨i, h1, h2, h3⟩
            by_cases e : i = k
            · subst e; exact Or.inr h3
            · exact Or.inl ⟨i, by omega, h2, h3⟩
      · have hon : ON (row k) = false := by rw [hrdu k hkn]; exact decide_eq_false ho
        simp (disch := omega) only [q_0, q_1, q_2, q_3, q_4, q_5, q_6, q_7, q_8, q_9, q_10, q_11, q_12, q_15, q_16, q_20, q_21, q_25, q_30, q_31, q_32, q_40, q_44, q_48, q_50, q_57, q_59, q_60, q_64, q_81, q_97, q_98, q_99, q_100, q_101, q_102, q_103, q_104, q_105, q_107, q_108, q_110, q_111, q_114, q_115, q_116, q_119, q_120, q_121, q_122, q_136, q_160, q_200, q_255, q_300, q_400, q_401, q_402, q_460, q_479, q_480, q_920, q_999, q_1000, q_1023, q_1024, q_4020, q_9999, q_99999, q_1000000, q_1000000000, q_100001, q_100002, q_100003, q_100004, q_400000, nn_1, r_0, r_1, r_2, r_3, r_4, r_6, r_7, r_8, r_9, r_10, r_11, r_21, r_40, r_48, r_57, r_60, r_97, r_122, r_200, r_300, r_479, r_920, r_9999, r_99999, r_m1, rd_pu, rd_gI, rd_gB, rd_gL, rd_gQ, rd_rI, rd_rB, rd_rQ, rd_rK, rd_dq, rd_cq, rd_div, rd_rem, rd_mb, rd_mif, rd_within, rd_in, Bool.true_and, Bool.and_true, Bool.cond_self, Bool.cond_false_right, Bool.cond_true_left, cond_true, cond_false, rd_sAt, wp_rd, wp_mb, wp_mif, wp_sI, wp_sB, wp_sL, wp_sQ, wp_wI, wp_wB, wp_wQ, orR_l, orR_r, orE_l, orE_r, sK_l, sK_r, sK_c, cond_tr, fi_ufi, fi_ufi1, fi_ufi2, fb_ufb, fb_ufb1, fb_ufb2, fl_ufl, fl_ufl1, fl_ufl2, fr_ufr, fr_ufr1, fr_ufr2, ai_sa, ai_sa1, ab_sab, ab_sab1, ar_sar, ar_sar1, upf_eq, upf_ne, fi_ufb, fi_ufl, fi_ufr, fi_sa, fi_sab, fi_sar, fb_ufi, fb_ufl, fb_ufr, fb_sa, fb_sab, fb_sar, fl_ufi, fl_ufb, fl_ufr, fl_sa, fl_sab, fl_sar, fr_ufi, fr_ufb, fr_ufl, fr_sa, fr_sab, fr_sar, ai_ufi, ai_ufb, ai_ufl, ai_ufr, ai_sab, ai_sar, ab_ufi, ab_ufb, ab_ufl, ab_ufr, ab_sa, ab_sar, ar_ufi, ar_ufb, ar_ufl, ar_ufr, ar_sa, ar_sab, sa_sa, sab_sab, sar_sar, upf_upf, ufi_ufi, tnN, inbN, addN, subN, mulN, decN, divN, remN, n2_lt, n2_le, n2_gt, n2_ge, n2_eq, n2_ne, n0_lt, n0_ge, n0_gt, n0_le, n0_eq, n0_ne, m2_eq, m2_ne, m2_eqq, m2_neq, m0_lt, m0_ge, m0_eq, m0_ne, m2_eqN, m2_neN, wi_N, wi_P, wi_NN, inN_N, li_wi, Nat.reduceAdd, Nat.reduceSub, Nat.reduceMul, Nat.reduceDiv, Nat.reduceMod, Nat.reduceLT, Nat.reduceLeDiff, Nat.reduceEqDiff, decide_true, decide_false, Nat.add_zero, Nat.zero_add, Nat.mul_one, Nat.one_mul, Nat.mul_zero, Nat.zero_mul, n0_gts, Prod.mk.injEq, modN, decide_eq_true_eq, decide_eq_false_iff_not, Bool.and_eq_true, Bool.or_eq_true, Bool.not_eq_true', Bool.not_eq_false', Bool.not_eq_true, Bool.not_eq_false, Bool.not_not, Bool.not_true, Bool.not_false, Bool.true_eq_false, Bool.false_eq_true, true_and, and_true, false_and, and_false, true_implies, false_implies, implies_true, not_true_eq_false, not_false_eq_true, ne_eq, Bool.and_eq_false_imp, Bool.or_eq_false_iff, eq_self, or_false, false_or, or_true, true_or, eA, eF, f17, hkn, hk40, har k hkn, hic, Option.any_some, Option.getD_some, hop, ho]
        refine ⟨F, rfl, fun i hi => ?_, fun a b hab => F2 a b ?_, Bs_cg hs fun w _ => ⟨?_, ?_⟩⟩
        · by_cases e : i = k
          · subst e
            rw [e12, wD_5, if_neg (by rw [hon]; decide)]
          · exact F1 i (by omega)
        · rcases hab with h | h
          · exact Or.inl h
          · exact Or.inr fun i hi => h i (by omega)
        · rintro ⟨i, h1, h2⟩; exact ⟨i, by omega, h2⟩
        · rintro ⟨i, h1, h2, h3⟩
          by_cases e : i = k
          · subst e; rw [hon] at h2; cases h2
          · exact ⟨i, by omega, h2, h3⟩
    · have e : k = rn := by omega
      subst e
      simp (disch := omega) only [q_0, q_1, q_2, q_3, q_4, q_5, q_6, q_7, q_8, q_9, q_10, q_11, q_12, q_15, q_16, q_20, q_21, q_25, q_30, q_31, q_32, q_40, q_44, q_48, q_50, q_57, q_59, q_60, q_64, q_81, q_97, q_98, q_99, q_100, q_101, q_102, q_103, q_104, q_105, q_107, q_108, q_110, q_111, q_114, q_115, q_116, q_119, q_120, q_121, q_122, q_136, q_160, q_200, q_255, q_300, q_400, q_401, q_402, q_460, q_479, q_480, q_920, q_999, q_1000, q_1023, q_1024, q_4020, q_9999, q_99999, q_1000000, q_1000000000, q_100001, q_100002, q_100003, q_100004, q_400000, nn_1, r_0, r_1, r_2, r_3, r_4, r_6, r_7, r_8, r_9, r_10, r_11, r_21, r_40, r_48, r_57, r_60, r_97, r_122, r_200, r_300, r_479, r_920, r_9999, r_99999, r_m1, rd_pu, rd_gI, rd_gB, rd_gL, rd_gQ, rd_rI, rd_rB, rd_rQ, rd_rK, rd_dq, rd_cq, rd_div, rd_rem, rd_mb, rd_mif, rd_within, rd_in, Bool.true_and, Bool.and_true, Bool.cond_self, Bool.cond_false_right, Bool.cond_true_left, cond_true, cond_false, rd_sAt, wp_rd, wp_mb, wp_mif, wp_sI, wp_sB, wp_sL, wp_sQ, wp_wI, wp_wB, wp_wQ, orR_l, orR_r, orE_l, orE_r, sK_l, sK_r, sK_c, cond_tr, fi_ufi, fi_ufi1, fi_ufi2, fb_ufb, fb_ufb1, fb_ufb2, fl_ufl, fl_ufl1, fl_ufl2, fr_ufr, fr_ufr1, fr_ufr2, ai_sa, ai_sa1, ab_sab, ab_sab1, ar_sar, ar_sar1, upf_eq, upf_ne, fi_ufb, fi_ufl, fi_ufr, fi_sa, fi_sab, fi_sar, fb_ufi, fb_ufl, fb_ufr, fb_sa, fb_sab, fb_sar, fl_ufi, fl_ufb, fl_ufr, fl_sa, fl_sab, fl_sar, fr_ufi, fr_ufb, fr_ufl, fr_sa, fr_sab, fr_sar, ai_ufi, ai_ufb, ai_ufl, ai_ufr, ai_sab, ai_sar, ab_ufi, ab_ufb, ab_ufl, ab_ufr, ab_sa, ab_sar, ar_ufi, ar_ufb, ar_ufl, ar_ufr, ar_sa, ar_sab, sa_sa, sab_sab, sar_sar, upf_upf, ufi_ufi, tnN, inbN, addN, subN, mulN, decN, divN, remN, n2_lt, n2_le, n2_gt, n2_ge, n2_eq, n2_ne, n0_lt, n0_ge, n0_gt, n0_le, n0_eq, n0_ne, m2_eq, m2_ne, m2_eqq, m2_neq, m0_lt, m0_ge, m0_eq, m0_ne, m2_eqN, m2_neN, wi_N, wi_P, wi_NN, inN_N, li_wi, Nat.reduceAdd, Nat.reduceSub, Nat.reduceMul, Nat.reduceDiv, Nat.reduceMod, Nat.reduceLT, Nat.reduceLeDiff, Nat.reduceEqDiff, decide_true, decide_false, Nat.add_zero, Nat.zero_add, Nat.mul_one, Nat.one_mul, Nat.mul_zero, Nat.zero_mul, n0_gts, Prod.mk.injEq, modN, decide_eq_true_eq, decide_eq_false_iff_not, Bool.and_eq_true, Bool.or_eq_true, Bool.not_eq_true', Bool.not_eq_false', Bool.not_eq_true, Bool.not_eq_false, Bool.not_not, Bool.not_true, Bool.not_false, Bool.true_eq_false, Bool.false_eq_true, true_and, and_true, false_and, and_false, true_implies, false_implies, implies_true, not_true_eq_false, not_false_eq_true, ne_eq, Bool.and_eq_false_imp, Bool.or_eq_false_iff, eq_self, or_false, false_or, or_true, true_or, eF, f17, Nat.lt_irrefl]
      exact ⟨F, rfl, F1, F2, hs⟩
  · rintro s S' ⟨F, rfl, F1, F2, hs⟩
    refine hQ s F (fun c hc => ?_) (fun a b hab => F2 a b ?_) (Bs_cg hs fun w _ => ⟨?_, ?_⟩)
    · by_cases ho : ON c = true
      · have h := ho
        rw [hdu, Bool.and_eq_true] at h
        obtain ⟨i, hi, rfl⟩ := hR.2.2.2 c hc (of_decide_eq_true h.1) h.2
        exact F1 i hi
      · by_cases e : ∃ i, i < rn ∧ row i = c
        · obtain ⟨i, hi, rfl⟩ := e
          exact F1 i hi
        · rw [wD_5, if_neg ho, F2 _ _ (Or.inr fun i hi h => e ⟨i, hi, by omega⟩)]
          exact (c3 c hc).2.2.2.1
    · rcases hab with h | h
      · exact Or.inl h
      · exact Or.inr fun i hi e => by have := (hR.2.1 i hi).1; omega
    · rintro ⟨i, h1, h2, h3⟩
      exact ⟨row i, (hR.2.1 i h1).1, h2, h3⟩
    · rintro ⟨c, h1, h2, h3⟩
      have h := h2
      rw [hdu, Bool.and_eq_true] at h
      obtain ⟨i, hi, rfl⟩ := hR.2.2.2 c h1 (of_decide_eq_true h.1) h.2
      exact ⟨i, hi, h2, h3⟩
theorem wp_tally2 (hnc : nc ≤ 40) (hS : Sg) (h5 : fi hS t 5 = Int32.ofNat nc) (hd9 : ∀ c, c < nc → D 0 c ≤ 5 ∧ fi hS (t + 6 + c) 9 = Int32.ofNat (D 0 c) ∧ Bs f n (fun w => hd w = some c) (fi hS (t + 6 + c) 15)) {Q : Int32 → Sg → Prop} (hQ : ∀ s, Bs f n (fun w => ∃ c, c < nc ∧ D 0 c = 2 ∧ hd w = some c) s → Q s hS) : WP (lp FU (Day_tally_l2 t) (Int32.ofNat 0, Int32.ofNat 0)) hS Q := by
  refine WP.mono (wp_for nc (by unfold FU; omega) (fun k x S' => x.2 = Int32.ofNat k ∧ S' = hS ∧ Bs f n (fun w => ∃ c, c < k ∧ D 0 c = 2 ∧ hd w = some c) x.1) ?_ ⟨rfl, rfl, Bs_emp fun w _ ⟨i, hi, _⟩ => by omega⟩ (Q := fun s S' => S' = hS ∧ Bs f n (fun w => ∃ c, c < nc ∧ D 0 c = 2 ∧ hd w = some c) s)) ?_
  · rintro k ⟨s, x⟩ S' hk ⟨hx, rfl, hs⟩
    simp only at hx hs
    subst hx
    unfold Day_tally_l2
    by_cases hkn : k < nc
    · have hk40 : k < 40 := by omega
      have ec : cst (t + 1) k = t + 6 + k := by unfold cst; omega
      obtain ⟨q1, q2, q3⟩ := hd9 k hkn
      by_cases h2 : D 0 k = 2
      · simp (disch := omega) only [q_0, q_1, q_2, q_3, q_4, q_5, q_6, q_7, q_8, q_9, q_10, q_11, q_12, q_15, q_16, q_20, q_21, q_25, q_30, q_31, q_32, q_40, q_44, q_48, q_50, q_57, q_59, q_60, q_64, q_81, q_97, q_98, q_99, q_100, q_101, q_102, q_103, q_104, q_105, q_107, q_108, q_110, q_111, q_114, q_115, q_116, q_119, q_120, q_121, q_122, q_136, q_160, q_200, q_255, q_300, q_400, q_401, q_402, q_460, q_479, q_480, q_920, q_999, q_1000, q_1023, q_1024, q_4020, q_9999, q_99999, q_1000000, q_1000000000, q_100001, q_100002, q_100003, q_100004, q_400000, nn_1, r_0, r_1, r_2, r_3, r_4, r_6, r_7, r_8, r_9, r_10, r_11, r_21, r_40, r_48, r_57, r_60, r_97, r_122, r_200, r_300, r_479, r_920, r_9999, r_99999, r_m1, rd_pu, rd_gI, rd_gB, rd_gL, rd_gQ, rd_rI, rd_rB, rd_rQ, rd_rK, rd_dq, rd_cq, rd_div, rd_rem, rd_mb, rd_mif, rd_within, rd_in, Bool.true_and, Bool.and_true, Bool.cond_self, Bool.cond_false_right, Bool.cond_true_left, cond_true, cond_false, rd_sAt, wp_rd, wp_mb, wp_mif, wp_sI, wp_sB, wp_sL, wp_sQ, wp_wI, wp_wB, wp_wQ, orR_l, orR_r, orE_l, orE_r, sK_l, sK_r, sK_c, cond_tr, fi_ufi, fi_ufi1, fi_ufi2, fb_ufb, fb_ufb1, fb_ufb2, fl_ufl, fl_ufl1, fl_ufl2, fr_ufr, fr_ufr1, fr_ufr2, ai_sa, ai_sa1, ab_sab, ab_sab1, ar_sar, ar_sar1, upf_eq, upf_ne, fi_ufb, fi_ufl, fi_ufr, fi_sa, fi_sab, fi_sar, fb_ufi, fb_ufl, fb_ufr, fb_sa, fb_sab, fb_sar, fl_ufi, fl_ufb, fl_ufr, fl_sa, fl_sab, fl_sar, fr_ufi, fr_ufb, fr_ufl, fr_sa, fr_sab, fr_sar, ai_ufi, ai_ufb, ai_ufl, ai_ufr, ai_sab, ai_sar, ab_ufi, ab_ufb, ab_ufl, ab_ufr, ab_sa, ab_sar, ar_ufi, ar_ufb, ar_ufl, ar_ufr, ar_sa, ar_sab, sa_sa, sab_sab, sar_sar, upf_upf, ufi_ufi, tnN, inbN, addN, subN, mulN, decN, divN, remN, n2_lt, n2_le, n2_gt, n2_ge, n2_eq, n2_ne, n0_lt, n0_ge, n0_gt, n0_le, n0_eq, n0_ne, m2_eq, m2_ne, m2_eqq, m2_neq, m0_lt, m0_ge, m0_eq, m0_ne, m2_eqN, m2_neN, wi_N, wi_P, wi_NN, inN_N, li_wi, Nat.reduceAdd, Nat.reduceSub, Nat.reduceMul, Nat.reduceDiv, Nat.reduceMod, Nat.reduceLT, Nat.reduceLeDiff, Nat.reduceEqDiff, decide_true, decide_false, Nat.add_zero, Nat.zero_add, Nat.mul_one, Nat.one_mul, Nat.mul_zero, Nat.zero_mul, n0_gts, Prod.mk.injEq, modN, decide_eq_true_eq, decide_eq_false_iff_not, Bool.and_eq_true, Bool.or_eq_true, Bool.not_eq_true', Bool.not_eq_false', Bool.not_eq_true, Bool.not_eq_false, Bool.not_not, Bool.not_true, Bool.not_false, Bool.true_eq_false, Bool.false_eq_true, true_and, and_true, false_and, and_false, true_implies, false_implies, implies_true, not_true_eq_false, not_false_eq_true, ne_eq, Bool.and_eq_false_imp, Bool.or_eq_false_iff, eq_self, or_false, false_or, or_true, true_or, h5, hkn, hk40, ec, q2, h2]
        refine Bs_cg (Bs_or hs q3) fun w _ => ⟨?_, ?_⟩
        · rintro (⟨i, h1, h3⟩ | h)
          · exact ⟨i, by omega, h3⟩
          · exact ⟨k, by omega, h2, h⟩
        · rintro ⟨i, h1, h3, h4⟩
          by_cases e : i = k
          · subst e; exact Or.inr h4
          · exact Or.inl ⟨i, by omega, h3, h4⟩
      · simp (disch := omega) only [q_0, q_1, q_2, q_3, q_4, q_5, q_6, q_7, q_8, q_9, q_10, q_11, q_12, q_15, q_16, q_20, q_21, q_25, q_30, q_31, q_32, q_40, q_44, q_48, q_50, q_57, q_59, q_60, q_64, q_81, q_97, q_98, q_99, q_100, q_101, q_102, q_103, q_104, q_105, q_107, q_108, q_110, q_111, q_114, q_115, q_116, q_119, q_120, q_121, q_122, q_136, q_160, q_200, q_255, q_300, q_400, q_401, q_402, q_460, q_479, q_480, q_920, q_999, q_1000, q_1023, q_1024, q_4020, q_9999, q_99999, q_1000000, q_1000000000, q_100001, q_100002, q_100003, q_100004, q_400000, nn_1, r_0, r_1, r_2, r_3, r_4, r_6, r_7, r_8, r_9, r_10, r_11, r_21, r_40, r_48, r_57, r_60, r_97, r_122, r_200, r_300, r_479, r_920, r_9999, r_99999, r_m1, rd_pu, rd_gI, rd_gB, rd_gL, rd_gQ, rd_rI, rd_rB, rd_rQ, rd_rK, rd_dq, rd_cq, rd_div, rd_rem, rd_mb, rd_mif, rd_within, rd_in, Bool.true_and, Bool.and_true, Bool.cond_self, Bool.cond_false_right, Bool.cond_true_left, cond_true, cond_false, rd_sAt, wp_rd, wp_mb, wp_mif, wp_sI, wp_sB, wp_sL, wp_sQ, wp_wI, wp_wB, wp_wQ, orR_l, orR_r, orE_l, orE_r, sK_l, sK_r, sK_c, cond_tr, fi_ufi, fi_ufi1, fi_ufi2, fb_ufb, fb_ufb1, fb_ufb2, fl_ufl, fl_ufl1, fl_ufl2, fr_ufr, fr_ufr1, fr_ufr2, ai_sa, ai_sa1, ab_sab, ab_sab1, ar_sar, ar_sar1, upf_eq, upf_ne, fi_ufb, fi_ufl, fi_ufr, fi_sa, fi_sab, fi_sar, fb_ufi, fb_ufl, fb_ufr, fb_sa, fb_sab, fb_sar, fl_ufi, fl_ufb, fl_ufr, fl_sa, fl_sab, fl_sar, fr_ufi, fr_ufb, fr_ufl, fr_sa, fr_sab, fr_sar, ai_ufi, ai_ufb, ai_ufl, ai_ufr, ai_sab, ai_sar, ab_ufi, ab_ufb, ab_ufl, ab_ufr, ab_sa, ab_sar, ar_ufi, ar_ufb, ar_ufl, ar_ufr, ar_sa, ar_sab, sa_sa, sab_sab, sar_sar, upf_upf, ufi_ufi, tnN, inbN, addN, subN, mulN, decN, divN, remN, n2_lt, n2_le, n2_gt, n2_ge, n2_eq, n2_ne, n0_lt, n0_ge, n0_gt, n0_le, n0_eq, n0_ne, m2_eq, m2_ne, m2_eqq, m2_neq, m0_lt, m0_ge, m0_eq, m0_ne, m2_eqN, m2_neN, wi_N, wi_P, wi_NN, inN_N, li_wi, Nat.reduceAdd, Nat.reduceSub, Nat.reduceMul, Nat.reduceDiv, Nat.reduceMod, Nat.reduceLT, Nat.reduceLeDiff, Nat.reduceEqDiff, decide_true, decide_false, Nat.add_zero, Nat.zero_add, Nat.mul_one, Nat.one_mul, Nat.mul_zero, Nat.zero_mul, n0_gts, Prod.mk.injEq, modN, decide_eq_true_eq, decide_eq_false_iff_not, Bool.and_eq_true, Bool.or_eq_true, Bool.not_eq_true', Bool.not_eq_false', Bool.not_eq_true, Bool.not_eq_false, Bool.not_not, Bool.not_true, Bool.not_false, Bool.true_eq_false, Bool.false_eq_true, true_and, and_true, false_and, and_false, true_implies, false_implies, implies_true, not_true_eq_false, not_false_eq_true, ne_eq, Bool.and_eq_false_imp, Bool.or_eq_false_iff, eq_self, or_false, false_or, or_true, true_or, h5, hkn, hk40, ec, q2, h2]
        refine Bs_cg hs fun w _ => ⟨?_, ?_⟩
        · rintro ⟨i, h1, h3⟩; exact ⟨i, by omega, h3⟩
        · rintro ⟨i, h1, h3, h4⟩
          by_cases e : i = k
          · subst e; exact absurd h3 h2
          · exact ⟨i, by omega, h3, h4⟩
    · have e : k = nc := by omega
      subst e
      simp (disch := omega) only [q_0, q_1, q_2, q_3, q_4, q_5, q_6, q_7, q_8, q_9, q_10, q_11, q_12, q_15, q_16, q_20, q_21, q_25, q_30, q_31, q_32, q_40, q_44, q_48, q_50, q_57, q_59, q_60, q_64, q_81, q_97, q_98, q_99, q_100, q_101, q_102, q_103, q_104, q_105, q_107, q_108, q_110, q_111, q_114, q_115, q_116, q_119, q_120, q_121, q_122, q_136, q_160, q_200, q_255, q_300, q_400, q_401, q_402, q_460, q_479, q_480, q_920, q_999, q_1000, q_1023, q_1024, q_4020, q_9999, q_99999, q_1000000, q_1000000000, q_100001, q_100002, q_100003, q_100004, q_400000, nn_1, r_0, r_1, r_2, r_3, r_4, r_6, r_7, r_8, r_9, r_10, r_11, r_21, r_40, r_48, r_57, r_60, r_97, r_122, r_200, r_300, r_479, r_920, r_9999, r_99999, r_m1, rd_pu, rd_gI, rd_gB, rd_gL, rd_gQ, rd_rI, rd_rB, rd_rQ, rd_rK, rd_dq, rd_cq, rd_div, rd_rem, rd_mb, rd_mif, rd_within, rd_in, Bool.true_and, Bool.and_true, Bool.cond_self, Bool.cond_false_right, Bool.cond_true_left, cond_true, cond_false, rd_sAt, wp_rd, wp_mb, wp_mif, wp_sI, wp_sB, wp_sL, wp_sQ, wp_wI, wp_wB, wp_wQ, orR_l, orR_r, orE_l, orE_r, sK_l, sK_r, sK_c, cond_tr, fi_ufi, fi_ufi1, fi_ufi2, fb_ufb, fb_ufb1, fb_ufb2, fl_ufl, fl_ufl1, fl_ufl2, fr_ufr, fr_ufr1, fr_ufr2, ai_sa, ai_sa1, ab_sab, ab_sab1, ar_sar, ar_sar1, upf_eq, upf_ne, fi_ufb, fi_ufl, fi_ufr, fi_sa, fi_sab, fi_sar, fb_ufi, fb_ufl, fb_ufr, fb_sa, fb_sab, fb_sar, fl_ufi, fl_ufb, fl_ufr, fl_sa, fl_sab, fl_sar, fr_ufi, fr_ufb, fr_ufl, fr_sa, fr_sab, fr_sar, ai_ufi, ai_ufb, ai_ufl, ai_ufr, ai_sab, ai_sar, ab_ufi, ab_ufb, ab_ufl, ab_ufr, ab_sa, ab_sar, ar_ufi, ar_ufb, ar_ufl, ar_ufr, ar_sa, ar_sab, sa_sa, sab_sab, sar_sar, upf_upf, ufi_ufi, tnN, inbN, addN, subN, mulN, decN, divN, remN, n2_lt, n2_le, n2_gt, n2_ge, n2_eq, n2_ne, n0_lt, n0_ge, n0_gt, n0_le, n0_eq, n0_ne, m2_eq, m2_ne, m2_eqq, m2_neq, m0_lt, m0_ge, m0_eq, m0_ne, m2_eqN, m2_neN, wi_N, wi_P, wi_NN, inN_N, li_wi, Nat.reduceAdd, Nat.reduceSub, Nat.reduceMul, Nat.reduceDiv, Nat.reduceMod, Nat.reduceLT, Nat.reduceLeDiff, Nat.reduceEqDiff, decide_true, decide_false, Nat.add_zero, Nat.zero_add, Nat.mul_one, Nat.one_mul, Nat.mul_zero, Nat.zero_mul, n0_gts, Prod.mk.injEq, modN, decide_eq_true_eq, decide_eq_false_iff_not, Bool.and_eq_true, Bool.or_eq_true, Bool.not_eq_true', Bool.not_eq_false', Bool.not_eq_true, Bool.not_eq_false, Bool.not_not, Bool.not_true, Bool.not_false, Bool.true_eq_false, Bool.false_eq_true, true_and, and_true, false_and, and_false, true_implies, false_implies, implies_true, not_true_eq_false, not_false_eq_true, ne_eq, Bool.and_eq_false_imp, Bool.or_eq_false_iff, eq_self, or_false, false_or, or_true, true_or, h5, Nat.lt_irrefl]
      exact hs
  · rintro s S' ⟨rfl, hs⟩
    exact hQ s hs
def b01 (b : Bool) : Int32 := bif b then Int32.ofNat 1 else Int32.ofNat 0
theorem wp_tally3 (S : Sg) (v w : Int32) {Q : Unit → Sg → Prop} (hQ : ∀ g h, (∀ x, x < 20 → g x = ai S (t + 2) x + b01 (bt w x)) → (∀ x, x < 20 → h x = ai S (t + 3) x + b01 (bt v x)) → Q () (sa (sa S (t + 2) g) (t + 3) h)) : WP (lp FU (Day_tally_l3 t v w) (Int32.ofNat 0)) S Q := by
  refine WP.mono (wp_for 20 (by unfold FU; omega) (fun k x S' => x = Int32.ofNat k ∧ ∃ g h, S' = sa (sa S (t + 2) g) (t + 3) h ∧ (∀ x, x < k → g x = ai S (t + 2) x + b01 (bt w x)) ∧ (∀ x, x < k → h x = ai S (t + 3) x + b01 (bt v x)) ∧ ∀ x, k ≤ x → g x = ai S (t + 2) x ∧ h x = ai S (t + 3) x) ?_ ⟨rfl, ai S (t + 2), ai S (t + 3), by rw [sa_id, sa_id], fun x hx => by omega, fun x hx => by omega, fun _ _ => ⟨rfl, rfl⟩⟩ (Q := fun _ S' => ∃ g h, S' = sa (sa S (t + 2) g) (t + 3) h ∧ (∀ x, x < 20 → g x = ai S (t + 2) x + b01 (bt w x)) ∧ (∀ x, x < 20 → h x = ai S (t + 3) x + b01 (bt v x)))) ?_
  · rintro k x S' hk ⟨rfl, g, h, rfl, q1, q2, q3⟩
    unfold Day_tally_l3
    by_cases hk20 : k < 20
    · have e2 : ai (sa (sa S (t + 2) g) (t + 3) h) (t + 2) = g := by rw [ai_sa1 _ _ _ _ (by omega), ai_sa]
      have e3 : ∀ g', ai (sa (sa S (t + 2) g') (t + 3) h) (t + 3) = h := fun g' => by rw [ai_sa]
      have es : ∀ g', sa (sa (sa S (t + 2) g) (t + 3) h) (t + 2) g' = sa (sa S (t + 2) g') (t + 3) h := fun g' => by rw [sa_cm _ h g' (by omega), sa_sa]
      obtain ⟨z1, z2⟩ := q3 k (Nat.le_refl _)
      simp (disch := omega) only [q_0, q_1, q_2, q_3, q_4, q_5, q_6, q_7, q_8, q_9, q_10, q_11, q_12, q_15, q_16, q_20, q_21, q_25, q_30, q_31, q_32, q_40, q_44, q_48, q_50, q_57, q_59, q_60, q_64, q_81, q_97, q_98, q_99, q_100, q_101, q_102, q_103, q_104, q_105, q_107, q_108, q_110, q_111, q_114, q_115, q_116, q_119, q_120, q_121, q_122, q_136, q_160, q_200, q_255, q_300, q_400, q_401, q_402, q_460, q_479, q_480, q_920, q_999, q_1000, q_1023, q_1024, q_4020, q_9999, q_99999, q_1000000, q_1000000000, q_100001, q_100002, q_100003, q_100004, q_400000, nn_1, r_0, r_1, r_2, r_3, r_4, r_6, r_7, r_8, r_9, r_10, r_11, r_21, r_40, r_48, r_57, r_60, r_97, r_122, r_200, r_300, r_479, r_920, r_9999, r_99999, r_m1, rd_pu, rd_gI, rd_gB, rd_gL, rd_gQ, rd_rI, rd_rB, rd_rQ, rd_rK, rd_dq, rd_cq, rd_div, rd_rem, rd_mb, rd_mif, rd_within, rd_in, Bool.true_and, Bool.and_true, Bool.cond_self, Bool.cond_false_right, Bool.cond_true_left, cond_true, cond_false, rd_sAt, wp_rd, wp_mb, wp_mif, wp_sI, wp_sB, wp_sL, wp_sQ, wp_wI, wp_wB, wp_wQ, orR_l, orR_r, orE_l, orE_r, sK_l, sK_r, sK_c, cond_tr, fi_ufi, fi_ufi1, fi_ufi2, fb_ufb, fb_ufb1, fb_ufb2, fl_ufl, fl_ufl1, fl_ufl2, fr_ufr, fr_ufr1, fr_ufr2, ai_sa, ai_sa1, ab_sab, ab_sab1, ar_sar, ar_sar1, upf_eq, upf_ne, fi_ufb, fi_ufl, fi_ufr, fi_sa, fi_sab, fi_sar, fb_ufi, fb_ufl, fb_ufr, fb_sa, fb_sab, fb_sar, fl_ufi, fl_ufb, fl_ufr, fl_sa, fl_sab, fl_sar, fr_ufi, fr_ufb, fr_ufl, fr_sa, fr_sab, fr_sar, ai_ufi, ai_ufb, ai_ufl, ai_ufr, ai_sab, ai_sar, ab_ufi, ab_ufb, ab_ufl, ab_ufr, ab_sa, ab_sar, ar_ufi, ar_ufb, ar_ufl, ar_ufr, ar_sa, ar_sab, sa_sa, sab_sab, sar_sar, upf_upf, ufi_ufi, tnN, inbN, addN, subN, mulN, decN, divN, remN, n2_lt, n2_le, n2_gt, n2_ge, n2_eq, n2_ne, n0_lt, n0_ge, n0_gt, n0_le, n0_eq, n0_ne, m2_eq, m2_ne, m2_eqq, m2_neq, m0_lt, m0_ge, m0_eq, m0_ne, m2_eqN, m2_neN, wi_N, wi_P, wi_NN, inN_N, li_wi, Nat.reduceAdd, Nat.reduceSub, Nat.reduceMul, Nat.reduceDiv, Nat.reduceMod, Nat.reduceLT, Nat.reduceLeDiff, Nat.reduceEqDiff, decide_true, decide_false, Nat.add_zero, Nat.zero_add, Nat.mul_one, Nat.one_mul, Nat.mul_zero, Nat.zero_mul, n0_gts, Prod.mk.injEq, modN, decide_eq_true_eq, decide_eq_false_iff_not, Bool.and_eq_true, Bool.or_eq_true, Bool.not_eq_true', Bool.not_eq_false', Bool.not_eq_true, Bool.not_eq_false, Bool.not_not, Bool.not_true, Bool.not_false, Bool.true_eq_false, Bool.false_eq_true, true_and, and_true, false_and, and_false, true_implies, false_implies, implies_true, not_true_eq_false, not_false_eq_true, ne_eq, Bool.and_eq_false_imp, Bool.or_eq_false_iff, eq_self, or_false, false_or, or_true, true_or, hk20, e2, es, bt_bit]
      refine ⟨_, _, rfl, fun x hx => ?_, fun x hx => ?_, fun x hx => ?_⟩
      · by_cases e : x = k
        · subst e; rw [upf_eq, z1]; rfl
        · rw [upf_ne _ _ _ _ e]; exact q1 x (by omega)
      · by_cases e : x = k
        · subst e; rw [upf_eq, z2]; rfl
        · rw [upf_ne _ _ _ _ e]; exact q2 x (by omega)
      · rw [upf_ne _ _ _ _ (by omega), upf_ne _ _ _ _ (by omega)]; exact q3 x (by omega)
    · have e : k = 20 := by omega
      subst e
      simp (disch := omega) only [q_0, q_1, q_2, q_3, q_4, q_5, q_6, q_7, q_8, q_9, q_10, q_11, q_12, q_15, q_16, q_20, q_21, q_25, q_30, q_31, q_32, q_40, q_44, q_48, q_50, q_57, q_59, q_60, q_64, q_81, q_97, q_98, q_99, q_100, q_101, q_102, q_103, q_104, q_105, q_107, q_108, q_110, q_111, q_114, q_115, q_116, q_119, q_120, q_121, q_122, q_136, q_160, q_200, q_255, q_300, q_400, q_401, q_402, q_460, q_479, q_480, q_920, q_999, q_1000, q_1023, q_1024, q_4020, q_9999, q_99999, q_1000000, q_1000000000, q_100001, q_100002, q_100003, q_100004, q_400000, nn_1, r_0, r_1, r_2, r_3, r_4, r_6, r_7, r_8, r_9, r_10, r_11, r_21, r_40, r_48, r_57, r_60, r_97, r_122, r_200, r_300, r_479, r_920, r_9999, r_99999, r_m1, rd_pu, rd_gI, rd_gB, rd_gL, rd_gQ, rd_rI, rd_rB, rd_rQ, rd_rK, rd_dq, rd_cq, rd_div, rd_rem, rd_mb, rd_mif, rd_within, rd_in, Bool.true_and, Bool.and_true, Bool.cond_self, Bool.cond_false_right, Bool.cond_true_left, cond_true, cond_false, rd_sAt, wp_rd, wp_mb, wp_mif, wp_sI, wp_sB, wp_sL, wp_sQ, wp_wI, wp_wB, wp_wQ, orR_l, orR_r, orE_l, orE_r, sK_l, sK_r, sK_c, cond_tr, fi_ufi, fi_ufi1, fi_ufi2, fb_ufb, fb_ufb1, fb_ufb2, fl_ufl, fl_ufl1, fl_ufl2, fr_ufr, fr_ufr1, fr_ufr2, ai_sa, ai_sa1, ab_sab, ab_sab1, ar_sar, ar_sar1, upf_eq, upf_ne, fi_ufb, fi_ufl, fi_ufr, fi_sa, fi_sab, fi_sar, fb_ufi, fb_ufl, fb_ufr, fb_sa, fb_sab, fb_sar, fl_ufi, fl_ufb, fl_ufr, fl_sa, fl_sab, fl_sar, fr_ufi, fr_ufb, fr_ufl, fr_sa, fr_sab, fr_sar, ai_ufi, ai_ufb, ai_ufl, ai_ufr, ai_sab, ai_sar, ab_ufi, ab_ufb, ab_ufl, ab_ufr, ab_sa, ab_sar, ar_ufi, ar_ufb, ar_ufl, ar_ufr, ar_sa, ar_sab, sa_sa, sab_sab, sar_sar, upf_upf, ufi_ufi, tnN, inbN, addN, subN, mulN, decN, divN, remN, n2_lt, n2_le, n2_gt, n2_ge, n2_eq, n2_ne, n0_lt, n0_ge, n0_gt, n0_le, n0_eq, n0_ne, m2_eq, m2_ne, m2_eqq, m2_neq, m0_lt, m0_ge, m0_eq, m0_ne, m2_eqN, m2_neN, wi_N, wi_P, wi_NN, inN_N, li_wi, Nat.reduceAdd, Nat.reduceSub, Nat.reduceMul, Nat.reduceDiv, Nat.reduceMod, Nat.reduceLT, Nat.reduceLeDiff, Nat.reduceEqDiff, decide_true, decide_false, Nat.add_zero, Nat.zero_add, Nat.mul_one, Nat.one_mul, Nat.mul_zero, Nat.zero_mul, n0_gts, Prod.mk.injEq, modN, decide_eq_true_eq, decide_eq_false_iff_not, Bool.and_eq_true, Bool.or_eq_true, Bool.not_eq_true', Bool.not_eq_false', Bool.not_eq_true, Bool.not_eq_false, Bool.not_not, Bool.not_true, Bool.not_false, Bool.true_eq_false, Bool.false_eq_true, true_and, and_true, false_and, and_false, true_implies, false_implies, implies_true, not_true_eq_false, not_false_eq_true, ne_eq, Bool.and_eq_false_imp, Bool.or_eq_false_iff, eq_self, or_false, false_or, or_true, true_or]
      exact ⟨g, h, rfl, q1, q2⟩
  · rintro _ S' ⟨g, h, rfl, q1, q2⟩
    exact hQ g h q1 q2
end
