/-! the reference cuts -/
def ctB (hd : Nat → Option Nat) (dn : Nat → Bool) (k c : Nat) : Bool := (List.range k).any fun w => decide (hd w = some c) && dn w
theorem ctB_s (hd : Nat → Option Nat) (dn : Nat → Bool) (k c : Nat) : ctB hd dn (k + 1) c = (ctB hd dn k c || (decide (hd k = some c) && dn k)) := by
  unfold ctB
  rw [List.range_succ, List.any_append]
  simp
theorem ctB_same {hd : Nat → Option Nat} {dn : Nat → Bool} {k : Nat} (h : ∀ c, hd k = some c → dn k = true → ctB hd dn k c = true) : ctB hd dn (k + 1) = ctB hd dn k := by
  funext c
  rw [ctB_s]
  by_cases e : hd k = some c
  · cases hdn : dn k
    · simp
    · rw [h c e hdn]; rfl
  · simp [e]
theorem ctB_new {hd : Nat → Option Nat} {dn : Nat → Bool} {k c : Nat} (h : hd k = some c) (h2 : dn k = true) : ctB hd dn (k + 1) = fun x => ctB hd dn k x || decide (x = c) := by
  funext x
  rw [ctB_s, h, h2, Bool.and_true]
  congr 1
  exact decide_eq_decide.2 ⟨fun e => by cases e; rfl, fun e => by rw [e]⟩
def upX (x y : Nat → Int32) (sel : Nat → Bool) (v : Nat → Int32) : Prop := ∀ c, y c = bif sel c then v c else x c
theorem upX_0 {x : Nat → Int32} {sel : Nat → Bool} {v : Nat → Int32} (h : ∀ c, sel c = false) : upX x x sel v := fun c => by rw [h c]; rfl
theorem upX_c {x y : Nat → Int32} {sel : Nat → Bool} {v : Nat → Int32} {c : Nat} {z : Int32} (h : upX x y sel v) (hz : z = v c) : upX x (upf y c z) (fun i => sel i || decide (i = c)) v := by
  intro i
  show _ = bif (sel i || decide (i = c)) then v i else x i
  by_cases e : i = c
  · subst e; rw [upf_eq, decide_eq_true rfl, Bool.or_true]; exact hz
  · rw [upf_ne _ _ _ _ e, decide_eq_false e, Bool.or_false]; exact h i
theorem upX_n {x y : Nat → Int32} {sel : Nat → Bool} {v : Nat → Int32} {c : Nat} (h : upX x y sel v) (hy : y c = v c) : upX x y (fun i => sel i || decide (i = c)) v := by
  intro i
  show _ = bif (sel i || decide (i = c)) then v i else x i
  by_cases e : i = c
  · subst e; rw [decide_eq_true rfl, Bool.or_true]; exact hy
  · rw [decide_eq_false e, Bool.or_false]; exact h i
def hdX (hd : Nat → Option Nat) (sel : Nat → Bool) : Nat → Option Nat := fun w => match hd w with
  | some c => bif sel c then none else some c
  | none => none
theorem hdX_c {hd : Nat → Option Nat} {sel : Nat → Bool} {c : Nat} : clr (hdX hd sel) c = hdX hd (fun i => sel i || decide (i = c)) := by
  funext w
  unfold clr hdX
  cases hd w with
  | none => simp
  | some d =>
    simp only
    cases hs : sel d
    · by_cases e : d = c
      · subst e; simp
      · simp [e]
    · simp
def CT (S : Sg) (g a b d e : Nat → Int32) : Sg := sa (ES S g a b d) 164 e
theorem CT_66 (S : Sg) (g a b d e g' : Nat → Int32) : sa (CT S g a b d e) 166 g' = CT S g' a b d e := by
  unfold CT; rw [sa_cm _ e g' (by decide), ES_66]
theorem CT_62 (S : Sg) (g a b d e g' : Nat → Int32) : sa (CT S g a b d e) 162 g' = CT S g g' b d e := by
  unfold CT; rw [sa_cm _ e g' (by decide), ES_62]
theorem CT_58 (S : Sg) (g a b d e g' : Nat → Int32) : sa (CT S g a b d e) 158 g' = CT S g a g' d e := by
  unfold CT; rw [sa_cm _ e g' (by decide), ES_58]
theorem CT_60 (S : Sg) (g a b d e g' : Nat → Int32) : sa (CT S g a b d e) 160 g' = CT S g a b g' e := by
  unfold CT; rw [sa_cm _ e g' (by decide), ES_60]
theorem CT_64 (S : Sg) (g a b d e g' : Nat → Int32) : sa (CT S g a b d e) 164 g' = CT S g a b d g' := by
  unfold CT; rw [sa_sa]
theorem CT_a (S : Sg) (g a b d e : Nat → Int32) : ai (CT S g a b d e) 166 = g ∧ ai (CT S g a b d e) 162 = a ∧ ai (CT S g a b d e) 158 = b ∧ ai (CT S g a b d e) 160 = d ∧ ai (CT S g a b d e) 164 = e := by
  unfold CT ES
  refine ⟨?_, ?_, ?_, ?_, ?_⟩
  · rw [ai_sa1 _ _ _ _ (by decide), ai_sa1 _ _ _ _ (by decide), ai_sa1 _ _ _ _ (by decide), ai_sa1 _ _ _ _ (by decide), ai_sa]
  · rw [ai_sa1 _ _ _ _ (by decide), ai_sa1 _ _ _ _ (by decide), ai_sa1 _ _ _ _ (by decide), ai_sa]
  · rw [ai_sa1 _ _ _ _ (by decide), ai_sa1 _ _ _ _ (by decide), ai_sa]
  · rw [ai_sa1 _ _ _ _ (by decide), ai_sa]
  · rw [ai_sa]
theorem CT_x (S : Sg) (g a b d e : Nat → Int32) {t : Nat} (h : t ≠ 166 ∧ t ≠ 162 ∧ t ≠ 158 ∧ t ≠ 160 ∧ t ≠ 164) : ai (CT S g a b d e) t = ai S t := by
  unfold CT ES
  rw [ai_sa1 _ _ _ _ h.2.2.2.2, ai_sa1 _ _ _ _ h.2.2.2.1, ai_sa1 _ _ _ _ h.2.2.1, ai_sa1 _ _ _ _ h.2.1, ai_sa1 _ _ _ _ h.1]
section
variable {S : Sg} {hd : Nat → Option Nat} {ks : Nat} {W K F T : Nat → Nat}
theorem hdX_0 {sel : Nat → Bool} (h : ∀ c, sel c = false) : hdX hd sel = hd := by
  funext w
  unfold hdX
  cases hd w with
  | none => rfl
  | some c => simp only; rw [h c]; rfl
theorem rm_cutSome (H : IS ks W K F T (ai S 131) (ai S 132) (ai S 133) (ai S 134)) (hk : fi S 127 5 = Int32.ofNat ks) (hH : HDR hd (ai S 166)) {nw m : Nat} {st : Nat → Nat} (hnw : nw ≤ 16) (h0 : fi S 127 0 = Int32.ofNat nw) (hm : m < 1000) (hst : ∀ c w, w < nw → hd w = some c → st c ≤ 5 ∧ ai S 158 c = Int32.ofNat (st c)) {Q : Unit → Sg → Prop}
    (hQ : ∀ g a b d e, HDR (hdX hd (ctB hd (fun w => (wy W K F T w m ks).isSome) nw)) g → upX (ai S 162) a (ctB hd (fun w => (wy W K F T w m ks).isSome) nw) (fun _ => Int32.ofNat 0) → upX (ai S 158) b (ctB hd (fun w => (wy W K F T w m ks).isSome) nw) (fun c => if st c = 2 then Int32.ofNat 4 else Int32.ofNat 0) → upX (ai S 160) d (ctB hd (fun w => (wy W K F T w m ks).isSome) nw) (fun c => if st c = 2 then Int32.ofNat m else ai S 160 c) → upX (ai S 164) e (ctB hd (fun w => (wy W K F T w m ks).isSome) nw) (fun c => if st c = 2 then ai S 164 c else Int32.ofNat 0) → Q () (CT S g a b d e)) : WP (MO_cutSome (Int32.ofNat m)) S Q := by
  generalize hdn : (fun w => (wy W K F T w m ks).isSome) = dn at *
  unfold MO_cutSome
  simp (disch := omega) only [q_0, q_1, q_2, q_3, q_4, q_5, q_6, q_7, q_8, q_9, q_10, q_11, q_12, q_15, q_16, q_20, q_21, q_25, q_30, q_31, q_32, q_40, q_44, q_48, q_50, q_57, q_59, q_60, q_64, q_81, q_97, q_98, q_99, q_100, q_101, q_102, q_103, q_104, q_105, q_107, q_108, q_110, q_111, q_114, q_115, q_116, q_119, q_120, q_121, q_122, q_136, q_160, q_200, q_255, q_300, q_400, q_401, q_402, q_460, q_479, q_480, q_920, q_999, q_1000, q_1023, q_1024, q_4020, q_9999, q_99999, q_1000000, q_1000000000, q_100001, q_100002, q_100003, q_100004, q_400000, nn_1, r_0, r_1, r_2, r_3, r_4, r_6, r_7, r_8, r_9, r_10, r_11, r_21, r_40, r_48, r_57, r_60, r_97, r_122, r_200, r_300, r_479, r_920, r_9999, r_99999, r_m1, rd_pu, rd_gI, rd_gB, rd_gL, rd_gQ, rd_rI, rd_rB, rd_rQ, rd_rK, rd_dq, rd_cq, rd_div, rd_rem, rd_mb, rd_mif, rd_within, rd_in, Bool.true_and, Bool.and_true, Bool.cond_self, Bool.cond_false_right, Bool.cond_true_left, cond_true, cond_false, rd_sAt, wp_rd, wp_mb, wp_mif, wp_sI, wp_sB, wp_sL, wp_sQ, wp_wI, wp_wB, wp_wQ, orR_l, orR_r, orE_l, orE_r, sK_l, sK_r, sK_c, cond_tr, fi_ufi, fi_ufi1, fi_ufi2, fb_ufb, fb_ufb1, fb_ufb2, fl_ufl, fl_ufl1, fl_ufl2, fr_ufr, fr_ufr1, fr_ufr2, ai_sa, ai_sa1, ab_sab, ab_sab1, ar_sar, ar_sar1, upf_eq, upf_ne, fi_ufb, fi_ufl, fi_ufr, fi_sa, fi_sab, fi_sar, fb_ufi, fb_ufl, fb_ufr, fb_sa, fb_sab, fb_sar, fl_ufi, fl_ufb, fl_ufr, fl_sa, fl_sab, fl_sar, fr_ufi, fr_ufb, fr_ufl, fr_sa, fr_sab, fr_sar, ai_ufi, ai_ufb, ai_ufl, ai_ufr, ai_sab, ai_sar, ab_ufi, ab_ufb, ab_ufl, ab_ufr, ab_sa, ab_sar, ar_ufi, ar_ufb, ar_ufl, ar_ufr, ar_sa, ar_sab, sa_sa, sab_sab, sar_sar, upf_upf, ufi_ufi, tnN, inbN, addN, subN, mulN, decN, divN, remN, n2_lt, n2_le, n2_gt, n2_ge, n2_eq, n2_ne, n0_lt, n0_ge, n0_gt, n0_le, n0_eq, n0_ne, m2_eq, m2_ne, m2_eqq, m2_neq, m0_lt, m0_ge, m0_eq, m0_ne, m2_eqN, m2_neN, wi_N, wi_P, wi_NN, inN_N, li_wi, Nat.reduceAdd, Nat.reduceSub, Nat.reduceMul, Nat.reduceDiv, Nat.reduceMod, Nat.reduceLT, Nat.reduceLeDiff, Nat.reduceEqDiff, decide_true, decide_false, Nat.add_zero, Nat.zero_add, Nat.mul_one, Nat.one_mul, Nat.mul_zero, Nat.zero_mul, n0_gts, Prod.mk.injEq, modN, decide_eq_true_eq, decide_eq_false_iff_not, Bool.and_eq_true, Bool.or_eq_true, Bool.not_eq_true', Bool.not_eq_false', Bool.not_eq_true, Bool.not_eq_false, Bool.not_not, Bool.not_true, Bool.not_false, Bool.true_eq_false, Bool.false_eq_true, true_and, and_true, false_and, and_false, true_implies, false_implies, implies_true, not_true_eq_false, not_false_eq_true, ne_eq, Bool.and_eq_false_imp, Bool.or_eq_false_iff, eq_self, or_false, false_or, or_true, true_or]
  have hz : ∀ c, ctB hd dn 0 c = false := fun c => rfl
  refine WP.mono (wp_for nw (by unfold FU; omega) (fun k s S' => s = Int32.ofNat k ∧ ∃ g a b d e, S' = CT S g a b d e ∧ HDR (hdX hd (ctB hd dn k)) g ∧ upX (ai S 162) a (ctB hd dn k) (fun _ => Int32.ofNat 0) ∧ upX (ai S 158) b (ctB hd dn k) (fun c => if st c = 2 then Int32.ofNat 4 else Int32.ofNat 0) ∧ upX (ai S 160) d (ctB hd dn k) (fun c => if st c = 2 then Int32.ofNat m else ai S 160 c) ∧ upX (ai S 164) e (ctB hd dn k) (fun c => if st c = 2 then ai S 164 c else Int32.ofNat 0)) ?_ ⟨rfl, ai S 166, ai S 162, ai S 158, ai S 160, ai S 164, by unfold CT ES; rw [sa_id, sa_id, sa_id, sa_id, sa_id], by rw [hdX_0 hz]; exact hH, upX_0 hz, upX_0 hz, upX_0 hz, upX_0 hz⟩ (Q := fun _ S' => ∃ g a b d e, S' = CT S g a b d e ∧ HDR (hdX hd (ctB hd dn nw)) g ∧ upX (ai S 162) a (ctB hd dn nw) (fun _ => Int32.ofNat 0) ∧ upX (ai S 158) b (ctB hd dn nw) (fun c => if st c = 2 then Int32.ofNat 4 else Int32.ofNat 0) ∧ upX (ai S 160) d (ctB hd dn nw) (fun c => if st c = 2 then Int32.ofNat m else ai S 160 c) ∧ upX (ai S 164) e (ctB hd dn nw) (fun c => if st c = 2 then ai S 164 c else Int32.ofNat 0))) ?_
  · rintro k s S' hk2 ⟨rfl, g, a, b, d, e, rfl, a1, a2, a3, a4, a5⟩
    unfold MO_cutSome_l1
    have e0 : fi (CT S g a b d e) 127 0 = Int32.ofNat nw := h0
    obtain ⟨e66, e62, e58, e60, e64⟩ := CT_a S g a b d e
    by_cases hkn : k < nw
    · have hk20 : k < 20 := by omega
      obtain ⟨g1, g2⟩ := a1 k hk20
      have HS : IS ks W K F T (ai (CT S g a b d e) 131) (ai (CT S g a b d e) 132) (ai (CT S g a b d e) 133) (ai (CT S g a b d e) 134) := by
        rw [CT_x _ _ _ _ _ _ (by decide), CT_x _ _ _ _ _ _ (by decide), CT_x _ _ _ _ _ _ (by decide), CT_x _ _ _ _ _ _ (by decide)]
        exact H
      have hwy := fun Q => rm_whyNot (S := CT S g a b d e) HS hk hk20 hm Q
      have same : ctB hd dn (k + 1) = ctB hd dn k → ∃ g_1 a_1 b_1 d_1 e_1, CT S g a b d e = CT S g_1 a_1 b_1 d_1 e_1 ∧ HDR (hdX hd (ctB hd dn (k + 1))) g_1 ∧ upX (ai S 162) a_1 (ctB hd dn (k + 1)) (fun _ => Int32.ofNat 0) ∧ upX (ai S 158) b_1 (ctB hd dn (k + 1)) (fun c => if st c = 2 then Int32.ofNat 4 else Int32.ofNat 0) ∧ upX (ai S 160) d_1 (ctB hd dn (k + 1)) (fun c => if st c = 2 then Int32.ofNat m else ai S 160 c) ∧ upX (ai S 164) e_1 (ctB hd dn (k + 1)) (fun c => if st c = 2 then ai S 164 c else Int32.ofNat 0) := fun h => ⟨g, a, b, d, e, rfl, by rw [h]; exact a1, by rw [h]; exact a2, by rw [h]; exact a3, by rw [h]; exact a4, by rw [h]; exact a5⟩
      cases hx : hdX hd (ctB hd dn k) k with
      | none =>
        rw [hx] at g1
        simp (disch := omega) only [q_0, q_1, q_2, q_3, q_4, q_5, q_6, q_7, q_8, q_9, q_10, q_11, q_12, q_15, q_16, q_20, q_21, q_25, q_30, q_31, q_32, q_40, q_44, q_48, q_50, q_57, q_59, q_60, q_64, q_81, q_97, q_98, q_99, q_100, q_101, q_102, q_103, q_104, q_105, q_107, q_108, q_110, q_111, q_114, q_115, q_116, q_119, q_120, q_121, q_122, q_136, q_160, q_200, q_255, q_300, q_400, q_401, q_402, q_460, q_479, q_480, q_920, q_999, q_1000, q_1023, q_1024, q_4020, q_9999, q_99999, q_1000000, q_1000000000, q_100001, q_100002, q_100003, q_100004, q_400000, nn_1, r_0, r_1, r_2, r_3, r_4, r_6, r_7, r_8, r_9, r_10, r_11, r_21, r_40, r_48, r_57, r_60, r_97, r_122, r_200, r_300, r_479, r_920, r_9999, r_99999, r_m1, rd_pu, rd_gI, rd_gB, rd_gL, rd_gQ, rd_rI, rd_rB, rd_rQ, rd_rK, rd_dq, rd_cq, rd_div, rd_rem, rd_mb, rd_mif, rd_within, rd_in, Bool.true_and, Bool.and_true, Bool.cond_self, Bool.cond_false_right, Bool.cond_true_left, cond_true, cond_false, rd_sAt, wp_rd, wp_mb, wp_mif, wp_sI, wp_sB, wp_sL, wp_sQ, wp_wI, wp_wB, wp_wQ, orR_l, orR_r, orE_l, orE_r, sK_l, sK_r, sK_c, cond_tr, fi_ufi, fi_ufi1, fi_ufi2, fb_ufb, fb_ufb1, fb_ufb2, fl_ufl, fl_ufl1, fl_ufl2, fr_ufr, fr_ufr1, fr_ufr2, ai_sa, ai_sa1, ab_sab, ab_sab1, ar_sar, ar_sar1, upf_eq, upf_ne, fi_ufb, fi_ufl, fi_ufr, fi_sa, fi_sab, fi_sar, fb_ufi, fb_ufl, fb_ufr, fb_sa, fb_sab, fb_sar, fl_ufi, fl_ufb, fl_ufr, fl_sa, fl_sab, fl_sar, fr_ufi, fr_ufb, fr_ufl, fr_sa, fr_sab, fr_sar, ai_ufi, ai_ufb, ai_ufl, ai_ufr, ai_sab, ai_sar, ab_ufi, ab_ufb, ab_ufl, ab_ufr, ab_sa, ab_sar, ar_ufi, ar_ufb, ar_ufl, ar_ufr, ar_sa, ar_sab, sa_sa, sab_sab, sar_sar, upf_upf, ufi_ufi, tnN, inbN, addN, subN, mulN, decN, divN, remN, n2_lt, n2_le, n2_gt, n2_ge, n2_eq, n2_ne, n0_lt, n0_ge, n0_gt, n0_le, n0_eq, n0_ne, m2_eq, m2_ne, m2_eqq, m2_neq, m0_lt, m0_ge, m0_eq, m0_ne, m2_eqN, m2_neN, wi_N, wi_P, wi_NN, inN_N, li_wi, Nat.reduceAdd, Nat.reduceSub, Nat.reduceMul, Nat.reduceDiv, Nat.reduceMod, Nat.reduceLT, Nat.reduceLeDiff, Nat.reduceEqDiff, decide_true, decide_false, Nat.add_zero, Nat.zero_add, Nat.mul_one, Nat.one_mul, Nat.mul_zero, Nat.zero_mul, n0_gts, Prod.mk.injEq, modN, decide_eq_true_eq, decide_eq_false_iff_not, Bool.and_eq_true, Bool.or_eq_true, Bool.not_eq_true', Bool.not_eq_false', Bool.not_eq_true, Bool.not_eq_false, Bool.not_not, Bool.not_true, Bool.not_false, Bool.true_eq_false, Bool.false_eq_true, true_and, and_true, false_and, and_false, true_implies, false_implies, implies_true, not_true_eq_false, not_false_eq_true, ne_eq, Bool.and_eq_false_imp, Bool.or_eq_false_iff, eq_self, or_false, false_or, or_true, true_or, e0, hkn, hk20, e66, g1, oN_n]
        refine same (ctB_same fun c hc _ => ?_)
        unfold hdX at hx
        rw [hc] at hx
        simp only at hx
        cases hct : ctB hd dn k c
        · rw [hct] at hx; cases hx
        · rfl
      | some c =>
        have hc40 := g2 c hx
        rw [hx] at g1
        have hdk : hd k = some c ∧ ctB hd dn k c = false := by
          unfold hdX at hx
          cases hh : hd k with
          | none => rw [hh] at hx; cases hx
          | some c' =>
            rw [hh] at hx
            simp only at hx
            cases hct : ctB hd dn k c'
            · rw [hct] at hx; cases hx; exact ⟨rfl, hct⟩
            · rw [hct] at hx; cases hx
        obtain ⟨t1, t2⟩ := hst c k hkn hdk.1
        have bc : b c = Int32.ofNat (st c) := by rw [a3 c, hdk.2]; exact t2
        have hdnk : dn k = (wy W K F T k m ks).isSome := by rw [← hdn]
        cases hy : wy W K F T k m ks with
        | none =>
          simp (disch := omega) only [q_0, q_1, q_2, q_3, q_4, q_5, q_6, q_7, q_8, q_9, q_10, q_11, q_12, q_15, q_16, q_20, q_21, q_25, q_30, q_31, q_32, q_40, q_44, q_48, q_50, q_57, q_59, q_60, q_64, q_81, q_97, q_98, q_99, q_100, q_101, q_102, q_103, q_104, q_105, q_107, q_108, q_110, q_111, q_114, q_115, q_116, q_119, q_120, q_121, q_122, q_136, q_160, q_200, q_255, q_300, q_400, q_401, q_402, q_460, q_479, q_480, q_920, q_999, q_1000, q_1023, q_1024, q_4020, q_9999, q_99999, q_1000000, q_1000000000, q_100001, q_100002, q_100003, q_100004, q_400000, nn_1, r_0, r_1, r_2, r_3, r_4, r_6, r_7, r_8, r_9, r_10, r_11, r_21, r_40, r_48, r_57, r_60, r_97, r_122, r_200, r_300, r_479, r_920, r_9999, r_99999, r_m1, rd_pu, rd_gI, rd_gB, rd_gL, rd_gQ, rd_rI, rd_rB, rd_rQ, rd_rK, rd_dq, rd_cq, rd_div, rd_rem, rd_mb, rd_mif, rd_within, rd_in, Bool.true_and, Bool.and_true, Bool.cond_self, Bool.cond_false_right, Bool.cond_true_left, cond_true, cond_false, rd_sAt, wp_rd, wp_mb, wp_mif, wp_sI, wp_sB, wp_sL, wp_sQ, wp_wI, wp_wB, wp_wQ, orR_l, orR_r, orE_l, orE_r, sK_l, sK_r, sK_c, cond_tr, fi_ufi, fi_ufi1, fi_ufi2, fb_ufb, fb_ufb1, fb_ufb2, fl_ufl, fl_ufl1, fl_ufl2, fr_ufr, fr_ufr1, fr_ufr2, ai_sa, ai_sa1, ab_sab, ab_sab1, ar_sar, ar_sar1, upf_eq, upf_ne, fi_ufb, fi_ufl, fi_ufr, fi_sa, fi_sab, fi_sar, fb_ufi, fb_ufl, fb_ufr, fb_sa, fb_sab, fb_sar, fl_ufi, fl_ufb, fl_ufr, fl_sa, fl_sab, fl_sar, fr_ufi, fr_ufb, fr_ufl, fr_sa, fr_sab, fr_sar, ai_ufi, ai_ufb, ai_ufl, ai_ufr, ai_sab, ai_sar, ab_ufi, ab_ufb, ab_ufl, ab_ufr, ab_sa, ab_sar, ar_ufi, ar_ufb, ar_ufl, ar_ufr, ar_sa, ar_sab, sa_sa, sab_sab, sar_sar, upf_upf, ufi_ufi, tnN, inbN, addN, subN, mulN, decN, divN, remN, n2_lt, n2_le, n2_gt, n2_ge, n2_eq, n2_ne, n0_lt, n0_ge, n0_gt, n0_le, n0_eq, n0_ne, m2_eq, m2_ne, m2_eqq, m2_neq, m0_lt, m0_ge, m0_eq, m0_ne, m2_eqN, m2_neN, wi_N, wi_P, wi_NN, inN_N, li_wi, Nat.reduceAdd, Nat.reduceSub, Nat.reduceMul, Nat.reduceDiv, Nat.reduceMod, Nat.reduceLT, Nat.reduceLeDiff, Nat.reduceEqDiff, decide_true, decide_false, Nat.add_zero, Nat.zero_add, Nat.mul_one, Nat.one_mul, Nat.mul_zero, Nat.zero_mul, n0_gts, Prod.mk.injEq, modN, decide_eq_true_eq, decide_eq_false_iff_not, Bool.and_eq_true, Bool.or_eq_true, Bool.not_eq_true', Bool.not_eq_false', Bool.not_eq_true, Bool.not_eq_false, Bool.not_not, Bool.not_true, Bool.not_false, Bool.true_eq_false, Bool.false_eq_true, true_and, and_true, false_and, and_false, true_implies, false_implies, implies_true, not_true_eq_false, not_false_eq_true, ne_eq, Bool.and_eq_false_imp, Bool.or_eq_false_iff, eq_self, or_false, false_or, or_true, true_or, e0, hkn, hk20, e66, g1, oN_s, hwy, hy, oN_n]
          refine same (ctB_same fun c' hc' hdn' => ?_)
          rw [hdnk, hy] at hdn'; cases hdn'
        | some y =>
          have hy3 := wy_lt H hy
          rw [hy] at hdnk
          have en := ctB_new hdk.1 hdnk
          by_cases h2 : st c = 2
          · simp (disch := omega) only [q_0, q_1, q_2, q_3, q_4, q_5, q_6, q_7, q_8, q_9, q_10, q_11, q_12, q_15, q_16, q_20, q_21, q_25, q_30, q_31, q_32, q_40, q_44, q_48, q_50, q_57, q_59, q_60, q_64, q_81, q_97, q_98, q_99, q_100, q_101, q_102, q_103, q_104, q_105, q_107, q_108, q_110, q_111, q_114, q_115, q_116, q_119, q_120, q_121, q_122, q_136, q_160, q_200, q_255, q_300, q_400, q_401, q_402, q_460, q_479, q_480, q_920, q_999, q_1000, q_1023, q_1024, q_4020, q_9999, q_99999, q_1000000, q_1000000000, q_100001, q_100002, q_100003, q_100004, q_400000, nn_1, r_0, r_1, r_2, r_3, r_4, r_6, r_7, r_8, r_9, r_10, r_11, r_21, r_40, r_48, r_57, r_60, r_97, r_122, r_200, r_300, r_479, r_920, r_9999, r_99999, r_m1, rd_pu, rd_gI, rd_gB, rd_gL, rd_gQ, rd_rI, rd_rB, rd_rQ, rd_rK, rd_dq, rd_cq, rd_div, rd_rem, rd_mb, rd_mif, rd_within, rd_in, Bool.true_and, Bool.and_true, Bool.cond_self, Bool.cond_false_right, Bool.cond_true_left, cond_true, cond_false, rd_sAt, wp_rd, wp_mb, wp_mif, wp_sI, wp_sB, wp_sL, wp_sQ, wp_wI, wp_wB, wp_wQ, orR_l, orR_r, orE_l, orE_r, sK_l, sK_r, sK_c, cond_tr, fi_ufi, fi_ufi1, fi_ufi2, fb_ufb, fb_ufb1, fb_ufb2, fl_ufl, fl_ufl1, fl_ufl2, fr_ufr, fr_ufr1, fr_ufr2, ai_sa, ai_sa1, ab_sab, ab_sab1, ar_sar, ar_sar1, upf_eq, upf_ne, fi_ufb, fi_ufl, fi_ufr, fi_sa, fi_sab, fi_sar, fb_ufi, fb_ufl, fb_ufr, fb_sa, fb_sab, fb_sar, fl_ufi, fl_ufb, fl_ufr, fl_sa, fl_sab, fl_sar, fr_ufi, fr_ufb, fr_ufl, fr_sa, fr_sab, fr_sar, ai_ufi, ai_ufb, ai_ufl, ai_ufr, ai_sab, ai_sar, ab_ufi, ab_ufb, ab_ufl, ab_ufr, ab_sa, ab_sar, ar_ufi, ar_ufb, ar_ufl, ar_ufr, ar_sa, ar_sab, sa_sa, sab_sab, sar_sar, upf_upf, ufi_ufi, tnN, inbN, addN, subN, mulN, decN, divN, remN, n2_lt, n2_le, n2_gt, n2_ge, n2_eq, n2_ne, n0_lt, n0_ge, n0_gt, n0_le, n0_eq, n0_ne, m2_eq, m2_ne, m2_eqq, m2_neq, m0_lt, m0_ge, m0_eq, m0_ne, m2_eqN, m2_neN, wi_N, wi_P, wi_NN, inN_N, li_wi, Nat.reduceAdd, Nat.reduceSub, Nat.reduceMul, Nat.reduceDiv, Nat.reduceMod, Nat.reduceLT, Nat.reduceLeDiff, Nat.reduceEqDiff, decide_true, decide_false, Nat.add_zero, Nat.zero_add, Nat.mul_one, Nat.one_mul, Nat.mul_zero, Nat.zero_mul, n0_gts, Prod.mk.injEq, modN, decide_eq_true_eq, decide_eq_false_iff_not, Bool.and_eq_true, Bool.or_eq_true, Bool.not_eq_true', Bool.not_eq_false', Bool.not_eq_true, Bool.not_eq_false, Bool.not_not, Bool.not_true, Bool.not_false, Bool.true_eq_false, Bool.false_eq_true, true_and, and_true, false_and, and_false, true_implies, false_implies, implies_true, not_true_eq_false, not_false_eq_true, ne_eq, Bool.and_eq_false_imp, Bool.or_eq_false_iff, eq_self, or_false, false_or, or_true, true_or, e0, hkn, hk20, hc40, e66, e58, g1, oN_s, hwy, hy, bc, h2]
            refine rm_letGo (by rw [e66]; exact a1) hc40 fun g' hg' => ?_
            rw [hdX_c, ← en] at hg'
            simp (disch := omega) only [q_0, q_1, q_2, q_3, q_4, q_5, q_6, q_7, q_8, q_9, q_10, q_11, q_12, q_15, q_16, q_20, q_21, q_25, q_30, q_31, q_32, q_40, q_44, q_48, q_50, q_57, q_59, q_60, q_64, q_81, q_97, q_98, q_99, q_100, q_101, q_102, q_103, q_104, q_105, q_107, q_108, q_110, q_111, q_114, q_115, q_116, q_119, q_120, q_121, q_122, q_136, q_160, q_200, q_255, q_300, q_400, q_401, q_402, q_460, q_479, q_480, q_920, q_999, q_1000, q_1023, q_1024, q_4020, q_9999, q_99999, q_1000000, q_1000000000, q_100001, q_100002, q_100003, q_100004, q_400000, nn_1, r_0, r_1, r_2, r_3, r_4, r_6, r_7, r_8, r_9, r_10, r_11, r_21, r_40, r_48, r_57, r_60, r_97, r_122, r_200, r_300, r_479, r_920, r_9999, r_99999, r_m1, rd_pu, rd_gI, rd_gB, rd_gL, rd_gQ, rd_rI, rd_rB, rd_rQ, rd_rK, rd_dq, rd_cq, rd_div, rd_rem, rd_mb, rd_mif, rd_within, rd_in, Bool.true_and, Bool.and_true, Bool.cond_self, Bool.cond_false_right, Bool.cond_true_left, cond_true, cond_false, rd_sAt, wp_rd, wp_mb, wp_mif, wp_sI, wp_sB, wp_sL, wp_sQ, wp_wI, wp_wB, wp_wQ, orR_l, orR_r, orE_l, orE_r, sK_l, sK_r, sK_c, cond_tr, fi_ufi, fi_ufi1, fi_ufi2, fb_ufb, fb_ufb1, fb_ufb2, fl_ufl, fl_ufl1, fl_ufl2, fr_ufr, fr_ufr1, fr_ufr2, ai_sa, ai_sa1, ab_sab, ab_sab1, ar_sar, ar_sar1, upf_eq, upf_ne, fi_ufb, fi_ufl, fi_ufr, fi_sa, fi_sab, fi_sar, fb_ufi, fb_ufl, fb_ufr, fb_sa, fb_sab, fb_sar, fl_ufi, fl_ufb, fl_ufr, fl_sa, fl_sab, fl_sar, fr_ufi, fr_ufb, fr_ufl, fr_sa, fr_sab, fr_sar, ai_ufi, ai_ufb, ai_ufl, ai_ufr, ai_sab, ai_sar, ab_ufi, ab_ufb, ab_ufl, ab_ufr, ab_sa, ab_sar, ar_ufi, ar_ufb, ar_ufl, ar_ufr, ar_sa, ar_sab, sa_sa, sab_sab, sar_sar, upf_upf, ufi_ufi, tnN, inbN, addN, subN, mulN, decN, divN, remN, n2_lt, n2_le, n2_gt, n2_ge, n2_eq, n2_ne, n0_lt, n0_ge, n0_gt, n0_le, n0_eq, n0_ne, m2_eq, m2_ne, m2_eqq, m2_neq, m0_lt, m0_ge, m0_eq, m0_ne, m2_eqN, m2_neN, wi_N, wi_P, wi_NN, inN_N, li_wi, Nat.reduceAdd, Nat.reduceSub, Nat.reduceMul, Nat.reduceDiv, Nat.reduceMod, Nat.reduceLT, Nat.reduceLeDiff, Nat.reduceEqDiff, decide_true, decide_false, Nat.add_zero, Nat.zero_add, Nat.mul_one, Nat.one_mul, Nat.mul_zero, Nat.zero_mul, n0_gts, Prod.mk.injEq, modN, decide_eq_true_eq, decide_eq_false_iff_not, Bool.and_eq_true, Bool.or_eq_true, Bool.not_eq_true', Bool.not_eq_false', Bool.not_eq_true, Bool.not_eq_false, Bool.not_not, Bool.not_true, Bool.not_false, Bool.true_eq_false, Bool.false_eq_true, true_and, and_true, false_and, and_false, true_implies, false_implies, implies_true, not_true_eq_false, not_false_eq_true, ne_eq, Bool.and_eq_false_imp, Bool.or_eq_false_iff, eq_self, or_false, false_or, or_true, true_or, hc40]
            refine ⟨g', upf a c (Int32.ofNat 0), upf b c (Int32.ofNat 4), upf d c (Int32.ofNat m), e, by rw [e62, e58, e60, CT_66, CT_62, CT_58, CT_60], hg', by rw [en]; exact upX_c a2 rfl, by rw [en]; exact upX_c a3 (by rw [if_pos h2]), by rw [en]; exact upX_c a4 (by rw [if_pos h2]), by rw [en]; exact upX_n a5 (by rw [if_pos h2, a5 c, hdk.2]; rfl)⟩
          · simp (disch := omega) only [q_0, q_1, q_2, q_3, q_4, q_5, q_6, q_7, q_8, q_9, q_10, q_11, q_12, q_15, q_16, q_20, q_21, q_25, q_30, q_31, q_32, q_40, q_44, q_48, q_50, q_57, q_59, q_60, q_64, q_81, q_97, q_98, q_99, q_100, q_101, q_102, q_103, q_104, q_105, q_107, q_108, q_110, q_111, q_114, q_115, q_116, q_119, q_120, q_121, q_122, q_136, q_160, q_200, q_255, q_300, q_400, q_401, q_402, q_460, q_479, q_480, q_920, q_999, q_1000, q_1023, q_1024, q_4020, q_9999, q_99999, q_1000000, q_1000000000, q_100001, q_100002, q_100003, q_100004, q_400000, nn_1, r_0, r_1, r_2, r_3, r_4, r_6, r_7, r_8, r_9, r_10, r_11, r_21, r_40, r_48, r_57, r_60, r_97, r_122, r_200, r_300, r_479, r_920, r_9999, r_99999, r_m1, rd_pu, rd_gI, rd_gB, rd_gL, rd_gQ, rd_rI, rd_rB, rd_rQ, rd_rK, rd_dq, rd_cq, rd_div, rd_rem, rd_mb, rd_mif, rd_within, rd_in, Bool.true_and, Bool.and_true, Bool.cond_self, Bool.cond_false_right, Bool.cond_true_left, cond_true, cond_false, rd_sAt, wp_rd, wp_mb, wp_mif, wp_sI, wp_sB, wp_sL, wp_sQ, wp_wI, wp_wB, wp_wQ, orR_l, orR_r, orE_l, orE_r, sK_l, sK_r, sK_c, cond_tr, fi_ufi, fi_ufi1, fi_ufi2, fb_ufb, fb_ufb1, fb_ufb2, fl_ufl, fl_ufl1, fl_ufl2, fr_ufr, fr_ufr1, fr_ufr2, ai_sa, ai_sa1, ab_sab, ab_sab1, ar_sar, ar_sar1, upf_eq, upf_ne, fi_ufb, fi_ufl, fi_ufr, fi_sa, fi_sab, fi_sar, fb_ufi, fb_ufl, fb_ufr, fb_sa, fb_sab, fb_sar, fl_ufi, fl_ufb, fl_ufr, fl_sa, fl_sab, fl_sar, fr_ufi, fr_ufb, fr_ufl, fr_sa, fr_sab, fr_sar, ai_ufi, ai_ufb, ai_ufl, ai_ufr, ai_sab, ai_sar, ab_ufi, ab_ufb, ab_ufl, ab_ufr, ab_sa, ab_sar, ar_ufi, ar_ufb, ar_ufl, ar_ufr, ar_sa, ar_sab, sa_sa, sab_sab, sar_sar, upf_upf, ufi_ufi, tnN, inbN, addN, subN, mulN, decN, divN, remN, n2_lt, n2_le, n2_gt, n2_ge, n2_eq, n2_ne, n0_lt, n0_ge, n0_gt, n0_le, n0_eq, n0_ne, m2_eq, m2_ne, m2_eqq, m2_neq, m0_lt, m0_ge, m0_eq, m0_ne, m2_eqN, m2_neN, wi_N, wi_P, wi_NN, inN_N, li_wi, Nat.reduceAdd, Nat.reduceSub, Nat.reduceMul, Nat.reduceDiv, Nat.reduceMod, Nat.reduceLT, Nat.reduceLeDiff, Nat.reduceEqDiff, decide_true, decide_false, Nat.add_zero, Nat.zero_add, Nat.mul_one, Nat.one_mul, Nat.mul_zero, Nat.zero_mul, n0_gts, Prod.mk.injEq, modN, decide_eq_true_eq, decide_eq_false_iff_not, Bool.and_eq_true, Bool.or_eq_true, Bool.not_eq_true', Bool.not_eq_false', Bool.not_eq_true, Bool.not_eq_false, Bool.not_not, Bool.not_true, Bool.not_false, Bool.true_eq_false, Bool.false_eq_true, true_and, and_true, false_and, and_false, true_implies, false_implies, implies_true, not_true_eq_false, not_false_eq_true, ne_eq, Bool.and_eq_false_imp, Bool.or_eq_false_iff, eq_self, or_false, false_or, or_true, true_or, e0, hkn, hk20, hc40, e66, e58, g1, oN_s, hwy, hy, bc, h2]
            refine rm_putBack (by rw [e66]; exact a1) hc40 fun g' hg' => ?_
            rw [hdX_c, ← en] at hg'
            refine ⟨g', upf a c (Int32.ofNat 0), upf b c (Int32.ofNat 0), d, upf e c (Int32.ofNat 0), by rw [e62, e58, e64, CT_66, CT_62, CT_64, CT_58], hg', by rw [en]; exact upX_c a2 rfl, by rw [en]; exact upX_c a3 (by rw [if_neg h2]), by rw [en]; exact upX_n a4 (by rw [if_neg h2, a4 c, hdk.2]; rfl), by rw [en]; exact upX_c a5 (by rw [if_neg h2])⟩
    · have e1 : k = nw := by omega
      subst e1
      simp (disch := omega) only [q_0, q_1, q_2, q_3, q_4, q_5, q_6, q_7, q_8, q_9, q_10, q_11, q_12, q_15, q_16, q_20, q_21, q_25, q_30, q_31, q_32, q_40, q_44, q_48, q_50, q_57, q_59, q_60, q_64, q_81, q_97, q_98, q_99, q_100, q_101, q_102, q_103, q_104, q_105, q_107, q_108, q_110, q_111, q_114, q_115, q_116, q_119, q_120, q_121, q_122, q_136, q_160, q_200, q_255, q_300, q_400, q_401, q_402, q_460, q_479, q_480, q_920, q_999, q_1000, q_1023, q_1024, q_4020, q_9999, q_99999, q_1000000, q_1000000000, q_100001, q_100002, q_100003, q_100004, q_400000, nn_1, r_0, r_1, r_2, r_3, r_4, r_6, r_7, r_8, r_9, r_10, r_11, r_21, r_40, r_48, r_57, r_60, r_97, r_122, r_200, r_300, r_479, r_920, r_9999, r_99999, r_m1, rd_pu, rd_gI, rd_gB, rd_gL, rd_gQ, rd_rI, rd_rB, rd_rQ, rd_rK, rd_dq, rd_cq, rd_div, rd_rem, rd_mb, rd_mif, rd_within, rd_in, Bool.true_and, Bool.and_true, Bool.cond_self, Bool.cond_false_right, Bool.cond_true_left, cond_true, cond_false, rd_sAt, wp_rd, wp_mb, wp_mif, wp_sI, wp_sB, wp_sL, wp_sQ, wp_wI, wp_wB, wp_wQ, orR_l, orR_r, orE_l, orE_r, sK_l, sK_r, sK_c, cond_tr, fi_ufi, fi_ufi1, fi_ufi2, fb_ufb, fb_ufb1, fb_ufb2, fl_ufl, fl_ufl1, fl_ufl2, fr_ufr, fr_ufr1, fr_ufr2, ai_sa, ai_sa1, ab_sab, ab_sab1, ar_sar, ar_sar1, upf_eq, upf_ne, fi_ufb, fi_ufl, fi_ufr, fi_sa, fi_sab, fi_sar, fb_ufi, fb_ufl, fb_ufr, fb_sa, fb_sab, fb_sar, fl_ufi, fl_ufb, fl_ufr, fl_sa, fl_sab, fl_sar, fr_ufi, fr_ufb, fr_ufl, fr_sa, fr_sab, fr_sar, ai_ufi, ai_ufb, ai_ufl, ai_ufr, ai_sab, ai_sar, ab_ufi, ab_ufb, ab_ufl, ab_ufr, ab_sa, ab_sar, ar_ufi, ar_ufb, ar_ufl, ar_ufr, ar_sa, ar_sab, sa_sa, sab_sab, sar_sar, upf_upf, ufi_ufi, tnN, inbN, addN, subN, mulN, decN, divN, remN, n2_lt, n2_le, n2_gt, n2_ge, n2_eq, n2_ne, n0_lt, n0_ge, n0_gt, n0_le, n0_eq, n0_ne, m2_eq, m2_ne, m2_eqq, m2_neq, m0_lt, m0_ge, m0_eq, m0_ne, m2_eqN, m2_neN, wi_N, wi_P, wi_NN, inN_N, li_wi, Nat.reduceAdd, Nat.reduceSub, Nat.reduceMul, Nat.reduceDiv, Nat.reduceMod, Nat.reduceLT, Nat.reduceLeDiff, Nat.reduceEqDiff, decide_true, decide_false, Nat.add_zero, Nat.zero_add, Nat.mul_one, Nat.one_mul, Nat.mul_zero, Nat.zero_mul, n0_gts, Prod.mk.injEq, modN, decide_eq_true_eq, decide_eq_false_iff_not, Bool.and_eq_true, Bool.or_eq_true, Bool.not_eq_true', Bool.not_eq_false', Bool.not_eq_true, Bool.not_eq_false, Bool.not_not, Bool.not_true, Bool.not_false, Bool.true_eq_false, Bool.false_eq_true, true_and, and_true, false_and, and_false, true_implies, false_implies, implies_true, not_true_eq_false, not_false_eq_true, ne_eq, Bool.and_eq_false_imp, Bool.or_eq_false_iff, eq_self, or_false, false_or, or_true, true_or, e0, Nat.lt_irrefl]
      exact ⟨g, a, b, d, e, rfl, a1, a2, a3, a4, a5⟩
  · rintro _ S' ⟨g, a, b, d, e, rfl, a1, a2, a3, a4, a5⟩
    exact hQ g a b d e a1 a2 a3 a4 a5
end
