/-! a call booked: both sides -/
section
variable {nw nof : Nat} {A B M cn : Nat → Nat} {nc m : Nat} {E D : Nat → Nat → Nat} {hd : Nat → Option Nat} {SC SR : Sg} {no : Nat}
theorem R_add (HN : IN nw nof A B M cn SC SR) (HD : ID nw M nc m E D hd SC SR) (HO : IO no SC SR) (hm : m < 480) (hnc : nc < 40) {a b n k fx : Nat} (ha : a < 8) (hb : b < 8) (hab : a ≠ b) (hn : n ≤ 60) (hk : k ≤ 2) (hfx : fx < 480) {mm due : Int32} (hmm : k = 2 → mm = Int32.ofNat fx) (hdue : due = if k = 2 then Int32.ofNat fx else nn) {Q : Int32 → Sg → Int32 → Sg → Prop} (hQ : ∀ SC' SR' E' D', IN nw nof A B M cn SC' SR' → ID nw M (nc + 1) m E' D' hd SC' SR' → IO no SC' SR' → AgC adC SC SC' → AgR adY adZ SR SR' → Flg SC' → Q (Int32.ofNat nc) SC' (Int32.ofNat nc) SR') : W2 (TR_bookNow (Int32.ofNat a) (Int32.ofNat b) (Int32.ofNat n) (Int32.ofNat k) due) SC (MO_add (Int32.ofNat a) (Int32.ofNat b) (Int32.ofNat n) (Int32.ofNat k) mm) SR Q := by
  have r39 : fi SR 127 39 = Int32.ofNat nc := HD.1.2.2.1.1
  have hd38 := HD.2.2.2.2.1
  generalize hS1 : ufi (ufb SC 80 14 false) 1 11 (Int32.ofNat 0) = S1
  have F1 : Flg S1 := by rw [← hS1]; exact ⟨fb_ufb _ _ _ _, fi_ufi _ _ _ _⟩
  have C1 : AgC [1, 80] SC S1 := by rw [← hS1]; exact (AgC.rf.ufb (by decide)).ufi (by decide)
  generalize hR1 : ufi SR 127 24 (Int32.ofNat 0) = R1
  have G1 : AgR [] [24] SR R1 := by rw [← hR1]; exact AgR.rf.ufi (by decide)
  have N1 : IN nw nof A B M cn S1 R1 := IN_ag C1 G1 (by decide) (by decide) (by decide) HN
  have D1 : ID nw M nc m E D hd S1 R1 := ID_ag C1 G1 (by decide) (by decide) (by decide) HD
  have O1 : IO no S1 R1 := IO_ag C1 G1 (by decide) (by decide) (by decide) HO
  have hOD := IO_OD O1
  obtain ⟨v1', T1, x1, v2', T2, x2, hh⟩ := R_look hOD O1.2 hm (w := Int32.ofNat 0) (by rw [← hR1]; exact fi_ufi _ _ _ _) (Q := fun _ T1 _ T2 => ∃ q c25 c26 b f r9 y z set, CIr no (ctn (ai S1 18)) (ctn (ai S1 19)) (ctn (ai S1 20)) (ai S1 21) (ai S1 22) q c25 c26 ∧ RuH (hoS no (ctn (ai S1 18)) (ctn (ai S1 19)) (ctn (ai S1 20)) (ai S1 21) (ai S1 22) set) q c26 ∧ RmH (hoS no (ctn (ai S1 18)) (ctn (ai S1 19)) (ctn (ai S1 20)) (ai S1 21) (ai S1 22) set) y z r9 ∧ T1 = RC S1 q c25 c26 ∧ T2 = RM R1 b f r9 (Int32.ofNat (luS no (ctn (ai S1 18)) (ctn (ai S1 19)) (ctn (ai S1 20)) (ai S1 21) set).1) y z)
    (fun q c25 c26 b f r9 y z set a1 a2 a3 a4 => ⟨q, c25, c26, b, f, r9, y, z, set, a1, a2.2.2, a4, rfl, rfl⟩)
  obtain ⟨q, c25, c26, bb, rf, r9, y, z, set, hC', hH, hX, rfl, rfl⟩ := hh
  obtain ⟨tv, tv1, tv2, -⟩ := HB_hoS hOD set 4 (by decide)
  generalize hoS no (ctn (ai S1 18)) (ctn (ai S1 19)) (ctn (ai S1 20)) (ai S1 21) (ai S1 22) set = HH at *
  have LC := LkC_RC S1 q c25 c26
  have LR := LkR_RM R1 bb rf r9 (Int32.ofNat (luS no (ctn (ai S1 18)) (ctn (ai S1 19)) (ctn (ai S1 20)) (ai S1 21) set).1) y z
  have q7 : fi (RC S1 q c25 c26) 24 7 = Int32.ofNat tv := by rw [RC_f, hH.2.2.2.1, tv2]
  have q149 : ai (RM R1 bb rf r9 (Int32.ofNat (luS no (ctn (ai S1 18)) (ctn (ai S1 19)) (ctn (ai S1 20)) (ai S1 21) set).1) y z) 149 4 = Int32.ofNat tv := by rw [RM_a9, hX.2.2.2.1, tv2]
  have O2 : IO no (RC S1 q c25 c26) (RM R1 bb rf r9 (Int32.ofNat (luS no (ctn (ai S1 18)) (ctn (ai S1 19)) (ctn (ai S1 20)) (ai S1 21) set).1) y z) := IO_lk O1 LC LR (by
    have : fi (RC S1 q c25 c26) 24 = q := funext fun k => RC_f ..
    unfold CIs
    rw [RC_ax _ _ _ _ _ (by decide), RC_ax _ _ _ _ _ (by decide), this, RC_a5, RC_a6]
    exact hC')
  generalize RC S1 q c25 c26 = T1 at *
  generalize RM R1 bb rf r9 (Int32.ofNat (luS no (ctn (ai S1 18)) (ctn (ai S1 19)) (ctn (ai S1 20)) (ai S1 21) set).1) y z = T2 at *
  have C2 := LkC_Ag LC
  have G2 := LkR_Ag LR
  have N2 : IN nw nof A B M cn T1 T2 := IN_ag C2 G2 (by decide) (by decide) (by decide) N1
  have D2 : ID nw M nc m E D hd T1 T2 := ID_ag C2 G2 (by decide) (by decide) (by decide) D1
  have F2 : Flg T1 := Flg_ag C2 (by decide) (by decide) F1
  have CC : AgC adC SC T1 := (C1.mo (by decide)).tr (C2.mo (by decide))
  have GG : AgR adY adZ SR T2 := (G1.mo (by decide) (by decide)).tr (G2.mo (by decide) (by decide))
  have e1' := fun (Q : Unit → Sg → Prop) => WP.of_eq (Q := Q) x1
  have e2' := fun (Q : Unit → Sg → Prop) => WP.of_eq (Q := Q) x2
  have t5 : fi T1 29 5 = Int32.ofNat nc := D2.1.2.1.1
  have t6 : fi T1 29 6 = Int32.ofNat m := D2.2.2.2.1
  have s6 : fi S1 29 6 = Int32.ofNat m := D1.2.2.2.1
  have wv := fun Q => wp_waiting D2 ha hb t5 (fun c _ => ⟨rfl, rfl, rfl⟩) Q
  have wj := fun Q => wp_joining N2 ha hb hab N2.2.2.1 ⟨rfl, rfl, rfl⟩ Q
  have mw := fun Q => rm_wait1 HD ha hb Q
  have mj := fun Q => rm_wait2 HN ha hb Q
  have b1 := cntN_le (wbO E D a b) nc
  have b2 := cntN_le (jnB A B a b) nw
  have hnw := HN.1
  generalize cntN (wbO E D a b) nc = p1 at *
  generalize cntN (jnB A B a b) nw = p2 at *
  have b3 : tv * p1 < 1000000 := by
    have h1 : tv * p1 ≤ tv * 40 := Nat.mul_le_mul_left tv (by omega)
    omega
  have b4 : tv * p1 / (1 + p2) < 1000000 := Nat.lt_of_le_of_lt (Nat.div_le_self _ _) b3
  have ne1 : ¬ Int32.ofNat (1 + p2) = Int32.ofNat 0 := by rw [ofN_inj (by omega) (by omega)]; omega
  have hS1' : ∀ Q : Unit → Sg → Prop, WP TR_changed SC Q ↔ Q () S1 := fun Q => by rw [wp_changed, hS1]
  unfold W2 TR_bookNow
  simp (disch := omega) only [q_0, q_1, q_2, q_3, q_4, q_5, q_6, q_7, q_8, q_9, q_10, q_11, q_12, q_15, q_16, q_20, q_21, q_25, q_30, q_31, q_32, q_40, q_44, q_48, q_50, q_57, q_59, q_60, q_64, q_81, q_97, q_98, q_99, q_100, q_101, q_102, q_103, q_104, q_105, q_107, q_108, q_110, q_111, q_114, q_115, q_116, q_119, q_120, q_121, q_122, q_136, q_160, q_200, q_255, q_300, q_400, q_401, q_402, q_460, q_479, q_480, q_920, q_999, q_1000, q_1023, q_1024, q_4020, q_9999, q_99999, q_1000000, q_1000000000, q_100001, q_100002, q_100003, q_100004, q_400000, nn_1, r_0, r_1, r_2, r_3, r_4, r_6, r_7, r_8, r_9, r_10, r_11, r_21, r_40, r_48, r_57, r_60, r_97, r_122, r_200, r_300, r_479, r_920, r_9999, r_99999, r_m1, rd_pu, rd_gI, rd_gB, rd_gL, rd_gQ, rd_rI, rd_rB, rd_rQ, rd_rK, rd_dq, rd_cq, rd_div, rd_rem, rd_mb, rd_mif, rd_within, rd_in, Bool.true_and, Bool.and_true, Bool.cond_self, Bool.cond_false_right, Bool.cond_true_left, cond_true, cond_false, rd_sAt, wp_rd, wp_mb, wp_mif, wp_sI, wp_sB, wp_sL, wp_sQ, wp_wI, wp_wB, wp_wQ, orR_l, orR_r, orE_l, orE_r, sK_l, sK_r, sK_c, cond_tr, tnN, inbN, addN, subN, mulN, decN, divN, remN, n2_lt, n2_le, n2_gt, n2_ge, n2_eq, n2_ne, n0_lt, n0_ge, n0_gt, n0_le, n0_eq, n0_ne, m2_eq, m2_ne, m2_eqq, m2_neq, m0_lt, m0_ge, m0_eq, m0_ne, m2_eqN, m2_neN, wi_N, wi_P, wi_NN, inN_N, li_wi, Nat.reduceAdd, Nat.reduceSub, Nat.reduceMul, Nat.reduceDiv, Nat.reduceMod, Nat.reduceLT, Nat.reduceLeDiff, Nat.reduceEqDiff, decide_true, decide_false, Nat.add_zero, Nat.zero_add, Nat.mul_one, Nat.one_mul, Nat.mul_zero, Nat.zero_mul, n0_gts, Prod.mk.injEq, modN, decide_eq_true_eq, decide_eq_false_iff_not, Bool.and_eq_true, Bool.or_eq_true, Bool.not_eq_true', Bool.not_eq_false', Bool.not_eq_true, Bool.not_eq_false, Bool.not_not, Bool.not_true, Bool.not_false, Bool.true_eq_false, Bool.false_eq_true, true_and, and_true, false_and, and_false, true_implies, false_implies, implies_true, not_true_eq_false, not_false_eq_true, ne_eq, Bool.and_eq_false_imp, Bool.or_eq_false_iff, eq_self, or_false, false_or, or_true, true_or, hS1', s6, e1', q7, wv, wj, ne1, divN]
  refine wp_addC t5 hnc (k := 29 + 6 + nc) (by unfold cst; omega) (by omega) t6 _ _ _ _ _ _ fun S3 y1 y2 y3 y4 y5 y6 => ?_
  unfold MO_add MO_waitFor
  have t38 : fi T2 127 38 = Int32.ofNat m := D2.2.2.2.2.1
  have t39 : fi T2 127 39 = Int32.ofNat nc := D2.1.2.2.1.1
  have r38 : fi R1 127 38 = Int32.ofNat m := D1.2.2.2.2.1
  have hfixed : (bif decide (k = 2) then mm else nn) = if k = 2 then Int32.ofNat fx else nn := by
    by_cases e : k = 2
    · rw [decide_eq_true e, if_pos e, hmm e]; rfl
    · rw [decide_eq_false e, if_neg e]; rfl
  unfold MO_start
  simp (disch := omega) only [q_0, q_1, q_2, q_3, q_4, q_5, q_6, q_7, q_8, q_9, q_10, q_11, q_12, q_15, q_16, q_20, q_21, q_25, q_30, q_31, q_32, q_40, q_44, q_48, q_50, q_57, q_59, q_60, q_64, q_81, q_97, q_98, q_99, q_100, q_101, q_102, q_103, q_104, q_105, q_107, q_108, q_110, q_111, q_114, q_115, q_116, q_119, q_120, q_121, q_122, q_136, q_160, q_200, q_255, q_300, q_400, q_401, q_402, q_460, q_479, q_480, q_920, q_999, q_1000, q_1023, q_1024, q_4020, q_9999, q_99999, q_1000000, q_1000000000, q_100001, q_100002, q_100003, q_100004, q_400000, nn_1, r_0, r_1, r_2, r_3, r_4, r_6, r_7, r_8, r_9, r_10, r_11, r_21, r_40, r_48, r_57, r_60, r_97, r_122, r_200, r_300, r_479, r_920, r_9999, r_99999, r_m1, rd_pu, rd_gI, rd_gB, rd_gL, rd_gQ, rd_rI, rd_rB, rd_rQ, rd_rK, rd_dq, rd_cq, rd_div, rd_rem, rd_mb, rd_mif, rd_within, rd_in, Bool.true_and, Bool.and_true, Bool.cond_self, Bool.cond_false_right, Bool.cond_true_left, cond_true, cond_false, rd_sAt, wp_rd, wp_mb, wp_mif, wp_sI, wp_sB, wp_sL, wp_sQ, wp_wI, wp_wB, wp_wQ, orR_l, orR_r, orE_l, orE_r, sK_l, sK_r, sK_c, cond_tr, fi_ufi, fi_ufi1, fi_ufi2, fb_ufb, fb_ufb1, fb_ufb2, fl_ufl, fl_ufl1, fl_ufl2, fr_ufr, fr_ufr1, fr_ufr2, ai_sa, ai_sa1, ab_sab, ab_sab1, ar_sar, ar_sar1, upf_eq, upf_ne, fi_ufb, fi_ufl, fi_ufr, fi_sa, fi_sab, fi_sar, fb_ufi, fb_ufl, fb_ufr, fb_sa, fb_sab, fb_sar, fl_ufi, fl_ufb, fl_ufr, fl_sa, fl_sab, fl_sar, fr_ufi, fr_ufb, fr_ufl, fr_sa, fr_sab, fr_sar, ai_ufi, ai_ufb, ai_ufl, ai_ufr, ai_sab, ai_sar, ab_ufi, ab_ufb, ab_ufl, ab_ufr, ab_sa, ab_sar, ar_ufi, ar_ufb, ar_ufl, ar_ufr, ar_sa, ar_sab, sa_sa, sab_sab, sar_sar, upf_upf, ufi_ufi, tnN, inbN, addN, subN, mulN, decN, divN, remN, n2_lt, n2_le, n2_gt, n2_ge, n2_eq, n2_ne, n0_lt, n0_ge, n0_gt, n0_le, n0_eq, n0_ne, m2_eq, m2_ne, m2_eqq, m2_neq, m0_lt, m0_ge, m0_eq, m0_ne, m2_eqN, m2_neN, wi_N, wi_P, wi_NN, inN_N, li_wi, Nat.reduceAdd, Nat.reduceSub, Nat.reduceMul, Nat.reduceDiv, Nat.reduceMod, Nat.reduceLT, Nat.reduceLeDiff, Nat.reduceEqDiff, decide_true, decide_false, Nat.add_zero, Nat.zero_add, Nat.mul_one, Nat.one_mul, Nat.mul_zero, Nat.zero_mul, n0_gts, Prod.mk.injEq, modN, decide_eq_true_eq, decide_eq_false_iff_not, Bool.and_eq_true, Bool.or_eq_true, Bool.not_eq_true', Bool.not_eq_false', Bool.not_eq_true, Bool.not_eq_false, Bool.not_not, Bool.not_true, Bool.not_false, Bool.true_eq_false, Bool.false_eq_true, true_and, and_true, false_and, and_false, true_implies, false_implies, implies_true, not_true_eq_false, not_false_eq_true, ne_eq, Bool.and_eq_false_imp, Bool.or_eq_false_iff, eq_self, or_false, false_or, or_true, true_or, r39, hd38, mw, mj, hR1, r38, e2', q149, ne1, divN, hnc, t38, t39, hfixed]
  rw [Nat.add_sub_cancel]
  have AC3 : AgC daC T1 S3 := fun x hx => ⟨funext fun y => y1 x y (Or.inl fun e => hx (by rw [e]; exact List.mem_cons_of_mem _ (List.mem_cons_of_mem _ (dayC_c nc hnc)))) (Or.inl fun e => hx (by rw [e]; decide)), by rw [y4], by rw [y5], by rw [y6]⟩
  have fin : ∀ R3, AgR daY [39] T2 R3 → ID nw M (nc + 1) m (nE E nc a b n k fx m) (nD D nc) hd S3 R3 → Q (Int32.ofNat nc) S3 (Int32.ofNat nc) R3 := fun R3 g h => hQ S3 R3 _ _ (IN_ag AC3 g (by decide) (by decide) (by decide) N2) h (IO_ag AC3 g (by decide) (by decide) (by decide) O2) (CC.tr (AC3.mo (by decide))) (GG.tr (g.mo (by decide) (by decide))) ⟨by rw [y4]; exact F2.1, by rw [y1 1 11 (Or.inl (by omega)) (Or.inl (by decide))]; exact F2.2⟩
  refine fin _ ?_ (ID_new D2 hnc hm ha hb hab hn hk hfx b4 (fun x y h1 h2 _ => y1 x y h1 h2) y2 (by rw [← hdue]; exact y3) (fun x _ => by rw [y4]) ⟨by rw [y5], by rw [y5]⟩ ?_ ⟨?_, ?_⟩ ?_ ?_ ?_ ?_ ?_ ?_ ?_ ?_ ?_ ?_ ?_ ?_ ?_ ?_ ?_ ⟨?_, ?_, ?_, ?_⟩)
  · exact (((((((((((((((AgR.rf.sa (by decide)).sa (by decide)).sa (by decide)).sa (by decide)).sa (by decide)).sa (by decide)).sa (by decide)).sab (by decide)).sa (by decide)).sa (by decide)).sa (by decide)).sa (by decide)).sa (by decide)).sa (by decide)).sa (by decide)).ufi (by decide)
  all_goals simp (disch := omega) only [fi_ufi, fi_ufi1, fi_ufi2, fb_ufb, fb_ufb1, fb_ufb2, fl_ufl, fl_ufl1, fl_ufl2, fr_ufr, fr_ufr1, fr_ufr2, ai_sa, ai_sa1, ab_sab, ab_sab1, ar_sar, ar_sar1, upf_eq, upf_ne, fi_ufb, fi_ufl, fi_ufr, fi_sa, fi_sab, fi_sar, fb_ufi, fb_ufl, fb_ufr, fb_sa, fb_sab, fb_sar, fl_ufi, fl_ufb, fl_ufr, fl_sa, fl_sab, fl_sar, fr_ufi, fr_ufb, fr_ufl, fr_sa, fr_sab, fr_sar, ai_ufi, ai_ufb, ai_ufl, ai_ufr, ai_sab, ai_sar, ab_ufi, ab_ufb, ab_ufl, ab_ufr, ab_sa, ab_sar, ar_ufi, ar_ufb, ar_ufl, ar_ufr, ar_sa, ar_sab, sa_sa, sab_sab, sar_sar, upf_upf, ufi_ufi]
end
