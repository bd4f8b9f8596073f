/-! beside: the spare day takes calls over -/
def pkd (p q : Nat) (v : Int32) (g : Nat → Int32) : Nat → Int32 := fun c => if p ≤ c ∧ c < q then v else g c
theorem pkd_s {p k : Nat} {v : Int32} {g : Nat → Int32} (h : p ≤ k) : pkd p (k + 1) v g = upf (pkd p k v g) k v := by
  funext c
  unfold upf pkd
  by_cases e : c = k
  · rw [if_pos e, if_pos ⟨by omega, by omega⟩]
  · rw [if_neg e]
    by_cases h2 : p ≤ c ∧ c < k
    · rw [if_pos h2, if_pos ⟨h2.1, by omega⟩]
    · rw [if_neg h2, if_neg (by omega)]
theorem pkd_0 {p q : Nat} {v : Int32} {g : Nat → Int32} (h : q ≤ p) : pkd p q v g = g := by
  funext c
  unfold pkd
  rw [if_neg (by omega)]
theorem pkd_l {k q : Nat} {v : Int32} {g : Nat → Int32} (h : k < q) : pkd (k + 1) q v (upf g k v) = pkd k q v g := by
  funext c
  show (if k + 1 ≤ c ∧ c < q then v else if c = k then v else g c) = if k ≤ c ∧ c < q then v else g c
  by_cases e : c = k
  · rw [if_neg (by omega), if_pos e, if_pos (by omega)]
  · rw [if_neg e]
    by_cases h2 : k ≤ c ∧ c < q
    · rw [if_pos h2, if_pos (by omega)]
    · rw [if_neg h2, if_neg (by omega)]
def stR (R : Sg) (p q : Nat) : Sg := sa (sa (sa (sa (sa (sa (sa R 158 (pkd p q (Int32.ofNat 0) (ai R 158))) 159 (pkd p q nn (ai R 159))) 160 (pkd p q nn (ai R 160))) 161 (pkd p q (Int32.ofNat 0) (ai R 161))) 162 (pkd p q (Int32.ofNat 0) (ai R 162))) 163 (pkd p q nn (ai R 163))) 164 (pkd p q (Int32.ofNat 0) (ai R 164))
theorem stR_a (R : Sg) (p q : Nat) : ai (stR R p q) 158 = pkd p q (Int32.ofNat 0) (ai R 158) ∧ ai (stR R p q) 159 = pkd p q nn (ai R 159) ∧ ai (stR R p q) 160 = pkd p q nn (ai R 160) ∧ ai (stR R p q) 161 = pkd p q (Int32.ofNat 0) (ai R 161) ∧ ai (stR R p q) 162 = pkd p q (Int32.ofNat 0) (ai R 162) ∧ ai (stR R p q) 163 = pkd p q nn (ai R 163) ∧ ai (stR R p q) 164 = pkd p q (Int32.ofNat 0) (ai R 164) := by
  unfold stR
  refine ⟨?_, ?_, ?_, ?_, ?_, ?_, ?_⟩ <;> simp (disch := omega) only [fi_ufi, fi_ufi1, fi_ufi2, fb_ufb, fb_ufb1, fb_ufb2, fl_ufl, fl_ufl1, fl_ufl2, fr_ufr, fr_ufr1, fr_ufr2, ai_sa, ai_sa1, ab_sab, ab_sab1, ar_sar, ar_sar1, upf_eq, upf_ne, fi_ufb, fi_ufl, fi_ufr, fi_sa, fi_sab, fi_sar, fb_ufi, fb_ufl, fb_ufr, fb_sa, fb_sab, fb_sar, fl_ufi, fl_ufb, fl_ufr, fl_sa, fl_sab, fl_sar, fr_ufi, fr_ufb, fr_ufl, fr_sa, fr_sab, fr_sar, ai_ufi, ai_ufb, ai_ufl, ai_ufr, ai_sab, ai_sar, ab_ufi, ab_ufb, ab_ufl, ab_ufr, ab_sa, ab_sar, ar_ufi, ar_ufb, ar_ufl, ar_ufr, ar_sa, ar_sab, sa_sa, sab_sab, sar_sar, upf_upf, ufi_ufi]
theorem stR_x (R : Sg) (p q : Nat) {a : Nat} (h : a < 158 ∨ 164 < a) : ai (stR R p q) a = ai R a := by
  unfold stR
  rw [ai_sa1 _ _ _ _ (by omega), ai_sa1 _ _ _ _ (by omega), ai_sa1 _ _ _ _ (by omega), ai_sa1 _ _ _ _ (by omega), ai_sa1 _ _ _ _ (by omega), ai_sa1 _ _ _ _ (by omega), ai_sa1 _ _ _ _ (by omega)]
theorem stR_f (R : Sg) (p q : Nat) : fi (stR R p q) = fi R ∧ fb (stR R p q) = fb R ∧ ab (stR R p q) = ab R := ⟨rfl, rfl, rfl⟩
def spC : List Nat := [2, 7, 8, 9, 10, 80, 86, 87, 88, 89, 90, 91, 92, 93, 94, 95, 96, 97, 98, 99, 100, 101, 102, 103, 104, 105, 106, 107, 108, 109, 110, 111, 112, 113, 114, 115, 116, 117, 118, 119, 120, 121, 122, 123, 124, 125]
theorem spC_c : ∀ c, c < 40 → 80 + 6 + c ∈ spC := by decide
section
variable {f : Nat → Nat} {n : Nat} {al : Nat → Bool} {A B M : Nat → Nat} {Mr : Nat → Nat} {nc nR m : Nat} {E D : Nat → Nat → Nat} {hd : Nat → Option Nat} {SC SR : Sg}
/-- what the loop that takes calls over keeps -/
def TO (al : Nat → Bool) (A B M : Nat → Nat) (f : Nat → Nat) (n : Nat) (Mr : Nat → Nat) (nc nR m k : Nat) (E : Nat → Nat → Nat) (hd : Nat → Option Nat) (SC SR S : Sg) : Prop := nc ≤ k ∧ k ≤ nR ∧ (∃ D, DD 80 f n Mr k nR m E D hd S (stR SR nc k)) ∧ SS 80 k nR E S SR ∧ (∀ c, c < k → fi S (80 + 6 + c) 7 = fi S (29 + 6 + c) 7) ∧ (∃ u, fi S 2 8 = Int32.ofNat u ∧ IPool al A B M u (ai S 7) (ai S 8) (ai S 9) (ai S 10) ∧ ∀ c, c < k → PairOK al A B M (E 0 c) (E 1 c) u (ai S 7) (ai S 8) (ai S 9) (ai S 10)) ∧ AgC spC SC S ∧ (∀ b, b ≠ 5 → fi S 80 b = fi SC 80 b) ∧ fb S = fb SC ∧ ∀ b, b ≠ 8 → fi S 2 b = fi SC 2 b
theorem wp_take1 (HT : TO al A B M f n Mr nc nR m nc E hd SC SR SC) (HL : NetL al A B M (ai SC 3) (ai SC 4) (ai SC 5)) (r5 : fi SC 29 5 = Int32.ofNat nR) (hS : SS 29 nR nR E SC SR) (h6 : fi SC 80 6 = Int32.ofNat m) (hR : nR ≤ 40) (hm : m < 480) {Q : Unit → Sg → Prop} (hQ : ∀ k S, TO al A B M f n Mr nc nR m k E hd SC SR S → (∀ c, nc ≤ c → c < k → E 5 c = m) → (k = nR ∨ E 5 k ≠ m) → Q () S) : WP (lp FU (Day_takeOver_l1 80 29) ()) SC Q := by
  refine wp_for (nR - nc) (by unfold FU; omega) (fun i x S => ∃ k, k = nc + i ∧ TO al A B M f n Mr nc nR m k E hd SC SR S ∧ ∀ c, nc ≤ c → c < k → E 5 c = m) ?_ ⟨nc, rfl, HT, by omega⟩
  rintro i x S hi ⟨k, hk, hT, hb⟩
  have hT' := hT
  obtain ⟨t1, t2, ⟨D1, t3⟩, t4, t5, ⟨u, t6, t7, t8⟩, t9, t10, t11, t12⟩ := hT
  have e5 := t3.2.1.1
  have e6 : fi S 80 6 = Int32.ofNat m := by rw [t10 6 (by decide)]; exact h6
  have e29 : fi S 29 5 = Int32.ofNat nR := by rw [(t9 29 (by decide)).1]; exact r5
  unfold Day_takeOver_l1
  by_cases hkn : k < nR
  · have hk40 : k < 40 := by omega
    obtain ⟨jj, hjj⟩ : ∃ jj, 29 + 6 + k = jj := ⟨_, rfl⟩
    obtain ⟨kk, hkk⟩ : ∃ kk, 80 + 6 + k = kk := ⟨_, rfl⟩
    have hjs : jj ∉ spC := by
      intro h
      have : ∀ a, a ∈ spC → a < 35 ∨ 80 ≤ a := by decide
      have := this jj h
      omega
    have ec1 : cst 30 k = jj := by unfold cst; omega
    have ec2 : cst 81 k = kk := by unfold cst; omega
    have hjk : jj + 51 = kk := by omega
    obtain ⟨s1, s2, s3, s4, s5, s6, s7, s8, s9⟩ := hS k hkn
    obtain ⟨q0, q1, q2, q3, q4, q5⟩ := s9 hkn
    rw [hjj, ← (t9 jj hjs).1] at q0 q1 q2 q3 q4 q5
    by_cases he : E 5 k = m
    · have hne : jj ≠ kk := by omega
      have hn80 : kk ≠ 80 := by omega
      have hn2 : kk ≠ 2 := by omega
      rw [he] at q5
      unfold Call_bookedFor
      simp (disch := omega) only [q_0, q_1, q_2, q_3, q_4, q_5, q_6, q_7, q_8, q_9, q_10, q_11, q_12, q_15, q_16, q_20, q_21, q_25, q_30, q_31, q_32, q_40, q_44, q_48, q_50, q_57, q_59, q_60, q_64, q_81, q_97, q_98, q_99, q_100, q_101, q_102, q_103, q_104, q_105, q_107, q_108, q_110, q_111, q_114, q_115, q_116, q_119, q_120, q_121, q_122, q_136, q_160, q_200, q_255, q_300, q_400, q_401, q_402, q_460, q_479, q_480, q_920, q_999, q_1000, q_1023, q_1024, q_4020, q_9999, q_99999, q_1000000, q_1000000000, q_100001, q_100002, q_100003, q_100004, q_400000, nn_1, r_0, r_1, r_2, r_3, r_4, r_6, r_7, r_8, r_9, r_10, r_11, r_21, r_40, r_48, r_57, r_60, r_97, r_122, r_200, r_300, r_479, r_920, r_9999, r_99999, r_m1, rd_pu, rd_gI, rd_gB, rd_gL, rd_gQ, rd_rI, rd_rB, rd_rQ, rd_rK, rd_dq, rd_cq, rd_div, rd_rem, rd_mb, rd_mif, rd_within, rd_in, Bool.true_and, Bool.and_true, Bool.cond_self, Bool.cond_false_right, Bool.cond_true_left, cond_true, cond_false, rd_sAt, wp_rd, wp_mb, wp_mif, wp_sI, wp_sB, wp_sL, wp_sQ, wp_wI, wp_wB, wp_wQ, orR_l, orR_r, orE_l, orE_r, sK_l, sK_r, sK_c, cond_tr, fi_ufi, fi_ufi1, fi_ufi2, fb_ufb, fb_ufb1, fb_ufb2, fl_ufl, fl_ufl1, fl_ufl2, fr_ufr, fr_ufr1, fr_ufr2, ai_sa, ai_sa1, ab_sab, ab_sab1, ar_sar, ar_sar1, upf_eq, upf_ne, fi_ufb, fi_ufl, fi_ufr, fi_sa, fi_sab, fi_sar, fb_ufi, fb_ufl, fb_ufr, fb_sa, fb_sab, fb_sar, fl_ufi, fl_ufb, fl_ufr, fl_sa, fl_sab, fl_sar, fr_ufi, fr_ufb, fr_ufl, fr_sa, fr_sab, fr_sar, ai_ufi, ai_ufb, ai_ufl, ai_ufr, ai_sab, ai_sar, ab_ufi, ab_ufb, ab_ufl, ab_ufr, ab_sa, ab_sar, ar_ufi, ar_ufb, ar_ufl, ar_ufr, ar_sa, ar_sab, sa_sa, sab_sab, sar_sar, upf_upf, ufi_ufi, tnN, inbN, addN, subN, mulN, decN, divN, remN, n2_lt, n2_le, n2_gt, n2_ge, n2_eq, n2_ne, n0_lt, n0_ge, n0_gt, n0_le, n0_eq, n0_ne, m2_eq, m2_ne, m2_eqq, m2_neq, m0_lt, m0_ge, m0_eq, m0_ne, m2_eqN, m2_neN, wi_N, wi_P, wi_NN, inN_N, li_wi, Nat.reduceAdd, Nat.reduceSub, Nat.reduceMul, Nat.reduceDiv, Nat.reduceMod, Nat.reduceLT, Nat.reduceLeDiff, Nat.reduceEqDiff, decide_true, decide_false, Nat.add_zero, Nat.zero_add, Nat.mul_one, Nat.one_mul, Nat.mul_zero, Nat.zero_mul, n0_gts, Prod.mk.injEq, modN, decide_eq_true_eq, decide_eq_false_iff_not, Bool.and_eq_true, Bool.or_eq_true, Bool.not_eq_true', Bool.not_eq_false', Bool.not_eq_true, Bool.not_eq_false, Bool.not_not, Bool.not_true, Bool.not_false, Bool.true_eq_false, Bool.false_eq_true, true_and, and_true, false_and, and_false, true_implies, false_implies, implies_true, not_true_eq_false, not_false_eq_true, ne_eq, Bool.and_eq_false_imp, Bool.or_eq_false_iff, eq_self, or_false, false_or, or_true, true_or, e5, e6, e29, hkn, hk40, ec1, ec2, q0, q1, q2, q3, q4, q5]
      generalize hS1 : ufi (ufi (ufi (ufi (ufi (ufi (ufi S kk 0 (Int32.ofNat (E 0 k))) kk 1 (Int32.ofNat (E 1 k))) kk 2 (Int32.ofNat (E 2 k))) kk 3 (Int32.ofNat (E 3 k))) kk 4 (if E 3 k = 2 then Int32.ofNat (E 4 k) else nn)) kk 5 (Int32.ofNat m)) kk 7 (fi S jj 7) = S1
      have b1 : ai S1 = ai S ∧ ab S1 = ab S ∧ fb S1 = fb S := by rw [← hS1]; exact ⟨rfl, rfl, rfl⟩
      have b2 : ∀ a b, (a ≠ kk ∨ 8 ≤ b) → fi S1 a b = fi S a b := fun a b h => by
        have e : ∀ (S : Sg) (j : Nat) (v : Int32), (a ≠ kk ∨ b ≠ j) → fi (ufi S kk j v) a b = fi S a b := fun S j v h => by
          rcases h with h | h
          · exact fi_ufi1 _ _ _ _ _ _ h
          · exact fi_ufi2 _ _ _ _ _ _ h
        rw [← hS1, e _ _ _ (by omega), e _ _ _ (by omega), e _ _ _ (by omega), e _ _ _ (by omega), e _ _ _ (by omega), e _ _ _ (by omega), e _ _ _ (by omega)]
      have b3 : fi S1 kk 0 = Int32.ofNat (E 0 k) ∧ fi S1 kk 1 = Int32.ofNat (E 1 k) ∧ fi S1 kk 2 = Int32.ofNat (E 2 k) ∧ fi S1 kk 3 = Int32.ofNat (E 3 k) ∧ fi S1 kk 4 = (if E 3 k = 2 then Int32.ofNat (E 4 k) else nn) ∧ fi S1 kk 5 = Int32.ofNat m ∧ fi S1 kk 7 = fi S jj 7 := by
        rw [← hS1]
        refine ⟨?_, ?_, ?_, ?_, ?_, ?_, ?_⟩ <;> simp (disch := omega) only [fi_ufi, fi_ufi1, fi_ufi2, fb_ufb, fb_ufb1, fb_ufb2, fl_ufl, fl_ufl1, fl_ufl2, fr_ufr, fr_ufr1, fr_ufr2, ai_sa, ai_sa1, ab_sab, ab_sab1, ar_sar, ar_sar1, upf_eq, upf_ne, fi_ufb, fi_ufl, fi_ufr, fi_sa, fi_sab, fi_sar, fb_ufi, fb_ufl, fb_ufr, fb_sa, fb_sab, fb_sar, fl_ufi, fl_ufb, fl_ufr, fl_sa, fl_sab, fl_sar, fr_ufi, fr_ufb, fr_ufl, fr_sa, fr_sab, fr_sar, ai_ufi, ai_ufb, ai_ufl, ai_ufr, ai_sab, ai_sar, ab_ufi, ab_ufb, ab_ufl, ab_ufr, ab_sa, ab_sar, ar_ufi, ar_ufb, ar_ufl, ar_ufr, ar_sa, ar_sab, sa_sa, sab_sab, sar_sar, upf_upf, ufi_ufi]
      refine wp_startAnew fun S2 g1 g2 g3 g4 g5 => ?_
      have f0 : fi S2 kk 0 = Int32.ofNat (E 0 k) := by rw [g1 _ _ (Or.inr (Or.inl (by decide)))]; exact b3.1
      have f1 : fi S2 kk 1 = Int32.ofNat (E 1 k) := by rw [g1 _ _ (Or.inr (Or.inl (by decide)))]; exact b3.2.1
      have ga : ai S2 = ai S := g4.trans b1.1
      have gl : ∀ a b, a ≠ kk → fi S2 a b = fi S a b := fun a b h => by rw [g1 _ _ (Or.inl h), b2 _ _ (Or.inl h)]
      simp only [f0, f1]
      refine wp_prepare (al := al) (A := A) (B := B) (M := M) (u := u) (by rw [ga, (t9 3 (by decide)).2.2.1, (t9 4 (by decide)).2.2.1, (t9 5 (by decide)).2.2.1]; exact HL) (by rw [gl _ _ (by omega)]; exact t6) (by rw [ga]; exact t7) s1 s2 s3 fun c7 c8 c9 c10 u' p1 p2 p3 => ?_
      have e5' : fi (NP S2 c7 c8 c9 c10 u') 80 5 = Int32.ofNat k := by rw [NP_f _ _ _ _ _ _ (Or.inl (by decide)), gl _ _ (by omega)]; exact e5
      simp (disch := omega) only [q_0, q_1, q_2, q_3, q_4, q_5, q_6, q_7, q_8, q_9, q_10, q_11, q_12, q_15, q_16, q_20, q_21, q_25, q_30, q_31, q_32, q_40, q_44, q_48, q_50, q_57, q_59, q_60, q_64, q_81, q_97, q_98, q_99, q_100, q_101, q_102, q_103, q_104, q_105, q_107, q_108, q_110, q_111, q_114, q_115, q_116, q_119, q_120, q_121, q_122, q_136, q_160, q_200, q_255, q_300, q_400, q_401, q_402, q_460, q_479, q_480, q_920, q_999, q_1000, q_1023, q_1024, q_4020, q_9999, q_99999, q_1000000, q_1000000000, q_100001, q_100002, q_100003, q_100004, q_400000, nn_1, r_0, r_1, r_2, r_3, r_4, r_6, r_7, r_8, r_9, r_10, r_11, r_21, r_40, r_48, r_57, r_60, r_97, r_122, r_200, r_300, r_479, r_920, r_9999, r_99999, r_m1, rd_pu, rd_gI, rd_gB, rd_gL, rd_gQ, rd_rI, rd_rB, rd_rQ, rd_rK, rd_dq, rd_cq, rd_div, rd_rem, rd_mb, rd_mif, rd_within, rd_in, Bool.true_and, Bool.and_true, Bool.cond_self, Bool.cond_false_right, Bool.cond_true_left, cond_true, cond_false, rd_sAt, wp_rd, wp_mb, wp_mif, wp_sI, wp_sB, wp_sL, wp_sQ, wp_wI, wp_wB, wp_wQ, orR_l, orR_r, orE_l, orE_r, sK_l, sK_r, sK_c, cond_tr, fi_ufi, fi_ufi1, fi_ufi2, fb_ufb, fb_ufb1, fb_ufb2, fl_ufl, fl_ufl1, fl_ufl2, fr_ufr, fr_ufr1, fr_ufr2, ai_sa, ai_sa1, ab_sab, ab_sab1, ar_sar, ar_sar1, upf_eq, upf_ne, fi_ufb, fi_ufl, fi_ufr, fi_sa, fi_sab, fi_sar, fb_ufi, fb_ufl, fb_ufr, fb_sa, fb_sab, fb_sar, fl_ufi, fl_ufb, fl_ufr, fl_sa, fl_sab, fl_sar, fr_ufi, fr_ufb, fr_ufl, fr_sa, fr_sab, fr_sar, ai_ufi, ai_ufb, ai_ufl, ai_ufr, ai_sab, ai_sar, ab_ufi, ab_ufb, ab_ufl, ab_ufr, ab_sa, ab_sar, ar_ufi, ar_ufb, ar_ufl, ar_ufr, ar_sa, ar_sab, sa_sa, sab_sab, sar_sar, upf_upf, ufi_ufi, tnN, inbN, addN, subN, mulN, decN, divN, remN, n2_lt, n2_le, n2_gt, n2_ge, n2_eq, n2_ne, n0_lt, n0_ge, n0_gt, n0_le, n0_eq, n0_ne, m2_eq, m2_ne, m2_eqq, m2_neq, m0_lt, m0_ge, m0_eq, m0_ne, m2_eqN, m2_neN, wi_N, wi_P, wi_NN, inN_N, li_wi, Nat.reduceAdd, Nat.reduceSub, Nat.reduceMul, Nat.reduceDiv, Nat.reduceMod, Nat.reduceLT, Nat.reduceLeDiff, Nat.reduceEqDiff, decide_true, decide_false, Nat.add_zero, Nat.zero_add, Nat.mul_one, Nat.one_mul, Nat.mul_zero, Nat.zero_mul, n0_gts, Prod.mk.injEq, modN, decide_eq_true_eq, decide_eq_false_iff_not, Bool.and_eq_true, Bool.or_eq_true, Bool.not_eq_true', Bool.not_eq_false', Bool.not_eq_true, Bool.not_eq_false, Bool.not_not, Bool.not_true, Bool.not_false, Bool.true_eq_false, Bool.false_eq_true, true_and, and_true, false_and, and_false, true_implies, false_implies, implies_true, not_true_eq_false, not_false_eq_true, ne_eq, Bool.and_eq_false_imp, Bool.or_eq_false_iff, eq_self, or_false, false_or, or_true, true_or, e5']
      obtain ⟨a7, a8, a9, a10⟩ := NP_ai S2 c7 c8 c9 c10 u'
      have L : ∀ a b, (a ≠ 80 ∨ b ≠ 5) → (a ≠ 2 ∨ b ≠ 8) → fi (ufi (NP S2 c7 c8 c9 c10 u') 80 5 (Int32.ofNat (k + 1))) a b = fi S2 a b := fun a b h1 h2 => by
        have : fi (ufi (NP S2 c7 c8 c9 c10 u') 80 5 (Int32.ofNat (k + 1))) a b = fi (NP S2 c7 c8 c9 c10 u') a b := by
          rcases h1 with h1 | h1
          · exact fi_ufi1 _ _ _ _ _ _ h1
          · exact fi_ufi2 _ _ _ _ _ _ h1
        rw [this, NP_f _ _ _ _ _ _ h2]
      have La : ∀ a, ai (ufi (NP S2 c7 c8 c9 c10 u') 80 5 (Int32.ofNat (k + 1))) a = ai (NP S2 c7 c8 c9 c10 u') a := fun a => rfl
      have Lb : fb (ufi (NP S2 c7 c8 c9 c10 u') 80 5 (Int32.ofNat (k + 1))) = fb S2 ∧ ab (ufi (NP S2 c7 c8 c9 c10 u') 80 5 (Int32.ofNat (k + 1))) = ab S2 := ⟨rfl, rfl⟩
      have L5 : fi (ufi (NP S2 c7 c8 c9 c10 u') 80 5 (Int32.ofNat (k + 1))) 80 5 = Int32.ofNat (k + 1) := fi_ufi _ _ _ _
      have L28 : fi (ufi (NP S2 c7 c8 c9 c10 u') 80 5 (Int32.ofNat (k + 1))) 2 8 = Int32.ofNat u' := by rw [fi_ufi1 _ _ _ _ _ _ (by decide)]; exact NP_2 _ _ _ _ _ _
      generalize ufi (NP S2 c7 c8 c9 c10 u') 80 5 (Int32.ofNat (k + 1)) = S3 at *
      have Lk : ∀ b, fi S3 kk b = fi S2 kk b := fun b => L _ _ (Or.inl hn80) (Or.inl hn2)
      have Lo : ∀ c b, c < 40 → c ≠ k → fi S3 (80 + 6 + c) b = fi S (80 + 6 + c) b := fun c b h1 h2 => by rw [L _ _ (Or.inl (by omega)) (Or.inl (by omega)), gl _ _ (by omega)]
      refine ⟨by omega, k + 1, by omega, ⟨by omega, hkn, ⟨nD D1 k, DD_more t3 hkn L5 ?_ (fun c b hc => Lo c b (by omega) (by omega)) ?_ rfl ?_ ?_ ?_ ?_ ?_ ?_ ?_ ⟨?_, ?_⟩⟩, fun c hc => ?_, fun c hc => ?_, ⟨u', L28, ?_, fun c hc => ?_⟩, ?_, fun b hb => ?_, ?_, fun b hb => ?_⟩, fun c h1 h2 => ?_⟩
      · rw [L _ _ (Or.inr (by decide)) (Or.inl (by decide)), gl _ _ (by omega)]
      · rw [hkk, Lk, Lk, Lk, Lk, Lk, Lk, Lk]; exact g2
      · rw [(stR_a _ _ _).1, (stR_a _ _ _).1]; exact pkd_s t1
      · rw [(stR_a _ _ _).2.1, (stR_a _ _ _).2.1]; exact pkd_s t1
      · rw [(stR_a _ _ _).2.2.1, (stR_a _ _ _).2.2.1]; exact pkd_s t1
      · rw [(stR_a _ _ _).2.2.2.1, (stR_a _ _ _).2.2.2.1]; exact pkd_s t1
      · rw [(stR_a _ _ _).2.2.2.2.1, (stR_a _ _ _).2.2.2.2.1]; exact pkd_s t1
      · rw [(stR_a _ _ _).2.2.2.2.2.1, (stR_a _ _ _).2.2.2.2.2.1]; exact pkd_s t1
      · rw [(stR_a _ _ _).2.2.2.2.2.2, (stR_a _ _ _).2.2.2.2.2.2]; exact pkd_s t1
      · rw [stR_x _ _ _ (by decide), stR_x _ _ _ (by decide)]
      · rw [stR_x _ _ _ (by decide), stR_x _ _ _ (by decide)]
      · obtain ⟨v1, v2, v3, v4, v5, v6, v7, v8, v9⟩ := t4 c hc
        refine ⟨v1, v2, v3, v4, v5, v6, v7, v8, fun hck => ?_⟩
        by_cases ec : c = k
        · subst ec
          have lk : ∀ b, b < 6 → fi S2 kk b = fi S1 kk b := fun b h => g1 _ _ (Or.inr (Or.inl (by omega)))
          rw [hkk, Lk, Lk, Lk, Lk, Lk, Lk, lk 0 (by decide), lk 1 (by decide), lk 2 (by decide), lk 3 (by decide), lk 4 (by decide), lk 5 (by decide), he]
          exact ⟨b3.1, b3.2.1, b3.2.2.1, b3.2.2.2.1, b3.2.2.2.2.1, b3.2.2.2.2.2.1⟩
        · rw [Lo c _ (by omega) ec, Lo c _ (by omega) ec, Lo c _ (by omega) ec, Lo c _ (by omega) ec, Lo c _ (by omega) ec, Lo c _ (by omega) ec]
          exact v9 (by omega)
      · have l29 : fi S3 (29 + 6 + c) 7 = fi S (29 + 6 + c) 7 := by rw [L _ _ (Or.inl (by omega)) (Or.inl (by omega)), gl _ _ (by omega)]
        rw [l29]
        by_cases ec : c = k
        · subst ec
          rw [hkk, hjj, Lk, g1 _ _ (Or.inr (Or.inl (by decide)))]; exact b3.2.2.2.2.2.2
        · rw [Lo c _ (by omega) ec]; exact t5 c (by omega)
      · rw [La, La, La, La, a7, a8, a9, a10]; exact p1
      · rw [La, La, La, La, a7, a8, a9, a10]
        by_cases ec : c = k
        · subst ec; exact p2
        · obtain ⟨v1, v2, v3, -⟩ := hS c (by omega)
          exact p3 _ _ v1 v2 v3 (by rw [ga]; exact t8 c (by omega))
      · refine t9.tr fun a ha => ⟨funext fun b => ?_, by rw [Lb.1, g3, b1.2.2], ?_, by rw [Lb.2, g5, b1.2.1]⟩
        · have n1 : a ≠ 80 := fun e => ha (by rw [e]; decide)
          have n2 : a ≠ 2 := fun e => ha (by rw [e]; decide)
          have n3 : a ≠ kk := fun e => ha (by rw [e, ← hkk]; exact spC_c k hk40)
          rw [L _ _ (Or.inl n1) (Or.inl n2), gl _ _ n3]
        · have n : ∀ x, x ∈ spC → a ≠ x := fun x hx e => ha (by rw [e]; exact hx)
          rw [La, (NP_Ag S2 c7 c8 c9 c10 u' a (by simp; exact ⟨n _ (by decide), n _ (by decide), n _ (by decide), n _ (by decide), n _ (by decide)⟩)).2.2.1, ga]
      · rw [L _ _ (Or.inr hb) (Or.inl (by decide)), gl _ _ (by omega)]; exact t10 b hb
      · rw [Lb.1, g3, b1.2.2]; exact t11
      · rw [L _ _ (Or.inl (by decide)) (Or.inr hb), gl _ _ (by omega)]; exact t12 b hb
      · by_cases ec : c = k
        · subst ec; exact he
        · exact hb c h1 (by omega)
    · have hme : ¬ E 5 k = m := he
      simp (disch := omega) only [q_0, q_1, q_2, q_3, q_4, q_5, q_6, q_7, q_8, q_9, q_10, q_11, q_12, q_15, q_16, q_20, q_21, q_25, q_30, q_31, q_32, q_40, q_44, q_48, q_50, q_57, q_59, q_60, q_64, q_81, q_97, q_98, q_99, q_100, q_101, q_102, q_103, q_104, q_105, q_107, q_108, q_110, q_111, q_114, q_115, q_116, q_119, q_120, q_121, q_122, q_136, q_160, q_200, q_255, q_300, q_400, q_401, q_402, q_460, q_479, q_480, q_920, q_999, q_1000, q_1023, q_1024, q_4020, q_9999, q_99999, q_1000000, q_1000000000, q_100001, q_100002, q_100003, q_100004, q_400000, nn_1, r_0, r_1, r_2, r_3, r_4, r_6, r_7, r_8, r_9, r_10, r_11, r_21, r_40, r_48, r_57, r_60, r_97, r_122, r_200, r_300, r_479, r_920, r_9999, r_99999, r_m1, rd_pu, rd_gI, rd_gB, rd_gL, rd_gQ, rd_rI, rd_rB, rd_rQ, rd_rK, rd_dq, rd_cq, rd_div, rd_rem, rd_mb, rd_mif, rd_within, rd_in, Bool.true_and, Bool.and_true, Bool.cond_self, Bool.cond_false_right, Bool.cond_true_left, cond_true, cond_false, rd_sAt, wp_rd, wp_mb, wp_mif, wp_sI, wp_sB, wp_sL, wp_sQ, wp_wI, wp_wB, wp_wQ, orR_l, orR_r, orE_l, orE_r, sK_l, sK_r, sK_c, cond_tr, fi_ufi, fi_ufi1, fi_ufi2, fb_ufb, fb_ufb1, fb_ufb2, fl_ufl, fl_ufl1, fl_ufl2, fr_ufr, fr_ufr1, fr_ufr2, ai_sa, ai_sa1, ab_sab, ab_sab1, ar_sar, ar_sar1, upf_eq, upf_ne, fi_ufb, fi_ufl, fi_ufr, fi_sa, fi_sab, fi_sar, fb_ufi, fb_ufl, fb_ufr, fb_sa, fb_sab, fb_sar, fl_ufi, fl_ufb, fl_ufr, fl_sa, fl_sab, fl_sar, fr_ufi, fr_ufb, fr_ufl, fr_sa, fr_sab, fr_sar, ai_ufi, ai_ufb, ai_ufl, ai_ufr, ai_sab, ai_sar, ab_ufi, ab_ufb, ab_ufl, ab_ufr, ab_sa, ab_sar, ar_ufi, ar_ufb, ar_ufl, ar_ufr, ar_sa, ar_sab, sa_sa, sab_sab, sar_sar, upf_upf, ufi_ufi, tnN, inbN, addN, subN, mulN, decN, divN, remN, n2_lt, n2_le, n2_gt, n2_ge, n2_eq, n2_ne, n0_lt, n0_ge, n0_gt, n0_le, n0_eq, n0_ne, m2_eq, m2_ne, m2_eqq, m2_neq, m0_lt, m0_ge, m0_eq, m0_ne, m2_eqN, m2_neN, wi_N, wi_P, wi_NN, inN_N, li_wi, Nat.reduceAdd, Nat.reduceSub, Nat.reduceMul, Nat.reduceDiv, Nat.reduceMod, Nat.reduceLT, Nat.reduceLeDiff, Nat.reduceEqDiff, decide_true, decide_false, Nat.add_zero, Nat.zero_add, Nat.mul_one, Nat.one_mul, Nat.mul_zero, Nat.zero_mul, n0_gts, Prod.mk.injEq, modN, decide_eq_true_eq, decide_eq_false_iff_not, Bool.and_eq_true, Bool.or_eq_true, Bool.not_eq_true', Bool.not_eq_false', Bool.not_eq_true, Bool.not_eq_false, Bool.not_not, Bool.not_true, Bool.not_false, Bool.true_eq_false, Bool.false_eq_true, true_and, and_true, false_and, and_false, true_implies, false_implies, implies_true, not_true_eq_false, not_false_eq_true, ne_eq, Bool.and_eq_false_imp, Bool.or_eq_false_iff, eq_self, or_false, false_or, or_true, true_or, e5, e6, e29, hkn, hk40, ec1, q5, hme]
      exact hQ k S hT' hb (Or.inr he)
  · have e : k = nR := by omega
    simp (disch := omega) only [q_0, q_1, q_2, q_3, q_4, q_5, q_6, q_7, q_8, q_9, q_10, q_11, q_12, q_15, q_16, q_20, q_21, q_25, q_30, q_31, q_32, q_40, q_44, q_48, q_50, q_57, q_59, q_60, q_64, q_81, q_97, q_98, q_99, q_100, q_101, q_102, q_103, q_104, q_105, q_107, q_108, q_110, q_111, q_114, q_115, q_116, q_119, q_120, q_121, q_122, q_136, q_160, q_200, q_255, q_300, q_400, q_401, q_402, q_460, q_479, q_480, q_920, q_999, q_1000, q_1023, q_1024, q_4020, q_9999, q_99999, q_1000000, q_1000000000, q_100001, q_100002, q_100003, q_100004, q_400000, nn_1, r_0, r_1, r_2, r_3, r_4, r_6, r_7, r_8, r_9, r_10, r_11, r_21, r_40, r_48, r_57, r_60, r_97, r_122, r_200, r_300, r_479, r_920, r_9999, r_99999, r_m1, rd_pu, rd_gI, rd_gB, rd_gL, rd_gQ, rd_rI, rd_rB, rd_rQ, rd_rK, rd_dq, rd_cq, rd_div, rd_rem, rd_mb, rd_mif, rd_within, rd_in, Bool.true_and, Bool.and_true, Bool.cond_self, Bool.cond_false_right, Bool.cond_true_left, cond_true, cond_false, rd_sAt, wp_rd, wp_mb, wp_mif, wp_sI, wp_sB, wp_sL, wp_sQ, wp_wI, wp_wB, wp_wQ, orR_l, orR_r, orE_l, orE_r, sK_l, sK_r, sK_c, cond_tr, fi_ufi, fi_ufi1, fi_ufi2, fb_ufb, fb_ufb1, fb_ufb2, fl_ufl, fl_ufl1, fl_ufl2, fr_ufr, fr_ufr1, fr_ufr2, ai_sa, ai_sa1, ab_sab, ab_sab1, ar_sar, ar_sar1, upf_eq, upf_ne, fi_ufb, fi_ufl, fi_ufr, fi_sa, fi_sab, fi_sar, fb_ufi, fb_ufl, fb_ufr, fb_sa, fb_sab, fb_sar, fl_ufi, fl_ufb, fl_ufr, fl_sa, fl_sab, fl_sar, fr_ufi, fr_ufb, fr_ufl, fr_sa, fr_sab, fr_sar, ai_ufi, ai_ufb, ai_ufl, ai_ufr, ai_sab, ai_sar, ab_ufi, ab_ufb, ab_ufl, ab_ufr, ab_sa, ab_sar, ar_ufi, ar_ufb, ar_ufl, ar_ufr, ar_sa, ar_sab, sa_sa, sab_sab, sar_sar, upf_upf, ufi_ufi, tnN, inbN, addN, subN, mulN, decN, divN, remN, n2_lt, n2_le, n2_gt, n2_ge, n2_eq, n2_ne, n0_lt, n0_ge, n0_gt, n0_le, n0_eq, n0_ne, m2_eq, m2_ne, m2_eqq, m2_neq, m0_lt, m0_ge, m0_eq, m0_ne, m2_eqN, m2_neN, wi_N, wi_P, wi_NN, inN_N, li_wi, Nat.reduceAdd, Nat.reduceSub, Nat.reduceMul, Nat.reduceDiv, Nat.reduceMod, Nat.reduceLT, Nat.reduceLeDiff, Nat.reduceEqDiff, decide_true, decide_false, Nat.add_zero, Nat.zero_add, Nat.mul_one, Nat.one_mul, Nat.mul_zero, Nat.zero_mul, n0_gts, Prod.mk.injEq, modN, decide_eq_true_eq, decide_eq_false_iff_not, Bool.and_eq_true, Bool.or_eq_true, Bool.not_eq_true', Bool.not_eq_false', Bool.not_eq_true, Bool.not_eq_false, Bool.not_not, Bool.not_true, Bool.not_false, Bool.true_eq_false, Bool.false_eq_true, true_and, and_true, false_and, and_false, true_implies, false_implies, implies_true, not_true_eq_false, not_false_eq_true, ne_eq, Bool.and_eq_false_imp, Bool.or_eq_false_iff, eq_self, or_false, false_or, or_true, true_or, e5, e29, hkn]
    exact hQ k S hT' hb (Or.inl e)
end
