/-! a call more: both sides -/
theorem wp_addC {S : Sg} {nc k m : Nat} (h5 : fi S 29 5 = Int32.ofNat nc) (hnc : nc < 40) (hk : cst 30 nc = k) (hk29 : k ≠ 29) (h6 : fi S 29 6 = Int32.ofNat m) (a b n kk due w : Int32) {Q : Int32 → Sg → Prop} (hQ : ∀ S', (∀ x y, (x ≠ k ∨ 7 ≤ y) → (x ≠ 29 ∨ y ≠ 5) → fi S' x y = fi S x y) → fi S' 29 5 = Int32.ofNat (nc + 1) → (fi S' k 0 = a ∧ fi S' k 1 = b ∧ fi S' k 2 = n ∧ fi S' k 3 = kk ∧ fi S' k 4 = due ∧ fi S' k 5 = Int32.ofNat m ∧ fi S' k 6 = w) → fb S' = fb S → ai S' = ai S → ab S' = ab S → Q (Int32.ofNat nc) S') : WP (Day_add 29 a b n kk due w) S Q := by
  have hge : ¬ 40 ≤ nc := by omega
  have hk29' : 29 ≠ k := fun e => hk29 e.symm
  unfold Day_add Call_bookedFor
  simp (disch := omega) only [q_0, q_1, q_2, q_3, q_4, q_5, q_6, q_7, q_8, q_9, q_10, q_11, q_12, q_15, q_16, q_20, q_21, q_25, q_30, q_31, q_32, q_40, q_44, q_48, q_50, q_57, q_59, q_60, q_64, q_81, q_97, q_98, q_99, q_100, q_101, q_102, q_103, q_104, q_105, q_107, q_108, q_110, q_111, q_114, q_115, q_116, q_119, q_120, q_121, q_122, q_136, q_160, q_200, q_255, q_300, q_400, q_401, q_402, q_460, q_479, q_480, q_920, q_999, q_1000, q_1023, q_1024, q_4020, q_9999, q_99999, q_1000000, q_1000000000, q_100001, q_100002, q_100003, q_100004, q_400000, nn_1, r_0, r_1, r_2, r_3, r_4, r_6, r_7, r_8, r_9, r_10, r_11, r_21, r_40, r_48, r_57, r_60, r_97, r_122, r_200, r_300, r_479, r_920, r_9999, r_99999, r_m1, rd_pu, rd_gI, rd_gB, rd_gL, rd_gQ, rd_rI, rd_rB, rd_rQ, rd_rK, rd_dq, rd_cq, rd_div, rd_rem, rd_mb, rd_mif, rd_within, rd_in, Bool.true_and, Bool.and_true, Bool.cond_self, Bool.cond_false_right, Bool.cond_true_left, cond_true, cond_false, rd_sAt, wp_rd, wp_mb, wp_mif, wp_sI, wp_sB, wp_sL, wp_sQ, wp_wI, wp_wB, wp_wQ, orR_l, orR_r, orE_l, orE_r, sK_l, sK_r, sK_c, cond_tr, fi_ufi, fi_ufi1, fi_ufi2, fb_ufb, fb_ufb1, fb_ufb2, fl_ufl, fl_ufl1, fl_ufl2, fr_ufr, fr_ufr1, fr_ufr2, ai_sa, ai_sa1, ab_sab, ab_sab1, ar_sar, ar_sar1, upf_eq, upf_ne, fi_ufb, fi_ufl, fi_ufr, fi_sa, fi_sab, fi_sar, fb_ufi, fb_ufl, fb_ufr, fb_sa, fb_sab, fb_sar, fl_ufi, fl_ufb, fl_ufr, fl_sa, fl_sab, fl_sar, fr_ufi, fr_ufb, fr_ufl, fr_sa, fr_sab, fr_sar, ai_ufi, ai_ufb, ai_ufl, ai_ufr, ai_sab, ai_sar, ab_ufi, ab_ufb, ab_ufl, ab_ufr, ab_sa, ab_sar, ar_ufi, ar_ufb, ar_ufl, ar_ufr, ar_sa, ar_sab, sa_sa, sab_sab, sar_sar, upf_upf, ufi_ufi, tnN, inbN, addN, subN, mulN, decN, divN, remN, n2_lt, n2_le, n2_gt, n2_ge, n2_eq, n2_ne, n0_lt, n0_ge, n0_gt, n0_le, n0_eq, n0_ne, m2_eq, m2_ne, m2_eqq, m2_neq, m0_lt, m0_ge, m0_eq, m0_ne, m2_eqN, m2_neN, wi_N, wi_P, wi_NN, inN_N, li_wi, Nat.reduceAdd, Nat.reduceSub, Nat.reduceMul, Nat.reduceDiv, Nat.reduceMod, Nat.reduceLT, Nat.reduceLeDiff, Nat.reduceEqDiff, decide_true, decide_false, Nat.add_zero, Nat.zero_add, Nat.mul_one, Nat.one_mul, Nat.mul_zero, Nat.zero_mul, n0_gts, Prod.mk.injEq, modN, decide_eq_true_eq, decide_eq_false_iff_not, Bool.and_eq_true, Bool.or_eq_true, Bool.not_eq_true', Bool.not_eq_false', Bool.not_eq_true, Bool.not_eq_false, Bool.not_not, Bool.not_true, Bool.not_false, Bool.true_eq_false, Bool.false_eq_true, true_and, and_true, false_and, and_false, true_implies, false_implies, implies_true, not_true_eq_false, not_false_eq_true, ne_eq, Bool.and_eq_false_imp, Bool.or_eq_false_iff, eq_self, or_false, false_or, or_true, true_or, h5, hge, hnc, hk, h6]
  refine hQ _ (fun x y h1 h2 => ?_) ?_ ⟨?_, ?_, ?_, ?_, ?_, ?_, ?_⟩ rfl rfl rfl
  · have e : ∀ (S : Sg) (j : Nat) (v : Int32), (x ≠ k ∨ y ≠ j) → fi (ufi S k j v) x y = fi S x y := fun S j v h => by
      rcases h with h | h
      · exact fi_ufi1 _ _ _ _ _ _ h
      · exact fi_ufi2 _ _ _ _ _ _ h
    have e2 : ∀ (S : Sg) (v : Int32), fi (ufi S 29 5 v) x y = fi S x y := fun S v => by
      rcases h2 with h | h
      · exact fi_ufi1 _ _ _ _ _ _ h
      · exact fi_ufi2 _ _ _ _ _ _ h
    rw [e2, e _ _ _ (by omega), e _ _ _ (by omega), e _ _ _ (by omega), e _ _ _ (by omega), e _ _ _ (by omega), e _ _ _ (by omega), e _ _ _ (by omega)]
  · simp (disch := omega) only [fi_ufi, fi_ufi1, fi_ufi2, fb_ufb, fb_ufb1, fb_ufb2, fl_ufl, fl_ufl1, fl_ufl2, fr_ufr, fr_ufr1, fr_ufr2, ai_sa, ai_sa1, ab_sab, ab_sab1, ar_sar, ar_sar1, upf_eq, upf_ne, fi_ufb, fi_ufl, fi_ufr, fi_sa, fi_sab, fi_sar, fb_ufi, fb_ufl, fb_ufr, fb_sa, fb_sab, fb_sar, fl_ufi, fl_ufb, fl_ufr, fl_sa, fl_sab, fl_sar, fr_ufi, fr_ufb, fr_ufl, fr_sa, fr_sab, fr_sar, ai_ufi, ai_ufb, ai_ufl, ai_ufr, ai_sab, ai_sar, ab_ufi, ab_ufb, ab_ufl, ab_ufr, ab_sa, ab_sar, ar_ufi, ar_ufb, ar_ufl, ar_ufr, ar_sa, ar_sab, sa_sa, sab_sab, sar_sar, upf_upf, ufi_ufi]
  · simp (disch := omega) only [fi_ufi, fi_ufi1, fi_ufi2, fb_ufb, fb_ufb1, fb_ufb2, fl_ufl, fl_ufl1, fl_ufl2, fr_ufr, fr_ufr1, fr_ufr2, ai_sa, ai_sa1, ab_sab, ab_sab1, ar_sar, ar_sar1, upf_eq, upf_ne, fi_ufb, fi_ufl, fi_ufr, fi_sa, fi_sab, fi_sar, fb_ufi, fb_ufl, fb_ufr, fb_sa, fb_sab, fb_sar, fl_ufi, fl_ufb, fl_ufr, fl_sa, fl_sab, fl_sar, fr_ufi, fr_ufb, fr_ufl, fr_sa, fr_sab, fr_sar, ai_ufi, ai_ufb, ai_ufl, ai_ufr, ai_sab, ai_sar, ab_ufi, ab_ufb, ab_ufl, ab_ufr, ab_sa, ab_sar, ar_ufi, ar_ufb, ar_ufl, ar_ufr, ar_sa, ar_sab, sa_sa, sab_sab, sar_sar, upf_upf, ufi_ufi]
  · simp (disch := omega) only [fi_ufi, fi_ufi1, fi_ufi2, fb_ufb, fb_ufb1, fb_ufb2, fl_ufl, fl_ufl1, fl_ufl2, fr_ufr, fr_ufr1, fr_ufr2, ai_sa, ai_sa1, ab_sab, ab_sab1, ar_sar, ar_sar1, upf_eq, upf_ne, fi_ufb, fi_ufl, fi_ufr, fi_sa, fi_sab, fi_sar, fb_ufi, fb_ufl, fb_ufr, fb_sa, fb_sab, fb_sar, fl_ufi, fl_ufb, fl_ufr, fl_sa, fl_sab, fl_sar, fr_ufi, fr_ufb, fr_ufl, fr_sa, fr_sab, fr_sar, ai_ufi, ai_ufb, ai_ufl, ai_ufr, ai_sab, ai_sar, ab_ufi, ab_ufb, ab_ufl, ab_ufr, ab_sa, ab_sar, ar_ufi, ar_ufb, ar_ufl, ar_ufr, ar_sa, ar_sab, sa_sa, sab_sab, sar_sar, upf_upf, ufi_ufi]
  · simp (disch := omega) only [fi_ufi, fi_ufi1, fi_ufi2, fb_ufb, fb_ufb1, fb_ufb2, fl_ufl, fl_ufl1, fl_ufl2, fr_ufr, fr_ufr1, fr_ufr2, ai_sa, ai_sa1, ab_sab, ab_sab1, ar_sar, ar_sar1, upf_eq, upf_ne, fi_ufb, fi_ufl, fi_ufr, fi_sa, fi_sab, fi_sar, fb_ufi, fb_ufl, fb_ufr, fb_sa, fb_sab, fb_sar, fl_ufi, fl_ufb, fl_ufr, fl_sa, fl_sab, fl_sar, fr_ufi, fr_ufb, fr_ufl, fr_sa, fr_sab, fr_sar, ai_ufi, ai_ufb, ai_ufl, ai_ufr, ai_sab, ai_sar, ab_ufi, ab_ufb, ab_ufl, ab_ufr, ab_sa, ab_sar, ar_ufi, ar_ufb, ar_ufl, ar_ufr, ar_sa, ar_sab, sa_sa, sab_sab, sar_sar, upf_upf, ufi_ufi]
  · simp (disch := omega) only [fi_ufi, fi_ufi1, fi_ufi2, fb_ufb, fb_ufb1, fb_ufb2, fl_ufl, fl_ufl1, fl_ufl2, fr_ufr, fr_ufr1, fr_ufr2, ai_sa, ai_sa1, ab_sab, ab_sab1, ar_sar, ar_sar1, upf_eq, upf_ne, fi_ufb, fi_ufl, fi_ufr, fi_sa, fi_sab, fi_sar, fb_ufi, fb_ufl, fb_ufr, fb_sa, fb_sab, fb_sar, fl_ufi, fl_ufb, fl_ufr, fl_sa, fl_sab, fl_sar, fr_ufi, fr_ufb, fr_ufl, fr_sa, fr_sab, fr_sar, ai_ufi, ai_ufb, ai_ufl, ai_ufr, ai_sab, ai_sar, ab_ufi, ab_ufb, ab_ufl, ab_ufr, ab_sa, ab_sar, ar_ufi, ar_ufb, ar_ufl, ar_ufr, ar_sa, ar_sab, sa_sa, sab_sab, sar_sar, upf_upf, ufi_ufi]
  · simp (disch := omega) only [fi_ufi, fi_ufi1, fi_ufi2, fb_ufb, fb_ufb1, fb_ufb2, fl_ufl, fl_ufl1, fl_ufl2, fr_ufr, fr_ufr1, fr_ufr2, ai_sa, ai_sa1, ab_sab, ab_sab1, ar_sar, ar_sar1, upf_eq, upf_ne, fi_ufb, fi_ufl, fi_ufr, fi_sa, fi_sab, fi_sar, fb_ufi, fb_ufl, fb_ufr, fb_sa, fb_sab, fb_sar, fl_ufi, fl_ufb, fl_ufr, fl_sa, fl_sab, fl_sar, fr_ufi, fr_ufb, fr_ufl, fr_sa, fr_sab, fr_sar, ai_ufi, ai_ufb, ai_ufl, ai_ufr, ai_sab, ai_sar, ab_ufi, ab_ufb, ab_ufl, ab_ufr, ab_sa, ab_sar, ar_ufi, ar_ufb, ar_ufl, ar_ufr, ar_sa, ar_sab, sa_sa, sab_sab, sar_sar, upf_upf, ufi_ufi]
  · simp (disch := omega) only [fi_ufi, fi_ufi1, fi_ufi2, fb_ufb, fb_ufb1, fb_ufb2, fl_ufl, fl_ufl1, fl_ufl2, fr_ufr, fr_ufr1, fr_ufr2, ai_sa, ai_sa1, ab_sab, ab_sab1, ar_sar, ar_sar1, upf_eq, upf_ne, fi_ufb, fi_ufl, fi_ufr, fi_sa, fi_sab, fi_sar, fb_ufi, fb_ufl, fb_ufr, fb_sa, fb_sab, fb_sar, fl_ufi, fl_ufb, fl_ufr, fl_sa, fl_sab, fl_sar, fr_ufi, fr_ufb, fr_ufl, fr_sa, fr_sab, fr_sar, ai_ufi, ai_ufb, ai_ufl, ai_ufr, ai_sab, ai_sar, ab_ufi, ab_ufb, ab_ufl, ab_ufr, ab_sa, ab_sar, ar_ufi, ar_ufb, ar_ufl, ar_ufr, ar_sa, ar_sab, sa_sa, sab_sab, sar_sar, upf_upf, ufi_ufi]
  · simp (disch := omega) only [fi_ufi, fi_ufi1, fi_ufi2, fb_ufb, fb_ufb1, fb_ufb2, fl_ufl, fl_ufl1, fl_ufl2, fr_ufr, fr_ufr1, fr_ufr2, ai_sa, ai_sa1, ab_sab, ab_sab1, ar_sar, ar_sar1, upf_eq, upf_ne, fi_ufb, fi_ufl, fi_ufr, fi_sa, fi_sab, fi_sar, fb_ufi, fb_ufl, fb_ufr, fb_sa, fb_sab, fb_sar, fl_ufi, fl_ufb, fl_ufr, fl_sa, fl_sab, fl_sar, fr_ufi, fr_ufb, fr_ufl, fr_sa, fr_sab, fr_sar, ai_ufi, ai_ufb, ai_ufl, ai_ufr, ai_sab, ai_sar, ab_ufi, ab_ufb, ab_ufl, ab_ufr, ab_sa, ab_sar, ar_ufi, ar_ufb, ar_ufl, ar_ufr, ar_sa, ar_sab, sa_sa, sab_sab, sar_sar, upf_upf, ufi_ufi]
def adC : List Nat := 24 :: 25 :: 26 :: daC
def adY : List Nat := 147 :: 148 :: 149 :: daY
def adZ : List Nat := [24, 34, 36, 37, 39]
def nE (E : Nat → Nat → Nat) (nc a b n k fx m : Nat) : Nat → Nat → Nat := fun x c => if c = nc then (if x = 0 then a else if x = 1 then b else if x = 2 then n else if x = 3 then k else if x = 4 then fx else m) else E x c
def nD (D : Nat → Nat → Nat) (nc : Nat) : Nat → Nat → Nat := fun x c => if c = nc then 0 else D x c
theorem nE_ne {E : Nat → Nat → Nat} {nc a b n k fx m x c : Nat} (h : c ≠ nc) : nE E nc a b n k fx m x c = E x c := by unfold nE; rw [if_neg h]
theorem nD_ne {D : Nat → Nat → Nat} {nc x c : Nat} (h : c ≠ nc) : nD D nc x c = D x c := by unfold nD; rw [if_neg h]
theorem nD_eq {D : Nat → Nat → Nat} {nc x : Nat} : nD D nc x nc = 0 := by unfold nD; rw [if_pos rfl]
section
variable {nw nof : Nat} {A B M cn : Nat → Nat} {nc m : Nat} {E D : Nat → Nat → Nat} {hd : Nat → Option Nat} {SC SR : Sg} {no : Nat}
/-- the day with a call more -/
theorem ID_new (HD : ID nw M nc m E D hd SC SR) (hnc : nc < 40) (hm : m < 480) {a b n k fx v : Nat} (ha : a < 8) (hb : b < 8) (hab : a ≠ b) (hn : n ≤ 60) (hk : k ≤ 2) (hfx : fx < 480) (hv : v < 1000000) {SC' SR' : Sg}
    (f1 : ∀ x y, (x ≠ 29 + 6 + nc ∨ 7 ≤ y) → (x ≠ 29 ∨ y ≠ 5) → x ∈ dayC → fi SC' x y = fi SC x y) (f2 : fi SC' 29 5 = Int32.ofNat (nc + 1)) (f3 : fi SC' (29 + 6 + nc) 0 = Int32.ofNat a ∧ fi SC' (29 + 6 + nc) 1 = Int32.ofNat b ∧ fi SC' (29 + 6 + nc) 2 = Int32.ofNat n ∧ fi SC' (29 + 6 + nc) 3 = Int32.ofNat k ∧ fi SC' (29 + 6 + nc) 4 = (if k = 2 then Int32.ofNat fx else nn) ∧ fi SC' (29 + 6 + nc) 5 = Int32.ofNat m ∧ fi SC' (29 + 6 + nc) 6 = Int32.ofNat v) (f4 : ∀ x, x ∈ dayC → fb SC' x = fb SC x) (f5 : ai SC' 31 = ai SC 31 ∧ ai SC' 32 = ai SC 32)
    (r1 : fi SR' 127 39 = Int32.ofNat (nc + 1)) (r2 : fi SR' 127 38 = fi SR 127 38 ∧ fi SR' 127 59 = fi SR 127 59) (r3 : ai SR' 150 = upf (ai SR 150) nc (Int32.ofNat a)) (r4 : ai SR' 151 = upf (ai SR 151) nc (Int32.ofNat b)) (r5 : ai SR' 152 = upf (ai SR 152) nc (Int32.ofNat n)) (r6 : ai SR' 153 = upf (ai SR 153) nc (Int32.ofNat k)) (r7 : ai SR' 154 = upf (ai SR 154) nc (if k = 2 then Int32.ofNat fx else nn)) (r8 : ai SR' 155 = upf (ai SR 155) nc (Int32.ofNat m)) (r9 : ai SR' 156 = upf (ai SR 156) nc (Int32.ofNat v)) (r10 : ab SR' 157 = upf (ab SR 157) nc false) (r11 : ai SR' 158 = upf (ai SR 158) nc (Int32.ofNat 0)) (r12 : ai SR' 159 = upf (ai SR 159) nc nn) (r13 : ai SR' 160 = upf (ai SR 160) nc nn) (r14 : ai SR' 161 = upf (ai SR 161) nc (Int32.ofNat 0)) (r15 : ai SR' 162 = upf (ai SR 162) nc (Int32.ofNat 0)) (r16 : ai SR' 163 = upf (ai SR 163) nc nn) (r17 : ai SR' 164 = upf (ai SR 164) nc (Int32.ofNat 0)) (r18 : ai SR' 165 = ai SR 165 ∧ ai SR' 166 = ai SR 166 ∧ ai SR' 167 = ai SR 167 ∧ ai SR' 168 = ai SR 168) : ID nw M (nc + 1) m (nE E nc a b n k fx m) (nD D nc) hd SC' SR' := by
  obtain ⟨d1, d2, d3, d4, d5, d6, d7, d8, ⟨d9, d9', d9''⟩, d10⟩ := HD
  obtain ⟨⟨g1, g2, g3, hf⟩, ⟨c1, c2, c3⟩, ⟨q1, q2, q3, q4⟩, hK, h6s, hH1, hH2⟩ := d1
  have l29 : ∀ y, y ≠ 5 → fi SC' 29 y = fi SC 29 y := fun y h => f1 29 y (Or.inl (by omega)) (Or.inr h) (by decide)
  have lc : ∀ c y, c < 40 → (c ≠ nc ∨ 7 ≤ y) → fi SC' (29 + 6 + c) y = fi SC (29 + 6 + c) y := fun c y hc h => f1 _ y (by omega) (Or.inl (by omega)) (dayC_c c hc)
  have hnone : ∀ w, w < nw → hd w ≠ some nc := fun w hw h => by have := (hH1 w nc hw h).2.1; omega
  obtain ⟨z9, z10, z11, z12, z13, z14, z15, z16, z7, z8⟩ := d9'' nc (Nat.le_refl _) hnc
  refine ⟨⟨⟨Nat.le_refl _, by omega, g3, hf⟩, ⟨f2, by rw [l29 _ (by decide)]; exact c2, fun c hc => ?_⟩, ⟨r1, by rw [r18.2.1]; exact q2, fun c hc => ?_, fun c h1 h2 => by omega⟩, fun c hc => ?_, fun c hc => ?_, fun w c hw h => ?_, fun c j hc hs hj => ?_⟩, fun c hc => ?_, d3, by rw [l29 _ (by decide)]; exact d4, by rw [r2.1]; exact d5, by rw [l29 _ (by decide), r2.2]; exact d6, by rw [l29 _ (by decide)]; exact d7, by rw [l29 _ (by decide)]; exact d8, ⟨fun c hc => ?_, fun c d h1 h2 => ?_, fun c h1 h2 => ?_⟩, fun w hw => ?_⟩
  · unfold KC
    by_cases e : c = nc
    · subst e
      rw [nD_eq, nD_eq, nD_eq, nD_eq, nD_eq, nD_eq, nD_eq, lc _ 9 hnc (Or.inr (by decide)), lc _ 10 hnc (Or.inr (by decide)), lc _ 11 hnc (Or.inr (by decide)), lc _ 12 hnc (Or.inr (by decide)), lc _ 13 hnc (Or.inr (by decide)), lc _ 14 hnc (Or.inr (by decide)), lc _ 15 hnc (Or.inr (by decide)), lc _ 16 hnc (Or.inr (by decide)), z9, z10, z11, z12, z13, z14, z15, z16]
      exact ⟨rfl, rfl, fun _ => rfl, rfl, rfl, rfl, Bs_emp fun w hw h => hnone w hw h, fun h => by omega⟩
    · have z : ∀ x, nD D nc x c = D x c := fun x => nD_ne e
      have l : ∀ y, fi SC' (29 + 6 + c) y = fi SC (29 + 6 + c) y := fun y => lc c y (by omega) (Or.inl e)
      rw [z, z, z, z, z, z, z, l, l, l, l, l, l, l, l]
      exact c3 c (by omega)
  · unfold KR
    rw [r11, r12, r13, r14, r15, r16, r17, r18.1]
    by_cases e : c = nc
    · subst e
      have w0 : wN 0 = 0 := rfl
      rw [nD_eq, nD_eq, nD_eq, nD_eq, nD_eq, nD_eq, nD_eq, upf_eq, upf_eq, upf_eq, upf_eq, upf_eq, upf_eq, upf_eq, w0]
      exact ⟨rfl, rfl, fun _ => rfl, rfl, fun _ => rfl, fun h => by omega, fun _ => ⟨rfl, fun j hj => by omega⟩⟩
    · have z : ∀ x, nD D nc x c = D x c := fun x => nD_ne e
      rw [z, z, z, z, z, z, z, upf_ne _ _ _ _ e, upf_ne _ _ _ _ e, upf_ne _ _ _ _ e, upf_ne _ _ _ _ e, upf_ne _ _ _ _ e, upf_ne _ _ _ _ e, upf_ne _ _ _ _ e]
      exact q3 c (by omega)
  · unfold KI
    by_cases e : c = nc
    · subst e
      rw [nD_eq, nD_eq, nD_eq, nD_eq, nD_eq, nD_eq, nD_eq]
      exact ⟨by omega, Or.inl rfl, fun _ => ⟨rfl, rfl⟩, by omega, by omega, fun _ => rfl, by omega, by omega, by omega, by omega⟩
    · have z : ∀ x, nD D nc x c = D x c := fun x => nD_ne e
      rw [z, z, z, z, z, z, z, nE_ne e, nE_ne e, nE_ne e]
      exact hK c (by omega)
  · rw [nD_ne (by omega)]; exact h6s c (by omega)
  · have e : c ≠ nc := fun e => hnone w hw (by rw [← e]; exact h)
    have z : ∀ x, nD D nc x c = D x c := fun x => nD_ne e
    rw [z, z, z]
    obtain ⟨p1, p2, p3⟩ := hH1 w c hw h
    exact ⟨p1, by omega, p3⟩
  · have e : c ≠ nc := fun e => by subst e; rw [nD_eq] at hj; omega
    have z : ∀ x, nD D nc x c = D x c := fun x => nD_ne e
    rw [z] at hs hj
    rw [z]
    exact hH2 c j (by omega) hs hj
  · rw [r3, r4, r5, r6, r7, r8]
    by_cases e : c = nc
    · subst e
      have e0 : nE E c a b n k fx m 0 c = a := by simp [nE]
      have e1 : nE E c a b n k fx m 1 c = b := by simp [nE]
      have e2 : nE E c a b n k fx m 2 c = n := by simp [nE]
      have e3 : nE E c a b n k fx m 3 c = k := by simp [nE]
      have e4 : nE E c a b n k fx m 4 c = fx := by simp [nE]
      have e5 : nE E c a b n k fx m 5 c = m := by simp [nE]
      rw [e0, e1, e2, e3, e4, e5, upf_eq, upf_eq, upf_eq, upf_eq, upf_eq, upf_eq]
      exact ⟨ha, hb, hab, hn, hk, fun _ => hfx, hm, ⟨rfl, rfl, rfl, rfl, rfl, rfl⟩, fun _ => ⟨f3.1, f3.2.1, f3.2.2.1, f3.2.2.2.1, f3.2.2.2.2.1, f3.2.2.2.2.2.1⟩⟩
    · have l : ∀ y, fi SC' (29 + 6 + c) y = fi SC (29 + 6 + c) y := fun y => lc c y (by omega) (Or.inl e)
      rw [nE_ne e, nE_ne e, nE_ne e, nE_ne e, nE_ne e, nE_ne e, upf_ne _ _ _ _ e, upf_ne _ _ _ _ e, upf_ne _ _ _ _ e, upf_ne _ _ _ _ e, upf_ne _ _ _ _ e, upf_ne _ _ _ _ e, l, l, l, l, l, l]
      obtain ⟨s1, s2, s3, s4, s5, s6, s7, s8, s9⟩ := d2 c (by omega)
      exact ⟨s1, s2, s3, s4, s5, s6, s7, s8, fun _ => s9 (by omega)⟩
  · rw [r9, r10, f4 _ (dayC_c c (by omega))]
    by_cases e : c = nc
    · subst e
      have e5 : nE E c a b n k fx m 5 c = m := by simp [nE]
      rw [nD_eq, nD_eq, upf_eq, upf_eq, e5, lc _ 7 hnc (Or.inr (by decide)), z7, z8, if_neg (by decide)]
      exact ⟨⟨v, hv, f3.2.2.2.2.2.2, rfl⟩, rfl, rfl, fun h => by omega, Nat.le_refl _⟩
    · have l : ∀ y, fi SC' (29 + 6 + c) y = fi SC (29 + 6 + c) y := fun y => lc c y (by omega) (Or.inl e)
      rw [nD_ne e, nD_ne e, nE_ne e, upf_ne _ _ _ _ e, upf_ne _ _ _ _ e, l, l]
      exact d9 c (by omega)
  · have e5 : nE E nc a b n k fx m 5 nc = m := by simp [nE]
    by_cases e : d = nc
    · subst e
      by_cases e2 : c = d
      · subst e2; exact Nat.le_refl _
      · rw [e5, nE_ne e2]; exact (d9 c (by omega)).2.2.2.2
    · rw [nE_ne e, nE_ne (show c ≠ nc by omega)]; exact d9' c d h1 (by omega)
  · have l : ∀ y, fi SC' (29 + 6 + c) y = fi SC (29 + 6 + c) y := fun y => lc c y h2 (Or.inl (by omega))
    rw [l, l, l, l, l, l, l, l, l, f4 _ (dayC_c c h2)]
    exact d9'' c (by omega) h2
  · rw [f5.1, f5.2, r18.2.2.1, r18.2.2.2]; exact d10 w hw
end
