/-! the class's rules looked up -/
def sfc (S : Sg) (a : Nat) (g : Nat → Int32) : Sg := ((fun x => if x = a then g else S.1 x), S.2)
def RC (S : Sg) (q c25 c26 : Nat → Int32) : Sg := sa (sa (sfc S 24 q) 25 c25) 26 c26
theorem sfc_u (S : Sg) (a k : Nat) (g : Nat → Int32) (v : Int32) : ufi (sfc S a g) a k v = sfc S a (upf g k v) := by
  unfold ufi sfc up2
  congr 1
  funext x y
  by_cases h : x = a <;> simp [h, upf]
theorem sfc_at (S : Sg) (a k : Nat) (g : Nat → Int32) : fi (sfc S a g) a k = g k := by simp [fi, sfc]
theorem sfc_ne (S : Sg) (a a' k : Nat) (g : Nat → Int32) (h : a' ≠ a) : fi (sfc S a g) a' k = fi S a' k := by simp [fi, sfc, h]
section
variable (S : Sg) (q c25 c26 : Nat → Int32)
theorem RC_u (k : Nat) (v : Int32) : ufi (RC S q c25 c26) 24 k v = RC S (upf q k v) c25 c26 := by
  show sa (sa (ufi (sfc S 24 q) 24 k v) 25 c25) 26 c26 = _
  rw [sfc_u]
  rfl
theorem RC_5 (g : Nat → Int32) : sa (RC S q c25 c26) 25 g = RC S q g c26 := by
  unfold RC
  rw [sa_cm _ c26 _ (by decide), sa_sa]
theorem RC_6 (g : Nat → Int32) : sa (RC S q c25 c26) 26 g = RC S q c25 g := by
  unfold RC
  rw [sa_sa]
theorem RC_f (k : Nat) : fi (RC S q c25 c26) 24 k = q k := sfc_at S 24 k q
theorem RC_fx (a k : Nat) (h : a ≠ 24) : fi (RC S q c25 c26) a k = fi S a k := sfc_ne S 24 a k q h
theorem RC_a5 : ai (RC S q c25 c26) 25 = c25 := by
  unfold RC
  simp (disch := omega) only [fi_ufi, fi_ufi1, fi_ufi2, fb_ufb, fb_ufb1, fb_ufb2, fl_ufl, fl_ufl1, fl_ufl2, fr_ufr, fr_ufr1, fr_ufr2, ai_sa, ai_sa1, ab_sab, ab_sab1, ar_sar, ar_sar1, upf_eq, upf_ne, fi_ufb, fi_ufl, fi_ufr, fi_sa, fi_sab, fi_sar, fb_ufi, fb_ufl, fb_ufr, fb_sa, fb_sab, fb_sar, fl_ufi, fl_ufb, fl_ufr, fl_sa, fl_sab, fl_sar, fr_ufi, fr_ufb, fr_ufl, fr_sa, fr_sab, fr_sar, ai_ufi, ai_ufb, ai_ufl, ai_ufr, ai_sab, ai_sar, ab_ufi, ab_ufb, ab_ufl, ab_ufr, ab_sa, ab_sar, ar_ufi, ar_ufb, ar_ufl, ar_ufr, ar_sa, ar_sab, sa_sa, sab_sab, sar_sar, upf_upf, ufi_ufi]
theorem RC_a6 : ai (RC S q c25 c26) 26 = c26 := by
  unfold RC
  simp (disch := omega) only [fi_ufi, fi_ufi1, fi_ufi2, fb_ufb, fb_ufb1, fb_ufb2, fl_ufl, fl_ufl1, fl_ufl2, fr_ufr, fr_ufr1, fr_ufr2, ai_sa, ai_sa1, ab_sab, ab_sab1, ar_sar, ar_sar1, upf_eq, upf_ne, fi_ufb, fi_ufl, fi_ufr, fi_sa, fi_sab, fi_sar, fb_ufi, fb_ufl, fb_ufr, fb_sa, fb_sab, fb_sar, fl_ufi, fl_ufb, fl_ufr, fl_sa, fl_sab, fl_sar, fr_ufi, fr_ufb, fr_ufl, fr_sa, fr_sab, fr_sar, ai_ufi, ai_ufb, ai_ufl, ai_ufr, ai_sab, ai_sar, ab_ufi, ab_ufb, ab_ufl, ab_ufr, ab_sa, ab_sar, ar_ufi, ar_ufb, ar_ufl, ar_ufr, ar_sa, ar_sab, sa_sa, sab_sab, sar_sar, upf_upf, ufi_ufi]
theorem RC_ax (a : Nat) (h : a ≠ 25 ∧ a ≠ 26) : ai (RC S q c25 c26) a = ai S a := by
  unfold RC
  obtain ⟨h1, h2⟩ := h
  rw [ai_sa1 _ _ _ _ h2, ai_sa1 _ _ _ _ h1]
  rfl
theorem RC_fb : fb (RC S q c25 c26) = fb S := rfl
theorem RC_fl : fl (RC S q c25 c26) = fl S := rfl
theorem RC_fr : fr (RC S q c25 c26) = fr S := rfl
theorem RC_ab : ab (RC S q c25 c26) = ab S := rfl
theorem RC_ar : ar (RC S q c25 c26) = ar S := rfl
theorem RC_RC (q' c25' c26' : Nat → Int32) : RC (RC S q c25 c26) q' c25' c26' = RC S q' c25' c26' := by
  have e : sfc (RC S q c25 c26) 24 q' = sa (sa (sfc S 24 q') 25 c25) 26 c26 := by
    unfold RC sfc sa
    congr 1
    funext x
    by_cases h : x = 24 <;> simp [h]
  show sa (sa (sfc (RC S q c25 c26) 24 q') 25 c25') 26 c26' = sa (sa (sfc S 24 q') 25 c25') 26 c26'
  rw [e, sa_cm _ c26 c25' (by decide), sa_sa, sa_sa]
end
theorem RC_id (S : Sg) : RC S (fi S 24) (ai S 25) (ai S 26) = S := by
  have e : sfc S 24 (fi S 24) = S := by
    obtain ⟨s1, s2⟩ := S
    unfold sfc fi
    congr 1
    funext x
    by_cases h : x = 24 <;> simp [h]
  unfold RC
  rw [e, sa_id S 25, sa_id S 26]
section
variable {SC SR : Sg} {no : Nat} {mi cl kd : Nat → Nat}
theorem stk_lt (H : ODs no mi cl kd SC SR) {k x : Nat} (hk : k < no) (hx : x < 32) (h : stk cl kd (ai SC 21) k x = true) : x < k := by
  obtain ⟨h1, h2, h3, h4⟩ := H
  obtain ⟨m1, m2, m3, c1, c2, c3, c4⟩ := h4 k hk
  obtain ⟨j, hj, h8, hf⟩ := stk_iff.mp h
  obtain ⟨d1, d2, d3, d4⟩ := c4 j hj
  obtain ⟨kk, e1, e2, e3, e4, e5, -⟩ := d4
  rw [d2, ofN_inj (by omega) (by omega)] at e2
  obtain ⟨v, v1, v2, v3, v4, v5⟩ := e5 (by omega)
  rw [v2, ofN_inj (by omega) (by omega)] at hf
  have := v5 (by omega)
  omega
def dn (r : Nat) : Int32 := if r = 0 then nn else Int32.ofNat (r - 1)
theorem dn_sub (r : Nat) : Int32.ofNat r - Int32.ofNat 1 = dn r := by
  unfold dn
  split
  · next h => subst h; decide
  · rw [subN (by omega)]
theorem dn_dec (r : Nat) : Int32.ofNat r + nn = dn r := by
  unfold dn
  split
  · next h => subst h; decide
  · rw [decN (by omega)]
theorem dn_s (r : Nat) : dn (r + 1) = Int32.ofNat r := by simp [dn]
theorem dn_0 : dn 0 = nn := rfl
theorem wp_counting (H : ODs no mi cl kd SC SR) {s : Int32} (hs : ∀ x, no ≤ x → x < 32 → bt s x = false) {Q : Int32 → Sg → Prop} (hQ : ∀ r, (∀ x, x < 32 → bt r x = (decide (x < no) && onF no cl kd (ai SC 21) (bt s) no x)) → Q r SC) : WP (Rules_counting s) SC Q := by
  have H0 := H
  obtain ⟨h1, h2, h3, h4⟩ := H
  unfold Rules_counting
  simp (disch := omega) only [q_0, q_1, q_2, q_3, q_4, q_5, q_6, q_7, q_8, q_9, q_10, q_11, q_12, q_15, q_16, q_20, q_21, q_25, q_30, q_31, q_32, q_40, q_44, q_48, q_50, q_57, q_59, q_60, q_64, q_81, q_97, q_98, q_99, q_100, q_101, q_102, q_103, q_104, q_105, q_107, q_108, q_110, q_111, q_114, q_115, q_116, q_119, q_120, q_121, q_122, q_136, q_160, q_200, q_255, q_300, q_400, q_401, q_402, q_460, q_479, q_480, q_920, q_999, q_1000, q_1023, q_1024, q_4020, q_9999, q_99999, q_1000000, q_1000000000, q_100001, q_100002, q_100003, q_100004, q_400000, nn_1, r_0, r_1, r_2, r_3, r_4, r_6, r_7, r_8, r_9, r_10, r_11, r_21, r_40, r_48, r_57, r_60, r_97, r_122, r_200, r_300, r_479, r_920, r_9999, r_99999, r_m1, rd_pu, rd_gI, rd_gB, rd_gL, rd_gQ, rd_rI, rd_rB, rd_rQ, rd_rK, rd_dq, rd_cq, rd_div, rd_rem, rd_mb, rd_mif, rd_within, rd_in, Bool.true_and, Bool.and_true, Bool.cond_self, Bool.cond_false_right, Bool.cond_true_left, cond_true, cond_false, rd_sAt, wp_rd, wp_mb, wp_mif, wp_sI, wp_sB, wp_sL, wp_sQ, wp_wI, wp_wB, wp_wQ, orR_l, orR_r, orE_l, orE_r, sK_l, sK_r, sK_c, cond_tr, fi_ufi, fi_ufi1, fi_ufi2, fb_ufb, fb_ufb1, fb_ufb2, fl_ufl, fl_ufl1, fl_ufl2, fr_ufr, fr_ufr1, fr_ufr2, ai_sa, ai_sa1, ab_sab, ab_sab1, ar_sar, ar_sar1, upf_eq, upf_ne, fi_ufb, fi_ufl, fi_ufr, fi_sa, fi_sab, fi_sar, fb_ufi, fb_ufl, fb_ufr, fb_sa, fb_sab, fb_sar, fl_ufi, fl_ufb, fl_ufr, fl_sa, fl_sab, fl_sar, fr_ufi, fr_ufb, fr_ufl, fr_sa, fr_sab, fr_sar, ai_ufi, ai_ufb, ai_ufl, ai_ufr, ai_sab, ai_sar, ab_ufi, ab_ufb, ab_ufl, ab_ufr, ab_sa, ab_sar, ar_ufi, ar_ufb, ar_ufl, ar_ufr, ar_sa, ar_sab, sa_sa, sab_sab, sar_sar, upf_upf, ufi_ufi, tnN, inbN, addN, subN, mulN, decN, divN, remN, n2_lt, n2_le, n2_gt, n2_ge, n2_eq, n2_ne, n0_lt, n0_ge, n0_gt, n0_le, n0_eq, n0_ne, m2_eq, m2_ne, m2_eqq, m2_neq, m0_lt, m0_ge, m0_eq, m0_ne, m2_eqN, m2_neN, wi_N, wi_P, wi_NN, inN_N, li_wi, Nat.reduceAdd, Nat.reduceSub, Nat.reduceMul, Nat.reduceDiv, Nat.reduceMod, Nat.reduceLT, Nat.reduceLeDiff, Nat.reduceEqDiff, decide_true, decide_false, Nat.add_zero, Nat.zero_add, Nat.mul_one, Nat.one_mul, Nat.mul_zero, Nat.zero_mul, n0_gts, Prod.mk.injEq, modN, decide_eq_true_eq, decide_eq_false_iff_not, Bool.and_eq_true, Bool.or_eq_true, Bool.not_eq_true', Bool.not_eq_false', Bool.not_eq_true, Bool.not_eq_false, Bool.not_not, Bool.not_true, Bool.not_false, Bool.true_eq_false, Bool.false_eq_true, true_and, and_true, false_and, and_false, true_implies, false_implies, implies_true, not_true_eq_false, not_false_eq_true, ne_eq, Bool.and_eq_false_imp, Bool.or_eq_false_iff, eq_self, or_false, false_or, or_true, true_or]
  refine WP.mono (wp_for no (by unfold FU; omega) (fun j a S' => SC = S' ∧ a.2.2 = dn (no - j) ∧ (∀ x, x < no - j → (bt s x && !bt a.2.1 x) = onF no cl kd (ai SC 21) (bt s) j x) ∧ (∀ x, x < 32 → bt a.1 x = (decide (no - j ≤ x ∧ x < no) && onF no cl kd (ai SC 21) (bt s) j x))) ?_ ⟨rfl, by rw [h2, dn_sub]; rfl, fun x hx => by rw [bt_zero]; simp [onF], fun x hx => ?_⟩ (Q := fun r S' => SC = S' ∧ ∀ x, x < 32 → bt r.1 x = (decide (x < no) && onF no cl kd (ai SC 21) (bt s) no x))) ?_
  · rintro j ⟨c, t, u⟩ S' hj ⟨rfl, hu, hA, hB⟩
    simp only at hu hA hB
    unfold Rules_counting_l1
    by_cases hjn : j < no
    · obtain ⟨n, hn⟩ : ∃ n, no - j = n + 1 := ⟨no - j - 1, by omega⟩
      rw [hn, dn_s] at hu
      subst hu
      have eu2 : no - (j + 1) = n := by omega
      have hn' : no - 1 - j = n := by omega
      have hnn : n < no := by omega
      have hAn := hA n (by omega)
      have hbit : cmp0 .ne (jsr' (s &&& (t ^^^ nn)) (Int32.ofNat n) &&& Int32.ofNat 1) = onF no cl kd (ai SC 21) (bt s) j n := by
        rw [bt_ne0 _ (by omega), bt_and, bt_not _ (by omega), hAn]
      have hstep : ∀ x, onF no cl kd (ai SC 21) (bt s) (j + 1) x = (onF no cl kd (ai SC 21) (bt s) j x && !(onF no cl kd (ai SC 21) (bt s) j n && stk cl kd (ai SC 21) n x)) := fun x => by simp only [onF, hn']
      have hsf : ∀ x, n ≤ x → x < 32 → stk cl kd (ai SC 21) n x = false := fun x h1 h2 => by
        cases h : stk cl kd (ai SC 21) n x
        · rfl
        · have := stk_lt H0 hnn h2 h; omega
      cases hon : onF no cl kd (ai SC 21) (bt s) j n
      · rw [hon] at hbit
        simp (disch := omega) only [q_0, q_1, q_2, q_3, q_4, q_5, q_6, q_7, q_8, q_9, q_10, q_11, q_12, q_15, q_16, q_20, q_21, q_25, q_30, q_31, q_32, q_40, q_44, q_48, q_50, q_57, q_59, q_60, q_64, q_81, q_97, q_98, q_99, q_100, q_101, q_102, q_103, q_104, q_105, q_107, q_108, q_110, q_111, q_114, q_115, q_116, q_119, q_120, q_121, q_122, q_136, q_160, q_200, q_255, q_300, q_400, q_401, q_402, q_460, q_479, q_480, q_920, q_999, q_1000, q_1023, q_1024, q_4020, q_9999, q_99999, q_1000000, q_1000000000, q_100001, q_100002, q_100003, q_100004, q_400000, nn_1, r_0, r_1, r_2, r_3, r_4, r_6, r_7, r_8, r_9, r_10, r_11, r_21, r_40, r_48, r_57, r_60, r_97, r_122, r_200, r_300, r_479, r_920, r_9999, r_99999, r_m1, rd_pu, rd_gI, rd_gB, rd_gL, rd_gQ, rd_rI, rd_rB, rd_rQ, rd_rK, rd_dq, rd_cq, rd_div, rd_rem, rd_mb, rd_mif, rd_within, rd_in, Bool.true_and, Bool.and_true, Bool.cond_self, Bool.cond_false_right, Bool.cond_true_left, cond_true, cond_false, rd_sAt, wp_rd, wp_mb, wp_mif, wp_sI, wp_sB, wp_sL, wp_sQ, wp_wI, wp_wB, wp_wQ, orR_l, orR_r, orE_l, orE_r, sK_l, sK_r, sK_c, cond_tr, fi_ufi, fi_ufi1, fi_ufi2, fb_ufb, fb_ufb1, fb_ufb2, fl_ufl, fl_ufl1, fl_ufl2, fr_ufr, fr_ufr1, fr_ufr2, ai_sa, ai_sa1, ab_sab, ab_sab1, ar_sar, ar_sar1, upf_eq, upf_ne, fi_ufb, fi_ufl, fi_ufr, fi_sa, fi_sab, fi_sar, fb_ufi, fb_ufl, fb_ufr, fb_sa, fb_sab, fb_sar, fl_ufi, fl_ufb, fl_ufr, fl_sa, fl_sab, fl_sar, fr_ufi, fr_ufb, fr_ufl, fr_sa, fr_sab, fr_sar, ai_ufi, ai_ufb, ai_ufl, ai_ufr, ai_sab, ai_sar, ab_ufi, ab_ufb, ab_ufl, ab_ufr, ab_sa, ab_sar, ar_ufi, ar_ufb, ar_ufl, ar_ufr, ar_sa, ar_sab, sa_sa, sab_sab, sar_sar, upf_upf, ufi_ufi, decide_eq_true_eq, decide_eq_false_iff_not, Bool.and_eq_true, Bool.or_eq_true, Bool.not_eq_true', Bool.not_eq_false', Bool.not_eq_true, Bool.not_eq_false, Bool.not_not, Bool.not_true, Bool.not_false, Bool.true_eq_false, Bool.false_eq_true, true_and, and_true, false_and, and_false, true_implies, false_implies, implies_true, not_true_eq_false, not_false_eq_true, ne_eq, Bool.and_eq_false_imp, Bool.or_eq_false_iff, eq_self, or_false, false_or, or_true, true_or, n0_ge, hbit, dn_dec, eu2]
        refine ⟨hjn, fun x hx => ?_, fun x hx => ?_⟩
        · rw [hstep x, hon, hA x (by omega)]; simp
        · rw [hstep x, hon, hB x hx]
          by_cases hxn : x = n
          · subst hxn
            rw [hon]; simp
          · have e : decide (no - j ≤ x ∧ x < no) = decide (n ≤ x ∧ x < no) := by congr 1; exact propext (by omega)
            rw [e]
            simp
      · rw [hon] at hbit
        simp (disch := omega) only [q_0, q_1, q_2, q_3, q_4, q_5, q_6, q_7, q_8, q_9, q_10, q_11, q_12, q_15, q_16, q_20, q_21, q_25, q_30, q_31, q_32, q_40, q_44, q_48, q_50, q_57, q_59, q_60, q_64, q_81, q_97, q_98, q_99, q_100, q_101, q_102, q_103, q_104, q_105, q_107, q_108, q_110, q_111, q_114, q_115, q_116, q_119, q_120, q_121, q_122, q_136, q_160, q_200, q_255, q_300, q_400, q_401, q_402, q_460, q_479, q_480, q_920, q_999, q_1000, q_1023, q_1024, q_4020, q_9999, q_99999, q_1000000, q_1000000000, q_100001, q_100002, q_100003, q_100004, q_400000, nn_1, r_0, r_1, r_2, r_3, r_4, r_6, r_7, r_8, r_9, r_10, r_11, r_21, r_40, r_48, r_57, r_60, r_97, r_122, r_200, r_300, r_479, r_920, r_9999, r_99999, r_m1, rd_pu, rd_gI, rd_gB, rd_gL, rd_gQ, rd_rI, rd_rB, rd_rQ, rd_rK, rd_dq, rd_cq, rd_div, rd_rem, rd_mb, rd_mif, rd_within, rd_in, Bool.true_and, Bool.and_true, Bool.cond_self, Bool.cond_false_right, Bool.cond_true_left, cond_true, cond_false, rd_sAt, wp_rd, wp_mb, wp_mif, wp_sI, wp_sB, wp_sL, wp_sQ, wp_wI, wp_wB, wp_wQ, orR_l, orR_r, orE_l, orE_r, sK_l, sK_r, sK_c, cond_tr, fi_ufi, fi_ufi1, fi_ufi2, fb_ufb, fb_ufb1, fb_ufb2, fl_ufl, fl_ufl1, fl_ufl2, fr_ufr, fr_ufr1, fr_ufr2, ai_sa, ai_sa1, ab_sab, ab_sab1, ar_sar, ar_sar1, upf_eq, upf_ne, fi_ufb, fi_ufl, fi_ufr, fi_sa, fi_sab, fi_sar, fb_ufi, fb_ufl, fb_ufr, fb_sa, fb_sab, fb_sar, fl_ufi, fl_ufb, fl_ufr, fl_sa, fl_sab, fl_sar, fr_ufi, fr_ufb, fr_ufl, fr_sa, fr_sab, fr_sar, ai_ufi, ai_ufb, ai_ufl, ai_ufr, ai_sab, ai_sar, ab_ufi, ab_ufb, ab_ufl, ab_ufr, ab_sa, ab_sar, ar_ufi, ar_ufb, ar_ufl, ar_ufr, ar_sa, ar_sab, sa_sa, sab_sab, sar_sar, upf_upf, ufi_ufi, decide_eq_true_eq, decide_eq_false_iff_not, Bool.and_eq_true, Bool.or_eq_true, Bool.not_eq_true', Bool.not_eq_false', Bool.not_eq_true, Bool.not_eq_false, Bool.not_not, Bool.not_true, Bool.not_false, Bool.true_eq_false, Bool.false_eq_true, true_and, and_true, false_and, and_false, true_implies, false_implies, implies_true, not_true_eq_false, not_false_eq_true, ne_eq, Bool.and_eq_false_imp, Bool.or_eq_false_iff, eq_self, or_false, false_or, or_true, true_or, n0_ge, hbit, dn_dec, eu2]
        refine wp_struckBy H0 hnn fun st hst => ?_
        refine ⟨hjn, rfl, fun x hx => ?_, fun x hx => ?_⟩
        · rw [hstep x, hon, bt_or, hst x (by omega), ← hA x (by omega)]
          cases bt s x <;> cases bt t x <;> cases stk cl kd (ai SC 21) n x <;> rfl
        · rw [hstep x, hon, bt_or, bt_one (by omega) hx, hB x hx]
          by_cases hxn : x = n
          · subst hxn
            rw [hon, hsf x (Nat.le_refl _) hx]
            have e : decide (x ≤ x ∧ x < no) = true := by rw [decide_eq_true_eq]; omega
            rw [e]
            simp
          · have e : decide (no - j ≤ x ∧ x < no) = decide (n ≤ x ∧ x < no) := by congr 1; exact propext (by omega)
            rw [← e]
            simp only [hxn, decide_false, Bool.or_false, Bool.true_and]
            by_cases hlo : no - j ≤ x ∧ x < no
            · rw [hsf x (by omega) hx]; simp
            · rw [decide_eq_false hlo]; rfl
    · have e : j = no := by omega
      subst e
      rw [Nat.sub_self, dn_0] at hu
      subst hu
      simp (disch := omega) only [q_0, q_1, q_2, q_3, q_4, q_5, q_6, q_7, q_8, q_9, q_10, q_11, q_12, q_15, q_16, q_20, q_21, q_25, q_30, q_31, q_32, q_40, q_44, q_48, q_50, q_57, q_59, q_60, q_64, q_81, q_97, q_98, q_99, q_100, q_101, q_102, q_103, q_104, q_105, q_107, q_108, q_110, q_111, q_114, q_115, q_116, q_119, q_120, q_121, q_122, q_136, q_160, q_200, q_255, q_300, q_400, q_401, q_402, q_460, q_479, q_480, q_920, q_999, q_1000, q_1023, q_1024, q_4020, q_9999, q_99999, q_1000000, q_1000000000, q_100001, q_100002, q_100003, q_100004, q_400000, nn_1, r_0, r_1, r_2, r_3, r_4, r_6, r_7, r_8, r_9, r_10, r_11, r_21, r_40, r_48, r_57, r_60, r_97, r_122, r_200, r_300, r_479, r_920, r_9999, r_99999, r_m1, rd_pu, rd_gI, rd_gB, rd_gL, rd_gQ, rd_rI, rd_rB, rd_rQ, rd_rK, rd_dq, rd_cq, rd_div, rd_rem, rd_mb, rd_mif, rd_within, rd_in, Bool.true_and, Bool.and_true, Bool.cond_self, Bool.cond_false_right, Bool.cond_true_left, cond_true, cond_false, rd_sAt, wp_rd, wp_mb, wp_mif, wp_sI, wp_sB, wp_sL, wp_sQ, wp_wI, wp_wB, wp_wQ, orR_l, orR_r, orE_l, orE_r, sK_l, sK_r, sK_c, cond_tr, fi_ufi, fi_ufi1, fi_ufi2, fb_ufb, fb_ufb1, fb_ufb2, fl_ufl, fl_ufl1, fl_ufl2, fr_ufr, fr_ufr1, fr_ufr2, ai_sa, ai_sa1, ab_sab, ab_sab1, ar_sar, ar_sar1, upf_eq, upf_ne, fi_ufb, fi_ufl, fi_ufr, fi_sa, fi_sab, fi_sar, fb_ufi, fb_ufl, fb_ufr, fb_sa, fb_sab, fb_sar, fl_ufi, fl_ufb, fl_ufr, fl_sa, fl_sab, fl_sar, fr_ufi, fr_ufb, fr_ufl, fr_sa, fr_sab, fr_sar, ai_ufi, ai_ufb, ai_ufl, ai_ufr, ai_sab, ai_sar, ab_ufi, ab_ufb, ab_ufl, ab_ufr, ab_sa, ab_sar, ar_ufi, ar_ufb, ar_ufl, ar_ufr, ar_sa, ar_sab, sa_sa, sab_sab, sar_sar, upf_upf, ufi_ufi, tnN, inbN, addN, subN, mulN, decN, divN, remN, n2_lt, n2_le, n2_gt, n2_ge, n2_eq, n2_ne, n0_lt, n0_ge, n0_gt, n0_le, n0_eq, n0_ne, m2_eq, m2_ne, m2_eqq, m2_neq, m0_lt, m0_ge, m0_eq, m0_ne, m2_eqN, m2_neN, wi_N, wi_P, wi_NN, inN_N, li_wi, Nat.reduceAdd, Nat.reduceSub, Nat.reduceMul, Nat.reduceDiv, Nat.reduceMod, Nat.reduceLT, Nat.reduceLeDiff, Nat.reduceEqDiff, decide_true, decide_false, Nat.add_zero, Nat.zero_add, Nat.mul_one, Nat.one_mul, Nat.mul_zero, Nat.zero_mul, n0_gts, Prod.mk.injEq, modN, decide_eq_true_eq, decide_eq_false_iff_not, Bool.and_eq_true, Bool.or_eq_true, Bool.not_eq_true', Bool.not_eq_false', Bool.not_eq_true, Bool.not_eq_false, Bool.not_not, Bool.not_true, Bool.not_false, Bool.true_eq_false, Bool.false_eq_true, true_and, and_true, false_and, and_false, true_implies, false_implies, implies_true, not_true_eq_false, not_false_eq_true, ne_eq, Bool.and_eq_false_imp, Bool.or_eq_false_iff, eq_self, or_false, false_or, or_true, true_or]
      intro x hx
      rw [hB x hx]
      have e : decide (j - j ≤ x ∧ x < j) = decide (x < j) := by congr 1; exact propext (by omega)
      rw [e]
  · rw [bt_zero]
    have e : decide (no - 0 ≤ x ∧ x < no) = false := by rw [decide_eq_false_iff_not]; omega
    rw [e]
    rfl
  · rintro r S' ⟨rfl, hr⟩
    exact hQ r.1 hr
/-- the insertion, both sides: from place k down -/
theorem wp_RlineUp {q c25 c26 : Nat → Int32} (H : ODs no mi cl kd SC SR) {s : Int32} {ON : Nat → Bool} (hs : ∀ x, x < no → bt s x = ON x) {Q : Unit → Sg → Prop} (hQ : ∀ f, (∀ i, i < (luR mi ON no).1 → f i = Int32.ofNat ((luR mi ON no).2 i)) → Q () (RC SC (upf q 3 (Int32.ofNat (luR mi ON no).1)) f c26)) : WP (Rules_lineUp s) (RC SC q c25 c26) Q := by
  have H0 := H
  obtain ⟨h1, h2, h3, h4⟩ := H
  unfold Rules_lineUp
  simp (disch := omega) only [q_0, q_1, q_2, q_3, q_4, q_5, q_6, q_7, q_8, q_9, q_10, q_11, q_12, q_15, q_16, q_20, q_21, q_25, q_30, q_31, q_32, q_40, q_44, q_48, q_50, q_57, q_59, q_60, q_64, q_81, q_97, q_98, q_99, q_100, q_101, q_102, q_103, q_104, q_105, q_107, q_108, q_110, q_111, q_114, q_115, q_116, q_119, q_120, q_121, q_122, q_136, q_160, q_200, q_255, q_300, q_400, q_401, q_402, q_460, q_479, q_480, q_920, q_999, q_1000, q_1023, q_1024, q_4020, q_9999, q_99999, q_1000000, q_1000000000, q_100001, q_100002, q_100003, q_100004, q_400000, nn_1, r_0, r_1, r_2, r_3, r_4, r_6, r_7, r_8, r_9, r_10, r_11, r_21, r_40, r_48, r_57, r_60, r_97, r_122, r_200, r_300, r_479, r_920, r_9999, r_99999, r_m1, rd_pu, rd_gI, rd_gB, rd_gL, rd_gQ, rd_rI, rd_rB, rd_rQ, rd_rK, rd_dq, rd_cq, rd_div, rd_rem, rd_mb, rd_mif, rd_within, rd_in, Bool.true_and, Bool.and_true, Bool.cond_self, Bool.cond_false_right, Bool.cond_true_left, cond_true, cond_false, rd_sAt, wp_rd, wp_mb, wp_mif, wp_sI, wp_sB, wp_sL, wp_sQ, wp_wI, wp_wB, wp_wQ, orR_l, orR_r, orE_l, orE_r, sK_l, sK_r, sK_c, cond_tr, fi_ufi, fi_ufi1, fi_ufi2, fb_ufb, fb_ufb1, fb_ufb2, fl_ufl, fl_ufl1, fl_ufl2, fr_ufr, fr_ufr1, fr_ufr2, ai_sa, ai_sa1, ab_sab, ab_sab1, ar_sar, ar_sar1, upf_eq, upf_ne, fi_ufb, fi_ufl, fi_ufr, fi_sa, fi_sab, fi_sar, fb_ufi, fb_ufl, fb_ufr, fb_sa, fb_sab, fb_sar, fl_ufi, fl_ufb, fl_ufr, fl_sa, fl_sab, fl_sar, fr_ufi, fr_ufb, fr_ufl, fr_sa, fr_sab, fr_sar, ai_ufi, ai_ufb, ai_ufl, ai_ufr, ai_sab, ai_sar, ab_ufi, ab_ufb, ab_ufl, ab_ufr, ab_sa, ab_sar, ar_ufi, ar_ufb, ar_ufl, ar_ufr, ar_sa, ar_sab, sa_sa, sab_sab, sar_sar, upf_upf, ufi_ufi, tnN, inbN, addN, subN, mulN, decN, divN, remN, n2_lt, n2_le, n2_gt, n2_ge, n2_eq, n2_ne, n0_lt, n0_ge, n0_gt, n0_le, n0_eq, n0_ne, m2_eq, m2_ne, m2_eqq, m2_neq, m0_lt, m0_ge, m0_eq, m0_ne, m2_eqN, m2_neN, wi_N, wi_P, wi_NN, inN_N, li_wi, Nat.reduceAdd, Nat.reduceSub, Nat.reduceMul, Nat.reduceDiv, Nat.reduceMod, Nat.reduceLT, Nat.reduceLeDiff, Nat.reduceEqDiff, decide_true, decide_false, Nat.add_zero, Nat.zero_add, Nat.mul_one, Nat.one_mul, Nat.mul_zero, Nat.zero_mul, n0_gts, Prod.mk.injEq, modN, decide_eq_true_eq, decide_eq_false_iff_not, Bool.and_eq_true, Bool.or_eq_true, Bool.not_eq_true', Bool.not_eq_false', Bool.not_eq_true, Bool.not_eq_false, Bool.not_not, Bool.not_true, Bool.not_false, Bool.true_eq_false, Bool.false_eq_true, true_and, and_true, false_and, and_false, true_implies, false_implies, implies_true, not_true_eq_false, not_false_eq_true, ne_eq, Bool.and_eq_false_imp, Bool.or_eq_false_iff, eq_self, or_false, false_or, or_true, true_or, RC_u, RC_5, RC_6, RC_f, RC_fx, RC_a5, RC_a6, RC_ax, RC_fb, RC_fl, RC_fr, RC_ab, RC_ar]
  refine WP.mono (wp_for no (by unfold FU; omega) (fun n a S' => a = Int32.ofNat n ∧ ∃ f, S' = RC SC (upf q 3 (Int32.ofNat (luR mi ON n).1)) f c26 ∧ ∀ i, i < (luR mi ON n).1 → f i = Int32.ofNat ((luR mi ON n).2 i)) ?_ ⟨rfl, c25, rfl, fun i hi => by simp [luR] at hi⟩ (Q := fun _ S' => ∃ f, S' = RC SC (upf q 3 (Int32.ofNat (luR mi ON no).1)) f c26 ∧ ∀ i, i < (luR mi ON no).1 → f i = Int32.ofNat ((luR mi ON no).2 i))) ?_
  · rintro n a S' hn ⟨rfl, f, rfl, hf⟩
    unfold Rules_lineUp_l1
    by_cases hnn : n < no
    · have hb := bt_eq0 s (w := n) (by omega)
      rw [hs n hnn] at hb
      have hbd := luR_bd mi ON n
      obtain ⟨m1, m2, -⟩ := h4 n hnn
      cases hon : ON n
      · rw [hon] at hb
        simp (disch := omega) only [q_0, q_1, q_2, q_3, q_4, q_5, q_6, q_7, q_8, q_9, q_10, q_11, q_12, q_15, q_16, q_20, q_21, q_25, q_30, q_31, q_32, q_40, q_44, q_48, q_50, q_57, q_59, q_60, q_64, q_81, q_97, q_98, q_99, q_100, q_101, q_102, q_103, q_104, q_105, q_107, q_108, q_110, q_111, q_114, q_115, q_116, q_119, q_120, q_121, q_122, q_136, q_160, q_200, q_255, q_300, q_400, q_401, q_402, q_460, q_479, q_480, q_920, q_999, q_1000, q_1023, q_1024, q_4020, q_9999, q_99999, q_1000000, q_1000000000, q_100001, q_100002, q_100003, q_100004, q_400000, nn_1, r_0, r_1, r_2, r_3, r_4, r_6, r_7, r_8, r_9, r_10, r_11, r_21, r_40, r_48, r_57, r_60, r_97, r_122, r_200, r_300, r_479, r_920, r_9999, r_99999, r_m1, rd_pu, rd_gI, rd_gB, rd_gL, rd_gQ, rd_rI, rd_rB, rd_rQ, rd_rK, rd_dq, rd_cq, rd_div, rd_rem, rd_mb, rd_mif, rd_within, rd_in, Bool.true_and, Bool.and_true, Bool.cond_self, Bool.cond_false_right, Bool.cond_true_left, cond_true, cond_false, rd_sAt, wp_rd, wp_mb, wp_mif, wp_sI, wp_sB, wp_sL, wp_sQ, wp_wI, wp_wB, wp_wQ, orR_l, orR_r, orE_l, orE_r, sK_l, sK_r, sK_c, cond_tr, fi_ufi, fi_ufi1, fi_ufi2, fb_ufb, fb_ufb1, fb_ufb2, fl_ufl, fl_ufl1, fl_ufl2, fr_ufr, fr_ufr1, fr_ufr2, ai_sa, ai_sa1, ab_sab, ab_sab1, ar_sar, ar_sar1, upf_eq, upf_ne, fi_ufb, fi_ufl, fi_ufr, fi_sa, fi_sab, fi_sar, fb_ufi, fb_ufl, fb_ufr, fb_sa, fb_sab, fb_sar, fl_ufi, fl_ufb, fl_ufr, fl_sa, fl_sab, fl_sar, fr_ufi, fr_ufb, fr_ufl, fr_sa, fr_sab, fr_sar, ai_ufi, ai_ufb, ai_ufl, ai_ufr, ai_sab, ai_sar, ab_ufi, ab_ufb, ab_ufl, ab_ufr, ab_sa, ab_sar, ar_ufi, ar_ufb, ar_ufl, ar_ufr, ar_sa, ar_sab, sa_sa, sab_sab, sar_sar, upf_upf, ufi_ufi, tnN, inbN, addN, subN, mulN, decN, divN, remN, n2_lt, n2_le, n2_gt, n2_ge, n2_eq, n2_ne, n0_lt, n0_ge, n0_gt, n0_le, n0_eq, n0_ne, m2_eq, m2_ne, m2_eqq, m2_neq, m0_lt, m0_ge, m0_eq, m0_ne, m2_eqN, m2_neN, wi_N, wi_P, wi_NN, inN_N, li_wi, Nat.reduceAdd, Nat.reduceSub, Nat.reduceMul, Nat.reduceDiv, Nat.reduceMod, Nat.reduceLT, Nat.reduceLeDiff, Nat.reduceEqDiff, decide_true, decide_false, Nat.add_zero, Nat.zero_add, Nat.mul_one, Nat.one_mul, Nat.mul_zero, Nat.zero_mul, n0_gts, Prod.mk.injEq, modN, decide_eq_true_eq, decide_eq_false_iff_not, Bool.and_eq_true, Bool.or_eq_true, Bool.not_eq_true', Bool.not_eq_false', Bool.not_eq_true, Bool.not_eq_false, Bool.not_not, Bool.not_true, Bool.not_false, Bool.true_eq_false, Bool.false_eq_true, true_and, and_true, false_and, and_false, true_implies, false_implies, implies_true, not_true_eq_false, not_false_eq_true, ne_eq, Bool.and_eq_false_imp, Bool.or_eq_false_iff, eq_self, or_false, false_or, or_true, true_or, RC_u, RC_5, RC_6, RC_f, RC_fx, RC_a5, RC_a6, RC_ax, RC_fb, RC_fl, RC_fr, RC_ab, RC_ar, h2, hnn, hb]
        have e : luR mi ON (n + 1) = luR mi ON n := by simp only [luR, hon]; rfl
        rw [e]
        exact ⟨f, rfl, hf⟩
      · rw [hon] at hb
        have e : luR mi ON (n + 1) = ((luR mi ON n).1 + 1, insR (luR mi ON n).2 (ipos mi (luR mi ON n).2 n (luR mi ON n).1) n) := by simp only [luR, hon]; rfl
        simp (disch := omega) only [q_0, q_1, q_2, q_3, q_4, q_5, q_6, q_7, q_8, q_9, q_10, q_11, q_12, q_15, q_16, q_20, q_21, q_25, q_30, q_31, q_32, q_40, q_44, q_48, q_50, q_57, q_59, q_60, q_64, q_81, q_97, q_98, q_99, q_100, q_101, q_102, q_103, q_104, q_105, q_107, q_108, q_110, q_111, q_114, q_115, q_116, q_119, q_120, q_121, q_122, q_136, q_160, q_200, q_255, q_300, q_400, q_401, q_402, q_460, q_479, q_480, q_920, q_999, q_1000, q_1023, q_1024, q_4020, q_9999, q_99999, q_1000000, q_1000000000, q_100001, q_100002, q_100003, q_100004, q_400000, nn_1, r_0, r_1, r_2, r_3, r_4, r_6, r_7, r_8, r_9, r_10, r_11, r_21, r_40, r_48, r_57, r_60, r_97, r_122, r_200, r_300, r_479, r_920, r_9999, r_99999, r_m1, rd_pu, rd_gI, rd_gB, rd_gL, rd_gQ, rd_rI, rd_rB, rd_rQ, rd_rK, rd_dq, rd_cq, rd_div, rd_rem, rd_mb, rd_mif, rd_within, rd_in, Bool.true_and, Bool.and_true, Bool.cond_self, Bool.cond_false_right, Bool.cond_true_left, cond_true, cond_false, rd_sAt, wp_rd, wp_mb, wp_mif, wp_sI, wp_sB, wp_sL, wp_sQ, wp_wI, wp_wB, wp_wQ, orR_l, orR_r, orE_l, orE_r, sK_l, sK_r, sK_c, cond_tr, fi_ufi, fi_ufi1, fi_ufi2, fb_ufb, fb_ufb1, fb_ufb2, fl_ufl, fl_ufl1, fl_ufl2, fr_ufr, fr_ufr1, fr_ufr2, ai_sa, ai_sa1, ab_sab, ab_sab1, ar_sar, ar_sar1, upf_eq, upf_ne, fi_ufb, fi_ufl, fi_ufr, fi_sa, fi_sab, fi_sar, fb_ufi, fb_ufl, fb_ufr, fb_sa, fb_sab, fb_sar, fl_ufi, fl_ufb, fl_ufr, fl_sa, fl_sab, fl_sar, fr_ufi, fr_ufb, fr_ufl, fr_sa, fr_sab, fr_sar, ai_ufi, ai_ufb, ai_ufl, ai_ufr, ai_sab, ai_sar, ab_ufi, ab_ufb, ab_ufl, ab_ufr, ab_sa, ab_sar, ar_ufi, ar_ufb, ar_ufl, ar_ufr, ar_sa, ar_sab, sa_sa, sab_sab, sar_sar, upf_upf, ufi_ufi, tnN, inbN, addN, subN, mulN, decN, divN, remN, n2_lt, n2_le, n2_gt, n2_ge, n2_eq, n2_ne, n0_lt, n0_ge, n0_gt, n0_le, n0_eq, n0_ne, m2_eq, m2_ne, m2_eqq, m2_neq, m0_lt, m0_ge, m0_eq, m0_ne, m2_eqN, m2_neN, wi_N, wi_P, wi_NN, inN_N, li_wi, Nat.reduceAdd, Nat.reduceSub, Nat.reduceMul, Nat.reduceDiv, Nat.reduceMod, Nat.reduceLT, Nat.reduceLeDiff, Nat.reduceEqDiff, decide_true, decide_false, Nat.add_zero, Nat.zero_add, Nat.mul_one, Nat.one_mul, Nat.mul_zero, Nat.zero_mul, n0_gts, Prod.mk.injEq, modN, decide_eq_true_eq, decide_eq_false_iff_not, Bool.and_eq_true, Bool.or_eq_true, Bool.not_eq_true', Bool.not_eq_false', Bool.not_eq_true, Bool.not_eq_false, Bool.not_not, Bool.not_true, Bool.not_false, Bool.true_eq_false, Bool.false_eq_true, true_and, and_true, false_and, and_false, true_implies, false_implies, implies_true, not_true_eq_false, not_false_eq_true, ne_eq, Bool.and_eq_false_imp, Bool.or_eq_false_iff, eq_self, or_false, false_or, or_true, true_or, RC_u, RC_5, RC_6, RC_f, RC_fx, RC_a5, RC_a6, RC_ax, RC_fb, RC_fl, RC_fr, RC_ab, RC_ar, h2, hnn, hb]
        rw [e]
        generalize hr : (luR mi ON n).1 = r at *
        generalize hw : (luR mi ON n).2 = row at *
        have hip := ipos_le mi row n r
        refine WP.mono (wp_lpm r (by unfold FU; omega) (fun k a S' => a = Int32.ofNat k ∧ k ≤ r ∧ ipos mi row n k = ipos mi row n r ∧ ∃ g, S' = RC SC (upf q 3 (Int32.ofNat r)) g c26 ∧ (∀ i, i < k → g i = Int32.ofNat (row i)) ∧ (∀ i, k < i → i ≤ r → g i = Int32.ofNat (row (i - 1)))) ?_ ⟨rfl, Nat.le_refl _, rfl, f, rfl, hf, fun i h1 h2 => by omega⟩ (Q := fun a S' => a = Int32.ofNat (ipos mi row n r) ∧ ∃ g, S' = RC SC (upf q 3 (Int32.ofNat r)) g c26 ∧ (∀ i, i < ipos mi row n r → g i = Int32.ofNat (row i)) ∧ (∀ i, ipos mi row n r < i → i ≤ r → g i = Int32.ofNat (row (i - 1))))) ?_
        · rintro k a S' ⟨rfl, hk, hpk, g, rfl, hg1, hg2⟩
          unfold Rules_lineUp_l2
          cases k with
          | zero =>
            simp (disch := omega) only [q_0, q_1, q_2, q_3, q_4, q_5, q_6, q_7, q_8, q_9, q_10, q_11, q_12, q_15, q_16, q_20, q_21, q_25, q_30, q_31, q_32, q_40, q_44, q_48, q_50, q_57, q_59, q_60, q_64, q_81, q_97, q_98, q_99, q_100, q_101, q_102, q_103, q_104, q_105, q_107, q_108, q_110, q_111, q_114, q_115, q_116, q_119, q_120, q_121, q_122, q_136, q_160, q_200, q_255, q_300, q_400, q_401, q_402, q_460, q_479, q_480, q_920, q_999, q_1000, q_1023, q_1024, q_4020, q_9999, q_99999, q_1000000, q_1000000000, q_100001, q_100002, q_100003, q_100004, q_400000, nn_1, r_0, r_1, r_2, r_3, r_4, r_6, r_7, r_8, r_9, r_10, r_11, r_21, r_40, r_48, r_57, r_60, r_97, r_122, r_200, r_300, r_479, r_920, r_9999, r_99999, r_m1, rd_pu, rd_gI, rd_gB, rd_gL, rd_gQ, rd_rI, rd_rB, rd_rQ, rd_rK, rd_dq, rd_cq, rd_div, rd_rem, rd_mb, rd_mif, rd_within, rd_in, Bool.true_and, Bool.and_true, Bool.cond_self, Bool.cond_false_right, Bool.cond_true_left, cond_true, cond_false, rd_sAt, wp_rd, wp_mb, wp_mif, wp_sI, wp_sB, wp_sL, wp_sQ, wp_wI, wp_wB, wp_wQ, orR_l, orR_r, orE_l, orE_r, sK_l, sK_r, sK_c, cond_tr, fi_ufi, fi_ufi1, fi_ufi2, fb_ufb, fb_ufb1, fb_ufb2, fl_ufl, fl_ufl1, fl_ufl2, fr_ufr, fr_ufr1, fr_ufr2, ai_sa, ai_sa1, ab_sab, ab_sab1, ar_sar, ar_sar1, upf_eq, upf_ne, fi_ufb, fi_ufl, fi_ufr, fi_sa, fi_sab, fi_sar, fb_ufi, fb_ufl, fb_ufr, fb_sa, fb_sab, fb_sar, fl_ufi, fl_ufb, fl_ufr, fl_sa, fl_sab, fl_sar, fr_ufi, fr_ufb, fr_ufl, fr_sa, fr_sab, fr_sar, ai_ufi, ai_ufb, ai_ufl, ai_ufr, ai_sab, ai_sar, ab_ufi, ab_ufb, ab_ufl, ab_ufr, ab_sa, ab_sar, ar_ufi, ar_ufb, ar_ufl, ar_ufr, ar_sa, ar_sab, sa_sa, sab_sab, sar_sar, upf_upf, ufi_ufi, tnN, inbN, addN, subN, mulN, decN, divN, remN, n2_lt, n2_le, n2_gt, n2_ge, n2_eq, n2_ne, n0_lt, n0_ge, n0_gt, n0_le, n0_eq, n0_ne, m2_eq, m2_ne, m2_eqq, m2_neq, m0_lt, m0_ge, m0_eq, m0_ne, m2_eqN, m2_neN, wi_N, wi_P, wi_NN, inN_N, li_wi, Nat.reduceAdd, Nat.reduceSub, Nat.reduceMul, Nat.reduceDiv, Nat.reduceMod, Nat.reduceLT, Nat.reduceLeDiff, Nat.reduceEqDiff, decide_true, decide_false, Nat.add_zero, Nat.zero_add, Nat.mul_one, Nat.one_mul, Nat.mul_zero, Nat.zero_mul, n0_gts, Prod.mk.injEq, modN, decide_eq_true_eq, decide_eq_false_iff_not, Bool.and_eq_true, Bool.or_eq_true, Bool.not_eq_true', Bool.not_eq_false', Bool.not_eq_true, Bool.not_eq_false, Bool.not_not, Bool.not_true, Bool.not_false, Bool.true_eq_false, Bool.false_eq_true, true_and, and_true, false_and, and_false, true_implies, false_implies, implies_true, not_true_eq_false, not_false_eq_true, ne_eq, Bool.and_eq_false_imp, Bool.or_eq_false_iff, eq_self, or_false, false_or, or_true, true_or, RC_u, RC_5, RC_6, RC_f, RC_fx, RC_a5, RC_a6, RC_ax, RC_fb, RC_fl, RC_fr, RC_ab, RC_ar]
            have : ipos mi row n r = 0 := by rw [← hpk]; rfl
            rw [this]
            exact ⟨rfl, g, rfl, hg1, hg2⟩
          | succ k =>
            have hgk := hg1 k (by omega)
            have hrk := (hbd.2 k (by omega)).1
            have hrk6 : row k < 6 := by omega
            have hk6 : k < 6 := by omega
            have hk61 : k + 1 < 6 := by omega
            have hn6 : n < 6 := by omega
            obtain ⟨r1, r2, -⟩ := h4 (row k) (by omega)
            by_cases hc : mi n < mi (row k)
            · simp (disch := omega) only [q_0, q_1, q_2, q_3, q_4, q_5, q_6, q_7, q_8, q_9, q_10, q_11, q_12, q_15, q_16, q_20, q_21, q_25, q_30, q_31, q_32, q_40, q_44, q_48, q_50, q_57, q_59, q_60, q_64, q_81, q_97, q_98, q_99, q_100, q_101, q_102, q_103, q_104, q_105, q_107, q_108, q_110, q_111, q_114, q_115, q_116, q_119, q_120, q_121, q_122, q_136, q_160, q_200, q_255, q_300, q_400, q_401, q_402, q_460, q_479, q_480, q_920, q_999, q_1000, q_1023, q_1024, q_4020, q_9999, q_99999, q_1000000, q_1000000000, q_100001, q_100002, q_100003, q_100004, q_400000, nn_1, r_0, r_1, r_2, r_3, r_4, r_6, r_7, r_8, r_9, r_10, r_11, r_21, r_40, r_48, r_57, r_60, r_97, r_122, r_200, r_300, r_479, r_920, r_9999, r_99999, r_m1, rd_pu, rd_gI, rd_gB, rd_gL, rd_gQ, rd_rI, rd_rB, rd_rQ, rd_rK, rd_dq, rd_cq, rd_div, rd_rem, rd_mb, rd_mif, rd_within, rd_in, Bool.true_and, Bool.and_true, Bool.cond_self, Bool.cond_false_right, Bool.cond_true_left, cond_true, cond_false, rd_sAt, wp_rd, wp_mb, wp_mif, wp_sI, wp_sB, wp_sL, wp_sQ, wp_wI, wp_wB, wp_wQ, orR_l, orR_r, orE_l, orE_r, sK_l, sK_r, sK_c, cond_tr, fi_ufi, fi_ufi1, fi_ufi2, fb_ufb, fb_ufb1, fb_ufb2, fl_ufl, fl_ufl1, fl_ufl2, fr_ufr, fr_ufr1, fr_ufr2, ai_sa, ai_sa1, ab_sab, ab_sab1, ar_sar, ar_sar1, upf_eq, upf_ne, fi_ufb, fi_ufl, fi_ufr, fi_sa, fi_sab, fi_sar, fb_ufi, fb_ufl, fb_ufr, fb_sa, fb_sab, fb_sar, fl_ufi, fl_ufb, fl_ufr, fl_sa, fl_sab, fl_sar, fr_ufi, fr_ufb, fr_ufl, fr_sa, fr_sab, fr_sar, ai_ufi, ai_ufb, ai_ufl, ai_ufr, ai_sab, ai_sar, ab_ufi, ab_ufb, ab_ufl, ab_ufr, ab_sa, ab_sar, ar_ufi, ar_ufb, ar_ufl, ar_ufr, ar_sa, ar_sab, sa_sa, sab_sab, sar_sar, upf_upf, ufi_ufi, tnN, inbN, addN, subN, mulN, decN, divN, remN, n2_lt, n2_le, n2_gt, n2_ge, n2_eq, n2_ne, n0_lt, n0_ge, n0_gt, n0_le, n0_eq, n0_ne, m2_eq, m2_ne, m2_eqq, m2_neq, m0_lt, m0_ge, m0_eq, m0_ne, m2_eqN, m2_neN, wi_N, wi_P, wi_NN, inN_N, li_wi, Nat.reduceAdd, Nat.reduceSub, Nat.reduceMul, Nat.reduceDiv, Nat.reduceMod, Nat.reduceLT, Nat.reduceLeDiff, Nat.reduceEqDiff, decide_true, decide_false, Nat.add_zero, Nat.zero_add, Nat.mul_one, Nat.one_mul, Nat.mul_zero, Nat.zero_mul, n0_gts, Prod.mk.injEq, modN, decide_eq_true_eq, decide_eq_false_iff_not, Bool.and_eq_true, Bool.or_eq_true, Bool.not_eq_true', Bool.not_eq_false', Bool.not_eq_true, Bool.not_eq_false, Bool.not_not, Bool.not_true, Bool.not_false, Bool.true_eq_false, Bool.false_eq_true, true_and, and_true, false_and, and_false, true_implies, false_implies, implies_true, not_true_eq_false, not_false_eq_true, ne_eq, Bool.and_eq_false_imp, Bool.or_eq_false_iff, eq_self, or_false, false_or, or_true, true_or, RC_u, RC_5, RC_6, RC_f, RC_fx, RC_a5, RC_a6, RC_ax, RC_fb, RC_fl, RC_fr, RC_ab, RC_ar, hgk, m2, r2, hc, hk6, hk61, hrk6, hn6, Nat.add_sub_cancel, Nat.succ_pos]
              refine ⟨k, by omega, ⟨rfl, by omega, ?_, _, rfl, fun i hi => ?_, fun i h5 h6 => ?_⟩⟩
              · rw [← hpk]; simp only [ipos, hc, if_true]
              · rw [upf_ne _ _ _ _ (by omega)]; exact hg1 i (by omega)
              · by_cases hik : i = k + 1
                · subst hik
                  rw [upf_eq, Nat.add_sub_cancel]
                · rw [upf_ne _ _ _ _ hik]; exact hg2 i (by omega) h6
            · simp (disch := omega) only [q_0, q_1, q_2, q_3, q_4, q_5, q_6, q_7, q_8, q_9, q_10, q_11, q_12, q_15, q_16, q_20, q_21, q_25, q_30, q_31, q_32, q_40, q_44, q_48, q_50, q_57, q_59, q_60, q_64, q_81, q_97, q_98, q_99, q_100, q_101, q_102, q_103, q_104, q_105, q_107, q_108, q_110, q_111, q_114, q_115, q_116, q_119, q_120, q_121, q_122, q_136, q_160, q_200, q_255, q_300, q_400, q_401, q_402, q_460, q_479, q_480, q_920, q_999, q_1000, q_1023, q_1024, q_4020, q_9999, q_99999, q_1000000, q_1000000000, q_100001, q_100002, q_100003, q_100004, q_400000, nn_1, r_0, r_1, r_2, r_3, r_4, r_6, r_7, r_8, r_9, r_10, r_11, r_21, r_40, r_48, r_57, r_60, r_97, r_122, r_200, r_300, r_479, r_920, r_9999, r_99999, r_m1, rd_pu, rd_gI, rd_gB, rd_gL, rd_gQ, rd_rI, rd_rB, rd_rQ, rd_rK, rd_dq, rd_cq, rd_div, rd_rem, rd_mb, rd_mif, rd_within, rd_in, Bool.true_and, Bool.and_true, Bool.cond_self, Bool.cond_false_right, Bool.cond_true_left, cond_true, cond_false, rd_sAt, wp_rd, wp_mb, wp_mif, wp_sI, wp_sB, wp_sL, wp_sQ, wp_wI, wp_wB, wp_wQ, orR_l, orR_r, orE_l, orE_r, sK_l, sK_r, sK_c, cond_tr, fi_ufi, fi_ufi1, fi_ufi2, fb_ufb, fb_ufb1, fb_ufb2, fl_ufl, fl_ufl1, fl_ufl2, fr_ufr, fr_ufr1, fr_ufr2, ai_sa, ai_sa1, ab_sab, ab_sab1, ar_sar, ar_sar1, upf_eq, upf_ne, fi_ufb, fi_ufl, fi_ufr, fi_sa, fi_sab, fi_sar, fb_ufi, fb_ufl, fb_ufr, fb_sa, fb_sab, fb_sar, fl_ufi, fl_ufb, fl_ufr, fl_sa, fl_sab, fl_sar, fr_ufi, fr_ufb, fr_ufl, fr_sa, fr_sab, fr_sar, ai_ufi, ai_ufb, ai_ufl, ai_ufr, ai_sab, ai_sar, ab_ufi, ab_ufb, ab_ufl, ab_ufr, ab_sa, ab_sar, ar_ufi, ar_ufb, ar_ufl, ar_ufr, ar_sa, ar_sab, sa_sa, sab_sab, sar_sar, upf_upf, ufi_ufi, tnN, inbN, addN, subN, mulN, decN, divN, remN, n2_lt, n2_le, n2_gt, n2_ge, n2_eq, n2_ne, n0_lt, n0_ge, n0_gt, n0_le, n0_eq, n0_ne, m2_eq, m2_ne, m2_eqq, m2_neq, m0_lt, m0_ge, m0_eq, m0_ne, m2_eqN, m2_neN, wi_N, wi_P, wi_NN, inN_N, li_wi, Nat.reduceAdd, Nat.reduceSub, Nat.reduceMul, Nat.reduceDiv, Nat.reduceMod, Nat.reduceLT, Nat.reduceLeDiff, Nat.reduceEqDiff, decide_true, decide_false, Nat.add_zero, Nat.zero_add, Nat.mul_one, Nat.one_mul, Nat.mul_zero, Nat.zero_mul, n0_gts, Prod.mk.injEq, modN, decide_eq_true_eq, decide_eq_false_iff_not, Bool.and_eq_true, Bool.or_eq_true, Bool.not_eq_true', Bool.not_eq_false', Bool.not_eq_true, Bool.not_eq_false, Bool.not_not, Bool.not_true, Bool.not_false, Bool.true_eq_false, Bool.false_eq_true, true_and, and_true, false_and, and_false, true_implies, false_implies, implies_true, not_true_eq_false, not_false_eq_true, ne_eq, Bool.and_eq_false_imp, Bool.or_eq_false_iff, eq_self, or_false, false_or, or_true, true_or, RC_u, RC_5, RC_6, RC_f, RC_fx, RC_a5, RC_a6, RC_ax, RC_fb, RC_fl, RC_fr, RC_ab, RC_ar, hgk, m2, r2, hc, hk6, hrk6, hn6, Nat.add_sub_cancel, Nat.succ_pos]
              have : ipos mi row n r = k + 1 := by rw [← hpk]; simp only [ipos, hc, if_false]
              rw [this]
              exact ⟨rfl, g, rfl, hg1, hg2⟩
        · rintro a S' ⟨rfl, g, rfl, hg1, hg2⟩
          have i6 : ipos mi row n r < 6 := by omega
          simp (disch := omega) only [q_0, q_1, q_2, q_3, q_4, q_5, q_6, q_7, q_8, q_9, q_10, q_11, q_12, q_15, q_16, q_20, q_21, q_25, q_30, q_31, q_32, q_40, q_44, q_48, q_50, q_57, q_59, q_60, q_64, q_81, q_97, q_98, q_99, q_100, q_101, q_102, q_103, q_104, q_105, q_107, q_108, q_110, q_111, q_114, q_115, q_116, q_119, q_120, q_121, q_122, q_136, q_160, q_200, q_255, q_300, q_400, q_401, q_402, q_460, q_479, q_480, q_920, q_999, q_1000, q_1023, q_1024, q_4020, q_9999, q_99999, q_1000000, q_1000000000, q_100001, q_100002, q_100003, q_100004, q_400000, nn_1, r_0, r_1, r_2, r_3, r_4, r_6, r_7, r_8, r_9, r_10, r_11, r_21, r_40, r_48, r_57, r_60, r_97, r_122, r_200, r_300, r_479, r_920, r_9999, r_99999, r_m1, rd_pu, rd_gI, rd_gB, rd_gL, rd_gQ, rd_rI, rd_rB, rd_rQ, rd_rK, rd_dq, rd_cq, rd_div, rd_rem, rd_mb, rd_mif, rd_within, rd_in, Bool.true_and, Bool.and_true, Bool.cond_self, Bool.cond_false_right, Bool.cond_true_left, cond_true, cond_false, rd_sAt, wp_rd, wp_mb, wp_mif, wp_sI, wp_sB, wp_sL, wp_sQ, wp_wI, wp_wB, wp_wQ, orR_l, orR_r, orE_l, orE_r, sK_l, sK_r, sK_c, cond_tr, fi_ufi, fi_ufi1, fi_ufi2, fb_ufb, fb_ufb1, fb_ufb2, fl_ufl, fl_ufl1, fl_ufl2, fr_ufr, fr_ufr1, fr_ufr2, ai_sa, ai_sa1, ab_sab, ab_sab1, ar_sar, ar_sar1, upf_eq, upf_ne, fi_ufb, fi_ufl, fi_ufr, fi_sa, fi_sab, fi_sar, fb_ufi, fb_ufl, fb_ufr, fb_sa, fb_sab, fb_sar, fl_ufi, fl_ufb, fl_ufr, fl_sa, fl_sab, fl_sar, fr_ufi, fr_ufb, fr_ufl, fr_sa, fr_sab, fr_sar, ai_ufi, ai_ufb, ai_ufl, ai_ufr, ai_sab, ai_sar, ab_ufi, ab_ufb, ab_ufl, ab_ufr, ab_sa, ab_sar, ar_ufi, ar_ufb, ar_ufl, ar_ufr, ar_sa, ar_sab, sa_sa, sab_sab, sar_sar, upf_upf, ufi_ufi, tnN, inbN, addN, subN, mulN, decN, divN, remN, n2_lt, n2_le, n2_gt, n2_ge, n2_eq, n2_ne, n0_lt, n0_ge, n0_gt, n0_le, n0_eq, n0_ne, m2_eq, m2_ne, m2_eqq, m2_neq, m0_lt, m0_ge, m0_eq, m0_ne, m2_eqN, m2_neN, wi_N, wi_P, wi_NN, inN_N, li_wi, Nat.reduceAdd, Nat.reduceSub, Nat.reduceMul, Nat.reduceDiv, Nat.reduceMod, Nat.reduceLT, Nat.reduceLeDiff, Nat.reduceEqDiff, decide_true, decide_false, Nat.add_zero, Nat.zero_add, Nat.mul_one, Nat.one_mul, Nat.mul_zero, Nat.zero_mul, n0_gts, Prod.mk.injEq, modN, decide_eq_true_eq, decide_eq_false_iff_not, Bool.and_eq_true, Bool.or_eq_true, Bool.not_eq_true', Bool.not_eq_false', Bool.not_eq_true, Bool.not_eq_false, Bool.not_not, Bool.not_true, Bool.not_false, Bool.true_eq_false, Bool.false_eq_true, true_and, and_true, false_and, and_false, true_implies, false_implies, implies_true, not_true_eq_false, not_false_eq_true, ne_eq, Bool.and_eq_false_imp, Bool.or_eq_false_iff, eq_self, or_false, false_or, or_true, true_or, RC_u, RC_5, RC_6, RC_f, RC_fx, RC_a5, RC_a6, RC_ax, RC_fb, RC_fl, RC_fr, RC_ab, RC_ar, i6]
          refine ⟨_, rfl, fun i hi => ?_⟩
          unfold insR
          by_cases c1 : i < ipos mi row n r
          · rw [upf_ne _ _ _ _ (by omega), if_pos c1]; exact hg1 i c1
          · by_cases c2 : i = ipos mi row n r
            · rw [c2, upf_eq, if_neg (Nat.lt_irrefl _), if_pos rfl]
            · rw [upf_ne _ _ _ _ c2, if_neg c1, if_neg c2]; exact hg2 i (by omega) (by omega)
    · have e : n = no := by omega
      subst e
      simp (disch := omega) only [q_0, q_1, q_2, q_3, q_4, q_5, q_6, q_7, q_8, q_9, q_10, q_11, q_12, q_15, q_16, q_20, q_21, q_25, q_30, q_31, q_32, q_40, q_44, q_48, q_50, q_57, q_59, q_60, q_64, q_81, q_97, q_98, q_99, q_100, q_101, q_102, q_103, q_104, q_105, q_107, q_108, q_110, q_111, q_114, q_115, q_116, q_119, q_120, q_121, q_122, q_136, q_160, q_200, q_255, q_300, q_400, q_401, q_402, q_460, q_479, q_480, q_920, q_999, q_1000, q_1023, q_1024, q_4020, q_9999, q_99999, q_1000000, q_1000000000, q_100001, q_100002, q_100003, q_100004, q_400000, nn_1, r_0, r_1, r_2, r_3, r_4, r_6, r_7, r_8, r_9, r_10, r_11, r_21, r_40, r_48, r_57, r_60, r_97, r_122, r_200, r_300, r_479, r_920, r_9999, r_99999, r_m1, rd_pu, rd_gI, rd_gB, rd_gL, rd_gQ, rd_rI, rd_rB, rd_rQ, rd_rK, rd_dq, rd_cq, rd_div, rd_rem, rd_mb, rd_mif, rd_within, rd_in, Bool.true_and, Bool.and_true, Bool.cond_self, Bool.cond_false_right, Bool.cond_true_left, cond_true, cond_false, rd_sAt, wp_rd, wp_mb, wp_mif, wp_sI, wp_sB, wp_sL, wp_sQ, wp_wI, wp_wB, wp_wQ, orR_l, orR_r, orE_l, orE_r, sK_l, sK_r, sK_c, cond_tr, fi_ufi, fi_ufi1, fi_ufi2, fb_ufb, fb_ufb1, fb_ufb2, fl_ufl, fl_ufl1, fl_ufl2, fr_ufr, fr_ufr1, fr_ufr2, ai_sa, ai_sa1, ab_sab, ab_sab1, ar_sar, ar_sar1, upf_eq, upf_ne, fi_ufb, fi_ufl, fi_ufr, fi_sa, fi_sab, fi_sar, fb_ufi, fb_ufl, fb_ufr, fb_sa, fb_sab, fb_sar, fl_ufi, fl_ufb, fl_ufr, fl_sa, fl_sab, fl_sar, fr_ufi, fr_ufb, fr_ufl, fr_sa, fr_sab, fr_sar, ai_ufi, ai_ufb, ai_ufl, ai_ufr, ai_sab, ai_sar, ab_ufi, ab_ufb, ab_ufl, ab_ufr, ab_sa, ab_sar, ar_ufi, ar_ufb, ar_ufl, ar_ufr, ar_sa, ar_sab, sa_sa, sab_sab, sar_sar, upf_upf, ufi_ufi, tnN, inbN, addN, subN, mulN, decN, divN, remN, n2_lt, n2_le, n2_gt, n2_ge, n2_eq, n2_ne, n0_lt, n0_ge, n0_gt, n0_le, n0_eq, n0_ne, m2_eq, m2_ne, m2_eqq, m2_neq, m0_lt, m0_ge, m0_eq, m0_ne, m2_eqN, m2_neN, wi_N, wi_P, wi_NN, inN_N, li_wi, Nat.reduceAdd, Nat.reduceSub, Nat.reduceMul, Nat.reduceDiv, Nat.reduceMod, Nat.reduceLT, Nat.reduceLeDiff, Nat.reduceEqDiff, decide_true, decide_false, Nat.add_zero, Nat.zero_add, Nat.mul_one, Nat.one_mul, Nat.mul_zero, Nat.zero_mul, n0_gts, Prod.mk.injEq, modN, decide_eq_true_eq, decide_eq_false_iff_not, Bool.and_eq_true, Bool.or_eq_true, Bool.not_eq_true', Bool.not_eq_false', Bool.not_eq_true, Bool.not_eq_false, Bool.not_not, Bool.not_true, Bool.not_false, Bool.true_eq_false, Bool.false_eq_true, true_and, and_true, false_and, and_false, true_implies, false_implies, implies_true, not_true_eq_false, not_false_eq_true, ne_eq, Bool.and_eq_false_imp, Bool.or_eq_false_iff, eq_self, or_false, false_or, or_true, true_or, RC_u, RC_5, RC_6, RC_f, RC_fx, RC_a5, RC_a6, RC_ax, RC_fb, RC_fl, RC_fr, RC_ab, RC_ar, h2, hnn]
      exact ⟨f, rfl, hf⟩
  · rintro _ S' ⟨f, rfl, hf⟩
    exact hQ f hf
theorem apC_keys (H : ODs no mi cl kd SC SR) {X : HO} (hX : ∃ m, m ≤ 5 ∧ X.2.1 = Int32.ofNat m) {r : Nat} (hr : r < no) : ∀ j, j ≤ cl r → ∃ m, m ≤ 5 ∧ (apC kd (ai SC 21) (ai SC 22) X r j).2.1 = Int32.ofNat m := by
  intro j
  induction j with
  | zero => intro _; exact hX
  | succ j ih =>
    intro hj
    obtain ⟨h1, h2, h3, h4⟩ := H
    obtain ⟨m1, m2, m3, c1, c2, c3, c4⟩ := h4 r hr
    obtain ⟨d1, d2, d3, d4⟩ := c4 j (by omega)
    obtain ⟨kk, e1, e2, e3, e4, e5, -⟩ := d4
    rw [d2, ofN_inj (by omega) (by omega)] at e2
    simp only [apC, ap1]
    split
    · next hz =>
      obtain ⟨m, q, v1, v2, v3, v4, v5, -⟩ := e4 (by omega)
      exact ⟨m, v2, v4⟩
    · exact ih (by omega)
def RuH (H : HO) (q : Nat → Int32) (c26 : Nat → Int32) : Prop := q 4 = H.1 1 ∧ q 5 = H.1 2 ∧ q 6 = H.1 3 ∧ q 7 = H.1 4 ∧ q 8 = H.1 7 ∧ q 9 = H.2.1 ∧ ∃ m, m ≤ 5 ∧ H.2.1 = Int32.ofNat m ∧ ∀ k, k < m → c26 k = jsr' H.2.2 (Int32.ofNat (3 * k)) &&& Int32.ofNat 7
theorem wp_apply (H : ODs no mi cl kd SC SR) {q c25 c26 : Nat → Int32} {X : HO} {r j : Nat} (hr : r < no) (hj : j < cl r) (hX : RuH X q c26) {Q : Unit → Sg → Prop} (hQ : ∀ q' c26', RuH (ap1 kd (ai SC 21) (ai SC 22) X (10 * r + j)) q' c26' → (∀ k, k < 4 → q' k = q k) → Q () (RC SC q' c25 c26')) : WP (Rules_apply (Int32.ofNat (10 * r + j))) (RC SC q c25 c26) Q := by
  obtain ⟨h1, h2, h3, h4⟩ := H
  obtain ⟨m1, m2, m3, c1, c2, c3, c4⟩ := h4 r hr
  obtain ⟨d1, d2, d3, d4⟩ := c4 j hj
  obtain ⟨kk, e1, e2, e3, e4, e5, -⟩ := d4
  rw [d2, ofN_inj (by omega) (by omega)] at e2
  subst e2
  have i60 : 10 * r + j < 60 := by omega
  obtain ⟨x1, x2, x3, x4, x5, x6, m, x7, x8, x9⟩ := hX
  unfold Rules_apply
  have up : ∀ (k : Nat) (v : Int32), 4 ≤ k → ∀ i, i < 4 → upf q k v i = q i := fun k v h i hi => upf_ne _ _ _ _ (by omega)
  rcases (show kd (10 * r + j) = 0 ∨ kd (10 * r + j) = 1 ∨ kd (10 * r + j) = 2 ∨ kd (10 * r + j) = 3 ∨ kd (10 * r + j) = 4 ∨ kd (10 * r + j) = 5 ∨ kd (10 * r + j) = 6 ∨ kd (10 * r + j) = 7 ∨ kd (10 * r + j) = 8 by omega) with hk | hk | hk | hk | hk | hk | hk | hk | hk
  · obtain ⟨mm, pk, v1, v2, v3, v4, v5, -⟩ := e4 hk
    unfold Rules_applyKeys
    have hmin : jmin (Int32.ofNat mm) (Int32.ofNat 5) = Int32.ofNat mm := by
      unfold jmin
      rw [if_neg (by rw [Int32.lt_iff_toInt_lt, ofN_i (by omega), ofN_i (by omega)]; omega)]
    simp (disch := omega) only [q_0, q_1, q_2, q_3, q_4, q_5, q_6, q_7, q_8, q_9, q_10, q_11, q_12, q_15, q_16, q_20, q_21, q_25, q_30, q_31, q_32, q_40, q_44, q_48, q_50, q_57, q_59, q_60, q_64, q_81, q_97, q_98, q_99, q_100, q_101, q_102, q_103, q_104, q_105, q_107, q_108, q_110, q_111, q_114, q_115, q_116, q_119, q_120, q_121, q_122, q_136, q_160, q_200, q_255, q_300, q_400, q_401, q_402, q_460, q_479, q_480, q_920, q_999, q_1000, q_1023, q_1024, q_4020, q_9999, q_99999, q_1000000, q_1000000000, q_100001, q_100002, q_100003, q_100004, q_400000, nn_1, r_0, r_1, r_2, r_3, r_4, r_6, r_7, r_8, r_9, r_10, r_11, r_21, r_40, r_48, r_57, r_60, r_97, r_122, r_200, r_300, r_479, r_920, r_9999, r_99999, r_m1, rd_pu, rd_gI, rd_gB, rd_gL, rd_gQ, rd_rI, rd_rB, rd_rQ, rd_rK, rd_dq, rd_cq, rd_div, rd_rem, rd_mb, rd_mif, rd_within, rd_in, Bool.true_and, Bool.and_true, Bool.cond_self, Bool.cond_false_right, Bool.cond_true_left, cond_true, cond_false, rd_sAt, wp_rd, wp_mb, wp_mif, wp_sI, wp_sB, wp_sL, wp_sQ, wp_wI, wp_wB, wp_wQ, orR_l, orR_r, orE_l, orE_r, sK_l, sK_r, sK_c, cond_tr, fi_ufi, fi_ufi1, fi_ufi2, fb_ufb, fb_ufb1, fb_ufb2, fl_ufl, fl_ufl1, fl_ufl2, fr_ufr, fr_ufr1, fr_ufr2, ai_sa, ai_sa1, ab_sab, ab_sab1, ar_sar, ar_sar1, upf_eq, upf_ne, fi_ufb, fi_ufl, fi_ufr, fi_sa, fi_sab, fi_sar, fb_ufi, fb_ufl, fb_ufr, fb_sa, fb_sab, fb_sar, fl_ufi, fl_ufb, fl_ufr, fl_sa, fl_sab, fl_sar, fr_ufi, fr_ufb, fr_ufl, fr_sa, fr_sab, fr_sar, ai_ufi, ai_ufb, ai_ufl, ai_ufr, ai_sab, ai_sar, ab_ufi, ab_ufb, ab_ufl, ab_ufr, ab_sa, ab_sar, ar_ufi, ar_ufb, ar_ufl, ar_ufr, ar_sa, ar_sab, sa_sa, sab_sab, sar_sar, upf_upf, ufi_ufi, tnN, inbN, addN, subN, mulN, decN, divN, remN, n2_lt, n2_le, n2_gt, n2_ge, n2_eq, n2_ne, n0_lt, n0_ge, n0_gt, n0_le, n0_eq, n0_ne, m2_eq, m2_ne, m2_eqq, m2_neq, m0_lt, m0_ge, m0_eq, m0_ne, m2_eqN, m2_neN, wi_N, wi_P, wi_NN, inN_N, li_wi, Nat.reduceAdd, Nat.reduceSub, Nat.reduceMul, Nat.reduceDiv, Nat.reduceMod, Nat.reduceLT, Nat.reduceLeDiff, Nat.reduceEqDiff, decide_true, decide_false, Nat.add_zero, Nat.zero_add, Nat.mul_one, Nat.one_mul, Nat.mul_zero, Nat.zero_mul, n0_gts, Prod.mk.injEq, modN, decide_eq_true_eq, decide_eq_false_iff_not, Bool.and_eq_true, Bool.or_eq_true, Bool.not_eq_true', Bool.not_eq_false', Bool.not_eq_true, Bool.not_eq_false, Bool.not_not, Bool.not_true, Bool.not_false, Bool.true_eq_false, Bool.false_eq_true, true_and, and_true, false_and, and_false, true_implies, false_implies, implies_true, not_true_eq_false, not_false_eq_true, ne_eq, Bool.and_eq_false_imp, Bool.or_eq_false_iff, eq_self, or_false, false_or, or_true, true_or, RC_u, RC_5, RC_6, RC_f, RC_fx, RC_a5, RC_a6, RC_ax, RC_fb, RC_fl, RC_fr, RC_ab, RC_ar, i60, d2, hk, tsw_0, tsw_1, Int.reduceToNat, Nat.not_lt_zero, if_true, if_false, gD0, gD1, gD2, gD3, gD4, gD5, gD6, gD7, gD8, gD9, gD10, gD11, gD12, gD13, gD14, gD15, v4, v5, hmin]
    refine WP.mono (wp_for mm (by unfold FU; omega) (fun k a S' => a = Int32.ofNat k ∧ ∃ g, S' = RC SC (upf q 9 (Int32.ofNat mm)) c25 g ∧ ∀ i, i < k → g i = jsr' (Int32.ofNat pk) (Int32.ofNat (3 * i)) &&& Int32.ofNat 7) ?_ ⟨rfl, c26, rfl, fun i hi => by omega⟩ (Q := fun _ S' => ∃ g, S' = RC SC (upf q 9 (Int32.ofNat mm)) c25 g ∧ ∀ i, i < mm → g i = jsr' (Int32.ofNat pk) (Int32.ofNat (3 * i)) &&& Int32.ofNat 7)) ?_
    · rintro k a S' hk' ⟨rfl, g, rfl, hg⟩
      unfold Rules_applyKeys_l1
      by_cases hkm : k < mm
      · have hk5 : k < 5 := by omega
        simp (disch := omega) only [q_0, q_1, q_2, q_3, q_4, q_5, q_6, q_7, q_8, q_9, q_10, q_11, q_12, q_15, q_16, q_20, q_21, q_25, q_30, q_31, q_32, q_40, q_44, q_48, q_50, q_57, q_59, q_60, q_64, q_81, q_97, q_98, q_99, q_100, q_101, q_102, q_103, q_104, q_105, q_107, q_108, q_110, q_111, q_114, q_115, q_116, q_119, q_120, q_121, q_122, q_136, q_160, q_200, q_255, q_300, q_400, q_401, q_402, q_460, q_479, q_480, q_920, q_999, q_1000, q_1023, q_1024, q_4020, q_9999, q_99999, q_1000000, q_1000000000, q_100001, q_100002, q_100003, q_100004, q_400000, nn_1, r_0, r_1, r_2, r_3, r_4, r_6, r_7, r_8, r_9, r_10, r_11, r_21, r_40, r_48, r_57, r_60, r_97, r_122, r_200, r_300, r_479, r_920, r_9999, r_99999, r_m1, rd_pu, rd_gI, rd_gB, rd_gL, rd_gQ, rd_rI, rd_rB, rd_rQ, rd_rK, rd_dq, rd_cq, rd_div, rd_rem, rd_mb, rd_mif, rd_within, rd_in, Bool.true_and, Bool.and_true, Bool.cond_self, Bool.cond_false_right, Bool.cond_true_left, cond_true, cond_false, rd_sAt, wp_rd, wp_mb, wp_mif, wp_sI, wp_sB, wp_sL, wp_sQ, wp_wI, wp_wB, wp_wQ, orR_l, orR_r, orE_l, orE_r, sK_l, sK_r, sK_c, cond_tr, fi_ufi, fi_ufi1, fi_ufi2, fb_ufb, fb_ufb1, fb_ufb2, fl_ufl, fl_ufl1, fl_ufl2, fr_ufr, fr_ufr1, fr_ufr2, ai_sa, ai_sa1, ab_sab, ab_sab1, ar_sar, ar_sar1, upf_eq, upf_ne, fi_ufb, fi_ufl, fi_ufr, fi_sa, fi_sab, fi_sar, fb_ufi, fb_ufl, fb_ufr, fb_sa, fb_sab, fb_sar, fl_ufi, fl_ufb, fl_ufr, fl_sa, fl_sab, fl_sar, fr_ufi, fr_ufb, fr_ufl, fr_sa, fr_sab, fr_sar, ai_ufi, ai_ufb, ai_ufl, ai_ufr, ai_sab, ai_sar, ab_ufi, ab_ufb, ab_ufl, ab_ufr, ab_sa, ab_sar, ar_ufi, ar_ufb, ar_ufl, ar_ufr, ar_sa, ar_sab, sa_sa, sab_sab, sar_sar, upf_upf, ufi_ufi, tnN, inbN, addN, subN, mulN, decN, divN, remN, n2_lt, n2_le, n2_gt, n2_ge, n2_eq, n2_ne, n0_lt, n0_ge, n0_gt, n0_le, n0_eq, n0_ne, m2_eq, m2_ne, m2_eqq, m2_neq, m0_lt, m0_ge, m0_eq, m0_ne, m2_eqN, m2_neN, wi_N, wi_P, wi_NN, inN_N, li_wi, Nat.reduceAdd, Nat.reduceSub, Nat.reduceMul, Nat.reduceDiv, Nat.reduceMod, Nat.reduceLT, Nat.reduceLeDiff, Nat.reduceEqDiff, decide_true, decide_false, Nat.add_zero, Nat.zero_add, Nat.mul_one, Nat.one_mul, Nat.mul_zero, Nat.zero_mul, n0_gts, Prod.mk.injEq, modN, decide_eq_true_eq, decide_eq_false_iff_not, Bool.and_eq_true, Bool.or_eq_true, Bool.not_eq_true', Bool.not_eq_false', Bool.not_eq_true, Bool.not_eq_false, Bool.not_not, Bool.not_true, Bool.not_false, Bool.true_eq_false, Bool.false_eq_true, true_and, and_true, false_and, and_false, true_implies, false_implies, implies_true, not_true_eq_false, not_false_eq_true, ne_eq, Bool.and_eq_false_imp, Bool.or_eq_false_iff, eq_self, or_false, false_or, or_true, true_or, RC_u, RC_5, RC_6, RC_f, RC_fx, RC_a5, RC_a6, RC_ax, RC_fb, RC_fl, RC_fr, RC_ab, RC_ar, hkm, hk5]
        refine ⟨_, rfl, fun i hi => ?_⟩
        unfold upf
        split
        · next e => rw [e]
        · exact hg i (by omega)
      · have e : k = mm := by omega
        subst e
        simp (disch := omega) only [q_0, q_1, q_2, q_3, q_4, q_5, q_6, q_7, q_8, q_9, q_10, q_11, q_12, q_15, q_16, q_20, q_21, q_25, q_30, q_31, q_32, q_40, q_44, q_48, q_50, q_57, q_59, q_60, q_64, q_81, q_97, q_98, q_99, q_100, q_101, q_102, q_103, q_104, q_105, q_107, q_108, q_110, q_111, q_114, q_115, q_116, q_119, q_120, q_121, q_122, q_136, q_160, q_200, q_255, q_300, q_400, q_401, q_402, q_460, q_479, q_480, q_920, q_999, q_1000, q_1023, q_1024, q_4020, q_9999, q_99999, q_1000000, q_1000000000, q_100001, q_100002, q_100003, q_100004, q_400000, nn_1, r_0, r_1, r_2, r_3, r_4, r_6, r_7, r_8, r_9, r_10, r_11, r_21, r_40, r_48, r_57, r_60, r_97, r_122, r_200, r_300, r_479, r_920, r_9999, r_99999, r_m1, rd_pu, rd_gI, rd_gB, rd_gL, rd_gQ, rd_rI, rd_rB, rd_rQ, rd_rK, rd_dq, rd_cq, rd_div, rd_rem, rd_mb, rd_mif, rd_within, rd_in, Bool.true_and, Bool.and_true, Bool.cond_self, Bool.cond_false_right, Bool.cond_true_left, cond_true, cond_false, rd_sAt, wp_rd, wp_mb, wp_mif, wp_sI, wp_sB, wp_sL, wp_sQ, wp_wI, wp_wB, wp_wQ, orR_l, orR_r, orE_l, orE_r, sK_l, sK_r, sK_c, cond_tr, fi_ufi, fi_ufi1, fi_ufi2, fb_ufb, fb_ufb1, fb_ufb2, fl_ufl, fl_ufl1, fl_ufl2, fr_ufr, fr_ufr1, fr_ufr2, ai_sa, ai_sa1, ab_sab, ab_sab1, ar_sar, ar_sar1, upf_eq, upf_ne, fi_ufb, fi_ufl, fi_ufr, fi_sa, fi_sab, fi_sar, fb_ufi, fb_ufl, fb_ufr, fb_sa, fb_sab, fb_sar, fl_ufi, fl_ufb, fl_ufr, fl_sa, fl_sab, fl_sar, fr_ufi, fr_ufb, fr_ufl, fr_sa, fr_sab, fr_sar, ai_ufi, ai_ufb, ai_ufl, ai_ufr, ai_sab, ai_sar, ab_ufi, ab_ufb, ab_ufl, ab_ufr, ab_sa, ab_sar, ar_ufi, ar_ufb, ar_ufl, ar_ufr, ar_sa, ar_sab, sa_sa, sab_sab, sar_sar, upf_upf, ufi_ufi, tnN, inbN, addN, subN, mulN, decN, divN, remN, n2_lt, n2_le, n2_gt, n2_ge, n2_eq, n2_ne, n0_lt, n0_ge, n0_gt, n0_le, n0_eq, n0_ne, m2_eq, m2_ne, m2_eqq, m2_neq, m0_lt, m0_ge, m0_eq, m0_ne, m2_eqN, m2_neN, wi_N, wi_P, wi_NN, inN_N, li_wi, Nat.reduceAdd, Nat.reduceSub, Nat.reduceMul, Nat.reduceDiv, Nat.reduceMod, Nat.reduceLT, Nat.reduceLeDiff, Nat.reduceEqDiff, decide_true, decide_false, Nat.add_zero, Nat.zero_add, Nat.mul_one, Nat.one_mul, Nat.mul_zero, Nat.zero_mul, n0_gts, Prod.mk.injEq, modN, decide_eq_true_eq, decide_eq_false_iff_not, Bool.and_eq_true, Bool.or_eq_true, Bool.not_eq_true', Bool.not_eq_false', Bool.not_eq_true, Bool.not_eq_false, Bool.not_not, Bool.not_true, Bool.not_false, Bool.true_eq_false, Bool.false_eq_true, true_and, and_true, false_and, and_false, true_implies, false_implies, implies_true, not_true_eq_false, not_false_eq_true, ne_eq, Bool.and_eq_false_imp, Bool.or_eq_false_iff, eq_self, or_false, false_or, or_true, true_or, RC_u, RC_5, RC_6, RC_f, RC_fx, RC_a5, RC_a6, RC_ax, RC_fb, RC_fl, RC_fr, RC_ab, RC_ar, hkm]
        exact ⟨g, rfl, hg⟩
    · rintro _ S' ⟨g, rfl, hg⟩
      refine hQ _ _ ?_ (up 9 _ (by omega))
      have e : ap1 kd (ai SC 21) (ai SC 22) X (10 * r + j) = (X.1, Int32.ofNat mm, Int32.ofNat pk) := by unfold ap1; rw [if_pos hk, v4, v5]
      rw [e]
      refine ⟨?_, ?_, ?_, ?_, ?_, upf_eq _ _ _, mm, v2, rfl, hg⟩
      all_goals (rw [upf_ne _ _ _ _ (by omega)]; assumption)
  all_goals
    simp (disch := omega) only [q_0, q_1, q_2, q_3, q_4, q_5, q_6, q_7, q_8, q_9, q_10, q_11, q_12, q_15, q_16, q_20, q_21, q_25, q_30, q_31, q_32, q_40, q_44, q_48, q_50, q_57, q_59, q_60, q_64, q_81, q_97, q_98, q_99, q_100, q_101, q_102, q_103, q_104, q_105, q_107, q_108, q_110, q_111, q_114, q_115, q_116, q_119, q_120, q_121, q_122, q_136, q_160, q_200, q_255, q_300, q_400, q_401, q_402, q_460, q_479, q_480, q_920, q_999, q_1000, q_1023, q_1024, q_4020, q_9999, q_99999, q_1000000, q_1000000000, q_100001, q_100002, q_100003, q_100004, q_400000, nn_1, r_0, r_1, r_2, r_3, r_4, r_6, r_7, r_8, r_9, r_10, r_11, r_21, r_40, r_48, r_57, r_60, r_97, r_122, r_200, r_300, r_479, r_920, r_9999, r_99999, r_m1, rd_pu, rd_gI, rd_gB, rd_gL, rd_gQ, rd_rI, rd_rB, rd_rQ, rd_rK, rd_dq, rd_cq, rd_div, rd_rem, rd_mb, rd_mif, rd_within, rd_in, Bool.true_and, Bool.and_true, Bool.cond_self, Bool.cond_false_right, Bool.cond_true_left, cond_true, cond_false, rd_sAt, wp_rd, wp_mb, wp_mif, wp_sI, wp_sB, wp_sL, wp_sQ, wp_wI, wp_wB, wp_wQ, orR_l, orR_r, orE_l, orE_r, sK_l, sK_r, sK_c, cond_tr, fi_ufi, fi_ufi1, fi_ufi2, fb_ufb, fb_ufb1, fb_ufb2, fl_ufl, fl_ufl1, fl_ufl2, fr_ufr, fr_ufr1, fr_ufr2, ai_sa, ai_sa1, ab_sab, ab_sab1, ar_sar, ar_sar1, upf_eq, upf_ne, fi_ufb, fi_ufl, fi_ufr, fi_sa, fi_sab, fi_sar, fb_ufi, fb_ufl, fb_ufr, fb_sa, fb_sab, fb_sar, fl_ufi, fl_ufb, fl_ufr, fl_sa, fl_sab, fl_sar, fr_ufi, fr_ufb, fr_ufl, fr_sa, fr_sab, fr_sar, ai_ufi, ai_ufb, ai_ufl, ai_ufr, ai_sab, ai_sar, ab_ufi, ab_ufb, ab_ufl, ab_ufr, ab_sa, ab_sar, ar_ufi, ar_ufb, ar_ufl, ar_ufr, ar_sa, ar_sab, sa_sa, sab_sab, sar_sar, upf_upf, ufi_ufi, tnN, inbN, addN, subN, mulN, decN, divN, remN, n2_lt, n2_le, n2_gt, n2_ge, n2_eq, n2_ne, n0_lt, n0_ge, n0_gt, n0_le, n0_eq, n0_ne, m2_eq, m2_ne, m2_eqq, m2_neq, m0_lt, m0_ge, m0_eq, m0_ne, m2_eqN, m2_neN, wi_N, wi_P, wi_NN, inN_N, li_wi, Nat.reduceAdd, Nat.reduceSub, Nat.reduceMul, Nat.reduceDiv, Nat.reduceMod, Nat.reduceLT, Nat.reduceLeDiff, Nat.reduceEqDiff, decide_true, decide_false, Nat.add_zero, Nat.zero_add, Nat.mul_one, Nat.one_mul, Nat.mul_zero, Nat.zero_mul, n0_gts, Prod.mk.injEq, modN, decide_eq_true_eq, decide_eq_false_iff_not, Bool.and_eq_true, Bool.or_eq_true, Bool.not_eq_true', Bool.not_eq_false', Bool.not_eq_true, Bool.not_eq_false, Bool.not_not, Bool.not_true, Bool.not_false, Bool.true_eq_false, Bool.false_eq_true, true_and, and_true, false_and, and_false, true_implies, false_implies, implies_true, not_true_eq_false, not_false_eq_true, ne_eq, Bool.and_eq_false_imp, Bool.or_eq_false_iff, eq_self, or_false, false_or, or_true, true_or, RC_u, RC_5, RC_6, RC_f, RC_fx, RC_a5, RC_a6, RC_ax, RC_fb, RC_fl, RC_fr, RC_ab, RC_ar, i60, d2, hk, tsw_0, tsw_1, Int.reduceToNat, Nat.not_lt_zero, if_true, if_false, gD0, gD1, gD2, gD3, gD4, gD5, gD6, gD7, gD8, gD9, gD10, gD11, gD12, gD13, gD14, gD15]
    refine hQ _ _ ?_ (by first | exact up _ _ (by omega) | exact fun k hk => rfl)
    have e : ap1 kd (ai SC 21) (ai SC 22) X (10 * r + j) = (upf X.1 (kd (10 * r + j)) (ai SC 21 (10 * r + j)), X.2.1, X.2.2) := by unfold ap1; rw [if_neg (by omega)]
    rw [e, hk]
    refine ⟨?_, ?_, ?_, ?_, ?_, ?_, m, x7, x8, x9⟩
    all_goals simp [upf, x1, x2, x3, x4, x5, x6]
end
