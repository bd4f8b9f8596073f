/-! the ways of a pair: all of them, each once, by number -/
def Bij (v : Nat → Nat) (m : Nat) (X : Nat → Prop) : Prop := (∀ i, i < m → X (v i)) ∧ (∀ q, X q → ∃ i, i < m ∧ v i = q) ∧ (∀ i j, i < m → j < m → v i = v j → i = j)
def swp (v : Nat → Nat) (k l : Nat) : Nat → Nat := fun i => if i = k then v l else if i = l then v k else v i
theorem Bij_swp {v : Nat → Nat} {m : Nat} {X : Nat → Prop} (h : Bij v m X) {k l : Nat} (hk : k < m) (hl : l < m) : Bij (swp v k l) m X := by
  obtain ⟨h1, h2, h3⟩ := h
  have hs : ∀ i, i < m → ∃ j, j < m ∧ swp v k l i = v j ∧ (j = if i = k then l else if i = l then k else i) := by
    intro i hi
    unfold swp
    by_cases e1 : i = k
    · exact ⟨l, hl, by rw [if_pos e1], by rw [if_pos e1]⟩
    · by_cases e2 : i = l
      · exact ⟨k, hk, by rw [if_neg e1, if_pos e2], by rw [if_neg e1, if_pos e2]⟩
      · exact ⟨i, hi, by rw [if_neg e1, if_neg e2], by rw [if_neg e1, if_neg e2]⟩
  refine ⟨fun i hi => ?_, fun q hq => ?_, fun i j hi hj he => ?_⟩
  · obtain ⟨j, hj, e, -⟩ := hs i hi
    rw [e]; exact h1 j hj
  · obtain ⟨i, hi, e⟩ := h2 q hq
    by_cases e1 : i = k
    · exact ⟨l, hl, by unfold swp; by_cases h : l = k <;> simp [h, ← e, e1]⟩
    · by_cases e2 : i = l
      · exact ⟨k, hk, by unfold swp; simp [← e, e2]⟩
      · exact ⟨i, hi, by unfold swp; simp [e1, e2, e]⟩
  · obtain ⟨a, ha, ea, ea'⟩ := hs i hi
    obtain ⟨b, hb, eb, eb'⟩ := hs j hj
    rw [ea, eb] at he
    have := h3 a b ha hb he
    subst this
    rw [ea'] at eb'
    split at eb' <;> split at eb' <;> (try split at eb') <;> (try split at eb') <;> omega
section
variable {al : Nat → Bool} {A B M : Nat → Nat} {c3 c4 c5 : Nat → Int32} {a b : Nat}
theorem mem_l3 {w v y q k : Nat} : q ∈ l3 al A B M b w v y k ↔ ∃ u, u < k ∧ fe al A B u y = some b ∧ q = wc 3 (M w + M v + M u) w v u := by
  unfold l3
  rw [List.mem_flatMap]
  constructor
  · rintro ⟨u, hu, hq⟩
    split at hq
    · next h => exact ⟨u, List.mem_range.mp hu, h, by simpa using hq⟩
    · simp at hq
  · rintro ⟨u, hu, h, rfl⟩
    exact ⟨u, List.mem_range.mpr hu, by rw [if_pos h]; simp⟩
theorem mem_l2 {w x q k : Nat} : q ∈ l2 al A B M a b w x k ↔ ∃ v y, v < k ∧ fe al A B v x = some y ∧ ((y = b ∧ q = wc 2 (M w + M v) w v 0) ∨ (y ≠ b ∧ y ≠ a ∧ ∃ u, u < 20 ∧ fe al A B u y = some b ∧ q = wc 3 (M w + M v + M u) w v u)) := by
  unfold l2
  rw [List.mem_flatMap]
  constructor
  · rintro ⟨v, hv, hq⟩
    cases hf : fe al A B v x with
    | none => rw [hf] at hq; simp at hq
    | some y =>
      rw [hf] at hq
      simp only at hq
      split at hq
      · next h => exact ⟨v, y, List.mem_range.mp hv, hf, Or.inl ⟨h, by simpa using hq⟩⟩
      · next h =>
        split at hq
        · simp at hq
        · next h2 => exact ⟨v, y, List.mem_range.mp hv, hf, Or.inr ⟨h, h2, mem_l3.mp hq⟩⟩
  · rintro ⟨v, y, hv, hf, h⟩
    refine ⟨v, List.mem_range.mpr hv, ?_⟩
    rw [hf]
    simp only
    rcases h with ⟨h1, rfl⟩ | ⟨h1, h2, h3⟩
    · rw [if_pos h1]; simp
    · rw [if_neg h1, if_neg h2]; exact mem_l3.mpr h3
theorem mem_l1 {q k : Nat} : q ∈ l1 al A B M a b k ↔ ∃ w x, w < k ∧ fe al A B w a = some x ∧ ((x = b ∧ q = wc 1 (M w) w 0 0) ∨ (x ≠ b ∧ ∃ v y, v < 20 ∧ fe al A B v x = some y ∧ ((y = b ∧ q = wc 2 (M w + M v) w v 0) ∨ (y ≠ b ∧ y ≠ a ∧ ∃ u, u < 20 ∧ fe al A B u y = some b ∧ q = wc 3 (M w + M v + M u) w v u)))) := by
  unfold l1
  rw [List.mem_flatMap]
  constructor
  · rintro ⟨w, hw, hq⟩
    cases hf : fe al A B w a with
    | none => rw [hf] at hq; simp at hq
    | some x =>
      rw [hf] at hq
      simp only at hq
      split at hq
      · next h => exact ⟨w, x, List.mem_range.mp hw, hf, Or.inl ⟨h, by simpa using hq⟩⟩
      · next h => exact ⟨w, x, List.mem_range.mp hw, hf, Or.inr ⟨h, mem_l2.mp hq⟩⟩
  · rintro ⟨w, x, hw, hf, h⟩
    refine ⟨w, List.mem_range.mpr hw, ?_⟩
    rw [hf]
    simp only
    rcases h with ⟨h1, rfl⟩ | ⟨h1, h3⟩
    · rw [if_pos h1]; simp
    · rw [if_neg h1]; exact mem_l2.mpr h3
/-- the lines of a way in the pool -/
theorem l3_dec {w v y q k : Nat} (hw : w < 20) (hv : v < 20) (hk : k ≤ 20) (h : q ∈ l3 al A B M b w v y k) : wP q 0 = w ∧ wP q 1 = v ∧ wP q 2 < k := by
  obtain ⟨u, hu, -, rfl⟩ := mem_l3.mp h
  rw [wc_0 (by omega) (by omega) (by omega), wc_1 (by omega) (by omega), wc_2 (by omega)]
  exact ⟨rfl, rfl, hu⟩
theorem nd_fm {f : Nat → List Nat} (g : Nat → Nat) {k : Nat} (h1 : ∀ i, i < k → (f i).Nodup) (h2 : ∀ i, i < k → ∀ q, q ∈ f i → g q = i) : ((List.range k).flatMap f).Nodup := by
  induction k with
  | zero => simp
  | succ k ih =>
    rw [fm_succ, List.nodup_append]
    refine ⟨ih (fun i hi => h1 i (by omega)) (fun i hi => h2 i (by omega)), h1 k (by omega), fun x hx y hy e => ?_⟩
    subst e
    obtain ⟨i, hi, hxi⟩ := List.mem_flatMap.mp hx
    have hi' := List.mem_range.mp hi
    have e1 := h2 i (by omega) x hxi
    have e2 := h2 k (by omega) x hy
    omega
theorem l3_nd {w v y : Nat} : (l3 al A B M b w v y 20).Nodup := by
  unfold l3
  refine nd_fm (fun q => wP q 2) (fun i _ => ?_) (fun i hi q hq => ?_)
  · split <;> simp
  · split at hq
    · have : q = wc 3 (M w + M v + M i) w v i := by simpa using hq
      rw [this, wc_2 (by omega)]
    · simp at hq
theorem l2_nd {w x : Nat} (hw : w < 20) : (l2 al A B M a b w x 20).Nodup := by
  unfold l2
  refine nd_fm (fun q => wP q 1) (fun v _ => ?_) (fun v hv q hq => ?_)
  · cases fe al A B v x with
    | none => simp
    | some y =>
      simp only
      split
      · simp
      · split
        · simp
        · exact l3_nd
  · cases hf : fe al A B v x with
    | none => rw [hf] at hq; simp at hq
    | some y =>
      rw [hf] at hq
      simp only at hq
      split at hq
      · have : q = wc 2 (M w + M v) w v 0 := by simpa using hq
        rw [this, wc_1 (by omega) (by omega)]
      · split at hq
        · simp at hq
        · exact (l3_dec hw hv (Nat.le_refl _) hq).2.1
theorem seg_nd : (seg al A B M a b).Nodup := by
  unfold seg l1
  refine nd_fm (fun q => wP q 0) (fun w hw => ?_) (fun w hw q hq => ?_)
  · cases fe al A B w a with
    | none => simp
    | some x =>
      simp only
      split
      · simp
      · exact l2_nd hw
  · cases hf : fe al A B w a with
    | none => rw [hf] at hq; simp at hq
    | some x =>
      rw [hf] at hq
      simp only at hq
      split at hq
      · have : q = wc 1 (M w) w 0 0 := by simpa using hq
        rw [this, wc_0 (by omega) (by omega) (by omega)]
      · obtain ⟨v, y, hv, -, h⟩ := mem_l2.mp hq
        rcases h with ⟨-, rfl⟩ | ⟨-, -, u, hu, -, rfl⟩
        · rw [wc_0 (by omega) (by omega) (by omega)]
        · rw [wc_0 (by omega) (by omega) (by omega)]
theorem seg_Bij : Bij (fun i => (seg al A B M a b).getD i 0) (seg al A B M a b).length (fun q => q ∈ seg al A B M a b) := by
  refine ⟨fun i hi => ?_, fun q hq => ?_, fun i j hi hj h => ?_⟩
  · simp only [List.getD_eq_getElem?_getD, List.getElem?_eq_getElem hi, Option.getD_some]
    exact List.getElem_mem hi
  · obtain ⟨i, hi, e⟩ := List.getElem_of_mem hq
    exact ⟨i, hi, by simp only [List.getD_eq_getElem?_getD, List.getElem?_eq_getElem hi, Option.getD_some]; exact e⟩
  · simp only [List.getD_eq_getElem?_getD, List.getElem?_eq_getElem hi, List.getElem?_eq_getElem hj, Option.getD_some] at h
    exact (List.getElem_inj (h₀ := hi) (h₁ := hj) seg_nd).mp h
theorem seg_bd (H : NetL al A B M c3 c4 c5) {q : Nat} (h : q ∈ seg al A B M a b) : q < 134217728 ∧ 33554432 ≤ q := by
  obtain ⟨w, x, hw, hf, h⟩ := mem_l1.mp h
  have mw := ((H w hw).1 (fe_lt H hw hf).2.1).2.2.2
  rcases h with ⟨-, rfl⟩ | ⟨-, v, y, hv, hf2, h⟩
  · unfold wc; omega
  · have mv := ((H v hv).1 (fe_lt H hv hf2).2.1).2.2.2
    rcases h with ⟨-, rfl⟩ | ⟨-, -, u, hu, hf3, rfl⟩
    · unfold wc; omega
    · have mu := ((H u hu).1 (fe_lt H hu hf3).2.1).2.2.2
      unfold wc; omega
end
/-- the sort: a stretch of the pool -/
theorem wp_isort {S : Sg} {s m u : Nat} {X : Nat → Prop} (hX : ∀ q, X q → q < 2147483648) (hu : u = s + m) (hm : s + m ≤ 4020) {p0 : Nat → Int32} {v0 : Nat → Nat} (hv0 : ∀ i, i < m → p0 (s + i) = Int32.ofNat (v0 i)) (hB : Bij v0 m X) {Q : Unit → Sg → Prop}
    (hQ : ∀ p v, (∀ j, j < s → p j = p0 j) → (∀ i, i < m → p (s + i) = Int32.ofNat (v i)) → Bij v m X → (∀ i j, i < j → j < m → v i < v j) → Q () (NS S p u)) : WP (lp FU (Net_sortWays_l1 (Int32.ofNat s)) (Int32.ofNat s)) (NS S p0 u) Q := by
  refine WP.mono (wp_for m (by unfold FU; omega) (fun i a S' => a = Int32.ofNat (s + i) ∧ ∃ p v, S' = NS S p u ∧ (∀ j, j < s → p j = p0 j) ∧ (∀ j, j < m → p (s + j) = Int32.ofNat (v j)) ∧ Bij v m X ∧ (∀ j k, j < k → k < i → v j < v k)) ?_ ⟨rfl, p0, v0, rfl, fun _ _ => rfl, hv0, hB, fun j k h1 h2 => by omega⟩ (Q := fun _ S' => ∃ p v, S' = NS S p u ∧ (∀ j, j < s → p j = p0 j) ∧ (∀ j, j < m → p (s + j) = Int32.ofNat (v j)) ∧ Bij v m X ∧ (∀ j k, j < k → k < m → v j < v k))) ?_
  · rintro i a S' hi ⟨rfl, p, v, rfl, hlo, hv, hBv, hs⟩
    unfold Net_sortWays_l1
    by_cases him : i < m
    · have hiu : s + i < u := by omega
      have i7 : s + i < 4020 := by omega
      have hvi := hv i him
      have hvb := hX _ (hBv.1 i him)
      simp (disch := omega) only [q_0, q_1, q_2, q_3, q_4, q_5, q_6, q_7, q_8, q_9, q_10, q_11, q_12, q_15, q_16, q_20, q_21, q_25, q_30, q_31, q_32, q_40, q_44, q_48, q_50, q_57, q_59, q_60, q_64, q_81, q_97, q_98, q_99, q_100, q_101, q_102, q_103, q_104, q_105, q_107, q_108, q_110, q_111, q_114, q_115, q_116, q_119, q_120, q_121, q_122, q_136, q_160, q_200, q_255, q_300, q_400, q_401, q_402, q_460, q_479, q_480, q_920, q_999, q_1000, q_1023, q_1024, q_4020, q_9999, q_99999, q_1000000, q_1000000000, q_100001, q_100002, q_100003, q_100004, q_400000, nn_1, r_0, r_1, r_2, r_3, r_4, r_6, r_7, r_8, r_9, r_10, r_11, r_21, r_40, r_48, r_57, r_60, r_97, r_122, r_200, r_300, r_479, r_920, r_9999, r_99999, r_m1, rd_pu, rd_gI, rd_gB, rd_gL, rd_gQ, rd_rI, rd_rB, rd_rQ, rd_rK, rd_dq, rd_cq, rd_div, rd_rem, rd_mb, rd_mif, rd_within, rd_in, Bool.true_and, Bool.and_true, Bool.cond_self, Bool.cond_false_right, Bool.cond_true_left, cond_true, cond_false, rd_sAt, wp_rd, wp_mb, wp_mif, wp_sI, wp_sB, wp_sL, wp_sQ, wp_wI, wp_wB, wp_wQ, orR_l, orR_r, orE_l, orE_r, sK_l, sK_r, sK_c, cond_tr, fi_ufi, fi_ufi1, fi_ufi2, fb_ufb, fb_ufb1, fb_ufb2, fl_ufl, fl_ufl1, fl_ufl2, fr_ufr, fr_ufr1, fr_ufr2, ai_sa, ai_sa1, ab_sab, ab_sab1, ar_sar, ar_sar1, upf_eq, upf_ne, fi_ufb, fi_ufl, fi_ufr, fi_sa, fi_sab, fi_sar, fb_ufi, fb_ufl, fb_ufr, fb_sa, fb_sab, fb_sar, fl_ufi, fl_ufb, fl_ufr, fl_sa, fl_sab, fl_sar, fr_ufi, fr_ufb, fr_ufl, fr_sa, fr_sab, fr_sar, ai_ufi, ai_ufb, ai_ufl, ai_ufr, ai_sab, ai_sar, ab_ufi, ab_ufb, ab_ufl, ab_ufr, ab_sa, ab_sar, ar_ufi, ar_ufb, ar_ufl, ar_ufr, ar_sa, ar_sab, sa_sa, sab_sab, sar_sar, upf_upf, ufi_ufi, tnN, inbN, addN, subN, mulN, decN, divN, remN, n2_lt, n2_le, n2_gt, n2_ge, n2_eq, n2_ne, n0_lt, n0_ge, n0_gt, n0_le, n0_eq, n0_ne, m2_eq, m2_ne, m2_eqq, m2_neq, m0_lt, m0_ge, m0_eq, m0_ne, m2_eqN, m2_neN, wi_N, wi_P, wi_NN, inN_N, li_wi, Nat.reduceAdd, Nat.reduceSub, Nat.reduceMul, Nat.reduceDiv, Nat.reduceMod, Nat.reduceLT, Nat.reduceLeDiff, Nat.reduceEqDiff, decide_true, decide_false, Nat.add_zero, Nat.zero_add, Nat.mul_one, Nat.one_mul, Nat.mul_zero, Nat.zero_mul, n0_gts, Prod.mk.injEq, modN, decide_eq_true_eq, decide_eq_false_iff_not, Bool.and_eq_true, Bool.or_eq_true, Bool.not_eq_true', Bool.not_eq_false', Bool.not_eq_true, Bool.not_eq_false, Bool.not_not, Bool.not_true, Bool.not_false, Bool.true_eq_false, Bool.false_eq_true, true_and, and_true, false_and, and_false, true_implies, false_implies, implies_true, not_true_eq_false, not_false_eq_true, ne_eq, Bool.and_eq_false_imp, Bool.or_eq_false_iff, eq_self, or_false, false_or, or_true, true_or, NS_f, NS_a, hiu, i7, hvi]
      refine WP.mono (wp_lpm i (by unfold FU; omega) (fun k a S' => a = Int32.ofNat (s + k) ∧ k ≤ i ∧ ∃ p' w, S' = NS S p' u ∧ (∀ j, j < s → p' j = p0 j) ∧ (∀ j, j < m → j ≠ k → p' (s + j) = Int32.ofNat (w j)) ∧ w k = v i ∧ Bij w m X ∧ (∀ j l, j < l → l ≤ i → j ≠ k → l ≠ k → w j < w l) ∧ (∀ l, k < l → l ≤ i → v i < w l)) ?_ ⟨rfl, Nat.le_refl _, p, v, rfl, hlo, fun j h1 _ => hv j h1, rfl, hBv, fun j l h1 h2 h3 h4 => hs j l h1 (by omega), fun l h1 h2 => by omega⟩ (Q := fun a S' => ∃ k, a = Int32.ofNat (s + k) ∧ k ≤ i ∧ ∃ p' w, S' = NS S p' u ∧ (∀ j, j < s → p' j = p0 j) ∧ (∀ j, j < m → j ≠ k → p' (s + j) = Int32.ofNat (w j)) ∧ w k = v i ∧ Bij w m X ∧ (∀ j l, j < l → l ≤ i → w j < w l))) ?_
      · rintro k a S' ⟨rfl, hki, p', w, rfl, hlo', hw, hwk, hBw, hso, hhi⟩
        unfold Net_sortWays_l2
        cases k with
        | zero =>
          have hns : ¬ s < s := by omega
          simp (disch := omega) only [q_0, q_1, q_2, q_3, q_4, q_5, q_6, q_7, q_8, q_9, q_10, q_11, q_12, q_15, q_16, q_20, q_21, q_25, q_30, q_31, q_32, q_40, q_44, q_48, q_50, q_57, q_59, q_60, q_64, q_81, q_97, q_98, q_99, q_100, q_101, q_102, q_103, q_104, q_105, q_107, q_108, q_110, q_111, q_114, q_115, q_116, q_119, q_120, q_121, q_122, q_136, q_160, q_200, q_255, q_300, q_400, q_401, q_402, q_460, q_479, q_480, q_920, q_999, q_1000, q_1023, q_1024, q_4020, q_9999, q_99999, q_1000000, q_1000000000, q_100001, q_100002, q_100003, q_100004, q_400000, nn_1, r_0, r_1, r_2, r_3, r_4, r_6, r_7, r_8, r_9, r_10, r_11, r_21, r_40, r_48, r_57, r_60, r_97, r_122, r_200, r_300, r_479, r_920, r_9999, r_99999, r_m1, rd_pu, rd_gI, rd_gB, rd_gL, rd_gQ, rd_rI, rd_rB, rd_rQ, rd_rK, rd_dq, rd_cq, rd_div, rd_rem, rd_mb, rd_mif, rd_within, rd_in, Bool.true_and, Bool.and_true, Bool.cond_self, Bool.cond_false_right, Bool.cond_true_left, cond_true, cond_false, rd_sAt, wp_rd, wp_mb, wp_mif, wp_sI, wp_sB, wp_sL, wp_sQ, wp_wI, wp_wB, wp_wQ, orR_l, orR_r, orE_l, orE_r, sK_l, sK_r, sK_c, cond_tr, fi_ufi, fi_ufi1, fi_ufi2, fb_ufb, fb_ufb1, fb_ufb2, fl_ufl, fl_ufl1, fl_ufl2, fr_ufr, fr_ufr1, fr_ufr2, ai_sa, ai_sa1, ab_sab, ab_sab1, ar_sar, ar_sar1, upf_eq, upf_ne, fi_ufb, fi_ufl, fi_ufr, fi_sa, fi_sab, fi_sar, fb_ufi, fb_ufl, fb_ufr, fb_sa, fb_sab, fb_sar, fl_ufi, fl_ufb, fl_ufr, fl_sa, fl_sab, fl_sar, fr_ufi, fr_ufb, fr_ufl, fr_sa, fr_sab, fr_sar, ai_ufi, ai_ufb, ai_ufl, ai_ufr, ai_sab, ai_sar, ab_ufi, ab_ufb, ab_ufl, ab_ufr, ab_sa, ab_sar, ar_ufi, ar_ufb, ar_ufl, ar_ufr, ar_sa, ar_sab, sa_sa, sab_sab, sar_sar, upf_upf, ufi_ufi, tnN, inbN, addN, subN, mulN, decN, divN, remN, n2_lt, n2_le, n2_gt, n2_ge, n2_eq, n2_ne, n0_lt, n0_ge, n0_gt, n0_le, n0_eq, n0_ne, m2_eq, m2_ne, m2_eqq, m2_neq, m0_lt, m0_ge, m0_eq, m0_ne, m2_eqN, m2_neN, wi_N, wi_P, wi_NN, inN_N, li_wi, Nat.reduceAdd, Nat.reduceSub, Nat.reduceMul, Nat.reduceDiv, Nat.reduceMod, Nat.reduceLT, Nat.reduceLeDiff, Nat.reduceEqDiff, decide_true, decide_false, Nat.add_zero, Nat.zero_add, Nat.mul_one, Nat.one_mul, Nat.mul_zero, Nat.zero_mul, n0_gts, Prod.mk.injEq, modN, decide_eq_true_eq, decide_eq_false_iff_not, Bool.and_eq_true, Bool.or_eq_true, Bool.not_eq_true', Bool.not_eq_false', Bool.not_eq_true, Bool.not_eq_false, Bool.not_not, Bool.not_true, Bool.not_false, Bool.true_eq_false, Bool.false_eq_true, true_and, and_true, false_and, and_false, true_implies, false_implies, implies_true, not_true_eq_false, not_false_eq_true, ne_eq, Bool.and_eq_false_imp, Bool.or_eq_false_iff, eq_self, or_false, false_or, or_true, true_or, NS_f, NS_a, hns]
          refine ⟨0, rfl, by omega, p', w, rfl, hlo', hw, hwk, hBw, fun j l h1 h2 => ?_⟩
          by_cases hj0 : j = 0
          · subst hj0; rw [hwk]; exact hhi l h1 h2
          · exact hso j l h1 h2 hj0 (by omega)
        | succ k =>
          have hk7 : s + k < 4020 := by omega
          have hk71 : s + (k + 1) < 4020 := by omega
          have hsk : s < s + (k + 1) := by omega
          have ek : s + (k + 1) - 1 = s + k := by omega
          have hpk := hw k (by omega) (by omega)
          have hwb := hX _ (hBw.1 k (by omega))
          by_cases hc : v i < w k
          · simp (disch := omega) only [q_0, q_1, q_2, q_3, q_4, q_5, q_6, q_7, q_8, q_9, q_10, q_11, q_12, q_15, q_16, q_20, q_21, q_25, q_30, q_31, q_32, q_40, q_44, q_48, q_50, q_57, q_59, q_60, q_64, q_81, q_97, q_98, q_99, q_100, q_101, q_102, q_103, q_104, q_105, q_107, q_108, q_110, q_111, q_114, q_115, q_116, q_119, q_120, q_121, q_122, q_136, q_160, q_200, q_255, q_300, q_400, q_401, q_402, q_460, q_479, q_480, q_920, q_999, q_1000, q_1023, q_1024, q_4020, q_9999, q_99999, q_1000000, q_1000000000, q_100001, q_100002, q_100003, q_100004, q_400000, nn_1, r_0, r_1, r_2, r_3, r_4, r_6, r_7, r_8, r_9, r_10, r_11, r_21, r_40, r_48, r_57, r_60, r_97, r_122, r_200, r_300, r_479, r_920, r_9999, r_99999, r_m1, rd_pu, rd_gI, rd_gB, rd_gL, rd_gQ, rd_rI, rd_rB, rd_rQ, rd_rK, rd_dq, rd_cq, rd_div, rd_rem, rd_mb, rd_mif, rd_within, rd_in, Bool.true_and, Bool.and_true, Bool.cond_self, Bool.cond_false_right, Bool.cond_true_left, cond_true, cond_false, rd_sAt, wp_rd, wp_mb, wp_mif, wp_sI, wp_sB, wp_sL, wp_sQ, wp_wI, wp_wB, wp_wQ, orR_l, orR_r, orE_l, orE_r, sK_l, sK_r, sK_c, cond_tr, fi_ufi, fi_ufi1, fi_ufi2, fb_ufb, fb_ufb1, fb_ufb2, fl_ufl, fl_ufl1, fl_ufl2, fr_ufr, fr_ufr1, fr_ufr2, ai_sa, ai_sa1, ab_sab, ab_sab1, ar_sar, ar_sar1, upf_eq, upf_ne, fi_ufb, fi_ufl, fi_ufr, fi_sa, fi_sab, fi_sar, fb_ufi, fb_ufl, fb_ufr, fb_sa, fb_sab, fb_sar, fl_ufi, fl_ufb, fl_ufr, fl_sa, fl_sab, fl_sar, fr_ufi, fr_ufb, fr_ufl, fr_sa, fr_sab, fr_sar, ai_ufi, ai_ufb, ai_ufl, ai_ufr, ai_sab, ai_sar, ab_ufi, ab_ufb, ab_ufl, ab_ufr, ab_sa, ab_sar, ar_ufi, ar_ufb, ar_ufl, ar_ufr, ar_sa, ar_sab, sa_sa, sab_sab, sar_sar, upf_upf, ufi_ufi, tnN, inbN, addN, subN, mulN, decN, divN, remN, n2_lt, n2_le, n2_gt, n2_ge, n2_eq, n2_ne, n0_lt, n0_ge, n0_gt, n0_le, n0_eq, n0_ne, m2_eq, m2_ne, m2_eqq, m2_neq, m0_lt, m0_ge, m0_eq, m0_ne, m2_eqN, m2_neN, wi_N, wi_P, wi_NN, inN_N, li_wi, Nat.reduceAdd, Nat.reduceSub, Nat.reduceMul, Nat.reduceDiv, Nat.reduceMod, Nat.reduceLT, Nat.reduceLeDiff, Nat.reduceEqDiff, decide_true, decide_false, Nat.add_zero, Nat.zero_add, Nat.mul_one, Nat.one_mul, Nat.mul_zero, Nat.zero_mul, n0_gts, Prod.mk.injEq, modN, decide_eq_true_eq, decide_eq_false_iff_not, Bool.and_eq_true, Bool.or_eq_true, Bool.not_eq_true', Bool.not_eq_false', Bool.not_eq_true, Bool.not_eq_false, Bool.not_not, Bool.not_true, Bool.not_false, Bool.true_eq_false, Bool.false_eq_true, true_and, and_true, false_and, and_false, true_implies, false_implies, implies_true, not_true_eq_false, not_false_eq_true, ne_eq, Bool.and_eq_false_imp, Bool.or_eq_false_iff, eq_self, or_false, false_or, or_true, true_or, NS_f, NS_a, NS_p, hsk, ek, hk7, hk71, hpk, hc]
            refine ⟨k, by omega, ⟨rfl, by omega, _, swp w k (k + 1), rfl, fun j hj => ?_, fun j hj hjk => ?_, ?_, Bij_swp hBw (by omega) (by omega), fun j l h1 h2 h3 h4 => ?_, fun l h1 h2 => ?_⟩⟩
            · rw [upf_ne _ _ _ _ (by omega)]; exact hlo' j hj
            · unfold swp
              rw [if_neg hjk]
              by_cases hjk1 : j = k + 1
              · subst hjk1
                rw [if_pos rfl, upf_eq]
              · rw [if_neg hjk1, upf_ne _ _ _ _ (by omega)]
                exact hw j hj hjk1
            · unfold swp; rw [if_pos rfl]; exact hwk
            · unfold swp
              rw [if_neg h3, if_neg h4]
              by_cases e1 : j = k + 1
              · rw [if_pos e1, if_neg (by omega)]
                exact hso k l (by omega) h2 (by omega) (by omega)
              · rw [if_neg e1]
                by_cases e2 : l = k + 1
                · rw [if_pos e2]
                  exact hso j k (by omega) (by omega) e1 (by omega)
                · rw [if_neg e2]
                  exact hso j l h1 h2 e1 e2
            · unfold swp
              rw [if_neg (by omega)]
              by_cases e1 : l = k + 1
              · rw [if_pos e1]; exact hc
              · rw [if_neg e1]; exact hhi l (by omega) h2
          · simp (disch := omega) only [q_0, q_1, q_2, q_3, q_4, q_5, q_6, q_7, q_8, q_9, q_10, q_11, q_12, q_15, q_16, q_20, q_21, q_25, q_30, q_31, q_32, q_40, q_44, q_48, q_50, q_57, q_59, q_60, q_64, q_81, q_97, q_98, q_99, q_100, q_101, q_102, q_103, q_104, q_105, q_107, q_108, q_110, q_111, q_114, q_115, q_116, q_119, q_120, q_121, q_122, q_136, q_160, q_200, q_255, q_300, q_400, q_401, q_402, q_460, q_479, q_480, q_920, q_999, q_1000, q_1023, q_1024, q_4020, q_9999, q_99999, q_1000000, q_1000000000, q_100001, q_100002, q_100003, q_100004, q_400000, nn_1, r_0, r_1, r_2, r_3, r_4, r_6, r_7, r_8, r_9, r_10, r_11, r_21, r_40, r_48, r_57, r_60, r_97, r_122, r_200, r_300, r_479, r_920, r_9999, r_99999, r_m1, rd_pu, rd_gI, rd_gB, rd_gL, rd_gQ, rd_rI, rd_rB, rd_rQ, rd_rK, rd_dq, rd_cq, rd_div, rd_rem, rd_mb, rd_mif, rd_within, rd_in, Bool.true_and, Bool.and_true, Bool.cond_self, Bool.cond_false_right, Bool.cond_true_left, cond_true, cond_false, rd_sAt, wp_rd, wp_mb, wp_mif, wp_sI, wp_sB, wp_sL, wp_sQ, wp_wI, wp_wB, wp_wQ, orR_l, orR_r, orE_l, orE_r, sK_l, sK_r, sK_c, cond_tr, fi_ufi, fi_ufi1, fi_ufi2, fb_ufb, fb_ufb1, fb_ufb2, fl_ufl, fl_ufl1, fl_ufl2, fr_ufr, fr_ufr1, fr_ufr2, ai_sa, ai_sa1, ab_sab, ab_sab1, ar_sar, ar_sar1, upf_eq, upf_ne, fi_ufb, fi_ufl, fi_ufr, fi_sa, fi_sab, fi_sar, fb_ufi, fb_ufl, fb_ufr, fb_sa, fb_sab, fb_sar, fl_ufi, fl_ufb, fl_ufr, fl_sa, fl_sab, fl_sar, fr_ufi, fr_ufb, fr_ufl, fr_sa, fr_sab, fr_sar, ai_ufi, ai_ufb, ai_ufl, ai_ufr, ai_sab, ai_sar, ab_ufi, ab_ufb, ab_ufl, ab_ufr, ab_sa, ab_sar, ar_ufi, ar_ufb, ar_ufl, ar_ufr, ar_sa, ar_sab, sa_sa, sab_sab, sar_sar, upf_upf, ufi_ufi, tnN, inbN, addN, subN, mulN, decN, divN, remN, n2_lt, n2_le, n2_gt, n2_ge, n2_eq, n2_ne, n0_lt, n0_ge, n0_gt, n0_le, n0_eq, n0_ne, m2_eq, m2_ne, m2_eqq, m2_neq, m0_lt, m0_ge, m0_eq, m0_ne, m2_eqN, m2_neN, wi_N, wi_P, wi_NN, inN_N, li_wi, Nat.reduceAdd, Nat.reduceSub, Nat.reduceMul, Nat.reduceDiv, Nat.reduceMod, Nat.reduceLT, Nat.reduceLeDiff, Nat.reduceEqDiff, decide_true, decide_false, Nat.add_zero, Nat.zero_add, Nat.mul_one, Nat.one_mul, Nat.mul_zero, Nat.zero_mul, n0_gts, Prod.mk.injEq, modN, decide_eq_true_eq, decide_eq_false_iff_not, Bool.and_eq_true, Bool.or_eq_true, Bool.not_eq_true', Bool.not_eq_false', Bool.not_eq_true, Bool.not_eq_false, Bool.not_not, Bool.not_true, Bool.not_false, Bool.true_eq_false, Bool.false_eq_true, true_and, and_true, false_and, and_false, true_implies, false_implies, implies_true, not_true_eq_false, not_false_eq_true, ne_eq, Bool.and_eq_false_imp, Bool.or_eq_false_iff, eq_self, or_false, false_or, or_true, true_or, NS_f, NS_a, NS_p, hsk, ek, hk7, hk71, hpk, hc]
            have hne : w k ≠ v i := fun e => by
              have := hBw.2.2 k (k + 1) (by omega) (by omega) (by rw [e, hwk])
              omega
            refine ⟨k + 1, rfl, hki, p', w, rfl, hlo', hw, hwk, hBw, fun j l h1 h2 => ?_⟩
            by_cases e1 : j = k + 1
            · subst e1; rw [hwk]; exact hhi l h1 h2
            · by_cases e2 : l = k + 1
              · subst e2
                rw [hwk]
                by_cases e3 : j = k
                · subst e3; omega
                · have := hso j k (by omega) (by omega) e1 (by omega)
                  omega
              · exact hso j l h1 h2 e1 e2
      · rintro a S' ⟨k, rfl, hki, p', w, rfl, hlo', hw, hwk, hBw, hso⟩
        have hk7 : s + k < 4020 := by omega
        simp (disch := omega) only [q_0, q_1, q_2, q_3, q_4, q_5, q_6, q_7, q_8, q_9, q_10, q_11, q_12, q_15, q_16, q_20, q_21, q_25, q_30, q_31, q_32, q_40, q_44, q_48, q_50, q_57, q_59, q_60, q_64, q_81, q_97, q_98, q_99, q_100, q_101, q_102, q_103, q_104, q_105, q_107, q_108, q_110, q_111, q_114, q_115, q_116, q_119, q_120, q_121, q_122, q_136, q_160, q_200, q_255, q_300, q_400, q_401, q_402, q_460, q_479, q_480, q_920, q_999, q_1000, q_1023, q_1024, q_4020, q_9999, q_99999, q_1000000, q_1000000000, q_100001, q_100002, q_100003, q_100004, q_400000, nn_1, r_0, r_1, r_2, r_3, r_4, r_6, r_7, r_8, r_9, r_10, r_11, r_21, r_40, r_48, r_57, r_60, r_97, r_122, r_200, r_300, r_479, r_920, r_9999, r_99999, r_m1, rd_pu, rd_gI, rd_gB, rd_gL, rd_gQ, rd_rI, rd_rB, rd_rQ, rd_rK, rd_dq, rd_cq, rd_div, rd_rem, rd_mb, rd_mif, rd_within, rd_in, Bool.true_and, Bool.and_true, Bool.cond_self, Bool.cond_false_right, Bool.cond_true_left, cond_true, cond_false, rd_sAt, wp_rd, wp_mb, wp_mif, wp_sI, wp_sB, wp_sL, wp_sQ, wp_wI, wp_wB, wp_wQ, orR_l, orR_r, orE_l, orE_r, sK_l, sK_r, sK_c, cond_tr, fi_ufi, fi_ufi1, fi_ufi2, fb_ufb, fb_ufb1, fb_ufb2, fl_ufl, fl_ufl1, fl_ufl2, fr_ufr, fr_ufr1, fr_ufr2, ai_sa, ai_sa1, ab_sab, ab_sab1, ar_sar, ar_sar1, upf_eq, upf_ne, fi_ufb, fi_ufl, fi_ufr, fi_sa, fi_sab, fi_sar, fb_ufi, fb_ufl, fb_ufr, fb_sa, fb_sab, fb_sar, fl_ufi, fl_ufb, fl_ufr, fl_sa, fl_sab, fl_sar, fr_ufi, fr_ufb, fr_ufl, fr_sa, fr_sab, fr_sar, ai_ufi, ai_ufb, ai_ufl, ai_ufr, ai_sab, ai_sar, ab_ufi, ab_ufb, ab_ufl, ab_ufr, ab_sa, ab_sar, ar_ufi, ar_ufb, ar_ufl, ar_ufr, ar_sa, ar_sab, sa_sa, sab_sab, sar_sar, upf_upf, ufi_ufi, tnN, inbN, addN, subN, mulN, decN, divN, remN, n2_lt, n2_le, n2_gt, n2_ge, n2_eq, n2_ne, n0_lt, n0_ge, n0_gt, n0_le, n0_eq, n0_ne, m2_eq, m2_ne, m2_eqq, m2_neq, m0_lt, m0_ge, m0_eq, m0_ne, m2_eqN, m2_neN, wi_N, wi_P, wi_NN, inN_N, li_wi, Nat.reduceAdd, Nat.reduceSub, Nat.reduceMul, Nat.reduceDiv, Nat.reduceMod, Nat.reduceLT, Nat.reduceLeDiff, Nat.reduceEqDiff, decide_true, decide_false, Nat.add_zero, Nat.zero_add, Nat.mul_one, Nat.one_mul, Nat.mul_zero, Nat.zero_mul, n0_gts, Prod.mk.injEq, modN, decide_eq_true_eq, decide_eq_false_iff_not, Bool.and_eq_true, Bool.or_eq_true, Bool.not_eq_true', Bool.not_eq_false', Bool.not_eq_true, Bool.not_eq_false, Bool.not_not, Bool.not_true, Bool.not_false, Bool.true_eq_false, Bool.false_eq_true, true_and, and_true, false_and, and_false, true_implies, false_implies, implies_true, not_true_eq_false, not_false_eq_true, ne_eq, Bool.and_eq_false_imp, Bool.or_eq_false_iff, eq_self, or_false, false_or, or_true, true_or, NS_f, NS_a, NS_p, hk7]
        refine ⟨him, by rw [Nat.add_assoc], _, w, rfl, fun j hj => ?_, fun j hj => ?_, hBw, fun j l h1 h2 => hso j l h1 (by omega)⟩
        · rw [upf_ne _ _ _ _ (by omega)]; exact hlo' j hj
        · by_cases e : j = k
          · subst e; rw [upf_eq, hwk]
          · rw [upf_ne _ _ _ _ (by omega)]; exact hw j hj e
    · have e : i = m := by omega
      subst e
      have hiu : ¬ s + i < u := by omega
      simp (disch := omega) only [q_0, q_1, q_2, q_3, q_4, q_5, q_6, q_7, q_8, q_9, q_10, q_11, q_12, q_15, q_16, q_20, q_21, q_25, q_30, q_31, q_32, q_40, q_44, q_48, q_50, q_57, q_59, q_60, q_64, q_81, q_97, q_98, q_99, q_100, q_101, q_102, q_103, q_104, q_105, q_107, q_108, q_110, q_111, q_114, q_115, q_116, q_119, q_120, q_121, q_122, q_136, q_160, q_200, q_255, q_300, q_400, q_401, q_402, q_460, q_479, q_480, q_920, q_999, q_1000, q_1023, q_1024, q_4020, q_9999, q_99999, q_1000000, q_1000000000, q_100001, q_100002, q_100003, q_100004, q_400000, nn_1, r_0, r_1, r_2, r_3, r_4, r_6, r_7, r_8, r_9, r_10, r_11, r_21, r_40, r_48, r_57, r_60, r_97, r_122, r_200, r_300, r_479, r_920, r_9999, r_99999, r_m1, rd_pu, rd_gI, rd_gB, rd_gL, rd_gQ, rd_rI, rd_rB, rd_rQ, rd_rK, rd_dq, rd_cq, rd_div, rd_rem, rd_mb, rd_mif, rd_within, rd_in, Bool.true_and, Bool.and_true, Bool.cond_self, Bool.cond_false_right, Bool.cond_true_left, cond_true, cond_false, rd_sAt, wp_rd, wp_mb, wp_mif, wp_sI, wp_sB, wp_sL, wp_sQ, wp_wI, wp_wB, wp_wQ, orR_l, orR_r, orE_l, orE_r, sK_l, sK_r, sK_c, cond_tr, fi_ufi, fi_ufi1, fi_ufi2, fb_ufb, fb_ufb1, fb_ufb2, fl_ufl, fl_ufl1, fl_ufl2, fr_ufr, fr_ufr1, fr_ufr2, ai_sa, ai_sa1, ab_sab, ab_sab1, ar_sar, ar_sar1, upf_eq, upf_ne, fi_ufb, fi_ufl, fi_ufr, fi_sa, fi_sab, fi_sar, fb_ufi, fb_ufl, fb_ufr, fb_sa, fb_sab, fb_sar, fl_ufi, fl_ufb, fl_ufr, fl_sa, fl_sab, fl_sar, fr_ufi, fr_ufb, fr_ufl, fr_sa, fr_sab, fr_sar, ai_ufi, ai_ufb, ai_ufl, ai_ufr, ai_sab, ai_sar, ab_ufi, ab_ufb, ab_ufl, ab_ufr, ab_sa, ab_sar, ar_ufi, ar_ufb, ar_ufl, ar_ufr, ar_sa, ar_sab, sa_sa, sab_sab, sar_sar, upf_upf, ufi_ufi, tnN, inbN, addN, subN, mulN, decN, divN, remN, n2_lt, n2_le, n2_gt, n2_ge, n2_eq, n2_ne, n0_lt, n0_ge, n0_gt, n0_le, n0_eq, n0_ne, m2_eq, m2_ne, m2_eqq, m2_neq, m0_lt, m0_ge, m0_eq, m0_ne, m2_eqN, m2_neN, wi_N, wi_P, wi_NN, inN_N, li_wi, Nat.reduceAdd, Nat.reduceSub, Nat.reduceMul, Nat.reduceDiv, Nat.reduceMod, Nat.reduceLT, Nat.reduceLeDiff, Nat.reduceEqDiff, decide_true, decide_false, Nat.add_zero, Nat.zero_add, Nat.mul_one, Nat.one_mul, Nat.mul_zero, Nat.zero_mul, n0_gts, Prod.mk.injEq, modN, decide_eq_true_eq, decide_eq_false_iff_not, Bool.and_eq_true, Bool.or_eq_true, Bool.not_eq_true', Bool.not_eq_false', Bool.not_eq_true, Bool.not_eq_false, Bool.not_not, Bool.not_true, Bool.not_false, Bool.true_eq_false, Bool.false_eq_true, true_and, and_true, false_and, and_false, true_implies, false_implies, implies_true, not_true_eq_false, not_false_eq_true, ne_eq, Bool.and_eq_false_imp, Bool.or_eq_false_iff, eq_self, or_false, false_or, or_true, true_or, NS_f, NS_a, hiu]
      exact ⟨p, v, rfl, hlo, hv, hBv, hs⟩
  · rintro _ S' ⟨p, v, rfl, h1, h2, h3, h4⟩
    exact hQ p v h1 h2 h3 h4
