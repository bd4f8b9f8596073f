/-! a row by keys -/
section
variable {key : Nat → Nat} {ON : Nat → Bool}
theorem ipos_hi (row : Nat → Nat) (n : Nat) : ∀ k i, ipos key row n k ≤ i → i < k → key n < key (row i) := by
  intro k
  induction k with
  | zero => intro i _ h; omega
  | succ k ih =>
    intro i h1 h2
    simp only [ipos] at h1
    split at h1
    · next h =>
      by_cases e : i = k
      · subst e; exact h
      · exact ih i h1 (by omega)
    · omega
theorem ipos_lo (row : Nat → Nat) (n : Nat) : ∀ k, 0 < ipos key row n k → key (row (ipos key row n k - 1)) ≤ key n := by
  intro k
  induction k with
  | zero => intro h; simp [ipos] at h
  | succ k ih =>
    simp only [ipos]
    split
    · exact ih
    · intro _; simp only [Nat.add_sub_cancel]; omega
theorem luR_sort {N : Nat} (hk : ∀ c d, c < N → d < N → c ≠ d → key c ≠ key d) : ∀ n, n ≤ N → ∀ i j, i < j → j < (luR key ON n).1 → key ((luR key ON n).2 i) < key ((luR key ON n).2 j) := by
  intro n
  induction n with
  | zero => intro _ i j _ h; simp [luR] at h
  | succ n ih' =>
    intro hnN i j hij hj
    have ih := ih' (by omega)
    cases h : ON n
    · have e : luR key ON (n + 1) = luR key ON n := by simp only [luR, h]; rfl
      rw [e] at hj ⊢
      exact ih i j hij hj
    · have e : luR key ON (n + 1) = ((luR key ON n).1 + 1, insR (luR key ON n).2 (ipos key (luR key ON n).2 n (luR key ON n).1) n) := by simp only [luR, h]; rfl
      rw [e] at hj ⊢
      have hbd := luR_bd key ON n
      have hp := ipos_le key (luR key ON n).2 n (luR key ON n).1
      have hhi := ipos_hi (key := key) (luR key ON n).2 n (luR key ON n).1
      have hlo := ipos_lo (key := key) (luR key ON n).2 n (luR key ON n).1
      generalize (luR key ON n).1 = r at *
      generalize (luR key ON n).2 = row at *
      generalize ipos key row n r = p at *
      simp only at hj ⊢
      have hlt : ∀ i, i < p → key (row i) < key n := by
        intro i hi
        have h1 := hlo (by omega)
        have h3 : key (row i) ≤ key (row (p - 1)) := by
          by_cases e : i = p - 1
          · rw [e]; exact Nat.le_refl _
          · exact Nat.le_of_lt (ih i (p - 1) (by omega) (by omega))
        have h4 := hk (row i) n (by have := (hbd.2 i (by omega)).1; omega) (by omega) (by have := (hbd.2 i (by omega)).1; omega)
        omega
      unfold insR
      by_cases c1 : j < p
      · rw [if_pos (by omega), if_pos c1]; exact ih i j hij (by omega)
      · rw [if_neg c1]
        by_cases c2 : j = p
        · rw [if_pos (by omega), if_pos c2]; exact hlt i (by omega)
        · rw [if_neg c2]
          by_cases c3 : i < p
          · rw [if_pos c3]
            have := hlt i c3
            have := hhi (j - 1) (by omega) (by omega)
            omega
          · rw [if_neg c3]
            by_cases c4 : i = p
            · rw [if_pos c4]; exact hhi (j - 1) (by omega) (by omega)
            · rw [if_neg c4]; exact ih (i - 1) (j - 1) (by omega) (by omega)
theorem luR_all : ∀ n c, c < n → ON c = true → ∃ i, i < (luR key ON n).1 ∧ (luR key ON n).2 i = c := by
  intro n
  induction n with
  | zero => intro c h; omega
  | succ n ih =>
    intro c hc hon
    cases h : ON n
    · have e : luR key ON (n + 1) = luR key ON n := by simp only [luR, h]; rfl
      rw [e]
      refine ih c ?_ hon
      by_cases e2 : c = n
      · subst e2; rw [h] at hon; cases hon
      · omega
    · have e : luR key ON (n + 1) = ((luR key ON n).1 + 1, insR (luR key ON n).2 (ipos key (luR key ON n).2 n (luR key ON n).1) n) := by simp only [luR, h]; rfl
      rw [e]
      have hp := ipos_le key (luR key ON n).2 n (luR key ON n).1
      by_cases e2 : c = n
      · subst e2
        refine ⟨ipos key (luR key ON c).2 c (luR key ON c).1, by simp only; omega, ?_⟩
        unfold insR
        simp only [Nat.lt_irrefl, if_false, if_true]
      · obtain ⟨i, hi, hic⟩ := ih c (by omega) hon
        by_cases c1 : i < ipos key (luR key ON n).2 n (luR key ON n).1
        · refine ⟨i, by simp only; omega, ?_⟩
          unfold insR
          simp only
          rw [if_pos c1]; exact hic
        · refine ⟨i + 1, by simp only; omega, ?_⟩
          unfold insR
          simp only
          rw [if_neg (by omega), if_neg (by omega), Nat.add_sub_cancel]; exact hic
theorem luR_ext {nc : Nat} (h : ∀ c, nc ≤ c → ON c = false) : ∀ n, nc ≤ n → luR key ON n = luR key ON nc := by
  intro n hn
  induction n with
  | zero => rw [show nc = 0 by omega]
  | succ n ih =>
    by_cases e : nc = n + 1
    · rw [e]
    · have e2 : luR key ON (n + 1) = luR key ON n := by simp only [luR, h n (by omega)]; rfl
      rw [e2]; exact ih (by omega)
end
/-- what the row of a minute is -/
def RowP (nc rn : Nat) (row : Nat → Nat) (key : Nat → Nat) (tm : Nat → Bool) (D : Nat → Nat → Nat) : Prop := rn ≤ nc ∧ (∀ i, i < rn → row i < nc ∧ tm (row i) = true) ∧ (∀ i j, i < j → j < rn → key (row i) < key (row j)) ∧ ∀ c, c < nc → D 0 c ≤ 1 → tm c = true → ∃ i, i < rn ∧ row i = c
theorem RowP_inj {nc rn : Nat} {row key : Nat → Nat} {tm : Nat → Bool} {D : Nat → Nat → Nat} (h : RowP nc rn row key tm D) {i j : Nat} (hi : i < rn) (hj : j < rn) (e : row i = row j) : i = j := by
  rcases Nat.lt_trichotomy i j with h1 | h1 | h1
  · have := h.2.2.1 i j h1 hj; rw [e] at this; omega
  · exact h1
  · have := h.2.2.1 j i h1 hi; rw [e] at this; omega
theorem RowP_D {nc rn : Nat} {row key : Nat → Nat} {tm : Nat → Bool} {D D' : Nat → Nat → Nat} (h : RowP nc rn row key tm D) (hD : ∀ c, c < nc → D' 0 c ≤ 1 → D 0 c ≤ 1) : RowP nc rn row key tm D' := ⟨h.1, h.2.1, h.2.2.1, fun c hc h1 h2 => h.2.2.2 c hc (hD c hc h1) h2⟩
def tmB (E : Nat → Nat → Nat) (m c : Nat) : Bool := !decide (E 3 c = 2) || decide (E 4 c ≤ m)
theorem rk_bd {V : Nat → Nat → Nat} {ky : Nat → Nat} {c : Nat} (h : ∀ i, V (ky i) c < 1024) : ∀ k, rk V ky c k < 1024 ^ k := by
  intro k
  induction k with
  | zero => simp [rk]
  | succ k ih =>
    show rk V ky c k * 1024 + V (ky k) c < 1024 ^ (k + 1)
    have := h k
    rw [Nat.pow_succ]
    omega
/-- keys of calls -/
def VV (nR : Nat) (E : Nat → Nat → Nat) (fr : Nat → Nat) (key c : Nat) : Nat := if c < nR then vK (E 3) (E 5) (E 2) fr key c else 0
def KY (nR : Nat) (E : Nat → Nat → Nat) (fr : Nat → Nat) (ky : Nat → Nat) (kn c : Nat) : Nat := rk (VV nR E fr) ky c kn * 40 + c
section
variable {nR : Nat} {E : Nat → Nat → Nat} {fr ky : Nat → Nat} {kn : Nat}
theorem VV_lt (h : ∀ c, c < nR → E 2 c ≤ 60 ∧ E 5 c < 480) : ∀ i x, VV nR E fr (ky i) x < 1024 := by
  intro i x
  unfold VV
  split
  · next hx => exact vK_lt (by have := (h x hx).2; omega) (by have := (h x hx).1; omega)
  · omega
theorem KY_ne {c d : Nat} (hc : c < 40) (hd : d < 40) (h : c ≠ d) : KY nR E fr ky kn c ≠ KY nR E fr ky kn d := by
  unfold KY
  omega
theorem KY_bd (h : ∀ c, c < nR → E 2 c ≤ 60 ∧ E 5 c < 480) (hk : kn ≤ 5) {c : Nat} (hc : c < 40) : KY nR E fr ky kn c < 1024 ^ 5 * 40 := by
  have h1 := rk_bd (V := VV nR E fr) (ky := ky) (c := c) (fun i => VV_lt (ky := ky) h i c) kn
  have h2 : 1024 ^ kn ≤ 1024 ^ 5 := Nat.pow_le_pow_right (by omega) hk
  unfold KY
  omega
end
/-! the row of the reference -/
section
variable {S : Sg} {nR m : Nat} {E D : Nat → Nat → Nat} {fr ky : Nat → Nat} {kn : Nat}
def KFs (nR : Nat) (E : Nat → Nat → Nat) (fr : Nat → Nat) (ky : Nat → Nat) (kn : Nat) (SR : Sg) : Prop := kn ≤ 5 ∧ fi SR 127 37 = Int32.ofNat kn ∧ (∀ k, k < kn → jsr' (fi SR 127 36) (Int32.ofNat (3 * k)) &&& Int32.ofNat 7 = Int32.ofNat (ky k)) ∧ (∀ k, ky k < 8) ∧ (∀ c, c < nR → E 2 c ≤ 60 ∧ E 5 c < 480) ∧ ∀ c, c < nR → KF SR (E 3) (E 5) (E 2) fr c
theorem rm_ahead' (H : KFs nR E fr ky kn S) (hn : nR ≤ 40) {c d : Nat} (hc : c < nR) (hd : d < nR) (Q : Bool → Sg → Prop) : WP (MO_goesAhead (Int32.ofNat c) (Int32.ofNat d)) S Q ↔ Q (decide (KY nR E fr ky kn c < KY nR E fr ky kn d)) S := by
  obtain ⟨h1, h2, h3, h4, h5, h6⟩ := H
  refine rm_ahead (V := VV nR E fr) (ky := ky) (kn := kn) h1 (by omega) (by omega) h2 h3 (VV_lt h5) (fun k Q hk => ?_) Q
  rw [rm_heldBy (h4 k) (by omega) (by omega) (h6 c hc) (h6 d hd)]
  unfold VV
  rw [if_pos hc, if_pos hd]
theorem KFs_kp {S' : Sg} (H : KFs nR E fr ky kn S) (hK : KpR S S') (hn : nR ≤ 40) : KFs nR E fr ky kn S' := by
  obtain ⟨h1, h2, h3, h4, h5, h6⟩ := H
  refine ⟨h1, by rw [hK.1 _ _ (Or.inr (by decide))]; exact h2, fun k hk => by rw [hK.1 _ _ (Or.inr (by decide))]; exact h3 k hk, h4, h5, fun c hc => ?_⟩
  obtain ⟨a1, a2, a3, a4, a5, a6, a7, a8⟩ := h6 c hc
  exact ⟨a1, a2, a3, a4, by rw [hK.2.2.1 _ (by omega)]; exact a5, by rw [hK.2.2.1 _ (by omega)]; exact a6, by rw [hK.2.2.1 _ (by omega)]; exact a7, by rw [hK.2.2.1 _ (by omega)]; exact a8⟩
def OS (S : Sg) (g : Nat → Int32) (k : Nat) : Sg := ufi (sa S 171 g) 127 64 (Int32.ofNat k)
theorem OS_g (g g' : Nat → Int32) (k : Nat) : sa (OS S g k) 171 g' = OS S g' k := by
  unfold OS
  show ufi (sa (sa S 171 g) 171 g') 127 64 _ = _
  rw [sa_sa]
theorem OS_k (g : Nat → Int32) (k k' : Nat) : ufi (OS S g k) 127 64 (Int32.ofNat k') = OS S g k' := by unfold OS; rw [ufi_ufi]
theorem OS_f (g : Nat → Int32) (k : Nat) : fi (OS S g k) 127 64 = Int32.ofNat k := by unfold OS; rw [fi_ufi]
theorem OS_fx (g : Nat → Int32) (k : Nat) {b : Nat} (h : b ≠ 64) : fi (OS S g k) 127 b = fi S 127 b := by unfold OS; rw [fi_ufi2 _ _ _ _ _ _ h]; rfl
theorem OS_a (g : Nat → Int32) (k : Nat) : ai (OS S g k) 171 = g := by unfold OS; rw [ai_ufi, ai_sa]
theorem OS_ax (g : Nat → Int32) (k : Nat) {b : Nat} (h : b ≠ 171) : ai (OS S g k) b = ai S b := by unfold OS; rw [ai_ufi, ai_sa1 _ _ _ _ h]
theorem OS_kp (g : Nat → Int32) (k : Nat) : KpR S (OS S g k) := by
  refine ⟨fun a b h => ?_, rfl, fun a h => OS_ax _ _ (by omega), fun _ _ => rfl⟩
  unfold OS
  rcases h with h | h
  · rw [fi_ufi1 _ _ _ _ _ _ h]; rfl
  · rw [fi_ufi2 _ _ _ _ _ _ h.2]; rfl
theorem rm_findOrder {nc : Nat} (H : KFs nR E fr ky kn S) (hn : nR ≤ 40) (hm : m < 1000) (h39 : fi S 127 39 = Int32.ofNat nR) (hst : ∀ c, c < nR → (ai S 158 c = nn ∧ nc ≤ c) ∨ (D 0 c ≤ 5 ∧ ai S 158 c = Int32.ofNat (D 0 c))) (h6 : ∀ c, nc ≤ c → D 0 c = 6) (hnc : nc ≤ nR) (hE : ∀ c, c < nR → E 3 c ≤ 2 ∧ ai S 153 c = Int32.ofNat (E 3 c) ∧ (E 3 c = 2 → E 4 c < 1000 ∧ ai S 154 c = Int32.ofNat (E 4 c))) {Q : Unit → Sg → Prop}
    (hQ : ∀ g, (∀ i, i < (luR (KY nR E fr ky kn) (dueB (D 0) (E 3) (E 4) m) nc).1 → g i = Int32.ofNat ((luR (KY nR E fr ky kn) (dueB (D 0) (E 3) (E 4) m) nc).2 i)) → Q () (OS S g (luR (KY nR E fr ky kn) (dueB (D 0) (E 3) (E 4) m) nc).1)) : WP (MO_findOrder (Int32.ofNat m)) S Q := by
  generalize hkey : KY nR E fr ky kn = key at *
  generalize hON : dueB (D 0) (E 3) (E 4) m = ON at *
  have hON0 : ∀ c, nc ≤ c → ON c = false := fun c hc => by rw [← hON]; unfold dueB; rw [h6 c hc]; rfl
  rw [← luR_ext hON0 nR hnc] at hQ
  unfold MO_findOrder
  simp (disch := omega) only [q_0, q_1, q_2, q_3, q_4, q_5, q_6, q_7, q_8, q_9, q_10, q_11, q_12, q_15, q_16, q_20, q_21, q_25, q_30, q_31, q_32, q_40, q_44, q_48, q_50, q_57, q_59, q_60, q_64, q_81, q_97, q_98, q_99, q_100, q_101, q_102, q_103, q_104, q_105, q_107, q_108, q_110, q_111, q_114, q_115, q_116, q_119, q_120, q_121, q_122, q_136, q_160, q_200, q_255, q_300, q_400, q_401, q_402, q_460, q_479, q_480, q_920, q_999, q_1000, q_1023, q_1024, q_4020, q_9999, q_99999, q_1000000, q_1000000000, q_100001, q_100002, q_100003, q_100004, q_400000, nn_1, r_0, r_1, r_2, r_3, r_4, r_6, r_7, r_8, r_9, r_10, r_11, r_21, r_40, r_48, r_57, r_60, r_97, r_122, r_200, r_300, r_479, r_920, r_9999, r_99999, r_m1, rd_pu, rd_gI, rd_gB, rd_gL, rd_gQ, rd_rI, rd_rB, rd_rQ, rd_rK, rd_dq, rd_cq, rd_div, rd_rem, rd_mb, rd_mif, rd_within, rd_in, Bool.true_and, Bool.and_true, Bool.cond_self, Bool.cond_false_right, Bool.cond_true_left, cond_true, cond_false, rd_sAt, wp_rd, wp_mb, wp_mif, wp_sI, wp_sB, wp_sL, wp_sQ, wp_wI, wp_wB, wp_wQ, orR_l, orR_r, orE_l, orE_r, sK_l, sK_r, sK_c, cond_tr, fi_ufi, fi_ufi1, fi_ufi2, fb_ufb, fb_ufb1, fb_ufb2, fl_ufl, fl_ufl1, fl_ufl2, fr_ufr, fr_ufr1, fr_ufr2, ai_sa, ai_sa1, ab_sab, ab_sab1, ar_sar, ar_sar1, upf_eq, upf_ne, fi_ufb, fi_ufl, fi_ufr, fi_sa, fi_sab, fi_sar, fb_ufi, fb_ufl, fb_ufr, fb_sa, fb_sab, fb_sar, fl_ufi, fl_ufb, fl_ufr, fl_sa, fl_sab, fl_sar, fr_ufi, fr_ufb, fr_ufl, fr_sa, fr_sab, fr_sar, ai_ufi, ai_ufb, ai_ufl, ai_ufr, ai_sab, ai_sar, ab_ufi, ab_ufb, ab_ufl, ab_ufr, ab_sa, ab_sar, ar_ufi, ar_ufb, ar_ufl, ar_ufr, ar_sa, ar_sab, sa_sa, sab_sab, sar_sar, upf_upf, ufi_ufi, tnN, inbN, addN, subN, mulN, decN, divN, remN, n2_lt, n2_le, n2_gt, n2_ge, n2_eq, n2_ne, n0_lt, n0_ge, n0_gt, n0_le, n0_eq, n0_ne, m2_eq, m2_ne, m2_eqq, m2_neq, m0_lt, m0_ge, m0_eq, m0_ne, m2_eqN, m2_neN, wi_N, wi_P, wi_NN, inN_N, li_wi, Nat.reduceAdd, Nat.reduceSub, Nat.reduceMul, Nat.reduceDiv, Nat.reduceMod, Nat.reduceLT, Nat.reduceLeDiff, Nat.reduceEqDiff, decide_true, decide_false, Nat.add_zero, Nat.zero_add, Nat.mul_one, Nat.one_mul, Nat.mul_zero, Nat.zero_mul, n0_gts, Prod.mk.injEq, modN, decide_eq_true_eq, decide_eq_false_iff_not, Bool.and_eq_true, Bool.or_eq_true, Bool.not_eq_true', Bool.not_eq_false', Bool.not_eq_true, Bool.not_eq_false, Bool.not_not, Bool.not_true, Bool.not_false, Bool.true_eq_false, Bool.false_eq_true, true_and, and_true, false_and, and_false, true_implies, false_implies, implies_true, not_true_eq_false, not_false_eq_true, ne_eq, Bool.and_eq_false_imp, Bool.or_eq_false_iff, eq_self, or_false, false_or, or_true, true_or]
  have e0 : ufi S 127 64 (Int32.ofNat 0) = OS S (ai S 171) 0 := by unfold OS; rw [sa_id]
  rw [e0]
  refine WP.mono (wp_for nR (by unfold FU; omega) (fun c a S' => a = Int32.ofNat c ∧ ∃ g, S' = OS S g (luR key ON c).1 ∧ ∀ i, i < (luR key ON c).1 → g i = Int32.ofNat ((luR key ON c).2 i)) ?_ ⟨rfl, ai S 171, rfl, fun i hi => by simp [luR] at hi⟩ (Q := fun _ S' => ∃ g, S' = OS S g (luR key ON nR).1 ∧ ∀ i, i < (luR key ON nR).1 → g i = Int32.ofNat ((luR key ON nR).2 i))) ?_
  · rintro c a S' hc ⟨rfl, g, rfl, hg⟩
    unfold MO_findOrder_l1
    have f39 : ∀ g k, fi (OS S g k) 127 39 = Int32.ofNat nR := fun g k => by rw [OS_fx _ _ (by decide)]; exact h39
    by_cases hcn : c < nR
    · have hc40 : c < 40 := by omega
      have hbd := luR_bd key ON c
      have same : ON c = false → ∃ g_1, OS S g (luR key ON c).1 = OS S g_1 (luR key ON (c + 1)).1 ∧ ∀ i, i < (luR key ON (c + 1)).1 → g_1 i = Int32.ofNat ((luR key ON (c + 1)).2 i) := fun hon => by
        have e : luR key ON (c + 1) = luR key ON c := by simp only [luR, hon]; rfl
        rw [e]
        exact ⟨g, rfl, hg⟩
      have e58 : ∀ g k, ai (OS S g k) 158 = ai S 158 := fun g k => OS_ax _ _ (by decide)
      rcases hst c hcn with ⟨hs, hs2⟩ | ⟨hs5, hs⟩
      · simp (disch := omega) only [q_0, q_1, q_2, q_3, q_4, q_5, q_6, q_7, q_8, q_9, q_10, q_11, q_12, q_15, q_16, q_20, q_21, q_25, q_30, q_31, q_32, q_40, q_44, q_48, q_50, q_57, q_59, q_60, q_64, q_81, q_97, q_98, q_99, q_100, q_101, q_102, q_103, q_104, q_105, q_107, q_108, q_110, q_111, q_114, q_115, q_116, q_119, q_120, q_121, q_122, q_136, q_160, q_200, q_255, q_300, q_400, q_401, q_402, q_460, q_479, q_480, q_920, q_999, q_1000, q_1023, q_1024, q_4020, q_9999, q_99999, q_1000000, q_1000000000, q_100001, q_100002, q_100003, q_100004, q_400000, nn_1, r_0, r_1, r_2, r_3, r_4, r_6, r_7, r_8, r_9, r_10, r_11, r_21, r_40, r_48, r_57, r_60, r_97, r_122, r_200, r_300, r_479, r_920, r_9999, r_99999, r_m1, rd_pu, rd_gI, rd_gB, rd_gL, rd_gQ, rd_rI, rd_rB, rd_rQ, rd_rK, rd_dq, rd_cq, rd_div, rd_rem, rd_mb, rd_mif, rd_within, rd_in, Bool.true_and, Bool.and_true, Bool.cond_self, Bool.cond_false_right, Bool.cond_true_left, cond_true, cond_false, rd_sAt, wp_rd, wp_mb, wp_mif, wp_sI, wp_sB, wp_sL, wp_sQ, wp_wI, wp_wB, wp_wQ, orR_l, orR_r, orE_l, orE_r, sK_l, sK_r, sK_c, cond_tr, fi_ufi, fi_ufi1, fi_ufi2, fb_ufb, fb_ufb1, fb_ufb2, fl_ufl, fl_ufl1, fl_ufl2, fr_ufr, fr_ufr1, fr_ufr2, ai_sa, ai_sa1, ab_sab, ab_sab1, ar_sar, ar_sar1, upf_eq, upf_ne, fi_ufb, fi_ufl, fi_ufr, fi_sa, fi_sab, fi_sar, fb_ufi, fb_ufl, fb_ufr, fb_sa, fb_sab, fb_sar, fl_ufi, fl_ufb, fl_ufr, fl_sa, fl_sab, fl_sar, fr_ufi, fr_ufb, fr_ufl, fr_sa, fr_sab, fr_sar, ai_ufi, ai_ufb, ai_ufl, ai_ufr, ai_sab, ai_sar, ab_ufi, ab_ufb, ab_ufl, ab_ufr, ab_sa, ab_sar, ar_ufi, ar_ufb, ar_ufl, ar_ufr, ar_sa, ar_sab, sa_sa, sab_sab, sar_sar, upf_upf, ufi_ufi, tnN, inbN, addN, subN, mulN, decN, divN, remN, n2_lt, n2_le, n2_gt, n2_ge, n2_eq, n2_ne, n0_lt, n0_ge, n0_gt, n0_le, n0_eq, n0_ne, m2_eq, m2_ne, m2_eqq, m2_neq, m0_lt, m0_ge, m0_eq, m0_ne, m2_eqN, m2_neN, wi_N, wi_P, wi_NN, inN_N, li_wi, Nat.reduceAdd, Nat.reduceSub, Nat.reduceMul, Nat.reduceDiv, Nat.reduceMod, Nat.reduceLT, Nat.reduceLeDiff, Nat.reduceEqDiff, decide_true, decide_false, Nat.add_zero, Nat.zero_add, Nat.mul_one, Nat.one_mul, Nat.mul_zero, Nat.zero_mul, n0_gts, Prod.mk.injEq, modN, decide_eq_true_eq, decide_eq_false_iff_not, Bool.and_eq_true, Bool.or_eq_true, Bool.not_eq_true', Bool.not_eq_false', Bool.not_eq_true, Bool.not_eq_false, Bool.not_not, Bool.not_true, Bool.not_false, Bool.true_eq_false, Bool.false_eq_true, true_and, and_true, false_and, and_false, true_implies, false_implies, implies_true, not_true_eq_false, not_false_eq_true, ne_eq, Bool.and_eq_false_imp, Bool.or_eq_false_iff, eq_self, or_false, false_or, or_true, true_or, f39, hcn, hc40, e58, hs]
        exact same (hON0 c hs2)
      · obtain ⟨x1, x2, x3⟩ := hE c hcn
        have hdue := fun Q => rm_isDue (S := OS S g (luR key ON c).1) (st := D 0) (kd := E 3) (fx := E 4) hc40 hm hs5 (by rw [e58]; exact hs) x1 (by rw [OS_ax _ _ (by decide)]; exact x2) (fun h => ⟨(x3 h).1, by rw [OS_ax _ _ (by decide)]; exact (x3 h).2⟩) Q
        rw [hON] at hdue
        cases hon : ON c
        · simp (disch := omega) only [q_0, q_1, q_2, q_3, q_4, q_5, q_6, q_7, q_8, q_9, q_10, q_11, q_12, q_15, q_16, q_20, q_21, q_25, q_30, q_31, q_32, q_40, q_44, q_48, q_50, q_57, q_59, q_60, q_64, q_81, q_97, q_98, q_99, q_100, q_101, q_102, q_103, q_104, q_105, q_107, q_108, q_110, q_111, q_114, q_115, q_116, q_119, q_120, q_121, q_122, q_136, q_160, q_200, q_255, q_300, q_400, q_401, q_402, q_460, q_479, q_480, q_920, q_999, q_1000, q_1023, q_1024, q_4020, q_9999, q_99999, q_1000000, q_1000000000, q_100001, q_100002, q_100003, q_100004, q_400000, nn_1, r_0, r_1, r_2, r_3, r_4, r_6, r_7, r_8, r_9, r_10, r_11, r_21, r_40, r_48, r_57, r_60, r_97, r_122, r_200, r_300, r_479, r_920, r_9999, r_99999, r_m1, rd_pu, rd_gI, rd_gB, rd_gL, rd_gQ, rd_rI, rd_rB, rd_rQ, rd_rK, rd_dq, rd_cq, rd_div, rd_rem, rd_mb, rd_mif, rd_within, rd_in, Bool.true_and, Bool.and_true, Bool.cond_self, Bool.cond_false_right, Bool.cond_true_left, cond_true, cond_false, rd_sAt, wp_rd, wp_mb, wp_mif, wp_sI, wp_sB, wp_sL, wp_sQ, wp_wI, wp_wB, wp_wQ, orR_l, orR_r, orE_l, orE_r, sK_l, sK_r, sK_c, cond_tr, fi_ufi, fi_ufi1, fi_ufi2, fb_ufb, fb_ufb1, fb_ufb2, fl_ufl, fl_ufl1, fl_ufl2, fr_ufr, fr_ufr1, fr_ufr2, ai_sa, ai_sa1, ab_sab, ab_sab1, ar_sar, ar_sar1, upf_eq, upf_ne, fi_ufb, fi_ufl, fi_ufr, fi_sa, fi_sab, fi_sar, fb_ufi, fb_ufl, fb_ufr, fb_sa, fb_sab, fb_sar, fl_ufi, fl_ufb, fl_ufr, fl_sa, fl_sab, fl_sar, fr_ufi, fr_ufb, fr_ufl, fr_sa, fr_sab, fr_sar, ai_ufi, ai_ufb, ai_ufl, ai_ufr, ai_sab, ai_sar, ab_ufi, ab_ufb, ab_ufl, ab_ufr, ab_sa, ab_sar, ar_ufi, ar_ufb, ar_ufl, ar_ufr, ar_sa, ar_sab, sa_sa, sab_sab, sar_sar, upf_upf, ufi_ufi, tnN, inbN, addN, subN, mulN, decN, divN, remN, n2_lt, n2_le, n2_gt, n2_ge, n2_eq, n2_ne, n0_lt, n0_ge, n0_gt, n0_le, n0_eq, n0_ne, m2_eq, m2_ne, m2_eqq, m2_neq, m0_lt, m0_ge, m0_eq, m0_ne, m2_eqN, m2_neN, wi_N, wi_P, wi_NN, inN_N, li_wi, Nat.reduceAdd, Nat.reduceSub, Nat.reduceMul, Nat.reduceDiv, Nat.reduceMod, Nat.reduceLT, Nat.reduceLeDiff, Nat.reduceEqDiff, decide_true, decide_false, Nat.add_zero, Nat.zero_add, Nat.mul_one, Nat.one_mul, Nat.mul_zero, Nat.zero_mul, n0_gts, Prod.mk.injEq, modN, decide_eq_true_eq, decide_eq_false_iff_not, Bool.and_eq_true, Bool.or_eq_true, Bool.not_eq_true', Bool.not_eq_false', Bool.not_eq_true, Bool.not_eq_false, Bool.not_not, Bool.not_true, Bool.not_false, Bool.true_eq_false, Bool.false_eq_true, true_and, and_true, false_and, and_false, true_implies, false_implies, implies_true, not_true_eq_false, not_false_eq_true, ne_eq, Bool.and_eq_false_imp, Bool.or_eq_false_iff, eq_self, or_false, false_or, or_true, true_or, f39, hcn, hc40, e58, hs, hdue, hon]
          exact same hon
        · have e : luR key ON (c + 1) = ((luR key ON c).1 + 1, insR (luR key ON c).2 (ipos key (luR key ON c).2 c (luR key ON c).1) c) := by simp only [luR, hon]; rfl
          simp (disch := omega) only [q_0, q_1, q_2, q_3, q_4, q_5, q_6, q_7, q_8, q_9, q_10, q_11, q_12, q_15, q_16, q_20, q_21, q_25, q_30, q_31, q_32, q_40, q_44, q_48, q_50, q_57, q_59, q_60, q_64, q_81, q_97, q_98, q_99, q_100, q_101, q_102, q_103, q_104, q_105, q_107, q_108, q_110, q_111, q_114, q_115, q_116, q_119, q_120, q_121, q_122, q_136, q_160, q_200, q_255, q_300, q_400, q_401, q_402, q_460, q_479, q_480, q_920, q_999, q_1000, q_1023, q_1024, q_4020, q_9999, q_99999, q_1000000, q_1000000000, q_100001, q_100002, q_100003, q_100004, q_400000, nn_1, r_0, r_1, r_2, r_3, r_4, r_6, r_7, r_8, r_9, r_10, r_11, r_21, r_40, r_48, r_57, r_60, r_97, r_122, r_200, r_300, r_479, r_920, r_9999, r_99999, r_m1, rd_pu, rd_gI, rd_gB, rd_gL, rd_gQ, rd_rI, rd_rB, rd_rQ, rd_rK, rd_dq, rd_cq, rd_div, rd_rem, rd_mb, rd_mif, rd_within, rd_in, Bool.true_and, Bool.and_true, Bool.cond_self, Bool.cond_false_right, Bool.cond_true_left, cond_true, cond_false, rd_sAt, wp_rd, wp_mb, wp_mif, wp_sI, wp_sB, wp_sL, wp_sQ, wp_wI, wp_wB, wp_wQ, orR_l, orR_r, orE_l, orE_r, sK_l, sK_r, sK_c, cond_tr, fi_ufi, fi_ufi1, fi_ufi2, fb_ufb, fb_ufb1, fb_ufb2, fl_ufl, fl_ufl1, fl_ufl2, fr_ufr, fr_ufr1, fr_ufr2, ai_sa, ai_sa1, ab_sab, ab_sab1, ar_sar, ar_sar1, upf_eq, upf_ne, fi_ufb, fi_ufl, fi_ufr, fi_sa, fi_sab, fi_sar, fb_ufi, fb_ufl, fb_ufr, fb_sa, fb_sab, fb_sar, fl_ufi, fl_ufb, fl_ufr, fl_sa, fl_sab, fl_sar, fr_ufi, fr_ufb, fr_ufl, fr_sa, fr_sab, fr_sar, ai_ufi, ai_ufb, ai_ufl, ai_ufr, ai_sab, ai_sar, ab_ufi, ab_ufb, ab_ufl, ab_ufr, ab_sa, ab_sar, ar_ufi, ar_ufb, ar_ufl, ar_ufr, ar_sa, ar_sab, sa_sa, sab_sab, sar_sar, upf_upf, ufi_ufi, tnN, inbN, addN, subN, mulN, decN, divN, remN, n2_lt, n2_le, n2_gt, n2_ge, n2_eq, n2_ne, n0_lt, n0_ge, n0_gt, n0_le, n0_eq, n0_ne, m2_eq, m2_ne, m2_eqq, m2_neq, m0_lt, m0_ge, m0_eq, m0_ne, m2_eqN, m2_neN, wi_N, wi_P, wi_NN, inN_N, li_wi, Nat.reduceAdd, Nat.reduceSub, Nat.reduceMul, Nat.reduceDiv, Nat.reduceMod, Nat.reduceLT, Nat.reduceLeDiff, Nat.reduceEqDiff, decide_true, decide_false, Nat.add_zero, Nat.zero_add, Nat.mul_one, Nat.one_mul, Nat.mul_zero, Nat.zero_mul, n0_gts, Prod.mk.injEq, modN, decide_eq_true_eq, decide_eq_false_iff_not, Bool.and_eq_true, Bool.or_eq_true, Bool.not_eq_true', Bool.not_eq_false', Bool.not_eq_true, Bool.not_eq_false, Bool.not_not, Bool.not_true, Bool.not_false, Bool.true_eq_false, Bool.false_eq_true, true_and, and_true, false_and, and_false, true_implies, false_implies, implies_true, not_true_eq_false, not_false_eq_true, ne_eq, Bool.and_eq_false_imp, Bool.or_eq_false_iff, eq_self, or_false, false_or, or_true, true_or, f39, hcn, hc40, e58, hs, hdue, hon, OS_f]
          rw [e]
          generalize hr : (luR key ON c).1 = r at *
          generalize hw : (luR key ON c).2 = row at *
          have hip := ipos_le key row c r
          refine WP.mono (wp_lpm r (by unfold FU; omega) (fun k a S' => a = Int32.ofNat k ∧ k ≤ r ∧ ipos key row c k = ipos key row c r ∧ ∃ g, S' = OS S g r ∧ (∀ i, i < k → g i = Int32.ofNat (row i)) ∧ (∀ i, k < i → i ≤ r → g i = Int32.ofNat (row (i - 1)))) ?_ ⟨rfl, Nat.le_refl _, rfl, g, rfl, hg, fun i h1 h2 => by omega⟩ (Q := fun a S' => a = Int32.ofNat (ipos key row c r) ∧ ∃ g, S' = OS S g r ∧ (∀ i, i < ipos key row c r → g i = Int32.ofNat (row i)) ∧ (∀ i, ipos key row c r < i → i ≤ r → g i = Int32.ofNat (row (i - 1))))) ?_
          · rintro k a S' ⟨rfl, hk, hpk, g, rfl, hg1, hg2⟩
            unfold MO_findOrder_l2
            cases k with
            | zero =>
              simp (disch := omega) only [q_0, q_1, q_2, q_3, q_4, q_5, q_6, q_7, q_8, q_9, q_10, q_11, q_12, q_15, q_16, q_20, q_21, q_25, q_30, q_31, q_32, q_40, q_44, q_48, q_50, q_57, q_59, q_60, q_64, q_81, q_97, q_98, q_99, q_100, q_101, q_102, q_103, q_104, q_105, q_107, q_108, q_110, q_111, q_114, q_115, q_116, q_119, q_120, q_121, q_122, q_136, q_160, q_200, q_255, q_300, q_400, q_401, q_402, q_460, q_479, q_480, q_920, q_999, q_1000, q_1023, q_1024, q_4020, q_9999, q_99999, q_1000000, q_1000000000, q_100001, q_100002, q_100003, q_100004, q_400000, nn_1, r_0, r_1, r_2, r_3, r_4, r_6, r_7, r_8, r_9, r_10, r_11, r_21, r_40, r_48, r_57, r_60, r_97, r_122, r_200, r_300, r_479, r_920, r_9999, r_99999, r_m1, rd_pu, rd_gI, rd_gB, rd_gL, rd_gQ, rd_rI, rd_rB, rd_rQ, rd_rK, rd_dq, rd_cq, rd_div, rd_rem, rd_mb, rd_mif, rd_within, rd_in, Bool.true_and, Bool.and_true, Bool.cond_self, Bool.cond_false_right, Bool.cond_true_left, cond_true, cond_false, rd_sAt, wp_rd, wp_mb, wp_mif, wp_sI, wp_sB, wp_sL, wp_sQ, wp_wI, wp_wB, wp_wQ, orR_l, orR_r, orE_l, orE_r, sK_l, sK_r, sK_c, cond_tr, fi_ufi, fi_ufi1, fi_ufi2, fb_ufb, fb_ufb1, fb_ufb2, fl_ufl, fl_ufl1, fl_ufl2, fr_ufr, fr_ufr1, fr_ufr2, ai_sa, ai_sa1, ab_sab, ab_sab1, ar_sar, ar_sar1, upf_eq, upf_ne, fi_ufb, fi_ufl, fi_ufr, fi_sa, fi_sab, fi_sar, fb_ufi, fb_ufl, fb_ufr, fb_sa, fb_sab, fb_sar, fl_ufi, fl_ufb, fl_ufr, fl_sa, fl_sab, fl_sar, fr_ufi, fr_ufb, fr_ufl, fr_sa, fr_sab, fr_sar, ai_ufi, ai_ufb, ai_ufl, ai_ufr, ai_sab, ai_sar, ab_ufi, ab_ufb, ab_ufl, ab_ufr, ab_sa, ab_sar, ar_ufi, ar_ufb, ar_ufl, ar_ufr, ar_sa, ar_sab, sa_sa, sab_sab, sar_sar, upf_upf, ufi_ufi, tnN, inbN, addN, subN, mulN, decN, divN, remN, n2_lt, n2_le, n2_gt, n2_ge, n2_eq, n2_ne, n0_lt, n0_ge, n0_gt, n0_le, n0_eq, n0_ne, m2_eq, m2_ne, m2_eqq, m2_neq, m0_lt, m0_ge, m0_eq, m0_ne, m2_eqN, m2_neN, wi_N, wi_P, wi_NN, inN_N, li_wi, Nat.reduceAdd, Nat.reduceSub, Nat.reduceMul, Nat.reduceDiv, Nat.reduceMod, Nat.reduceLT, Nat.reduceLeDiff, Nat.reduceEqDiff, decide_true, decide_false, Nat.add_zero, Nat.zero_add, Nat.mul_one, Nat.one_mul, Nat.mul_zero, Nat.zero_mul, n0_gts, Prod.mk.injEq, modN, decide_eq_true_eq, decide_eq_false_iff_not, Bool.and_eq_true, Bool.or_eq_true, Bool.not_eq_true', Bool.not_eq_false', Bool.not_eq_true, Bool.not_eq_false, Bool.not_not, Bool.not_true, Bool.not_false, Bool.true_eq_false, Bool.false_eq_true, true_and, and_true, false_and, and_false, true_implies, false_implies, implies_true, not_true_eq_false, not_false_eq_true, ne_eq, Bool.and_eq_false_imp, Bool.or_eq_false_iff, eq_self, or_false, false_or, or_true, true_or]
              have : ipos key row c r = 0 := by rw [← hpk]; rfl
              rw [this]
              exact ⟨rfl, g, rfl, hg1, hg2⟩
            | succ k =>
              have hgk := hg1 k (by omega)
              have hrk := (hbd.2 k (by omega)).1
              have hk6 : k < 40 := by omega
              have hk61 : k + 1 < 40 := by omega
              have hah := fun Q => rm_ahead' (S := OS S g r) (KFs_kp H (OS_kp g r) hn) hn hcn (show row k < nR by omega) Q
              rw [hkey] at hah
              by_cases hcc : key c < key (row k)
              · simp (disch := omega) only [q_0, q_1, q_2, q_3, q_4, q_5, q_6, q_7, q_8, q_9, q_10, q_11, q_12, q_15, q_16, q_20, q_21, q_25, q_30, q_31, q_32, q_40, q_44, q_48, q_50, q_57, q_59, q_60, q_64, q_81, q_97, q_98, q_99, q_100, q_101, q_102, q_103, q_104, q_105, q_107, q_108, q_110, q_111, q_114, q_115, q_116, q_119, q_120, q_121, q_122, q_136, q_160, q_200, q_255, q_300, q_400, q_401, q_402, q_460, q_479, q_480, q_920, q_999, q_1000, q_1023, q_1024, q_4020, q_9999, q_99999, q_1000000, q_1000000000, q_100001, q_100002, q_100003, q_100004, q_400000, nn_1, r_0, r_1, r_2, r_3, r_4, r_6, r_7, r_8, r_9, r_10, r_11, r_21, r_40, r_48, r_57, r_60, r_97, r_122, r_200, r_300, r_479, r_920, r_9999, r_99999, r_m1, rd_pu, rd_gI, rd_gB, rd_gL, rd_gQ, rd_rI, rd_rB, rd_rQ, rd_rK, rd_dq, rd_cq, rd_div, rd_rem, rd_mb, rd_mif, rd_within, rd_in, Bool.true_and, Bool.and_true, Bool.cond_self, Bool.cond_false_right, Bool.cond_true_left, cond_true, cond_false, rd_sAt, wp_rd, wp_mb, wp_mif, wp_sI, wp_sB, wp_sL, wp_sQ, wp_wI, wp_wB, wp_wQ, orR_l, orR_r, orE_l, orE_r, sK_l, sK_r, sK_c, cond_tr, fi_ufi, fi_ufi1, fi_ufi2, fb_ufb, fb_ufb1, fb_ufb2, fl_ufl, fl_ufl1, fl_ufl2, fr_ufr, fr_ufr1, fr_ufr2, ai_sa, ai_sa1, ab_sab, ab_sab1, ar_sar, ar_sar1, upf_eq, upf_ne, fi_ufb, fi_ufl, fi_ufr, fi_sa, fi_sab, fi_sar, fb_ufi, fb_ufl, fb_ufr, fb_sa, fb_sab, fb_sar, fl_ufi, fl_ufb, fl_ufr, fl_sa, fl_sab, fl_sar, fr_ufi, fr_ufb, fr_ufl, fr_sa, fr_sab, fr_sar, ai_ufi, ai_ufb, ai_ufl, ai_ufr, ai_sab, ai_sar, ab_ufi, ab_ufb, ab_ufl, ab_ufr, ab_sa, ab_sar, ar_ufi, ar_ufb, ar_ufl, ar_ufr, ar_sa, ar_sab, sa_sa, sab_sab, sar_sar, upf_upf, ufi_ufi, tnN, inbN, addN, subN, mulN, decN, divN, remN, n2_lt, n2_le, n2_gt, n2_ge, n2_eq, n2_ne, n0_lt, n0_ge, n0_gt, n0_le, n0_eq, n0_ne, m2_eq, m2_ne, m2_eqq, m2_neq, m0_lt, m0_ge, m0_eq, m0_ne, m2_eqN, m2_neN, wi_N, wi_P, wi_NN, inN_N, li_wi, Nat.reduceAdd, Nat.reduceSub, Nat.reduceMul, Nat.reduceDiv, Nat.reduceMod, Nat.reduceLT, Nat.reduceLeDiff, Nat.reduceEqDiff, decide_true, decide_false, Nat.add_zero, Nat.zero_add, Nat.mul_one, Nat.one_mul, Nat.mul_zero, Nat.zero_mul, n0_gts, Prod.mk.injEq, modN, decide_eq_true_eq, decide_eq_false_iff_not, Bool.and_eq_true, Bool.or_eq_true, Bool.not_eq_true', Bool.not_eq_false', Bool.not_eq_true, Bool.not_eq_false, Bool.not_not, Bool.not_true, Bool.not_false, Bool.true_eq_false, Bool.false_eq_true, true_and, and_true, false_and, and_false, true_implies, false_implies, implies_true, not_true_eq_false, not_false_eq_true, ne_eq, Bool.and_eq_false_imp, Bool.or_eq_false_iff, eq_self, or_false, false_or, or_true, true_or, hgk, hah, hcc, hk6, hk61, OS_a, OS_g, Nat.add_sub_cancel, Nat.succ_pos]
                refine ⟨k, by omega, ⟨rfl, by omega, ?_, _, rfl, fun i hi => ?_, fun i h5 h6 => ?_⟩⟩
                · rw [← hpk]; simp only [ipos, hcc, if_true]
                · rw [upf_ne _ _ _ _ (by omega)]; exact hg1 i (by omega)
                · by_cases hik : i = k + 1
                  · subst hik
                    rw [upf_eq, Nat.add_sub_cancel]
                  · rw [upf_ne _ _ _ _ hik]; exact hg2 i (by omega) h6
              · simp (disch := omega) only [q_0, q_1, q_2, q_3, q_4, q_5, q_6, q_7, q_8, q_9, q_10, q_11, q_12, q_15, q_16, q_20, q_21, q_25, q_30, q_31, q_32, q_40, q_44, q_48, q_50, q_57, q_59, q_60, q_64, q_81, q_97, q_98, q_99, q_100, q_101, q_102, q_103, q_104, q_105, q_107, q_108, q_110, q_111, q_114, q_115, q_116, q_119, q_120, q_121, q_122, q_136, q_160, q_200, q_255, q_300, q_400, q_401, q_402, q_460, q_479, q_480, q_920, q_999, q_1000, q_1023, q_1024, q_4020, q_9999, q_99999, q_1000000, q_1000000000, q_100001, q_100002, q_100003, q_100004, q_400000, nn_1, r_0, r_1, r_2, r_3, r_4, r_6, r_7, r_8, r_9, r_10, r_11, r_21, r_40, r_48, r_57, r_60, r_97, r_122, r_200, r_300, r_479, r_920, r_9999, r_99999, r_m1, rd_pu, rd_gI, rd_gB, rd_gL, rd_gQ, rd_rI, rd_rB, rd_rQ, rd_rK, rd_dq, rd_cq, rd_div, rd_rem, rd_mb, rd_mif, rd_within, rd_in, Bool.true_and, Bool.and_true, Bool.cond_self, Bool.cond_false_right, Bool.cond_true_left, cond_true, cond_false, rd_sAt, wp_rd, wp_mb, wp_mif, wp_sI, wp_sB, wp_sL, wp_sQ, wp_wI, wp_wB, wp_wQ, orR_l, orR_r, orE_l, orE_r, sK_l, sK_r, sK_c, cond_tr, fi_ufi, fi_ufi1, fi_ufi2, fb_ufb, fb_ufb1, fb_ufb2, fl_ufl, fl_ufl1, fl_ufl2, fr_ufr, fr_ufr1, fr_ufr2, ai_sa, ai_sa1, ab_sab, ab_sab1, ar_sar, ar_sar1, upf_eq, upf_ne, fi_ufb, fi_ufl, fi_ufr, fi_sa, fi_sab, fi_sar, fb_ufi, fb_ufl, fb_ufr, fb_sa, fb_sab, fb_sar, fl_ufi, fl_ufb, fl_ufr, fl_sa, fl_sab, fl_sar, fr_ufi, fr_ufb, fr_ufl, fr_sa, fr_sab, fr_sar, ai_ufi, ai_ufb, ai_ufl, ai_ufr, ai_sab, ai_sar, ab_ufi, ab_ufb, ab_ufl, ab_ufr, ab_sa, ab_sar, ar_ufi, ar_ufb, ar_ufl, ar_ufr, ar_sa, ar_sab, sa_sa, sab_sab, sar_sar, upf_upf, ufi_ufi, tnN, inbN, addN, subN, mulN, decN, divN, remN, n2_lt, n2_le, n2_gt, n2_ge, n2_eq, n2_ne, n0_lt, n0_ge, n0_gt, n0_le, n0_eq, n0_ne, m2_eq, m2_ne, m2_eqq, m2_neq, m0_lt, m0_ge, m0_eq, m0_ne, m2_eqN, m2_neN, wi_N, wi_P, wi_NN, inN_N, li_wi, Nat.reduceAdd, Nat.reduceSub, Nat.reduceMul, Nat.reduceDiv, Nat.reduceMod, Nat.reduceLT, Nat.reduceLeDiff, Nat.reduceEqDiff, decide_true, decide_false, Nat.add_zero, Nat.zero_add, Nat.mul_one, Nat.one_mul, Nat.mul_zero, Nat.zero_mul, n0_gts, Prod.mk.injEq, modN, decide_eq_true_eq, decide_eq_false_iff_not, Bool.and_eq_true, Bool.or_eq_true, Bool.not_eq_true', Bool.not_eq_false', Bool.not_eq_true, Bool.not_eq_false, Bool.not_not, Bool.not_true, Bool.not_false, Bool.true_eq_false, Bool.false_eq_true, true_and, and_true, false_and, and_false, true_implies, false_implies, implies_true, not_true_eq_false, not_false_eq_true, ne_eq, Bool.and_eq_false_imp, Bool.or_eq_false_iff, eq_self, or_false, false_or, or_true, true_or, hgk, hah, hcc, hk6, OS_a, Nat.add_sub_cancel, Nat.succ_pos]
                have : ipos key row c r = k + 1 := by rw [← hpk]; simp only [ipos, hcc, if_false]
                rw [this]
                exact ⟨rfl, g, rfl, hg1, hg2⟩
          · rintro a S' ⟨rfl, g, rfl, hg1, hg2⟩
            have i6 : ipos key row c r < 40 := by omega
            simp (disch := omega) only [q_0, q_1, q_2, q_3, q_4, q_5, q_6, q_7, q_8, q_9, q_10, q_11, q_12, q_15, q_16, q_20, q_21, q_25, q_30, q_31, q_32, q_40, q_44, q_48, q_50, q_57, q_59, q_60, q_64, q_81, q_97, q_98, q_99, q_100, q_101, q_102, q_103, q_104, q_105, q_107, q_108, q_110, q_111, q_114, q_115, q_116, q_119, q_120, q_121, q_122, q_136, q_160, q_200, q_255, q_300, q_400, q_401, q_402, q_460, q_479, q_480, q_920, q_999, q_1000, q_1023, q_1024, q_4020, q_9999, q_99999, q_1000000, q_1000000000, q_100001, q_100002, q_100003, q_100004, q_400000, nn_1, r_0, r_1, r_2, r_3, r_4, r_6, r_7, r_8, r_9, r_10, r_11, r_21, r_40, r_48, r_57, r_60, r_97, r_122, r_200, r_300, r_479, r_920, r_9999, r_99999, r_m1, rd_pu, rd_gI, rd_gB, rd_gL, rd_gQ, rd_rI, rd_rB, rd_rQ, rd_rK, rd_dq, rd_cq, rd_div, rd_rem, rd_mb, rd_mif, rd_within, rd_in, Bool.true_and, Bool.and_true, Bool.cond_self, Bool.cond_false_right, Bool.cond_true_left, cond_true, cond_false, rd_sAt, wp_rd, wp_mb, wp_mif, wp_sI, wp_sB, wp_sL, wp_sQ, wp_wI, wp_wB, wp_wQ, orR_l, orR_r, orE_l, orE_r, sK_l, sK_r, sK_c, cond_tr, fi_ufi, fi_ufi1, fi_ufi2, fb_ufb, fb_ufb1, fb_ufb2, fl_ufl, fl_ufl1, fl_ufl2, fr_ufr, fr_ufr1, fr_ufr2, ai_sa, ai_sa1, ab_sab, ab_sab1, ar_sar, ar_sar1, upf_eq, upf_ne, fi_ufb, fi_ufl, fi_ufr, fi_sa, fi_sab, fi_sar, fb_ufi, fb_ufl, fb_ufr, fb_sa, fb_sab, fb_sar, fl_ufi, fl_ufb, fl_ufr, fl_sa, fl_sab, fl_sar, fr_ufi, fr_ufb, fr_ufl, fr_sa, fr_sab, fr_sar, ai_ufi, ai_ufb, ai_ufl, ai_ufr, ai_sab, ai_sar, ab_ufi, ab_ufb, ab_ufl, ab_ufr, ab_sa, ab_sar, ar_ufi, ar_ufb, ar_ufl, ar_ufr, ar_sa, ar_sab, sa_sa, sab_sab, sar_sar, upf_upf, ufi_ufi, tnN, inbN, addN, subN, mulN, decN, divN, remN, n2_lt, n2_le, n2_gt, n2_ge, n2_eq, n2_ne, n0_lt, n0_ge, n0_gt, n0_le, n0_eq, n0_ne, m2_eq, m2_ne, m2_eqq, m2_neq, m0_lt, m0_ge, m0_eq, m0_ne, m2_eqN, m2_neN, wi_N, wi_P, wi_NN, inN_N, li_wi, Nat.reduceAdd, Nat.reduceSub, Nat.reduceMul, Nat.reduceDiv, Nat.reduceMod, Nat.reduceLT, Nat.reduceLeDiff, Nat.reduceEqDiff, decide_true, decide_false, Nat.add_zero, Nat.zero_add, Nat.mul_one, Nat.one_mul, Nat.mul_zero, Nat.zero_mul, n0_gts, Prod.mk.injEq, modN, decide_eq_true_eq, decide_eq_false_iff_not, Bool.and_eq_true, Bool.or_eq_true, Bool.not_eq_true', Bool.not_eq_false', Bool.not_eq_true, Bool.not_eq_false, Bool.not_not, Bool.not_true, Bool.not_false, Bool.true_eq_false, Bool.false_eq_true, true_and, and_true, false_and, and_false, true_implies, false_implies, implies_true, not_true_eq_false, not_false_eq_true, ne_eq, Bool.and_eq_false_imp, Bool.or_eq_false_iff, eq_self, or_false, false_or, or_true, true_or, i6, OS_a, OS_g, OS_f, OS_k]
            refine ⟨_, rfl, fun i hi => ?_⟩
            unfold insR
            by_cases c1 : i < ipos key row c r
            · rw [upf_ne _ _ _ _ (by omega), if_pos c1]; exact hg1 i c1
            · by_cases c2 : i = ipos key row c r
              · rw [c2, upf_eq, if_neg (Nat.lt_irrefl _), if_pos rfl]
              · rw [upf_ne _ _ _ _ c2, if_neg c1, if_neg c2]; exact hg2 i (by omega) (by omega)
    · have e : c = nR := by omega
      subst e
      simp (disch := omega) only [q_0, q_1, q_2, q_3, q_4, q_5, q_6, q_7, q_8, q_9, q_10, q_11, q_12, q_15, q_16, q_20, q_21, q_25, q_30, q_31, q_32, q_40, q_44, q_48, q_50, q_57, q_59, q_60, q_64, q_81, q_97, q_98, q_99, q_100, q_101, q_102, q_103, q_104, q_105, q_107, q_108, q_110, q_111, q_114, q_115, q_116, q_119, q_120, q_121, q_122, q_136, q_160, q_200, q_255, q_300, q_400, q_401, q_402, q_460, q_479, q_480, q_920, q_999, q_1000, q_1023, q_1024, q_4020, q_9999, q_99999, q_1000000, q_1000000000, q_100001, q_100002, q_100003, q_100004, q_400000, nn_1, r_0, r_1, r_2, r_3, r_4, r_6, r_7, r_8, r_9, r_10, r_11, r_21, r_40, r_48, r_57, r_60, r_97, r_122, r_200, r_300, r_479, r_920, r_9999, r_99999, r_m1, rd_pu, rd_gI, rd_gB, rd_gL, rd_gQ, rd_rI, rd_rB, rd_rQ, rd_rK, rd_dq, rd_cq, rd_div, rd_rem, rd_mb, rd_mif, rd_within, rd_in, Bool.true_and, Bool.and_true, Bool.cond_self, Bool.cond_false_right, Bool.cond_true_left, cond_true, cond_false, rd_sAt, wp_rd, wp_mb, wp_mif, wp_sI, wp_sB, wp_sL, wp_sQ, wp_wI, wp_wB, wp_wQ, orR_l, orR_r, orE_l, orE_r, sK_l, sK_r, sK_c, cond_tr, fi_ufi, fi_ufi1, fi_ufi2, fb_ufb, fb_ufb1, fb_ufb2, fl_ufl, fl_ufl1, fl_ufl2, fr_ufr, fr_ufr1, fr_ufr2, ai_sa, ai_sa1, ab_sab, ab_sab1, ar_sar, ar_sar1, upf_eq, upf_ne, fi_ufb, fi_ufl, fi_ufr, fi_sa, fi_sab, fi_sar, fb_ufi, fb_ufl, fb_ufr, fb_sa, fb_sab, fb_sar, fl_ufi, fl_ufb, fl_ufr, fl_sa, fl_sab, fl_sar, fr_ufi, fr_ufb, fr_ufl, fr_sa, fr_sab, fr_sar, ai_ufi, ai_ufb, ai_ufl, ai_ufr, ai_sab, ai_sar, ab_ufi, ab_ufb, ab_ufl, ab_ufr, ab_sa, ab_sar, ar_ufi, ar_ufb, ar_ufl, ar_ufr, ar_sa, ar_sab, sa_sa, sab_sab, sar_sar, upf_upf, ufi_ufi, tnN, inbN, addN, subN, mulN, decN, divN, remN, n2_lt, n2_le, n2_gt, n2_ge, n2_eq, n2_ne, n0_lt, n0_ge, n0_gt, n0_le, n0_eq, n0_ne, m2_eq, m2_ne, m2_eqq, m2_neq, m0_lt, m0_ge, m0_eq, m0_ne, m2_eqN, m2_neN, wi_N, wi_P, wi_NN, inN_N, li_wi, Nat.reduceAdd, Nat.reduceSub, Nat.reduceMul, Nat.reduceDiv, Nat.reduceMod, Nat.reduceLT, Nat.reduceLeDiff, Nat.reduceEqDiff, decide_true, decide_false, Nat.add_zero, Nat.zero_add, Nat.mul_one, Nat.one_mul, Nat.mul_zero, Nat.zero_mul, n0_gts, Prod.mk.injEq, modN, decide_eq_true_eq, decide_eq_false_iff_not, Bool.and_eq_true, Bool.or_eq_true, Bool.not_eq_true', Bool.not_eq_false', Bool.not_eq_true, Bool.not_eq_false, Bool.not_not, Bool.not_true, Bool.not_false, Bool.true_eq_false, Bool.false_eq_true, true_and, and_true, false_and, and_false, true_implies, false_implies, implies_true, not_true_eq_false, not_false_eq_true, ne_eq, Bool.and_eq_false_imp, Bool.or_eq_false_iff, eq_self, or_false, false_or, or_true, true_or, f39, Nat.lt_irrefl]
      exact ⟨g, rfl, hg⟩
  · rintro _ S' ⟨g, rfl, hg⟩
    exact hQ g hg
end
