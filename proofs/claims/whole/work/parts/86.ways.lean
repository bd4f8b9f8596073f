/-! the ways of a pair, asked for -/
theorem cn_le (v : Nat → Nat) (set : Int32) (k : Nat) : cn v set k ≤ k := by
  induction k with
  | zero => exact Nat.le_refl _
  | succ k ih =>
    show cn v set k + _ ≤ _
    split <;> omega
theorem negN {x : Int32} (h : ¬ 0 ≤ x.toInt) : ∃ N, 2147483648 ≤ N ∧ N < 4294967296 ∧ x = Int32.ofNat N := by
  refine ⟨x.toBitVec.toNat, ?_, x.toBitVec.isLt, ?_⟩
  · have e : x.toInt = x.toBitVec.toInt := rfl
    rw [e, BitVec.toInt_eq_toNat_cond] at h
    have := x.toBitVec.isLt
    split at h <;> omega
  · apply Int32.toBitVec.inj
    rw [Int32.toBitVec_ofNat']
    rw [BitVec.ofNat_toNat, BitVec.setWidth_eq]
section
variable {f : Nat → Nat} {n : Nat} {there : Int32} {al : Nat → Bool} {A B M A' B' M' : Nat → Nat} {c3 c4 c5 c8 c9 c0 : Nat → Int32}
theorem fq_id (H' : NetM n A' B' M' c8 c9 c0) {a b q : Nat} (h : q ∈ seg (lv n) A' B' M' a b) : fq (fun w => w) q = q := by
  have hn := H'.1
  obtain ⟨k, m, x, y, z, h1, h2, h3, h4, h5, h6, h7, h8, rfl⟩ := seg_form H' h
  rcases (by omega : k = 1 ∨ k = 2 ∨ k = 3) with e | e | e <;> subst e
  · rw [h6 (by omega), h8 (by omega), fq_1 h3 (by omega)]
  · rw [h8 (by omega), fq_2 h3 (by omega) (by have := h5 (by omega); omega)]
  · rw [fq_3 h3 (by omega) (by have := h5 (by omega); omega) (by have := h7 (by omega); omega)]
theorem fq_N (P : Phi f n there al A B M A' B' M') (H' : NetM n A' B' M' c8 c9 c0) {a b q : Nat} (h : q ∈ seg (lv n) A' B' M' a b) : wN (fq f q) = wN q ∧ wM (fq f q) = wM q := by
  have hn := H'.1
  obtain ⟨k, m, x, y, z, h1, h2, h3, h4, h5, h6, h7, h8, rfl⟩ := seg_form H' h
  have fx := (P.2.1 x h4).1
  have fy : (if 2 ≤ k then f y else 0) < 20 := by split; exact (P.2.1 y (h5 (by omega))).1; omega
  have fz : (if 3 ≤ k then f z else 0) < 20 := by split; exact (P.2.1 z (h7 (by omega))).1; omega
  have hy : y < 20 := by by_cases e : 2 ≤ k; have := h5 e; omega; have := h6 (by omega); omega
  have hz : z < 20 := by by_cases e : 3 ≤ k; have := h7 e; omega; have := h8 (by omega); omega
  rw [fq_form P h1 h2 h3 h4 h5 h6 h7 h8, wc_N h3 (by omega) (by omega) (by omega), wc_N h3 (by omega) (by omega) (by omega), wc_M h3 (by omega) (by omega) (by omega), wc_M h3 (by omega) (by omega) (by omega)]
  exact ⟨rfl, rfl⟩
theorem cn_ix (P : Phi f n there al A B M A' B' M') (H : NetL al A B M c3 c4 c5) (H' : NetM n A' B' M' c8 c9 c0) {a b m m' : Nat} {v w : Nat → Nat} (hB : Bij v m (fun q => q ∈ seg al A B M a b)) (hi : ∀ i j, i < j → j < m → v i < v j) (hB' : Bij w m' (fun q => q ∈ seg (lv n) A' B' M' a b)) (hi' : ∀ i j, i < j → j < m' → w i < w j) : ∀ k, k ≤ m → (∀ i, i < m' → (i < cn v there k ↔ ∃ j, j < k ∧ v j = fq f (w i))) ∧ (∀ j, j < k → subB there (v j) = true → cn v there j < m' ∧ v j = fq f (w (cn v there j))) := by
  intro k
  induction k with
  | zero => exact fun _ => ⟨fun i _ => ⟨fun h => absurd h (Nat.not_lt_zero _), fun ⟨j, hj, _⟩ => by omega⟩, fun j hj => by omega⟩
  | succ k ih =>
    intro hk
    obtain ⟨i1, i2⟩ := ih (by omega)
    by_cases hs : subB there (v k) = true
    · have ec : cn v there (k + 1) = cn v there k + 1 := by show _ + _ = _; rw [if_pos hs]
      obtain ⟨q', hq', e⟩ := (seg_phi P H H').1 ⟨hB.1 k (by omega), hs⟩
      obtain ⟨i0, hi0, rfl⟩ := hB'.2.1 q' hq'
      have g1 : ¬ i0 < cn v there k := fun h => by
        obtain ⟨j, hj, e2⟩ := (i1 i0 hi0).1 h
        have := hi j k hj (by omega)
        omega
      have g2 : ¬ cn v there k < i0 := fun h => by
        have h3 := fq_mono P H' (hB'.1 _ (by omega)) hq' (hi' (cn v there k) i0 h hi0)
        obtain ⟨h4, h5⟩ := (seg_phi P H H').2 ⟨_, hB'.1 (cn v there k) (by omega), rfl⟩
        obtain ⟨j, hj, e2⟩ := hB.2.1 _ h4
        have hjk : j < k := by
          refine Nat.lt_of_not_le fun h6 => ?_
          by_cases e3 : j = k
          · subst e3; omega
          · have := hi k j (by omega) hj; omega
        have := (i1 (cn v there k) (by omega)).2 ⟨j, hjk, e2⟩
        omega
      have e0 : i0 = cn v there k := by omega
      refine ⟨fun i hi2 => ?_, fun j hj hsj => ?_⟩
      · rw [ec]
        constructor
        · intro h
          by_cases e3 : i = cn v there k
          · exact ⟨k, by omega, by rw [e, e0, e3]⟩
          · obtain ⟨j, hj, e4⟩ := (i1 i hi2).1 (by omega)
            exact ⟨j, by omega, e4⟩
        · rintro ⟨j, hj, e4⟩
          by_cases e3 : j = k
          · subst e3
            have h8 : i = i0 := by
              refine hB'.2.2 i i0 hi2 hi0 ?_
              rcases Nat.lt_trichotomy (w i) (w i0) with h | h | h
              · have := fq_mono P H' (hB'.1 _ hi2) hq' h; omega
              · exact h
              · have := fq_mono P H' hq' (hB'.1 _ hi2) h; omega
            omega
          · have := (i1 i hi2).2 ⟨j, by omega, e4⟩; omega
      · by_cases e3 : j = k
        · subst e3; exact ⟨by omega, by rw [e, e0]⟩
        · exact i2 j (by omega) hsj
    · have ec : cn v there (k + 1) = cn v there k := by show _ + _ = _; rw [if_neg hs]; rfl
      refine ⟨fun i hi2 => ?_, fun j hj hsj => ?_⟩
      · rw [ec, i1 i hi2]
        constructor
        · rintro ⟨j, hj, e⟩
          exact ⟨j, by omega, e⟩
        · rintro ⟨j, hj, e⟩
          by_cases e3 : j = k
          · subst e3
            exact absurd ((seg_phi P H H').2 ⟨_, hB'.1 i hi2, rfl⟩).2 (by rw [← e]; exact hs)
          · exact ⟨j, by omega, e⟩
      · by_cases e3 : j = k
        · subst e3; exact absurd hsj hs
        · exact i2 j (by omega) hsj
/-- the nth way of the class is the nth path of the reference -/
theorem nth_ix (P : Phi f n there al A B M A' B' M') (H : NetL al A B M c3 c4 c5) (H' : NetM n A' B' M' c8 c9 c0) {a b m m' most N r : Nat} {v w : Nat → Nat} (hB : Bij v m (fun q => q ∈ seg al A B M a b)) (hi : ∀ i j, i < j → j < m → v i < v j) (hB' : Bij w m' (fun q => q ∈ seg (lv n) A' B' M' a b)) (hi' : ∀ i j, i < j → j < m' → w i < w j)
    (h : (r = 0 ∧ ∀ k, k < m → v k < (most + 1) * 33554432 → subB there (v k) = true → cn v there k ≠ N) ∨ (∃ k, k < m ∧ r = v k ∧ v k < (most + 1) * 33554432 ∧ subB there (v k) = true ∧ cn v there k = N)) : (r = 0 ∧ ¬ (N < m' ∧ wN (w N) ≤ most)) ∨ (N < m' ∧ wN (w N) ≤ most ∧ r = fq f (w N)) := by
  obtain ⟨x1, x2⟩ := cn_ix P H H' hB hi hB' hi' m (Nat.le_refl _)
  rcases h with ⟨h1, h2⟩ | ⟨k, hk, rfl, h3, h4, h5⟩
  · refine Or.inl ⟨h1, fun ⟨g1, g2⟩ => ?_⟩
    obtain ⟨h4, h5⟩ := (seg_phi P H H').2 ⟨_, hB'.1 N g1, rfl⟩
    obtain ⟨k, hk, e⟩ := hB.2.1 _ h4
    rw [← e] at h5
    obtain ⟨y1, y2⟩ := x2 k hk h5
    have hNN := fq_N P H' (hB'.1 N g1)
    rw [← e] at hNN
    refine h2 k hk (by unfold wN at *; omega) h5 (hB'.2.2 _ _ y1 g1 ?_)
    rw [e] at y2
    rcases Nat.lt_trichotomy (w (cn v there k)) (w N) with h | h | h
    · have := fq_mono P H' (hB'.1 _ y1) (hB'.1 _ g1) h; omega
    · exact h
    · have := fq_mono P H' (hB'.1 _ g1) (hB'.1 _ y1) h; omega
  · obtain ⟨y1, y2⟩ := x2 k hk h4
    rw [h5] at y1 y2
    have hNN := fq_N P H' (hB'.1 N y1)
    rw [← y2] at hNN
    exact Or.inr ⟨y1, by unfold wN at *; omega, y2⟩
end
