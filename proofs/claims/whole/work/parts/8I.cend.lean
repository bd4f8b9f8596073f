/-! the class ends and cuts -/
def sfi (S : Sg) (F : Nat → Nat → Int32) : Sg := (F, S.2)
theorem fi_sfi (S : Sg) (F : Nat → Nat → Int32) : fi (sfi S F) = F := rfl
theorem ufi_sfi (S : Sg) (F : Nat → Nat → Int32) (a k : Nat) (v : Int32) : ufi (sfi S F) a k v = sfi S (up2 F a k v) := rfl
theorem sfi_id (S : Sg) : sfi S (fi S) = S := rfl
theorem up2_eq (F : Nat → Nat → Int32) (a k : Nat) (v : Int32) : up2 F a k v a k = v := by simp [up2]
theorem up2_n (F : Nat → Nat → Int32) (a k : Nat) (v : Int32) {b j : Nat} (h : b ≠ a ∨ j ≠ k) : up2 F a k v b j = F b j := by
  unfold up2
  rcases h with h | h
  · simp [h]
  · simp [h]
/-- what becomes of a call's field: 1 = ended, 2 = cut, 3 = let go -/
def eV (act b : Nat) (old now : Int32) : Int32 :=
  if act = 0 then old
  else if b = 15 then Int32.ofNat 0
  else if b = 9 then (if act = 1 then Int32.ofNat 3 else if act = 2 then Int32.ofNat 4 else Int32.ofNat 0)
  else if b = 11 then (if act = 3 then old else now)
  else if b = 13 then (if act = 3 then Int32.ofNat 0 else old)
  else if b = 14 then (if act = 3 then Int32.ofNat 0 else old)
  else old
def CE (S : Sg) (t : Nat) (act : Nat → Nat) (k : Nat) (F : Nat → Nat → Int32) : Prop :=
  (∀ c b, c < k → F (t + 6 + c) b = eV (act c) b (fi S (t + 6 + c) b) (fi S t 6)) ∧
  (∀ x, x < 32 → (bt (F t 12) x = true ↔ bt (fi S t 12) x = true ∧ ∀ c, c < k → act c ≠ 0 → bt (fi S (t + 6 + c) 15) x = false)) ∧
  (∀ a b, (a ≠ t ∨ b ≠ 12) → (a < t + 6 ∨ t + 6 + k ≤ a) → F a b = fi S a b)
theorem CE_0 (S : Sg) (t : Nat) (act : Nat → Nat) : CE S t act 0 (fi S) := ⟨fun c b h => by omega, fun x hx => ⟨fun h => ⟨h, fun c hc => by omega⟩, fun h => h.1⟩, fun _ _ _ _ => rfl⟩
theorem CE_n {S : Sg} {t : Nat} {act : Nat → Nat} {k : Nat} {F : Nat → Nat → Int32} (h : CE S t act k F) (ha : act k = 0) : CE S t act (k + 1) F := by
  obtain ⟨h1, h2, h3⟩ := h
  refine ⟨fun c b hc => ?_, fun x hx => ?_, fun a b hab ha => h3 a b hab (by omega)⟩
  · by_cases e : c = k
    · subst e
      rw [ha, h3 _ _ (Or.inl (by omega)) (Or.inr (by omega))]
      rfl
    · exact h1 c b (by omega)
  · rw [h2 x hx]
    constructor
    · rintro ⟨g1, g2⟩
      refine ⟨g1, fun c hc hac => ?_⟩
      by_cases e : c = k
      · subst e; exact absurd ha hac
      · exact g2 c (by omega) hac
    · rintro ⟨g1, g2⟩
      exact ⟨g1, fun c hc hac => g2 c (by omega) hac⟩
theorem CE_bits {S : Sg} {t : Nat} {act : Nat → Nat} {k : Nat} {F : Nat → Nat → Int32} (h : CE S t act k F) (ha : act k ≠ 0) : ∀ x, x < 32 → (bt (F t 12 &&& (F (t + 6 + k) 15 ^^^ nn)) x = true ↔ bt (fi S t 12) x = true ∧ ∀ c, c < k + 1 → act c ≠ 0 → bt (fi S (t + 6 + c) 15) x = false) := by
  intro x hx
  obtain ⟨h1, h2, h3⟩ := h
  rw [bt_and, bt_not _ hx, Bool.and_eq_true, Bool.not_eq_true', h2 x hx, h3 _ _ (Or.inl (by omega)) (Or.inr (by omega))]
  constructor
  · rintro ⟨⟨g1, g2⟩, g3⟩
    refine ⟨g1, fun c hc hac => ?_⟩
    by_cases e : c = k
    · subst e; exact g3
    · exact g2 c (by omega) hac
  · rintro ⟨g1, g2⟩
    exact ⟨⟨g1, fun c hc hac => g2 c (by omega) hac⟩, g2 k (by omega) ha⟩
theorem CE_hu {S : Sg} {t : Nat} {act : Nat → Nat} {k : Nat} {F : Nat → Nat → Int32} (h : CE S t act k F) {v : Int32} (ha : act k = 1 ∧ v = Int32.ofNat 3 ∨ act k = 2 ∧ v = Int32.ofNat 4) : ∃ F', HU (sfi S F) t (t + 6 + k) v = sfi S F' ∧ CE S t act (k + 1) F' := by
  have hb := CE_bits h (by omega)
  obtain ⟨h1, h2, h3⟩ := h
  have e6 : F t 6 = fi S t 6 := h3 _ _ (Or.inr (by omega)) (Or.inl (by omega))
  refine ⟨_, rfl, ?_⟩
  show CE S t act (k + 1) (up2 (up2 (up2 (up2 F t 12 (F t 12 &&& (F (t + 6 + k) 15 ^^^ nn))) (t + 6 + k) 15 (Int32.ofNat 0)) (t + 6 + k) 9 v) (t + 6 + k) 11 (F t 6))
  refine ⟨fun c b hc => ?_, fun x hx => ?_, fun a b hab hac => ?_⟩
  · by_cases e : c = k
    · subst e
      unfold eV
      rw [if_neg (show ¬ act c = 0 by omega)]
      by_cases b11 : b = 11
      · subst b11
        rw [up2_eq, e6, if_neg (by omega), if_neg (by omega), if_pos rfl, if_neg (by omega)]
      · rw [up2_n _ _ _ _ (Or.inr b11)]
        by_cases b9 : b = 9
        · subst b9
          rw [up2_eq, if_neg (by omega), if_pos rfl]
          rcases ha with ⟨g1, g2⟩ | ⟨g1, g2⟩
          · rw [if_pos g1, g2]
          · rw [if_neg (by omega), if_pos g1, g2]
        · rw [up2_n _ _ _ _ (Or.inr b9)]
          by_cases b15 : b = 15
          · subst b15
            rw [up2_eq, if_pos rfl]
          · rw [up2_n _ _ _ _ (Or.inr b15), up2_n _ _ _ _ (Or.inl (by omega)), if_neg b15, if_neg b9, if_neg b11, if_neg (show ¬ act c = 3 by omega), h3 _ _ (Or.inl (by omega)) (Or.inr (by omega))]
            split <;> (try rfl)
            split <;> rfl
    · rw [up2_n _ _ _ _ (Or.inl (by omega)), up2_n _ _ _ _ (Or.inl (by omega)), up2_n _ _ _ _ (Or.inl (by omega)), up2_n _ _ _ _ (Or.inl (by omega))]
      exact h1 c b (by omega)
  · rw [up2_n _ _ _ _ (Or.inl (by omega)), up2_n _ _ _ _ (Or.inl (by omega)), up2_n _ _ _ _ (Or.inl (by omega)), up2_eq]
    exact hb x hx
  · rw [up2_n _ _ _ _ (Or.inl (by omega)), up2_n _ _ _ _ (Or.inl (by omega)), up2_n _ _ _ _ (Or.inl (by omega)), up2_n _ _ _ _ hab]
    exact h3 a b hab (by omega)
theorem CE_lg {S : Sg} {t : Nat} {act : Nat → Nat} {k : Nat} {F : Nat → Nat → Int32} (h : CE S t act k F) (ha : act k = 3) : ∃ F', LG (sfi S F) t (t + 6 + k) = sfi S F' ∧ CE S t act (k + 1) F' := by
  have hb := CE_bits h (by omega)
  obtain ⟨h1, h2, h3⟩ := h
  refine ⟨_, rfl, ?_⟩
  show CE S t act (k + 1) (up2 (up2 (up2 (up2 (up2 F t 12 (F t 12 &&& (F (t + 6 + k) 15 ^^^ nn))) (t + 6 + k) 15 (Int32.ofNat 0)) (t + 6 + k) 14 (Int32.ofNat 0)) (t + 6 + k) 13 (Int32.ofNat 0)) (t + 6 + k) 9 (Int32.ofNat 0))
  refine ⟨fun c b hc => ?_, fun x hx => ?_, fun a b hab hac => ?_⟩
  · by_cases e : c = k
    · subst e
      unfold eV
      rw [if_neg (show ¬ act c = 0 by omega)]
      by_cases b9 : b = 9
      · subst b9
        rw [up2_eq, if_neg (by omega), if_pos rfl, if_neg (by omega), if_neg (by omega)]
      · rw [up2_n _ _ _ _ (Or.inr b9)]
        by_cases b13 : b = 13
        · subst b13
          rw [up2_eq, if_neg (by omega), if_neg (by omega), if_neg (by omega), if_pos rfl, if_pos ha]
        · rw [up2_n _ _ _ _ (Or.inr b13)]
          by_cases b14 : b = 14
          · subst b14
            rw [up2_eq, if_neg (by omega), if_neg (by omega), if_neg (by omega), if_neg (by omega), if_pos rfl, if_pos ha]
          · rw [up2_n _ _ _ _ (Or.inr b14)]
            by_cases b15 : b = 15
            · subst b15
              rw [up2_eq, if_pos rfl]
            · rw [up2_n _ _ _ _ (Or.inr b15), up2_n _ _ _ _ (Or.inl (by omega)), if_neg b15, if_neg b9, if_neg b13, if_neg b14, if_pos ha, h3 _ _ (Or.inl (by omega)) (Or.inr (by omega))]
              split <;> rfl
    · rw [up2_n _ _ _ _ (Or.inl (by omega)), up2_n _ _ _ _ (Or.inl (by omega)), up2_n _ _ _ _ (Or.inl (by omega)), up2_n _ _ _ _ (Or.inl (by omega)), up2_n _ _ _ _ (Or.inl (by omega))]
      exact h1 c b (by omega)
  · rw [up2_n _ _ _ _ (Or.inl (by omega)), up2_n _ _ _ _ (Or.inl (by omega)), up2_n _ _ _ _ (Or.inl (by omega)), up2_n _ _ _ _ (Or.inl (by omega)), up2_eq]
    exact hb x hx
  · rw [up2_n _ _ _ _ (Or.inl (by omega)), up2_n _ _ _ _ (Or.inl (by omega)), up2_n _ _ _ _ (Or.inl (by omega)), up2_n _ _ _ _ (Or.inl (by omega)), up2_n _ _ _ _ hab]
    exact h3 a b hab (by omega)
