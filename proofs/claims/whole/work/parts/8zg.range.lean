/-! the day's relation, by values in range -/
section
variable {t : Nat} {f : Nat → Nat} {n : Nat} {M : Nat → Nat} {nc nR m : Nat} {E D : Nat → Nat → Nat} {hd : Nat → Option Nat} {SC SR SR' : Sg}
theorem DD_bk (H : DD t f n M nc nR m E D hd SC SR) (h39 : fi SR' 127 39 = fi SR 127 39) (hc : ∀ c, c < 40 → BKc SR SR' c) (hw : ∀ w, w < 20 → ai SR' 166 w = ai SR 166 w) : DD t f n M nc nR m E D hd SC SR' := by
  obtain ⟨g, c1, ⟨q1, q2, q3, q4⟩, hK, h6, hh⟩ := H
  have h40 : nc ≤ 40 := Nat.le_trans g.1 g.2.1
  refine ⟨g, c1, ⟨by rw [h39]; exact q1, fun w h => by rw [hw w h]; exact q2 w h, fun c h => ?_, fun c h1 h2 => by rw [(hc c (by omega)).1]; exact q4 c h1 h2⟩, hK, h6, hh⟩
  obtain ⟨b0, b1, b2, b3, b4, b5, b6, b7⟩ := hc c (by omega)
  obtain ⟨k1, k2, k3, k4, k5, k6, k7⟩ := q3 c h
  unfold KR
  rw [b0, b1, b2, b3, b4, b5, b6]
  refine ⟨k1, k2, k3, k4, k5, k6, fun h2 => ⟨(k7 h2).1, fun j hj => ?_⟩⟩
  have hj3 : j < 3 := by
    rcases (hK c h).2.1 with e | e
    · rw [e] at hj; exact absurd hj (Nat.not_lt_zero j)
    · exact Nat.lt_of_lt_of_le hj (WF_b e g.2.2.1).2.2.2.1
  rw [b7 j hj3]
  exact (k7 h2).2 j hj
end
section
variable {nw : Nat} {M : Nat → Nat} {nc m : Nat} {E D : Nat → Nat → Nat} {hd : Nat → Option Nat} {SC SR SR' : Sg}
theorem ID_bk (H : ID nw M nc m E D hd SC SR) (h38 : fi SR' 127 38 = fi SR 127 38) (h39 : fi SR' 127 39 = fi SR 127 39) (h59 : fi SR' 127 59 = fi SR 127 59) (hc : ∀ c, c < 40 → BKc SR SR' c) (hw : ∀ w, w < 20 → BKw SR SR' w) (ha : ∀ a, 150 ≤ a → a ≤ 157 → ai SR' a = ai SR a ∧ ab SR' a = ab SR a) : ID nw M nc m E D hd SC SR' := by
  obtain ⟨h1, h2, h3, h4, h5, h6, h7, h8, h9, h10⟩ := H
  refine ⟨DD_bk h1 h39 hc fun w h => (hw w h).1, fun c hcn => ?_, h3, h4, by rw [h38]; exact h5, by rw [h59]; exact h6, h7, h8, ⟨fun c hcn => ?_, h9.2.1, h9.2.2⟩, fun w h => ?_⟩
  · have := h2 c hcn
    rw [(ha 150 (by decide) (by decide)).1, (ha 151 (by decide) (by decide)).1, (ha 152 (by decide) (by decide)).1, (ha 153 (by decide) (by decide)).1, (ha 154 (by decide) (by decide)).1, (ha 155 (by decide) (by decide)).1]
    exact this
  · have := h9.1 c hcn
    rw [(ha 156 (by decide) (by decide)).1, (ha 157 (by decide) (by decide)).2]
    exact this
  · have := h10 w h
    rw [(hw w h).2.1, (hw w h).2.2]
    exact this
end
