/-! beside: no span speaks of a wire that was an offer -/
theorem wy_off {W K F T : Nat → Nat} {nw ks x m : Nat} (hW : ∀ i, i < ks → W i < nw) (hx : nw ≤ x) : wy W K F T x m ks = none := by
  refine wy_none.2 fun i hi => ?_
  have := hW i hi
  have hne : ¬ W i = x := by omega
  simp [hit, hne]
theorem OF_wy {W K F T : Nat → Nat} {nw ks s k j : Nat} {f : Nat → Nat} (hn : nw ≤ 16) (hW : ∀ i, i < ks → W i < nw) (h : OF nw s k j f) (m w : Nat) (hw : w < nw + j) : wy W K F T (f w) m ks = wy W K F T w m ks := by
  by_cases h1 : w < nw
  · rw [h.1 w h1]
  · have := (h.2.1 w (by omega) hw).1
    rw [wy_off hW (show nw ≤ f w by omega), wy_off hW (show nw ≤ w by omega)]
