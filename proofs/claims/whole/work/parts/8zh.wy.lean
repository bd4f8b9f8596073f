/-! beside: no span speaks of a wire that was an offer -/
theorem wy_off {W K F T : Nat → Nat} {nw ks x m : Nat} (hW : ∀ i, i < ks → W i < nw) (hx : nw ≤ x) : wy W K F T x m ks = none := by
  refine wy_none.2 fun i hi => ?_
  have := hW i hi
  have hne : ¬ W i = x := by omega
  simp [hit, hne]
theorem OF_wy {W K F T : Nat → Nat} {nw ks s k j : Nat} {f : Nat → Nat} (hn : nw ≤ 16) (hW : ∀ i, i < ks → W i < nw) (h : OF nw s k j f) (m w : Nat) (hw : w < nw + j) : wy W K F T (f w) m ks = wy W K F T w m ks := by
  by_cases h1 : w < nw
  · rw [h.1 w h1]
  · have := (h.2.1 w (by omega) hw).1
    rw [wy_off hW (show nw ≤ f w by omega), wy_off hW (show nw ≤ w by omega)]
/-- the class's set of lines, with offers -/
theorem ln_bt {nw s x : Nat} {L : Int32} (hL : ∀ x, x < 32 → bt L x = decide (x < nw)) (hx : x < 20) : bt (L ||| jsh (Int32.ofNat s) (Int32.ofNat 16)) x = (decide (x < nw) || (decide (16 ≤ x) && s.testBit (x - 16))) := by
  rw [bt_or, hL x (by omega), bt_jsh _ (by decide) (by omega), bt_ofNat]
  congr 1
  rw [decide_eq_true (show x - 16 < 32 by omega), Bool.true_and]
