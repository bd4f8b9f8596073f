/-! shifts: the latest begins are the least, and the first of the least -/
def hG (nd : Nat → Nat) : Nat → Nat → Nat → Nat → Nat
  | 0, s1, s2, s3 => max (nd 8 - s3) (max (nd 9 - s2) (max (nd 10 - s1) (nd 11)))
  | r + 1, s1, s2, s3 => (nd (7 - r) - s3) + hG nd r (nd (7 - r) - s3) (s1 + (nd (7 - r) - s3)) (s2 + (nd (7 - r) - s3))
theorem hG_le (nd : Nat → Nat) : ∀ (r k s1 s2 s3 t1 t2 t3 : Nat), t1 ≤ s1 + k → t2 ≤ s2 + k → t3 ≤ s3 + k → hG nd r s1 s2 s3 ≤ k + hG nd r t1 t2 t3 := by
  intro r
  induction r with
  | zero => intro k s1 s2 s3 t1 t2 t3 h1 h2 h3; simp only [hG]; omega
  | succ r ih =>
    intro k s1 s2 s3 t1 t2 t3 h1 h2 h3
    simp only [hG]
    generalize nd (7 - r) = d
    have := ih (k + (d - t3) - (d - s3)) (d - s3) (s1 + (d - s3)) (s2 + (d - s3)) (d - t3) (t1 + (d - t3)) (t2 + (d - t3)) (by omega) (by omega) (by omega)
    omega
theorem hG_bd (nd : Nat → Nat) (hn : ∀ h, h < 12 → nd h < 10) : ∀ (r s1 s2 s3 : Nat), r ≤ 8 → hG nd r s1 s2 s3 ≤ 9 * (r + 1) := by
  intro r
  induction r with
  | zero =>
    intro s1 s2 s3 _
    have h8 := hn 8 (by omega)
    have h9 := hn 9 (by omega)
    have h10 := hn 10 (by omega)
    have h11 := hn 11 (by omega)
    simp only [hG]
    omega
  | succ r ih =>
    intro s1 s2 s3 hr
    have h := hn (7 - r) (by omega)
    have := ih (nd (7 - r) - s3) (s1 + (nd (7 - r) - s3)) (s2 + (nd (7 - r) - s3)) (by omega)
    simp only [hG]
    omega
/-- the three begins before hour h, and the one at h -/
def hp (nd : Nat → Nat) : Nat → Nat × Nat × Nat
  | 0 => (0, 0, 0)
  | h + 1 => ((hp nd h).2.1, (hp nd h).2.2, nd h - ((hp nd h).1 + (hp nd h).2.1 + (hp nd h).2.2))
def hx (nd : Nat → Nat) (h : Nat) : Nat := if h < 8 then (hp nd (h + 1)).2.2 else hG nd 0 (hp nd 8).2.2 ((hp nd 8).2.1 + (hp nd 8).2.2) ((hp nd 8).1 + (hp nd 8).2.1 + (hp nd 8).2.2)
def sumf (B : Nat → Nat) (lo : Nat) : Nat → Nat
  | 0 => 0
  | n + 1 => sumf B lo n + B (lo + n)
theorem hx_sum (nd : Nat → Nat) : sumf (hx nd) 0 9 = hG nd 8 0 0 0 := by
  have e : ∀ r, r < 8 → hG nd (r + 1) (hp nd (7 - r)).2.2 ((hp nd (7 - r)).2.1 + (hp nd (7 - r)).2.2) ((hp nd (7 - r)).1 + (hp nd (7 - r)).2.1 + (hp nd (7 - r)).2.2) = hx nd (7 - r) + hG nd r (hp nd (7 - r + 1)).2.2 ((hp nd (7 - r + 1)).2.1 + (hp nd (7 - r + 1)).2.2) ((hp nd (7 - r + 1)).1 + (hp nd (7 - r + 1)).2.1 + (hp nd (7 - r + 1)).2.2) := by
    intro r hr
    have h8 : 7 - r < 8 := by omega
    simp only [hG, hx, h8, if_true, hp]
  have e7 := e 7 (by omega)
  have e6 := e 6 (by omega)
  have e5 := e 5 (by omega)
  have e4 := e 4 (by omega)
  have e3 := e 3 (by omega)
  have e2 := e 2 (by omega)
  have e1 := e 1 (by omega)
  have e0 := e 0 (by omega)
  have e8 : hx nd 8 = hG nd 0 (hp nd 8).2.2 ((hp nd 8).2.1 + (hp nd 8).2.2) ((hp nd 8).1 + (hp nd 8).2.1 + (hp nd 8).2.2) := by simp [hx]
  simp only [Nat.reduceAdd, Nat.reduceSub] at e7 e6 e5 e4 e3 e2 e1 e0
  have ez : hG nd 8 (hp nd 0).2.2 ((hp nd 0).2.1 + (hp nd 0).2.2) ((hp nd 0).1 + (hp nd 0).2.1 + (hp nd 0).2.2) = hG nd 8 0 0 0 := rfl
  rw [ez] at e7
  rw [e7, e6, e5, e4, e3, e2, e1, e0, ← e8]
  simp only [sumf, Nat.zero_add, Nat.add_assoc]
theorem hp_bd (nd : Nat → Nat) (hn : ∀ h, h < 12 → nd h < 10) : ∀ h, h ≤ 8 → (hp nd h).1 < 10 ∧ (hp nd h).2.1 < 10 ∧ (hp nd h).2.2 < 10 := by
  intro h
  induction h with
  | zero => intro _; simp [hp]
  | succ h ih =>
    intro hh
    have := ih (by omega)
    have h2 := hn h (by omega)
    simp only [hp]
    omega
theorem hx_bd (nd : Nat → Nat) (hn : ∀ h, h < 12 → nd h < 10) (h : Nat) (hh : h ≤ 8) : hx nd h < 10 := by
  unfold hx
  split
  · exact (hp_bd nd hn (h + 1) (by omega)).2.2
  · have := hG_bd nd hn 0 (hp nd 8).2.2 ((hp nd 8).2.1 + (hp nd 8).2.2) ((hp nd 8).1 + (hp nd 8).2.1 + (hp nd 8).2.2) (by omega)
    omega
/-- the begins by the class, behind k hours -/
def hB (nd : Nat → Nat) : Nat → Nat → Nat
  | 0, _ => 0
  | k + 1, i => if i = min k 8 then hB nd k i + (nd k - sumf (hB nd k) (k - 3) (min k 8 + 1 - (k - 3))) else hB nd k i
theorem hB_bd (nd : Nat → Nat) (hn : ∀ h, h < 12 → nd h < 10) : ∀ k i, k ≤ 12 → hB nd k i ≤ 9 * k := by
  intro k
  induction k with
  | zero => intro i _; simp [hB]
  | succ k ih =>
    intro i hk
    have h1 := ih i (by omega)
    have h2 := hn k (by omega)
    simp only [hB]
    split <;> omega
theorem sumf_bd {B : Nat → Nat} {b lo : Nat} : ∀ {n : Nat}, (∀ i, lo ≤ i → i < lo + n → B i ≤ b) → sumf B lo n ≤ b * n := by
  intro n
  induction n with
  | zero => intro _; simp [sumf]
  | succ n ih =>
    intro h
    have h1 := ih (fun i h1 h2 => h i h1 (by omega))
    have h2 := h (lo + n) (by omega) (by omega)
    simp only [sumf]
    rw [Nat.mul_succ]
    omega
theorem hB_lo (nd : Nat → Nat) : ∀ k, k ≤ 8 → (∀ i, k ≤ i → hB nd k i = 0) ∧ (∀ i, i < k → hB nd k i = hx nd i) ∧ (hp nd k) = ((if 3 ≤ k then hB nd k (k - 3) else 0), (if 2 ≤ k then hB nd k (k - 2) else 0), (if 1 ≤ k then hB nd k (k - 1) else 0)) := by
  intro k
  induction k with
  | zero => intro _; refine ⟨fun i _ => by simp [hB], fun i h => by omega, by simp [hp]⟩
  | succ k ih =>
    intro hk
    obtain ⟨i1, i2, i3⟩ := ih (by omega)
    have hmin : min k 8 = k := by omega
    have hnew : hB nd (k + 1) k = (hp nd (k + 1)).2.2 := by
      simp only [hB, hmin, if_true, i1 k (Nat.le_refl _), Nat.zero_add, hp]
      congr 1
      rw [i3]
      simp only
      by_cases h3 : 3 ≤ k
      · have e : k + 1 - (k - 3) = 4 := by omega
        have a1 : k - 3 + 1 = k - 2 := by omega
        have a2 : k - 3 + 2 = k - 1 := by omega
        have a3 : k - 3 + 3 = k := by omega
        have b2 : 2 ≤ k := by omega
        have b1 : 1 ≤ k := by omega
        rw [e]
        simp only [sumf, Nat.add_zero, a1, a2, a3, i1 k (Nat.le_refl _), h3, b2, b1, if_true, Nat.zero_add]
      · have hc : k = 0 ∨ k = 1 ∨ k = 2 := by omega
        rcases hc with rfl | rfl | rfl
        · simp [sumf, i1 0 (Nat.le_refl _)]
        · simp [sumf, i1 1 (Nat.le_refl _)]
        · simp [sumf, i1 2 (Nat.le_refl _)]
    have hold : ∀ i, i ≠ k → hB nd (k + 1) i = hB nd k i := fun i h => by simp only [hB, hmin, h, if_false]
    refine ⟨fun i h => by rw [hold i (by omega)]; exact i1 i (by omega), fun i h => ?_, ?_⟩
    · by_cases hik : i = k
      · subst hik
        rw [hnew]
        have : i < 8 := by omega
        simp [hx, this]
      · rw [hold i hik]; exact i2 i (by omega)
    · have h22 : (hp nd (k + 1)).2.2 = hB nd (k + 1) k := hnew.symm
      have e1 : (hp nd (k + 1)).1 = (hp nd k).2.1 := rfl
      have e2 : (hp nd (k + 1)).2.1 = (hp nd k).2.2 := rfl
      refine Prod.ext ?_ (Prod.ext ?_ ?_)
      · rw [e1, i3]
        simp only
        have a : k + 1 - 3 = k - 2 := by omega
        by_cases h : 2 ≤ k
        · have h' : 3 ≤ k + 1 := by omega
          rw [if_pos h, if_pos h', a, hold _ (by omega)]
        · have h' : ¬ 3 ≤ k + 1 := by omega
          rw [if_neg h, if_neg h']
      · rw [e2, i3]
        simp only
        have a : k + 1 - 2 = k - 1 := by omega
        by_cases h : 1 ≤ k
        · have h' : 2 ≤ k + 1 := by omega
          rw [if_pos h, if_pos h', a, hold _ (by omega)]
        · have h' : ¬ 2 ≤ k + 1 := by omega
          rw [if_neg h, if_neg h']
      · rw [h22]
        simp
theorem hB_12 (nd : Nat → Nat) : ∀ i, i < 9 → hB nd 12 i = hx nd i := by
  obtain ⟨i1, i2, i3⟩ := hB_lo nd 8 (Nat.le_refl _)
  have hold : ∀ k i, 8 ≤ k → i ≠ 8 → hB nd (k + 1) i = hB nd k i := fun k i hk h => by
    have hm : min k 8 = 8 := by omega
    simp only [hB, hm, h, if_false]
  have h12 : ∀ i, i < 8 → hB nd 12 i = hB nd 8 i := fun i h => by
    rw [hold 11 i (by omega) (by omega), hold 10 i (by omega) (by omega), hold 9 i (by omega) (by omega), hold 8 i (by omega) (by omega)]
  intro i hi
  by_cases h : i < 8
  · rw [h12 i h]; exact i2 i h
  · have h8 : i = 8 := by omega
    subst h8
    have p1 : (hp nd 8).1 = hB nd 8 5 := by rw [i3]; rfl
    have p2 : (hp nd 8).2.1 = hB nd 8 6 := by rw [i3]; rfl
    have p3 : (hp nd 8).2.2 = hB nd 8 7 := by rw [i3]; rfl
    have z := i1 8 (Nat.le_refl _)
    have a9 : hB nd 9 8 = nd 8 - (hB nd 8 5 + hB nd 8 6 + hB nd 8 7) := by
      show (if 8 = min 8 8 then hB nd 8 8 + (nd 8 - sumf (hB nd 8) (8 - 3) (min 8 8 + 1 - (8 - 3))) else hB nd 8 8) = _
      simp [sumf, z]
    have b96 : hB nd 9 6 = hB nd 8 6 := hold 8 6 (by omega) (by omega)
    have b97 : hB nd 9 7 = hB nd 8 7 := hold 8 7 (by omega) (by omega)
    have b107 : hB nd 10 7 = hB nd 8 7 := by rw [hold 9 7 (by omega) (by omega), b97]
    have a10 : hB nd 10 8 = hB nd 9 8 + (nd 9 - (hB nd 9 6 + hB nd 9 7 + hB nd 9 8)) := by
      show (if 8 = min 9 8 then hB nd 9 8 + (nd 9 - sumf (hB nd 9) (9 - 3) (min 9 8 + 1 - (9 - 3))) else hB nd 9 8) = _
      simp [sumf]
    have a11 : hB nd 11 8 = hB nd 10 8 + (nd 10 - (hB nd 10 7 + hB nd 10 8)) := by
      show (if 8 = min 10 8 then hB nd 10 8 + (nd 10 - sumf (hB nd 10) (10 - 3) (min 10 8 + 1 - (10 - 3))) else hB nd 10 8) = _
      simp [sumf]
    have a12 : hB nd 12 8 = hB nd 11 8 + (nd 11 - hB nd 11 8) := by
      show (if 8 = min 11 8 then hB nd 11 8 + (nd 11 - sumf (hB nd 11) (11 - 3) (min 11 8 + 1 - (11 - 3))) else hB nd 11 8) = _
      simp [sumf]
    have hxe : hx nd 8 = max (nd 8 - (hB nd 8 5 + hB nd 8 6 + hB nd 8 7)) (max (nd 9 - (hB nd 8 6 + hB nd 8 7)) (max (nd 10 - hB nd 8 7) (nd 11))) := by
      unfold hx
      rw [if_neg (by omega), p1, p2, p3]
      rfl
    rw [hxe, a12, a11, a10, b107, b96, b97, a9]
    omega
