/-! what a step leaves as it is; the orders alike where only free places changed -/
theorem stk_cg {cl kd cl' kd' : Nat → Nat} {f1 f1' : Nat → Int32} {k : Nat} (h1 : cl' k = cl k) (h2 : ∀ j, j < cl k → kd' (10 * k + j) = kd (10 * k + j) ∧ f1' (10 * k + j) = f1 (10 * k + j)) (x : Nat) : stk cl' kd' f1' k x = stk cl kd f1 k x := by
  rw [Bool.eq_iff_iff, stk_iff, stk_iff, h1]
  constructor
  · rintro ⟨j, hj, a, b⟩
    exact ⟨j, hj, by rw [← (h2 j hj).1]; exact a, by rw [← (h2 j hj).2]; exact b⟩
  · rintro ⟨j, hj, a, b⟩
    exact ⟨j, hj, by rw [(h2 j hj).1]; exact a, by rw [(h2 j hj).2]; exact b⟩
def OCg (no : Nat) (mi cl kd mi' cl' kd' : Nat → Nat) (f1 f2 f1' f2' : Nat → Int32) : Prop := ∀ k, k < no → mi' k = mi k ∧ cl' k = cl k ∧ ∀ j, j < cl k → kd' (10 * k + j) = kd (10 * k + j) ∧ f1' (10 * k + j) = f1 (10 * k + j) ∧ f2' (10 * k + j) = f2 (10 * k + j)
section
variable {no : Nat} {mi cl kd mi' cl' kd' : Nat → Nat} {f1 f2 f1' f2' : Nat → Int32}
theorem onF_cg (H : OCg no mi cl kd mi' cl' kd' f1 f2 f1' f2') (set : Nat → Bool) : ∀ j, j ≤ no → ∀ x, onF no cl' kd' f1' set j x = onF no cl kd f1 set j x := by
  intro j
  induction j with
  | zero => intro _ x; rfl
  | succ j ih =>
    intro hj x
    obtain ⟨-, h2, h3⟩ := H (no - 1 - j) (by omega)
    show (onF no cl' kd' f1' set j x && !(onF no cl' kd' f1' set j (no - 1 - j) && stk cl' kd' f1' (no - 1 - j) x)) = (onF no cl kd f1 set j x && !(onF no cl kd f1 set j (no - 1 - j) && stk cl kd f1 (no - 1 - j) x))
    rw [ih (by omega), ih (by omega), stk_cg h2 fun j hj => ⟨(h3 j hj).1, (h3 j hj).2.1⟩]
theorem onF_up {set : Nat → Bool} (h : set no = false) : ∀ j, j ≤ no → ∀ x, onF (no + 1) cl kd f1 set (j + 1) x = onF no cl kd f1 set j x := by
  intro j
  induction j with
  | zero =>
    intro _ x
    show (set x && !(set (no + 1 - 1 - 0) && _)) = set x
    rw [show no + 1 - 1 - 0 = no by omega, h, Bool.false_and]
    simp
  | succ j ih =>
    intro hj x
    show (onF (no + 1) cl kd f1 set (j + 1) x && !(onF (no + 1) cl kd f1 set (j + 1) (no + 1 - 1 - (j + 1)) && stk cl kd f1 (no + 1 - 1 - (j + 1)) x)) = (onF no cl kd f1 set j x && !(onF no cl kd f1 set j (no - 1 - j) && stk cl kd f1 (no - 1 - j) x))
    rw [show no + 1 - 1 - (j + 1) = no - 1 - j by omega, ih (by omega), ih (by omega)]
theorem onF_set {set : Nat → Bool} {x : Nat} (h : set x = false) : ∀ j, onF no cl kd f1 set j x = false := by
  intro j
  induction j with
  | zero => exact h
  | succ j ih =>
    show (onF no cl kd f1 set j x && _) = false
    rw [ih, Bool.false_and]
theorem ipos_cg {row : Nat → Nat} {n : Nat} (h : mi' n = mi n) : ∀ k, (∀ i, i < k → mi' (row i) = mi (row i)) → ipos mi' row n k = ipos mi row n k := by
  intro k
  induction k with
  | zero => intro _; rfl
  | succ k ih =>
    intro hr
    simp only [ipos]
    rw [h, hr k (by omega), ih fun i hi => hr i (by omega)]
theorem luR_cg {ON ON' : Nat → Bool} : ∀ n, (∀ k, k < n → mi' k = mi k ∧ ON' k = ON k) → luR mi' ON' n = luR mi ON n := by
  intro n
  induction n with
  | zero => intro _; rfl
  | succ n ih =>
    intro h
    have e := ih fun k hk => h k (by omega)
    have hb := luR_bd mi ON n
    simp only [luR]
    rw [(h n (by omega)).2, e, ipos_cg (h n (by omega)).1 _ fun i hi => (h _ (by have := (hb.2 i hi).1; omega)).1]
theorem apC_cg {H : HO} {r : Nat} : ∀ j, (∀ i, i < j → kd' (10 * r + i) = kd (10 * r + i) ∧ f1' (10 * r + i) = f1 (10 * r + i) ∧ f2' (10 * r + i) = f2 (10 * r + i)) → apC kd' f1' f2' H r j = apC kd f1 f2 H r j := by
  intro j
  induction j with
  | zero => intro _; rfl
  | succ j ih =>
    intro h
    obtain ⟨a, b, c⟩ := h j (by omega)
    show ap1 kd' f1' f2' (apC kd' f1' f2' H r j) (10 * r + j) = ap1 kd f1 f2 (apC kd f1 f2 H r j) (10 * r + j)
    rw [ih fun i hi => h i (by omega)]
    unfold ap1
    rw [a, b, c]
theorem apR_cg (G : OCg no mi cl kd mi' cl' kd' f1 f2 f1' f2') {H : HO} {row : Nat → Nat} : ∀ n, (∀ i, i < n → row i < no) → apR cl' kd' f1' f2' H row n = apR cl kd f1 f2 H row n := by
  intro n
  induction n with
  | zero => intro _; rfl
  | succ n ih =>
    intro h
    obtain ⟨-, h2, h3⟩ := G (row n) (h n (by omega))
    show apC kd' f1' f2' (apR cl' kd' f1' f2' H row n) (row n) (cl' (row n)) = apC kd f1 f2 (apR cl kd f1 f2 H row n) (row n) (cl (row n))
    rw [ih fun i hi => h i (by omega), h2]
    exact apC_cg _ h3
theorem luS_cg (G : OCg no mi cl kd mi' cl' kd' f1 f2 f1' f2') (set : Nat → Bool) : luS no mi' cl' kd' f1' set = luS no mi cl kd f1 set := by
  unfold luS onS
  exact luR_cg no fun k hk => ⟨(G k hk).1, onF_cg G set no (Nat.le_refl no) k⟩
theorem hoS_cg (G : OCg no mi cl kd mi' cl' kd' f1 f2 f1' f2') (set : Nat → Bool) : hoS no mi' cl' kd' f1' f2' set = hoS no mi cl kd f1 f2 set := by
  unfold hoS
  rw [luS_cg G set]
  exact apR_cg G _ fun i hi => ((luR_bd mi (onS no cl kd f1 set) no).2 i hi).1
theorem luS_up {set : Nat → Bool} (h : set no = false) : luS (no + 1) mi cl kd f1 set = luS no mi cl kd f1 set := by
  unfold luS onS
  have e : luR mi (onF (no + 1) cl kd f1 set (no + 1)) (no + 1) = luR mi (onF (no + 1) cl kd f1 set (no + 1)) no := by
    simp only [luR]
    rw [onF_set h, if_neg (by decide)]
  rw [e]
  exact luR_cg no fun k hk => ⟨rfl, onF_up h no (Nat.le_refl no) k⟩
theorem hoS_up {set : Nat → Bool} (h : set no = false) : hoS (no + 1) mi cl kd f1 f2 set = hoS no mi cl kd f1 f2 set := by
  unfold hoS
  rw [luS_up h]
theorem CIr_cg (G : OCg no mi cl kd mi' cl' kd' f1 f2 f1' f2') {q c25 c26 : Nat → Int32} (H : CIr no mi cl kd f1 f2 q c25 c26) : CIr no mi' cl' kd' f1' f2' q c25 c26 := by
  rcases H with h | ⟨h1, h2⟩
  · exact Or.inl h
  · refine Or.inr ⟨h1, ?_⟩
    unfold RuA at h2 ⊢
    rw [luS_cg G, hoS_cg G]
    exact h2
theorem CIr_up (hno : no < 32) {q c25 c26 : Nat → Int32} (H : CIr no mi cl kd f1 f2 q c25 c26) : CIr (no + 1) mi cl kd f1 f2 q c25 c26 := by
  rcases H with h | ⟨h1, h2⟩
  · exact Or.inl h
  · refine Or.inr ⟨fun x hx h => h1 x (by omega) h, ?_⟩
    have h0 := h1 no (Nat.le_refl no) hno
    unfold RuA at h2 ⊢
    rw [luS_up h0, hoS_up h0]
    exact h2
end
/-! frames of all -/
def vbY : List Nat := [128, 129, 130, 131, 132, 133, 134, 135, 136, 137, 138, 139, 140, 141, 142, 143, 144, 145, 150, 151, 152, 153, 154, 155, 156, 157, 158, 159, 160, 161, 162, 163, 164, 165, 166, 167, 168, 178, 179, 180, 181]
def vbZ : List Nat := [0, 1, 5, 11, 15, 17, 38, 39, 59, 72]
section
variable {nw nof no : Nat} {SB SC SR S R : Sg} {X Y Z : List Nat}
theorem VB_ag (H : VB nw nof no SB SR) (g : AgR Y Z SR R) (hy : ∀ a ∈ vbY, a ∉ Y) (hz : ∀ a ∈ vbZ, a ∉ Z) : VB nw nof no SB R := by
  obtain ⟨A, B, M, cn, nc, m, E, D, hd, ks, W, K, F, T, hn, h1, h2, h3, h4, h5⟩ := H
  have C : AgC [] SB SB := AgC.rf
  have n : ∀ l : List Nat, ∀ a ∈ l, a ∉ ([] : List Nat) := fun l a _ h => absurd h List.not_mem_nil
  have y : ∀ l : List Nat, (∀ a ∈ l, a ∈ vbY) → ∀ a ∈ l, a ∉ Y := fun l h a ha => hy a (h a ha)
  have z : ∀ l : List Nat, (∀ a ∈ l, a ∈ vbZ) → ∀ a ∈ l, a ∉ Z := fun l h a ha => hz a (h a ha)
  refine ⟨A, B, M, cn, nc, m, E, D, hd, ks, W, K, F, T, hn, IN_ag C g (n _) (y _ (by decide)) (z _ (by decide)) h1, ID_ag C g (n _) (y _ (by decide)) (z _ (by decide)) h2, IP_ag C g (n _) (y _ (by decide)) (z _ (by decide)) h3, IO_ag C g (n _) (y _ (by decide)) (z _ (by decide)) h4, ?_⟩
  rw [(g.1 135 (hy _ (by decide))).1]
  exact h5
theorem INV_rd (HA : VA nw nof no S R) (HB : Bes nw nof no SB SC SR) (C : AgC X SC S) (g : AgR Y Z SR R) (hx : ∀ y ∈ kpC, y ∉ X) (hy : ∀ a ∈ vbY, a ∉ Y) (hz : ∀ a ∈ vbZ, a ∉ Z) : INV S R := by
  have h := Bes_ag HB C hx
  exact ⟨nw, nof, no, SB, HA, VB_ag HB.1 g hy hz, h.2.1, h.2.2⟩
end
