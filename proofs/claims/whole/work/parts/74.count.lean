/-! no more ways than the pool holds -/
def sm (n : Nat) (f : Nat → Nat) : Nat := match n with
  | 0 => 0
  | n + 1 => sm n f + f n
theorem sm_s (n : Nat) (f : Nat → Nat) : sm (n + 1) f = sm n f + f n := rfl
theorem sm_le {n : Nat} {f g : Nat → Nat} (h : ∀ i, i < n → f i ≤ g i) : sm n f ≤ sm n g := by
  induction n with
  | zero => exact Nat.le_refl _
  | succ n ih =>
    have h1 := ih (fun i hi => h i (by omega))
    have h2 := h n (by omega)
    simp only [sm_s]
    omega
theorem sm_cg {n : Nat} {f g : Nat → Nat} (h : ∀ i, i < n → f i = g i) : sm n f = sm n g := Nat.le_antisymm (sm_le fun i hi => by rw [h i hi]; exact Nat.le_refl _) (sm_le fun i hi => by rw [h i hi]; exact Nat.le_refl _)
theorem sm_add (n : Nat) (f g : Nat → Nat) : sm n (fun i => f i + g i) = sm n f + sm n g := by
  induction n with
  | zero => rfl
  | succ n ih => simp only [sm_s, ih]; omega
theorem sm_zero {n : Nat} {f : Nat → Nat} (h : ∀ i, i < n → f i = 0) : sm n f = 0 := by
  induction n with
  | zero => rfl
  | succ n ih =>
    rw [sm_s, ih (fun i hi => h i (by omega)), h n (by omega)]
theorem sm_swap (n m : Nat) (f : Nat → Nat → Nat) : sm n (fun i => sm m (f i)) = sm m (fun j => sm n (fun i => f i j)) := by
  induction n with
  | zero => exact (sm_zero fun i _ => rfl).symm
  | succ n ih =>
    simp only [sm_s, ih]
    rw [sm_add]
theorem sm_one {n p : Nat} {f : Nat → Nat} (hp : p < n) (h : ∀ i, i < n → i ≠ p → f i = 0) : sm n f = f p := by
  induction n with
  | zero => omega
  | succ n ih =>
    rw [sm_s]
    by_cases e : p = n
    · subst e
      rw [sm_zero fun i hi => h i (by omega) (by omega), Nat.zero_add]
    · rw [ih (by omega) (fun i hi => h i (by omega)), h n (by omega) (fun e' => e e'.symm), Nat.add_zero]
theorem sm_two {n p q : Nat} {f : Nat → Nat} (hp : p < n) (hq : q < n) (hpq : p ≠ q) (h : ∀ i, i < n → i ≠ p → i ≠ q → f i = 0) : sm n f = f p + f q := by
  have e : sm n f = sm n (fun i => (if i = p then f i else 0) + (if i = p then 0 else f i)) := sm_cg fun i _ => by by_cases h : i = p <;> simp [h]
  rw [e, sm_add, sm_one (p := p) hp (fun i _ hi => by simp [hi]), sm_one (p := q) hq (fun i hi hiq => by
    by_cases hip : i = p
    · simp [hip]
    · simp [hip, h i hi hip hiq])]
  have : q ≠ p := fun h => hpq h.symm
  simp [this]
theorem sm_const (n c : Nat) : sm n (fun _ => c) = n * c := by
  induction n with
  | zero => simp [sm]
  | succ n ih => rw [sm_s, ih, Nat.succ_mul]
theorem fm_len {α : Type} (f : Nat → List α) (k : Nat) : ((List.range k).flatMap f).length = sm k (fun i => (f i).length) := by
  induction k with
  | zero => rfl
  | succ k ih => rw [fm_succ, List.length_append, ih, sm_s]
/-- over pairs of towns -/
def sab2 (f : Nat → Nat → Nat) : Nat := sm 8 (fun a => sm 8 (fun b => if a = b then 0 else f a b))
theorem sab2_sm (n : Nat) (f : Nat → Nat → Nat → Nat) : sab2 (fun a b => sm n (f a b)) = sm n (fun i => sab2 (fun a b => f a b i)) := by
  unfold sab2
  have e1 : ∀ a, sm 8 (fun b => if a = b then 0 else sm n (f a b)) = sm n (fun i => sm 8 (fun b => if a = b then 0 else f a b i)) := fun a => by
    rw [← sm_swap 8 n]
    refine sm_cg fun b _ => ?_
    by_cases h : a = b
    · simp only [h, if_true]; exact (sm_zero fun i _ => rfl).symm
    · simp only [h, if_false]
  rw [sm_cg fun a _ => e1 a, sm_swap 8 n]
section
variable {al : Nat → Bool} {A B M : Nat → Nat} {c3 c4 c5 : Nat → Int32}
def n3 (al : Nat → Bool) (A B : Nat → Nat) (b y u : Nat) : Nat := if fe al A B u y = some b then 1 else 0
def n2 (al : Nat → Bool) (A B : Nat → Nat) (a b x v : Nat) : Nat := match fe al A B v x with
  | none => 0
  | some y => if y = b then 1 else if y = a then 0 else sm 20 (n3 al A B b y)
/-- a line at x that doesn't join x and y -/
def wyq (al : Nat → Bool) (A B : Nat → Nat) (x y u : Nat) : Nat := match fe al A B u x with
  | none => 0
  | some z => if z = y then 0 else 1
def wyd (al : Nat → Bool) (A B : Nat → Nat) (x y : Nat) : Nat := sm 20 (wyq al A B x y)
/-- what a line v brings behind one that goes from a to x: two lines, and three -/
def wy1 (al : Nat → Bool) (A B : Nat → Nat) (a x v : Nat) : Nat := match fe al A B v x with
  | none => 0
  | some y => if y = a then 0 else 1
def wy3 (al : Nat → Bool) (A B : Nat → Nat) (a x v : Nat) : Nat := match fe al A B v x with
  | none => 0
  | some y => if y = a then 0 else wyd al A B y x
def n1 (al : Nat → Bool) (A B : Nat → Nat) (a b w : Nat) : Nat := match fe al A B w a with
  | none => 0
  | some x => if x = b then 1 else sm 20 (n2 al A B a b x)
theorem l3_len (b w v y : Nat) : (l3 al A B M b w v y 20).length = sm 20 (n3 al A B b y) := by
  unfold l3
  rw [fm_len]
  refine sm_cg fun u _ => ?_
  unfold n3
  split <;> rfl
theorem l2_len (a b w x : Nat) : (l2 al A B M a b w x 20).length = sm 20 (n2 al A B a b x) := by
  unfold l2
  rw [fm_len]
  refine sm_cg fun v _ => ?_
  unfold n2
  cases fe al A B v x with
  | none => rfl
  | some y =>
    simp only
    split
    · rfl
    · split
      · rfl
      · exact l3_len _ _ _ _
theorem seg_len (a b : Nat) : (seg al A B M a b).length = sm 20 (n1 al A B a b) := by
  unfold seg l1
  rw [fm_len]
  refine sm_cg fun w _ => ?_
  unfold n1
  cases fe al A B w a with
  | none => rfl
  | some x =>
    simp only
    split
    · rfl
    · exact l2_len _ _ _ _
theorem n3_sum (H : NetL al A B M c3 c4 c5) {a x y : Nat} : sm 8 (fun b => if a = b ∨ x = b ∨ y = b then 0 else sm 20 (n3 al A B b y)) ≤ wyd al A B y x := by
  have e : sm 8 (fun b => if a = b ∨ x = b ∨ y = b then 0 else sm 20 (n3 al A B b y)) = sm 20 (fun u => sm 8 (fun b => if a = b ∨ x = b ∨ y = b then 0 else n3 al A B b y u)) := by
    rw [← sm_swap 8 20]
    refine sm_cg fun b _ => ?_
    by_cases h : a = b ∨ x = b ∨ y = b
    · simp only [h, if_true]; exact (sm_zero fun i _ => rfl).symm
    · simp only [h, if_false]
  rw [e]
  unfold wyd
  refine sm_le fun u hu => ?_
  unfold wyq
  cases hf : fe al A B u y with
  | none =>
    rw [sm_zero fun b _ => by unfold n3; rw [hf]; simp]
    exact Nat.zero_le _
  | some z =>
    obtain ⟨c1, c2, c3', c4'⟩ := fe_lt H hu hf
    rw [sm_one (p := z) c1 (fun b _ hb => by
      unfold n3
      rw [hf]
      have : ¬ (some z = some b) := fun h => hb (by cases h; rfl)
      simp [this])]
    unfold n3
    by_cases hzx : z = x
    · subst hzx; simp
    · simp only [hzx, if_false]
      split
      · exact Nat.zero_le _
      · first
        | exact Nat.le_refl _
        | (split <;> decide)
theorem n2_sum (H : NetL al A B M c3 c4 c5) {v a x : Nat} (hv : v < 20) : sm 8 (fun b => if a = b ∨ x = b then 0 else n2 al A B a b x v) ≤ wy1 al A B a x v + wy3 al A B a x v := by
  unfold wy1 wy3
  cases hf : fe al A B v x with
  | none =>
    rw [sm_zero fun b _ => by unfold n2; rw [hf]; simp]
    exact Nat.zero_le _
  | some y =>
    obtain ⟨b1, b2, b3, b4⟩ := fe_lt H hv hf
    by_cases hya : y = a
    · rw [sm_zero fun b _ => by
        unfold n2
        rw [hf]
        simp only [hya]
        by_cases h : a = b <;> simp [h]]
      exact Nat.zero_le _
    · simp only [hya, if_false]
      have e : sm 8 (fun b => if a = b ∨ x = b then 0 else n2 al A B a b x v) ≤ sm 8 (fun b => (if b = y then 1 else 0) + (if a = b ∨ x = b ∨ y = b then 0 else sm 20 (n3 al A B b y))) := by
        refine sm_le fun b _ => ?_
        unfold n2
        rw [hf]
        by_cases h1 : a = b ∨ x = b
        · rw [if_pos h1]; exact Nat.zero_le _
        · rw [if_neg h1]
          simp only [hya, if_false]
          by_cases h2 : y = b
          · subst h2; simp
          · have h3 : ¬ b = y := fun h => h2 h.symm
            have h4 : ¬ (a = b ∨ x = b ∨ y = b) := by omega
            rw [if_neg h2, if_neg h3, if_neg h4]
            omega
      rw [sm_add, sm_one (f := fun b => if b = y then 1 else 0) (p := y) b1 (fun i _ hi => by simp [hi])] at e
      have := n3_sum H (a := a) (x := x) (y := y)
      simp only [if_true] at e
      omega
/-- three lines that begin with w, both ways round -/
def wyt (al : Nat → Bool) (A B : Nat → Nat) (w : Nat) : Nat := if al w = true then sm 20 (fun v => wy3 al A B (A w) (B w) v) + sm 20 (fun v => wy3 al A B (B w) (A w) v) else 0
theorem n1_sum (H : NetL al A B M c3 c4 c5) {w : Nat} (hw : w < 20) : sab2 (fun a b => n1 al A B a b w) ≤ 21 + wyt al A B w := by
  cases ha : al w
  · unfold sab2
    rw [sm_zero fun a _ => sm_zero fun b _ => by
      unfold n1 fe
      simp [ha]]
    omega
  · obtain ⟨g1, g2, g3, -⟩ := (H w hw).1 ha
    have fA : fe al A B w (A w) = some (B w) := by unfold fe; simp [ha]
    have fB : fe al A B w (B w) = some (A w) := by unfold fe; simp [ha, g3]
    unfold sab2
    rw [sm_two g1 g2 g3 (fun a _ h1 h2 => sm_zero fun b _ => by
      have : fe al A B w a = none := by
        unfold fe
        have h1' : ¬ A w = a := fun h => h1 h.symm
        have h2' : ¬ B w = a := fun h => h2 h.symm
        simp [ha, h1', h2']
      show (if a = b then 0 else n1 al A B a b w) = 0
      unfold n1
      rw [this]
      simp)]
    have row : ∀ a x, fe al A B w a = some x → x < 8 → sm 8 (fun b => if a = b then 0 else n1 al A B a b w) ≤ 1 + (sm 20 (fun v => wy1 al A B a x v) + sm 20 (fun v => wy3 al A B a x v)) := by
      intro a x hf hx
      have e : sm 8 (fun b => if a = b then 0 else n1 al A B a b w) ≤ sm 8 (fun b => (if b = x then 1 else 0) + (if a = b ∨ x = b then 0 else sm 20 (n2 al A B a b x))) := by
        refine sm_le fun b _ => ?_
        unfold n1
        rw [hf]
        by_cases h1 : a = b
        · rw [if_pos h1]; exact Nat.zero_le _
        · rw [if_neg h1]
          simp only
          by_cases h2 : x = b
          · subst h2; simp
          · have h3 : ¬ b = x := fun h => h2 h.symm
            have h4 : ¬ (a = b ∨ x = b) := by omega
            rw [if_neg h2, if_neg h3, if_neg h4]
            omega
      rw [sm_add, sm_one (f := fun b => if b = x then 1 else 0) (p := x) hx (fun i _ hi => by simp [hi])] at e
      have e2 : sm 8 (fun b => if a = b ∨ x = b then 0 else sm 20 (n2 al A B a b x)) = sm 20 (fun v => sm 8 (fun b => if a = b ∨ x = b then 0 else n2 al A B a b x v)) := by
        rw [← sm_swap 8 20]
        refine sm_cg fun b _ => ?_
        by_cases h : a = b ∨ x = b
        · simp only [h, if_true]; exact (sm_zero fun i _ => rfl).symm
        · simp only [h, if_false]
      rw [e2] at e
      have e3 : sm 20 (fun v => sm 8 (fun b => if a = b ∨ x = b then 0 else n2 al A B a b x v)) ≤ sm 20 (fun v => wy1 al A B a x v) + sm 20 (fun v => wy3 al A B a x v) := by
        rw [← sm_add]
        exact sm_le fun v hv => n2_sum H hv
      simp only [if_true] at e
      omega
    have r1 := row (A w) (B w) fA g2
    have r2 := row (B w) (A w) fB g1
    have hv : sm 20 (fun v => wy1 al A B (A w) (B w) v) + sm 20 (fun v => wy1 al A B (B w) (A w) v) ≤ sm 20 (fun v => if v = w then 0 else 1) := by
      rw [← sm_add]
      refine sm_le fun v hv => ?_
      by_cases hvw : v = w
      · subst hvw
        unfold wy1
        rw [fA, fB]
        simp
      · rw [if_neg hvw]
        have hb : ∀ a x, wy1 al A B a x v ≤ 1 := fun a x => by
          unfold wy1
          cases fe al A B v x with
          | none => exact Nat.zero_le _
          | some y => simp only []; split <;> decide
        cases h1 : fe al A B v (B w) with
        | none =>
          have e1 : wy1 al A B (A w) (B w) v = 0 := by unfold wy1; rw [h1]
          have := hb (B w) (A w)
          omega
        | some y =>
          cases h2 : fe al A B v (A w) with
          | none =>
            have e1 : wy1 al A B (B w) (A w) v = 0 := by unfold wy1; rw [h2]
            have := hb (A w) (B w)
            omega
          | some z =>
            obtain ⟨p1, p2, p3, p4⟩ := fe_lt H hv h1
            obtain ⟨q1, q2, q3, q4⟩ := fe_lt H hv h2
            have hy : y = A w := by omega
            have e1 : wy1 al A B (A w) (B w) v = 0 := by unfold wy1; rw [h1]; simp [hy]
            have := hb (B w) (A w)
            omega
    have hs : sm 20 (fun v => (if v = w then 0 else 1) + (if v = w then 1 else 0)) = 20 := by
      rw [sm_cg (g := fun _ => 1) fun v _ => by by_cases h : v = w <;> simp [h]]
      exact sm_const 20 1
    rw [sm_add, sm_one (f := fun v => if v = w then 1 else 0) (p := w) hw (fun i _ hi => by simp [hi])] at hs
    simp only [if_true] at hs
    unfold wyt
    rw [if_pos ha]
    show sm 8 (fun b => if A w = b then 0 else n1 al A B (A w) b w) + sm 8 (fun b => if B w = b then 0 else n1 al A B (B w) b w) ≤ _
    omega
theorem sm_mul (n c : Nat) (f : Nat → Nat) : sm n (fun i => f i * c) = sm n f * c := by
  induction n with
  | zero => simp [sm]
  | succ n ih => simp only [sm_s, ih, Nat.add_mul]
/-- the lines at the two ends of a line -/
theorem wyd_two (H : NetL al A B M c3 c4 c5) {v : Nat} (hv : v < 20) (ha : al v = true) : wyd al A B (A v) (B v) + wyd al A B (B v) (A v) ≤ 19 := by
  obtain ⟨g1, g2, g3, -⟩ := (H v hv).1 ha
  unfold wyd
  rw [← sm_add]
  have h : sm 20 (fun u => wyq al A B (A v) (B v) u + wyq al A B (B v) (A v) u) ≤ sm 20 (fun u => if u = v then 0 else 1) := by
    refine sm_le fun u hu => ?_
    have hb : ∀ x y, wyq al A B x y u ≤ 1 := fun x y => by
      unfold wyq
      cases fe al A B u x with
      | none => exact Nat.zero_le _
      | some y => simp only []; split <;> decide
    by_cases huv : u = v
    · subst huv
      have fA : fe al A B u (A u) = some (B u) := by unfold fe; simp [ha]
      have fB : fe al A B u (B u) = some (A u) := by unfold fe; simp [ha, g3]
      unfold wyq
      rw [fA, fB]
      simp
    · rw [if_neg huv]
      cases h1 : fe al A B u (A v) with
      | none =>
        have e1 : wyq al A B (A v) (B v) u = 0 := by unfold wyq; rw [h1]
        have := hb (B v) (A v)
        omega
      | some y =>
        cases h2 : fe al A B u (B v) with
        | none =>
          have e1 : wyq al A B (B v) (A v) u = 0 := by unfold wyq; rw [h2]
          have := hb (A v) (B v)
          omega
        | some z =>
          obtain ⟨p1, p2, p3, p4⟩ := fe_lt H hu h1
          obtain ⟨q1, q2, q3, q4⟩ := fe_lt H hu h2
          have hy : y = B v := by omega
          have e1 : wyq al A B (A v) (B v) u = 0 := by unfold wyq; rw [h1]; simp [hy]
          have := hb (B v) (A v)
          omega
  have hs : sm 20 (fun u => (if u = v then 0 else 1) + (if u = v then 1 else 0)) = 20 := by
    rw [sm_cg (g := fun _ => 1) fun u _ => by by_cases h : u = v <;> simp [h]]
    exact sm_const 20 1
  rw [sm_add, sm_one (f := fun u => if u = v then 1 else 0) (p := v) hv (fun i _ hi => by simp [hi])] at hs
  simp only [if_true] at hs
  omega
theorem mul_90 {p q : Nat} (h : p + q ≤ 19) : p * q ≤ 90 := by
  have : ∀ p, p < 20 → ∀ q, q < 20 → p + q ≤ 19 → p * q ≤ 90 := by decide +kernel
  exact this p (by omega) q (by omega) h
/-- three lines by the one in the middle -/
theorem wy3_mid (H : NetL al A B M c3 c4 c5) {v : Nat} (hv : v < 20) : sm 20 (fun w => if al w = true then wy3 al A B (A w) (B w) v + wy3 al A B (B w) (A w) v else 0) ≤ 180 := by
  cases ha : al v
  · rw [sm_zero fun w _ => by
      have : ∀ x, fe al A B v x = none := fun x => by unfold fe; simp [ha]
      unfold wy3
      simp [this]]
    omega
  · obtain ⟨g1, g2, g3, -⟩ := (H v hv).1 ha
    have h : sm 20 (fun w => if al w = true then wy3 al A B (A w) (B w) v + wy3 al A B (B w) (A w) v else 0) ≤ sm 20 (fun w => wyq al A B (A v) (B v) w * wyd al A B (B v) (A v) + wyq al A B (B v) (A v) w * wyd al A B (A v) (B v)) := by
      refine sm_le fun w hw => ?_
      by_cases haw : al w = true
      · rw [if_pos haw]
        obtain ⟨w1, w2, w3, -⟩ := (H w hw).1 haw
        unfold wy3 wyq fe
        simp only [ha, haw, if_true]
        by_cases e1 : A w = A v
        · have e2 : ¬ B w = A v := by omega
          have e2' : ¬ A v = B w := fun h => e2 h.symm
          have e4 : ¬ A w = B v := by omega
          have e4' : ¬ B v = A w := fun h => e4 h.symm
          by_cases e3 : B w = B v
          · simp [e1, e3, g3]
          · have e3' : ¬ B v = B w := fun h => e3 h.symm
            simp [e1, e2, e2', e3, e3', e4, e4', g3]
        · have e1' : ¬ A v = A w := fun h => e1 h.symm
          by_cases e2 : B w = A v
          · have e3 : ¬ B w = B v := by omega
            have e3' : ¬ B v = B w := fun h => e3 h.symm
            by_cases e4 : A w = B v
            · simp [e2, e4, g3]
            · have e4' : ¬ B v = A w := fun h => e4 h.symm
              simp [e1, e1', e2, e3, e3', e4, e4', g3]
          · have e2' : ¬ A v = B w := fun h => e2 h.symm
            by_cases e3 : B w = B v
            · have e4 : ¬ A w = B v := by omega
              have e4' : ¬ B v = A w := fun h => e4 h.symm
              simp [e1, e1', e2, e2', e3, e4, e4', g3]
            · have e3' : ¬ B v = B w := fun h => e3 h.symm
              by_cases e4 : A w = B v
              · simp [e1, e1', e2, e2', e3, e3', e4, g3]
              · have e4' : ¬ B v = A w := fun h => e4 h.symm
                simp [e1, e1', e2, e2', e3, e3', e4, e4', g3]
      · rw [if_neg haw]; exact Nat.zero_le _
    rw [sm_add, sm_mul, sm_mul] at h
    have h2 := wyd_two H hv ha
    have h3 := mul_90 h2
    rw [Nat.add_comm] at h2
    have h4 := mul_90 h2
    unfold wyd at h3 h4
    unfold wyd at h
    omega
/-- all ways of all pairs -/
theorem seg_all (H : NetL al A B M c3 c4 c5) : sab2 (fun a b => (seg al A B M a b).length) ≤ 4020 := by
  have e : sab2 (fun a b => (seg al A B M a b).length) = sm 20 (fun w => sab2 (fun a b => n1 al A B a b w)) := by
    rw [← sab2_sm]
    unfold sab2
    refine sm_cg fun a _ => sm_cg fun b _ => ?_
    show (if a = b then 0 else (seg al A B M a b).length) = _
    rw [seg_len]
  rw [e]
  refine Nat.le_trans (sm_le fun w hw => n1_sum H hw) ?_
  rw [sm_add, sm_const]
  have e2 : sm 20 (wyt al A B) = sm 20 (fun v => sm 20 (fun w => if al w = true then wy3 al A B (A w) (B w) v + wy3 al A B (B w) (A w) v else 0)) := by
    rw [sm_swap 20 20]
    refine sm_cg fun w _ => ?_
    unfold wyt
    by_cases h : al w = true
    · simp only [h, if_true]; rw [sm_add]
    · rw [if_neg h]; exact (sm_zero fun v _ => by rw [if_neg h]).symm
  have e3 : sm 20 (wyt al A B) ≤ 3600 := by
    rw [e2]
    refine Nat.le_trans (sm_le fun v hv => wy3_mid H hv) ?_
    rw [sm_const]
    omega
  have e4 : sm 20 (fun w => wyt al A B w) = sm 20 (wyt al A B) := rfl
  omega
end
