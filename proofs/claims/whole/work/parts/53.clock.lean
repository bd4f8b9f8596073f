/-! clocks: the matrix of bounds, closed over -/
abbrev OM : Type := Nat → Nat → Option Int
def ole (x y : Option Int) : Prop := ∀ v, y = some v → ∃ u, x = some u ∧ u ≤ v
def oad (x y : Option Int) : Option Int := match x, y with
  | some u, some v => some (u + v)
  | _, _ => none
def omn (x y : Option Int) : Option Int := match x, y with
  | some u, some v => some (if v < u then v else u)
  | none, y => y
  | x, none => x
theorem ole_refl (x : Option Int) : ole x x := fun v h => ⟨v, h, Int.le_refl _⟩
theorem ole_trans {x y z : Option Int} (h1 : ole x y) (h2 : ole y z) : ole x z := fun v h => by
  obtain ⟨u, hu, h3⟩ := h2 v h
  obtain ⟨t, ht, h4⟩ := h1 u hu
  exact ⟨t, ht, by omega⟩
theorem ole_none (x : Option Int) : ole x none := fun v h => by cases h
theorem ole_omn {x y z : Option Int} (h1 : ole x y) (h2 : ole x z) : ole x (omn y z) := by
  intro v hv
  cases y with
  | none => exact h2 v (by simpa [omn] using hv)
  | some a => cases z with
    | none => exact h1 v (by simpa [omn] using hv)
    | some b =>
      simp only [omn, Option.some.injEq] at hv
      split at hv
      · exact h2 v (by rw [hv])
      · exact h1 v (by rw [hv])
theorem omn_l (y z : Option Int) : ole (omn y z) y := by
  intro v hv
  subst hv
  cases z with
  | none => exact ⟨v, rfl, Int.le_refl _⟩
  | some b =>
    simp only [omn, Option.some.injEq, exists_eq_left']
    split <;> omega
theorem omn_r (y z : Option Int) : ole (omn y z) z := by
  intro v hv
  subst hv
  cases y with
  | none => exact ⟨v, rfl, Int.le_refl _⟩
  | some b =>
    simp only [omn, Option.some.injEq, exists_eq_left']
    split <;> omega
theorem omn_or (y z : Option Int) : omn y z = y ∨ omn y z = z := by
  cases y with
  | none => right; cases z <;> rfl
  | some a => cases z with
    | none => left; rfl
    | some b =>
      simp only [omn]
      split
      · right; rfl
      · left; rfl
theorem oad_mono {x y x' y' : Option Int} (h1 : ole x x') (h2 : ole y y') : ole (oad x y) (oad x' y') := by
  intro v hv
  cases x' with
  | none => cases hv
  | some a => cases y' with
    | none => cases hv
    | some b =>
      obtain ⟨u, rfl, hu⟩ := h1 a rfl
      obtain ⟨t, rfl, ht⟩ := h2 b rfl
      simp only [oad, Option.some.injEq] at hv ⊢
      exact ⟨_, rfl, by omega⟩
theorem oad_assoc (x y z : Option Int) : oad (oad x y) z = oad x (oad y z) := by
  cases x <;> cases y <;> cases z <;> simp [oad, Int.add_assoc]
theorem ole_anti {x y : Option Int} (h1 : ole x y) (h2 : ole y x) : x = y := by
  cases x with
  | none => cases y with
    | none => rfl
    | some b => obtain ⟨u, hu, _⟩ := h1 b rfl; cases hu
  | some a => cases y with
    | none => obtain ⟨u, hu, _⟩ := h2 a rfl; cases hu
    | some b =>
      obtain ⟨u, hu, h3⟩ := h1 b rfl
      obtain ⟨t, ht, h4⟩ := h2 a rfl
      cases hu
      cases ht
      congr 1
      omega
def oLE (D E : OM) : Prop := ∀ a b, a < 8 → b < 8 → ole (D a b) (E a b)
def tri (D : OM) (k : Nat) : Prop := ∀ c, c < k → ∀ a b, a < 8 → b < 8 → ole (D a b) (oad (D a c) (D c b))
def dpos (D : OM) : Prop := ∀ a, a < 8 → ∀ v, D a a = some v → 0 < v
def stpM (D : OM) (k : Nat) : OM := fun a b => omn (D a b) (oad (D a k) (D k b))
def Snd (W D : OM) : Prop := ∀ E, tri E 8 → oLE E W → oLE E D
theorem Snd_step {W D : OM} {k : Nat} (hk : k < 8) (h : Snd W D) : Snd W (stpM D k) := fun E h1 h2 a b ha hb =>
  ole_omn (h E h1 h2 a b ha hb) (ole_trans (h1 k hk a b ha hb) (oad_mono (h E h1 h2 a k ha hk) (h E h1 h2 k b hk hb)))
theorem oad_pos {x y : Option Int} (h : ∀ v, y = some v → 0 < v) : ole x (oad x y) := by
  intro v hv
  cases x with
  | none => cases hv
  | some a => cases y with
    | none => cases hv
    | some b =>
      have := h b rfl
      simp only [oad, Option.some.injEq] at hv
      exact ⟨a, rfl, by omega⟩
theorem oad_pos' {x y : Option Int} (h : ∀ v, y = some v → 0 < v) : ole x (oad y x) := by
  intro v hv
  cases x with
  | none => cases y <;> cases hv
  | some a => cases y with
    | none => cases hv
    | some b =>
      have := h b rfl
      simp only [oad, Option.some.injEq] at hv
      exact ⟨a, rfl, by omega⟩
theorem stp_col {D : OM} {k : Nat} (hk : k < 8) (hp : dpos D) (a : Nat) : stpM D k a k = D a k := ole_anti (omn_l _ _) (ole_omn (ole_refl _) (oad_pos (hp k hk)))
theorem stp_row {D : OM} {k : Nat} (hk : k < 8) (hp : dpos D) (b : Nat) : stpM D k k b = D k b := ole_anti (omn_l _ _) (ole_omn (ole_refl _) (oad_pos' (hp k hk)))
theorem tri_step {D : OM} {k : Nat} (hk : k < 8) (hp : dpos D) (h : tri D k) : tri (stpM D k) (k + 1) := by
  intro c hc a b ha hb
  by_cases hck : c = k
  · subst hck
    rw [stp_col hk hp, stp_row hk hp]
    exact omn_r _ _
  · have hc' : c < k := by omega
    have hc8 : c < 8 := by omega
    have e1 := omn_or (D a c) (oad (D a k) (D k c))
    have e2 := omn_or (D c b) (oad (D c k) (D k b))
    show ole (omn (D a b) (oad (D a k) (D k b))) (oad (omn (D a c) (oad (D a k) (D k c))) (omn (D c b) (oad (D c k) (D k b))))
    rcases e1 with e1 | e1 <;> rcases e2 with e2 | e2 <;> rw [e1, e2]
    · exact ole_trans (omn_l _ _) (h c hc' a b ha hb)
    · rw [← oad_assoc]
      exact ole_trans (omn_r _ _) (oad_mono (h c hc' a k ha hk) (ole_refl _))
    · rw [oad_assoc]
      exact ole_trans (omn_r _ _) (oad_mono (ole_refl _) (h c hc' k b hk hb))
    · rw [oad_assoc, ← oad_assoc (D k c)]
      refine ole_trans (omn_r _ _) (oad_mono (ole_refl _) ?_)
      exact ole_trans (oad_pos' (hp k hk)) (oad_mono (h c hc' k k hk hk) (ole_refl _))
/-- the weight of a way through l -/
def wt (W : OM) (a : Nat) : List Nat → Nat → Option Int
  | [], b => W a b
  | x :: l, b => oad (W a x) (wt W x l b)
theorem wt_app (W : OM) (x b : Nat) (t : List Nat) : ∀ (s : List Nat) (a : Nat), wt W a (s ++ x :: t) b = oad (wt W a s x) (wt W x t b) := by
  intro s
  induction s with
  | nil => intro a; rfl
  | cons y s ih =>
    intro a
    show oad (W a y) (wt W y (s ++ x :: t) b) = oad (oad (W a y) (wt W y s x)) (wt W x t b)
    rw [ih, oad_assoc]
theorem wt_ge {W D : OM} {k : Nat} (hk : k ≤ 8) (hD : oLE D W) (h : tri D k) : ∀ (l : List Nat) (a b : Nat), a < 8 → b < 8 → (∀ x, x ∈ l → x < k) → ole (D a b) (wt W a l b) := by
  intro l
  induction l with
  | nil => intro a b ha hb _; exact hD a b ha hb
  | cons x l ih =>
    intro a b ha hb hl
    have hx := hl x List.mem_cons_self
    exact ole_trans (h x hx a b ha hb) (oad_mono (hD a x ha (by omega)) (ih x b (by omega) hb (fun y hy => hl y (List.mem_cons_of_mem _ hy))))
theorem wt_cut {W D : OM} {k : Nat} (hk : k ≤ 8) (hD : oLE D W) (h : tri D k) (hp : dpos D) {b : Nat} (hb : b < 8) : ∀ (l : List Nat) (a : Nat) (v : Int), (∀ x, x ∈ l → x < k) → wt W a l b = some v → ∃ l' v', l'.Nodup ∧ (∀ x, x ∈ l' → x < k) ∧ wt W a l' b = some v' ∧ v' ≤ v := by
  intro l
  induction l with
  | nil => intro a v _ hv; exact ⟨[], v, List.nodup_nil, by simp, hv, Int.le_refl _⟩
  | cons x l ih =>
    intro a v hl hv
    have hx := hl x List.mem_cons_self
    simp only [wt] at hv
    cases hw : W a x with
    | none => rw [hw] at hv; cases hv
    | some w =>
      cases hu : wt W x l b with
      | none => rw [hw, hu] at hv; cases hv
      | some u =>
        rw [hw, hu] at hv
        simp only [oad, Option.some.injEq] at hv
        obtain ⟨l', v', h1, h2, h3, h4⟩ := ih x u (fun y hy => hl y (List.mem_cons_of_mem _ hy)) hu
        by_cases hm : x ∈ l'
        · obtain ⟨s, t, rfl⟩ := List.append_of_mem hm
          rw [wt_app] at h3
          have hc := wt_ge hk hD h s x x (by omega) (by omega) (fun y hy => h2 y (List.mem_append_left _ hy))
          cases hs : wt W x s x with
          | none => rw [hs] at h3; cases h3
          | some c =>
            cases ht : wt W x t b with
            | none => rw [hs, ht] at h3; cases h3
            | some d =>
              rw [hs, ht] at h3
              simp only [oad, Option.some.injEq] at h3
              obtain ⟨e, he, hec⟩ := hc c hs
              have := hp x (by omega) e he
              have hnd : (x :: t).Nodup := (List.nodup_append.mp h1).2.1
              refine ⟨x :: t, w + d, hnd, fun y hy => h2 y (List.mem_append_right _ hy), ?_, by omega⟩
              simp only [wt, hw, ht, oad]
        · refine ⟨x :: l', w + v', List.nodup_cons.mpr ⟨hm, h1⟩, ?_, ?_, by omega⟩
          · intro y hy
            rcases List.mem_cons.mp hy with rfl | hy
            · exact hx
            · exact h2 y hy
          · simp only [wt, hw, h3, oad]
theorem nodup_len : ∀ (n : Nat) (l : List Nat), l.Nodup → (∀ x, x ∈ l → x < n) → l.length ≤ n := by
  intro n
  induction n with
  | zero =>
    intro l _ h
    cases l with
    | nil => simp
    | cons x l => exact absurd (h x List.mem_cons_self) (by omega)
  | succ n ih =>
    intro l h1 h2
    by_cases hm : n ∈ l
    · have h3 := ih (l.erase n) (h1.erase n) (fun x hx => by
        have := (List.Nodup.mem_erase_iff h1).mp hx
        have := h2 x this.2
        omega)
      rw [List.length_erase_of_mem hm] at h3
      omega
    · have := ih l h1 (fun x hx => by
        have := h2 x hx
        have : x ≠ n := fun e => hm (e ▸ hx)
        omega)
      omega
def BD (M : Nat) (W : OM) : Prop := ∀ a b, a < 8 → b < 8 → ∀ v, W a b = some v → -(M : Int) ≤ v ∧ v ≤ M
theorem wt_bd {W : OM} {B : Nat} (hW : BD B W) : ∀ (l : List Nat) (a b : Nat) (v : Int), a < 8 → b < 8 → (∀ x, x ∈ l → x < 8) → wt W a l b = some v → -((B * (l.length + 1) : Nat) : Int) ≤ v ∧ v ≤ ((B * (l.length + 1) : Nat) : Int) := by
  intro l
  induction l with
  | nil => intro a b v ha hb _ h; have := hW a b ha hb v h; simpa using this
  | cons x l ih =>
    intro a b v ha hb hl h
    simp only [wt] at h
    have hx := hl x List.mem_cons_self
    cases hw : W a x with
    | none => rw [hw] at h; cases h
    | some w =>
      cases hu : wt W x l b with
      | none => rw [hw, hu] at h; cases h
      | some u =>
        rw [hw, hu] at h
        simp only [oad, Option.some.injEq] at h
        have h1 := hW a x ha hx w hw
        have h2 := ih x b u hx hb (fun y hy => hl y (List.mem_cons_of_mem _ hy)) hu
        rw [List.length_cons, Nat.mul_succ]
        rw [Int.natCast_add]
        omega
def Att (W D : OM) (k : Nat) : Prop := ∀ a b, a < 8 → b < 8 → ∀ v, D a b = some v → ∃ l, (∀ x, x ∈ l → x < k) ∧ wt W a l b = some v
theorem Att_step {W D : OM} {k : Nat} (hk : k < 8) (h : Att W D k) : Att W (stpM D k) (k + 1) := by
  intro a b ha hb v hv
  rcases omn_or (D a b) (oad (D a k) (D k b)) with e | e
  · have hv' : D a b = some v := by rw [← e]; exact hv
    obtain ⟨l, h1, h2⟩ := h a b ha hb v hv'
    exact ⟨l, fun x hx => by have := h1 x hx; omega, h2⟩
  · have hv' : oad (D a k) (D k b) = some v := by rw [← e]; exact hv
    cases h1 : D a k with
    | none => rw [h1] at hv'; cases hv'
    | some u =>
      cases h2 : D k b with
      | none => rw [h1, h2] at hv'; cases hv'
      | some w =>
        rw [h1, h2] at hv'
        obtain ⟨l1, p1, q1⟩ := h a k ha hk u h1
        obtain ⟨l2, p2, q2⟩ := h k b hk hb w h2
        refine ⟨l1 ++ k :: l2, fun x hx => ?_, by rw [wt_app, q1, q2]; exact hv'⟩
        rcases List.mem_append.mp hx with hx | hx
        · have := p1 x hx; omega
        · rcases List.mem_cons.mp hx with rfl | hx
          · omega
          · have := p2 x hx; omega
/-- a good state of the closing over, k towns gone through -/
def Good (W D : OM) (k : Nat) : Prop := oLE D W ∧ tri D k ∧ dpos D ∧ Att W D k ∧ Snd W D
theorem Good_0 {W : OM} (h : dpos W) : Good W W 0 := ⟨fun a b _ _ => ole_refl _, fun c hc => by omega, h, fun a b _ _ v hv => ⟨[], by simp, hv⟩, fun E _ h2 => h2⟩
theorem Good_bd {W D : OM} {k : Nat} {B : Nat} (hk : k ≤ 8) (h : Good W D k) (hW : BD B W) : BD (B * 9) D := by
  intro a b ha hb v hv
  obtain ⟨h1, h2, h3, h4, -⟩ := h
  obtain ⟨l, p, q⟩ := h4 a b ha hb v hv
  obtain ⟨l', v', n, p', q', hle⟩ := wt_cut hk h1 h2 h3 hb l a v p q
  obtain ⟨u, hu, huv⟩ := wt_ge hk h1 h2 l' a b ha hb p' v' q'
  rw [hv] at hu
  cases hu
  have hb := wt_bd hW l' a b v' ha hb (fun x hx => by have := p' x hx; omega) q'
  have hl := nodup_len k l' n p'
  have hm : B * (l'.length + 1) ≤ B * 9 := Nat.mul_le_mul_left _ (by omega)
  have : v' = v := by omega
  subst this
  omega
theorem Good_step {W D : OM} {k : Nat} (hk : k < 8) (h : Good W D k) (hp : dpos (stpM D k)) : Good W (stpM D k) (k + 1) := by
  obtain ⟨h1, h2, h3, h4, h5⟩ := h
  exact ⟨fun a b ha hb => ole_trans (omn_l _ _) (h1 a b ha hb), tri_step hk h3 h2, hp, Att_step hk h4, Snd_step hk h5⟩
def NoQ (W : OM) : Prop := ∃ E, tri E 8 ∧ oLE E W ∧ dpos E
theorem Good_NoQ {W D : OM} (h : Good W D 8) : NoQ W := ⟨D, h.2.1, h.1, h.2.2.1⟩
theorem Snd_not {W D : OM} (h : Snd W D) (hp : ¬ dpos D) : ¬ NoQ W := by
  rintro ⟨E, h1, h2, h3⟩
  apply hp
  intro a ha v hv
  obtain ⟨u, hu, huv⟩ := h E h1 h2 a a ha ha v hv
  have := h3 a ha u hu
  omega
/-- the closure is one -/
def Clo (W D : OM) : Prop := oLE D W ∧ tri D 8 ∧ dpos D ∧ Snd W D
theorem Clo_one {W D D' : OM} (h : Clo W D) (h' : Clo W D') {a b : Nat} (ha : a < 8) (hb : b < 8) : D a b = D' a b := ole_anti (h'.2.2.2 D h.2.1 h.1 a b ha hb) (h.2.2.2 D' h'.2.1 h'.1 a b ha hb)
theorem Good_Clo {W D : OM} (h : Good W D 8) : Clo W D := ⟨h.1, h.2.1, h.2.2.1, h.2.2.2.2⟩
/-- a tighter entry on both -/
def upM (W : OM) (a b : Nat) (v : Int) : OM := fun x y => if x = a ∧ y = b then omn (W x y) (some v) else W x y
theorem upM_LE {E W : OM} {a b : Nat} {v : Int} (ha : a < 8) (hb : b < 8) : oLE E (upM W a b v) ↔ oLE E W ∧ ole (E a b) (some v) := by
  constructor
  · intro h
    refine ⟨fun x y hx hy => ?_, ?_⟩
    · have := h x y hx hy
      unfold upM at this
      split at this
      · exact ole_trans this (omn_l _ _)
      · exact this
    · have := h a b ha hb
      unfold upM at this
      rw [if_pos ⟨rfl, rfl⟩] at this
      exact ole_trans this (omn_r _ _)
  · rintro ⟨h1, h2⟩ x y hx hy
    unfold upM
    split
    · next e => obtain ⟨rfl, rfl⟩ := e; exact ole_omn (h1 _ _ hx hy) h2
    · exact h1 x y hx hy
/-- closing over what was closed, with two new entries, is closing over all -/
theorem Clo_up {W D D' : OM} {a b : Nat} {v w : Int} (ha : a < 8) (hb : b < 8) (h : Clo W D) (h' : Clo (upM (upM D a b v) b a w) D') : Clo (upM (upM W a b v) b a w) D' := by
  obtain ⟨h1, h2, h3, h4⟩ := h'
  refine ⟨?_, h2, h3, fun E e1 e2 => h4 E e1 ?_⟩
  · rw [upM_LE hb ha, upM_LE ha hb] at h1 ⊢
    exact ⟨⟨fun x y hx hy => ole_trans (h1.1.1 x y hx hy) (h.1 x y hx hy), h1.1.2⟩, h1.2⟩
  · rw [upM_LE hb ha, upM_LE ha hb] at e2 ⊢
    exact ⟨⟨h.2.2.2 E e1 e2.1.1, e2.1.2⟩, e2.2⟩
theorem NoQ_up {W D : OM} {a b : Nat} {v w : Int} (ha : a < 8) (hb : b < 8) (h : Clo W D) : NoQ (upM (upM D a b v) b a w) ↔ NoQ (upM (upM W a b v) b a w) := by
  constructor
  · rintro ⟨E, e1, e2, e3⟩
    refine ⟨E, e1, ?_, e3⟩
    rw [upM_LE hb ha, upM_LE ha hb] at e2 ⊢
    exact ⟨⟨fun x y hx hy => ole_trans (e2.1.1 x y hx hy) (h.1 x y hx hy), e2.1.2⟩, e2.2⟩
  · rintro ⟨E, e1, e2, e3⟩
    refine ⟨E, e1, ?_, e3⟩
    rw [upM_LE hb ha, upM_LE ha hb] at e2 ⊢
    exact ⟨⟨h.2.2.2 E e1 e2.1.1, e2.1.2⟩, e2.2⟩
theorem NoQ_dn {W : OM} {a b : Nat} {v w : Int} (ha : a < 8) (hb : b < 8) (h : NoQ (upM (upM W a b v) b a w)) : NoQ W := by
  obtain ⟨E, e1, e2, e3⟩ := h
  rw [upM_LE hb ha, upM_LE ha hb] at e2
  exact ⟨E, e1, e2.1.1, e3⟩
