/-! plain programs over a state, and when a stretch of code does what one says -/
theorem exec_mono : ∀ (n : Nat) {mi : Nat} {x : St} {y}, exec n mi x = some y → exec (n + 1) mi x = some y := by
  intro n
  induction n with
  | zero => intro mi x y h; cases h
  | succ n ih =>
    intro mi x y h
    rw [exec] at h ⊢
    cases hd : decode (mB mi) x.1 with
    | error z => rw [hd] at h; cases h
    | ok q =>
      rw [hd] at h
      simp only at h ⊢
      cases hs : stp mi x.1 q.1 q.2 x.2.1 x.2.2.1 x.2.2.2.1 x.2.2.2.2 with
      | none => rw [hs] at h; cases h
      | some w =>
        rw [hs] at h
        rcases w with s' | c | v
        · exact ih h
        · simp only at h ⊢
          cases hr : exec n c.1 (0, entL (mL c.1) c.2.1, [], x.2.2.2.1, (0, 0)) with
          | none => rw [hr] at h; cases h
          | some r =>
            rw [hr] at h
            rw [ih hr]
            exact ih h
        · exact h
theorem exec_le {n k : Nat} (hk : n ≤ k) {mi : Nat} {x : St} {y} (h : exec n mi x = some y) : exec k mi x = some y := by
  induction hk with
  | refl => exact h
  | step _ ih => exact exec_mono _ ih
abbrev RT : Type := Option Value × LW
def Rn (mi : Nat) (x : St) (r : RT) : Prop := ∃ n cs', exec n mi x = some (r.1, r.2, cs')
theorem Rn.step {mi pc len : Nat} {i : Instr} {L : Lcl} {st : List Value} {lw : LW} {cs : Nat × Nat} {x : St} {r : RT} (hd : decode (mB mi) pc = .ok (i, len)) (hs : stp mi pc i len L st lw cs = some (.inl x)) (h : Rn mi x r) : Rn mi (pc, L, st, lw, cs) r := by
  obtain ⟨n, cs', hn⟩ := h
  refine ⟨n + 1, cs', ?_⟩
  simp only [exec, hd, hs]
  exact hn
theorem Rn.call {mi pc len j : Nat} {i : Instr} {L : Lcl} {st as rest : List Value} {lw lw' : LW} {cs : Nat × Nat} {rv : Option Value} {r : RT} (hd : decode (mB mi) pc = .ok (i, len)) (hs : stp mi pc i len L st lw cs = some (.inr (.inl (j, as, rest))))
    (hc : Rn j (0, entL (mL j) as, [], lw, (0, 0)) (rv, lw')) (h : Rn mi (pc + 3, L, rv.toList ++ rest, lw', (cs.1 + mMc j, cs.2 + mMs j)) r) : Rn mi (pc, L, st, lw, cs) r := by
  obtain ⟨n, cs', hn⟩ := h
  obtain ⟨k, cs2, hk⟩ := hc
  refine ⟨max n k + 1, cs', ?_⟩
  simp only [exec, hd, hs, exec_le (Nat.le_max_right n k) hk]
  exact exec_le (Nat.le_max_left n k) hn
theorem Rn.ret {mi pc len : Nat} {i : Instr} {L : Lcl} {st : List Value} {lw : LW} {cs : Nat × Nat} {v : Option Value} (hd : decode (mB mi) pc = .ok (i, len)) (hs : stp mi pc i len L st lw cs = some (.inr (.inr v))) (hc : cs.1 ≤ mMc mi ∧ cs.2 ≤ mMs mi) : Rn mi (pc, L, st, lw, cs) (v, lw) := by
  refine ⟨1, cs, ?_⟩
  simp only [exec, hd, hs, hc, and_self, if_true]
/-! the state -/
abbrev Sg : Type := (Nat → Nat → Int32) × (Nat → Nat → Bool) × (Nat → Nat → Int64) × (Nat → Nat → Option Nat) × (Nat → Nat → Int32) × (Nat → Nat → Bool) × (Nat → Nat → Option Nat)
def fi (S : Sg) : Nat → Nat → Int32 := S.1
def fb (S : Sg) : Nat → Nat → Bool := S.2.1
def fl (S : Sg) : Nat → Nat → Int64 := S.2.2.1
def fr (S : Sg) : Nat → Nat → Option Nat := S.2.2.2.1
def ai (S : Sg) : Nat → Nat → Int32 := S.2.2.2.2.1
def ab (S : Sg) : Nat → Nat → Bool := S.2.2.2.2.2.1
def ar (S : Sg) : Nat → Nat → Option Nat := S.2.2.2.2.2.2
def up2 {β : Type} (f : Nat → Nat → β) (a k : Nat) (v : β) : Nat → Nat → β := fun x y => if x = a then (if y = k then v else f x y) else f x y
def ufi (S : Sg) (a k : Nat) (v : Int32) : Sg := (up2 S.1 a k v, S.2)
def ufb (S : Sg) (a k : Nat) (v : Bool) : Sg := (S.1, up2 S.2.1 a k v, S.2.2)
def ufl (S : Sg) (a k : Nat) (v : Int64) : Sg := (S.1, S.2.1, up2 S.2.2.1 a k v, S.2.2.2)
def ufr (S : Sg) (a k : Nat) (v : Option Nat) : Sg := (S.1, S.2.1, S.2.2.1, up2 S.2.2.2.1 a k v, S.2.2.2.2)
def uai (S : Sg) (a k : Nat) (v : Int32) : Sg := (S.1, S.2.1, S.2.2.1, S.2.2.2.1, up2 S.2.2.2.2.1 a k v, S.2.2.2.2.2)
def uab (S : Sg) (a k : Nat) (v : Bool) : Sg := (S.1, S.2.1, S.2.2.1, S.2.2.2.1, S.2.2.2.2.1, up2 S.2.2.2.2.2.1 a k v, S.2.2.2.2.2.2)
def uar (S : Sg) (a k : Nat) (v : Option Nat) : Sg := (S.1, S.2.1, S.2.2.1, S.2.2.2.1, S.2.2.2.2.1, S.2.2.2.2.2.1, up2 S.2.2.2.2.2.2 a k v)
def b2i (b : Bool) : Int32 := bif b then 1 else 0
/-! programs -/
abbrev PM (α : Type) : Type := Sg → Option (α × Sg)
def pu {α : Type} (a : α) : PM α := fun S => some (a, S)
def mb {α β : Type} (e : PM α) (k : α → PM β) : PM β := fun S => (e S).bind fun q => k q.1 q.2
def mif {β : Type} (c : PM Bool) (p q : PM β) : PM β := mb c fun b => bif b then p else q
def lp {α β : Type} : Nat → (α → PM (α ⊕ β)) → α → PM β
  | 0, _, _ => fun _ => none
  | n + 1, f, a => mb (f a) fun q => match q with
    | .inl a' => lp n f a'
    | .inr b => pu b
