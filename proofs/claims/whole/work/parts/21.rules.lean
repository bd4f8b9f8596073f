def cats (st : List Value) : Nat := (st.map (fun v => v.category)).sum
section rules
variable (mi : Nat) (T : Sg → LW)
/-- an expression: from i to j it puts its value on the stack -/
def EV (d i j : Nat) (L : Lcl) {α : Type} (nu : α → Value) (e : PM α) : Prop := ∀ S v S', e S = some (v, S') → ∀ st r, cats st ≤ d → Rn mi (j, L, nu v :: st, T S', (0, 0)) r → Rn mi (i, L, st, T S, (0, 0)) r
/-- an effect: it leaves the stack as it is -/
def EU (d i j : Nat) (L : Lcl) {α : Type} (e : PM α) : Prop := ∀ S v S', e S = some (v, S') → ∀ st r, cats st ≤ d → Rn mi (j, L, st, T S', (0, 0)) r → Rn mi (i, L, st, T S, (0, 0)) r
/-- a condition: it goes to t or to f -/
def CD (d i t f : Nat) (L : Lcl) (c : PM Bool) : Prop := ∀ S v S', c S = some (v, S') → ∀ st r, cats st ≤ d → Rn mi (bif v then t else f, L, st, T S', (0, 0)) r → Rn mi (i, L, st, T S, (0, 0)) r
/-- a stretch of statements, and what comes behind -/
def GS (i : Nat) (L : Lcl) {α : Type} (K : α → Sg → RT → Prop) (p : PM α) : Prop := ∀ S v S' r, p S = some (v, S') → K v S' r → Rn mi (i, L, [], T S, (0, 0)) r
def Kat (j : Nat) {α : Type} (L : α → Lcl) : α → Sg → RT → Prop := fun v S r => Rn mi (j, L v, [], T S, (0, 0)) r
def Kret {α : Type} (nu : α → Option Value) : α → Sg → RT → Prop := fun v S r => r = (nu v, T S)
def Ksum {α β : Type} (K1 : α → Sg → RT → Prop) (K2 : β → Sg → RT → Prop) : α ⊕ β → Sg → RT → Prop := fun v S r => match v with
  | .inl a => K1 a S r
  | .inr b => K2 b S r
/-- a method: what it answers, and the state behind it -/
def MT (as : List Value) {α : Type} (nu : α → Option Value) (p : PM α) : Prop := ∀ S v S', p S = some (v, S') → Rn mi (0, entL (mL mi) as, [], T S, (0, 0)) (nu v, T S')
variable {mi} {T}
variable {d i j k t f : Nat} {L : Lcl} {α β γ : Type}
theorem mb_inv {e : PM α} {p : α → PM β} {S S' : Sg} {v : β} (h : mb e p S = some (v, S')) : ∃ a S1, e S = some (a, S1) ∧ p a S1 = some (v, S') := by
  unfold mb at h
  obtain ⟨⟨a, S1⟩, h1, h2⟩ := Option.bind_eq_some_iff.mp h
  exact ⟨a, S1, h1, h2⟩
theorem pu_inv {a b : α} {S S' : Sg} (h : pu a S = some (b, S')) : a = b ∧ S = S' := by
  unfold pu at h
  cases h
  exact ⟨rfl, rfl⟩
theorem mif_inv {c : PM Bool} {p q : PM β} {S S' : Sg} {v : β} (h : mif c p q S = some (v, S')) : ∃ b S1, c S = some (b, S1) ∧ (bif b then p else q) S1 = some (v, S') := by
  obtain ⟨b, S1, h1, h2⟩ := mb_inv h
  exact ⟨b, S1, h1, h2⟩
theorem cats_cons (v : Value) (st : List Value) : cats (v :: st) = v.category + cats st := by simp [cats]
theorem cats_int {x : Int32} {st : List Value} (h : cats st ≤ d) : cats (.int x :: st) ≤ d + 1 := by rw [cats_cons]; show 1 + _ ≤ _; omega
theorem cats_ref {x : Nat} {st : List Value} (h : cats st ≤ d) : cats (.ref x :: st) ≤ d + 1 := by rw [cats_cons]; show 1 + _ ≤ _; omega
theorem cats_rf {x : Option Nat} {st : List Value} (h : cats st ≤ d) : cats (va_rf x :: st) ≤ d + 1 := by rw [cats_cons]; cases x <;> (show 1 + _ ≤ _; omega)
theorem cats_long {x : Int64} {st : List Value} (h : cats st ≤ d) : cats (.long x :: st) ≤ d + 2 := by rw [cats_cons]; show 2 + _ ≤ _; omega
/-- one instruction that pushes a value known from the locals or a constant -/
theorem E_push {ins : Instr} {len : Nat} {nu : α → Value} {a : α} (hd : decode (mB mi) i = .ok (ins, len)) (hs : ∀ st lw, stp mi i ins len L st lw (0, 0) = some (.inl (j, L, nu a :: st, lw, (0, 0)))) : EV mi T d i j L nu (pu a) := by
  intro S v S' h st r _ k
  obtain ⟨rfl, rfl⟩ := pu_inv h
  exact Rn.step hd (hs st _) k
/-- one instruction on one value -/
theorem E_un {ins : Instr} {len : Nat} {n1 : α → Value} {n2 : β → Value} {e : PM α} {g : α → β} (h1 : EV mi T d i k L n1 e) (hd : decode (mB mi) k = .ok (ins, len)) (hs : ∀ a st lw, stp mi k ins len L (n1 a :: st) lw (0, 0) = some (.inl (j, L, n2 (g a) :: st, lw, (0, 0)))) : EV mi T d i j L n2 (mb e fun a => pu (g a)) := by
  intro S v S' h st r hc kk
  obtain ⟨a, S1, ha, h⟩ := mb_inv h
  obtain ⟨rfl, rfl⟩ := pu_inv h
  exact h1 S a S1 ha st r hc (Rn.step hd (hs a st _) kk)
/-- one instruction on two values -/
theorem E_bin {ins : Instr} {len d2 : Nat} {n1 : α → Value} {n2 : β → Value} {n3 : γ → Value} {e1 : PM α} {e2 : PM β} {g : α → β → γ} (hc2 : ∀ a st, cats st ≤ d → cats (n1 a :: st) ≤ d2) (h1 : EV mi T d i t L n1 e1) (h2 : EV mi T d2 t k L n2 e2) (hd : decode (mB mi) k = .ok (ins, len)) (hs : ∀ a b st lw, stp mi k ins len L (n2 b :: n1 a :: st) lw (0, 0) = some (.inl (j, L, n3 (g a b) :: st, lw, (0, 0)))) : EV mi T d i j L n3 (mb e1 fun a => mb e2 fun b => pu (g a b)) := by
  intro S v S' h st r hc kk
  obtain ⟨a, S1, ha, h⟩ := mb_inv h
  obtain ⟨b, S2, hb, h⟩ := mb_inv h
  obtain ⟨rfl, rfl⟩ := pu_inv h
  exact h1 S a S1 ha st r hc (h2 S1 b S2 hb _ r (hc2 a st hc) (Rn.step hd (hs a b st _) kk))
/-! conditions -/
theorem C_un {ins : Instr} {len : Nat} {n1 : α → Value} {e : PM α} {g : α → Bool} (h1 : EV mi T d i k L n1 e) (hd : decode (mB mi) k = .ok (ins, len)) (hs : ∀ a st lw, stp mi k ins len L (n1 a :: st) lw (0, 0) = some (.inl (bif g a then t else f, L, st, lw, (0, 0)))) : CD mi T d i t f L (mb e fun a => pu (g a)) := by
  intro S v S' h st r hc kk
  obtain ⟨a, S1, ha, h⟩ := mb_inv h
  obtain ⟨rfl, rfl⟩ := pu_inv h
  exact h1 S a S1 ha st r hc (Rn.step hd (hs a st _) kk)
theorem C_bin {ins : Instr} {len d2 : Nat} {n1 : α → Value} {n2 : β → Value} {e1 : PM α} {e2 : PM β} {g : α → β → Bool} {u : Nat} (hc2 : ∀ a st, cats st ≤ d → cats (n1 a :: st) ≤ d2) (h1 : EV mi T d i u L n1 e1) (h2 : EV mi T d2 u k L n2 e2) (hd : decode (mB mi) k = .ok (ins, len)) (hs : ∀ a b st lw, stp mi k ins len L (n2 b :: n1 a :: st) lw (0, 0) = some (.inl (bif g a b then t else f, L, st, lw, (0, 0)))) : CD mi T d i t f L (mb e1 fun a => mb e2 fun b => pu (g a b)) := by
  intro S v S' h st r hc kk
  obtain ⟨a, S1, ha, h⟩ := mb_inv h
  obtain ⟨b, S2, hb, h⟩ := mb_inv h
  obtain ⟨rfl, rfl⟩ := pu_inv h
  exact h1 S a S1 ha st r hc (h2 S1 b S2 hb _ r (hc2 a st hc) (Rn.step hd (hs a b st _) kk))
/-- a truth value on the stack: it jumps where it is 0, or where it isn't -/
theorem C_val {ins : Instr} {len : Nat} {e : PM Bool} (h1 : EV mi T d i k L (fun b => .int (b2i b)) e) (hd : decode (mB mi) k = .ok (ins, len)) (hs : ∀ b st lw, stp mi k ins len L (.int (b2i b) :: st) lw (0, 0) = some (.inl (bif b then t else f, L, st, lw, (0, 0)))) : CD mi T d i t f L e := by
  intro S v S' h st r hc kk
  exact h1 S v S' h st r hc (Rn.step hd (hs v st _) kk)
theorem C_not {c : PM Bool} (h : CD mi T d i f t L c) : CD mi T d i t f L (mb c fun b => pu (!b)) := by
  intro S v S' h1 st r hc kk
  obtain ⟨a, S1, ha, h1⟩ := mb_inv h1
  obtain ⟨rfl, rfl⟩ := pu_inv h1
  refine h S a S1 ha st r hc ?_
  cases a <;> exact kk
theorem C_if {c p q : PM Bool} {u w : Nat} (h : CD mi T d i u w L c) (hp : CD mi T d u t f L p) (hq : CD mi T d w t f L q) : CD mi T d i t f L (mif c p q) := by
  intro S v S' h1 st r hc kk
  obtain ⟨b, S1, hb, h1⟩ := mif_inv h1
  refine h S b S1 hb st r hc ?_
  cases b
  · exact hq S1 v S' h1 st r hc kk
  · exact hp S1 v S' h1 st r hc kk
theorem C_and {c p : PM Bool} {u : Nat} (h : CD mi T d i u f L c) (hp : CD mi T d u t f L p) : CD mi T d i t f L (mif c p (pu false)) := by
  intro S v S' h1 st r hc kk
  obtain ⟨b, S1, hb, h1⟩ := mif_inv h1
  refine h S b S1 hb st r hc ?_
  cases b
  · obtain ⟨rfl, rfl⟩ := pu_inv h1; exact kk
  · exact hp S1 v S' h1 st r hc kk
theorem C_or {c p : PM Bool} {u : Nat} (h : CD mi T d i t u L c) (hp : CD mi T d u t f L p) : CD mi T d i t f L (mif c (pu true) p) := by
  intro S v S' h1 st r hc kk
  obtain ⟨b, S1, hb, h1⟩ := mif_inv h1
  refine h S b S1 hb st r hc ?_
  cases b
  · exact hp S1 v S' h1 st r hc kk
  · obtain ⟨rfl, rfl⟩ := pu_inv h1; exact kk
/-- the jump's aim is a jump itself -/
theorem C_gt {c : PM Bool} {u : Nat} {off : Int} (h : CD mi T d i u f L c) (hd : decode (mB mi) u = .ok (.goto off, 3)) (ht : jmp u off = some t) : CD mi T d i t f L c := by
  intro S v S' h1 st r hc kk
  refine h S v S' h1 st r hc ?_
  cases v
  · exact kk
  · refine Rn.step hd ?_ kk
    simp [stp, ckl, go, ht, nx]
theorem C_gf {c : PM Bool} {u : Nat} {off : Int} (h : CD mi T d i t u L c) (hd : decode (mB mi) u = .ok (.goto off, 3)) (ht : jmp u off = some f) : CD mi T d i t f L c := by
  intro S v S' h1 st r hc kk
  refine h S v S' h1 st r hc ?_
  cases v
  · refine Rn.step hd ?_ kk
    simp [stp, ckl, go, ht, nx]
  · exact kk
/-! c ? a : b, and a condition as a value -/
theorem E_if {c : PM Bool} {nu : α → Value} {a b : PM α} {u : Nat} {off : Int} (h : CD mi T d i t f L c) (ha : EV mi T d t u L nu a) (hd : decode (mB mi) u = .ok (.goto off, 3)) (ht : jmp u off = some j) (hb : EV mi T d f j L nu b) : EV mi T d i j L nu (mif c a b) := by
  intro S v S' h1 st r hc kk
  obtain ⟨x, S1, hx, h1⟩ := mif_inv h1
  refine h S x S1 hx st r hc ?_
  cases x
  · exact hb S1 v S' h1 st r hc kk
  · refine ha S1 v S' h1 st r hc (Rn.step hd ?_ kk)
    simp [stp, ckl, go, ht, nx]
theorem E_bool {c : PM Bool} {u : Nat} {off : Int} (h : CD mi T d i t f L c) (h1 : decode (mB mi) t = .ok (.iconst 1, 1)) (hu : t + 1 = u) (hd : decode (mB mi) u = .ok (.goto off, 3)) (ht : jmp u off = some j) (h0 : decode (mB mi) f = .ok (.iconst 0, 1)) (hj : f + 1 = j) : EV mi T d i j L (fun b => .int (b2i b)) c := by
  intro S v S' h2 st r hc kk
  refine h S v S' h2 st r hc ?_
  cases v
  · refine Rn.step h0 ?_ kk
    rw [← hj]; rfl
  · refine Rn.step h1 (x := (u, L, .int 1 :: st, T S', (0, 0))) ?_ (Rn.step hd ?_ kk)
    · rw [← hu]; rfl
    · simp [stp, ckl, go, ht, nx, b2i]
/-! statements -/
theorem G_let {nu : α → Value} {e : PM α} {p : α → PM β} {K : β → Sg → RT → Prop} {ins : Instr} {len : Nat} {L' : α → Lcl} (h : EV mi T 0 i j L nu e) (hd : decode (mB mi) j = .ok (ins, len)) (hs : ∀ a lw, stp mi j ins len L [nu a] lw (0, 0) = some (.inl (k, L' a, [], lw, (0, 0)))) (hp : ∀ a, GS mi T k (L' a) K (p a)) : GS mi T i L K (mb e p) := by
  intro S v S' r h1 kk
  obtain ⟨a, S1, ha, h1⟩ := mb_inv h1
  exact h S a S1 ha [] r (Nat.le_refl _) (Rn.step hd (hs a _) (hp a S1 v S' r h1 kk))
theorem G_eff {e : PM α} {p : PM β} {K : β → Sg → RT → Prop} (h : EU mi T 0 i j L e) (hp : GS mi T j L K p) : GS mi T i L K (mb e fun _ => p) := by
  intro S v S' r h1 kk
  obtain ⟨a, S1, ha, h1⟩ := mb_inv h1
  exact h S a S1 ha [] r (Nat.le_refl _) (hp S1 v S' r h1 kk)
theorem G_if {c : PM Bool} {p q : PM β} {K : β → Sg → RT → Prop} (h : CD mi T 0 i t f L c) (hp : GS mi T t L K p) (hq : GS mi T f L K q) : GS mi T i L K (mif c p q) := by
  intro S v S' r h1 kk
  obtain ⟨b, S1, hb, h1⟩ := mif_inv h1
  refine h S b S1 hb [] r (Nat.le_refl _) ?_
  cases b
  · exact hq S1 v S' r h1 kk
  · exact hp S1 v S' r h1 kk
theorem G_seg {p : PM α} {q : α → PM β} {K : β → Sg → RT → Prop} {L' : α → Lcl} (h : GS mi T i L (Kat mi T j L') p) (hq : ∀ a, GS mi T j (L' a) K (q a)) : GS mi T i L K (mb p q) := by
  intro S v S' r h1 kk
  obtain ⟨a, S1, ha, h1⟩ := mb_inv h1
  exact h S a S1 r ha (hq a S1 v S' r h1 kk)
/-- a stretch that may leave the method, or comes to j -/
def orE {ρ : Type} (q : α → PM (ρ ⊕ β)) : ρ ⊕ α → PM (ρ ⊕ β) := fun v => match v with
  | .inl x => pu (.inl x)
  | .inr a => q a
def orR {ρ : Type} (q : α → PM ρ) : ρ ⊕ α → PM ρ := fun v => match v with
  | .inl x => pu x
  | .inr a => q a
theorem G_segR {ρ : Type} {p : PM (ρ ⊕ α)} {q : α → PM ρ} {K : ρ → Sg → RT → Prop} {L' : α → Lcl} (h : GS mi T i L (Ksum K (Kat mi T j L')) p) (hq : ∀ a, GS mi T j (L' a) K (q a)) : GS mi T i L K (mb p (orR q)) := by
  intro S v S' r h1 kk
  obtain ⟨a, S1, ha, h1⟩ := mb_inv h1
  cases a with
  | inl x =>
    obtain ⟨rfl, rfl⟩ := pu_inv h1
    exact h S _ _ r ha kk
  | inr a => exact h S _ S1 r ha (hq a S1 v S' r h1 kk)
theorem G_segE {ρ : Type} {p : PM (ρ ⊕ α)} {q : α → PM (ρ ⊕ β)} {K1 : ρ → Sg → RT → Prop} {K2 : β → Sg → RT → Prop} {L' : α → Lcl} (h : GS mi T i L (Ksum K1 (Kat mi T j L')) p) (hq : ∀ a, GS mi T j (L' a) (Ksum K1 K2) (q a)) : GS mi T i L (Ksum K1 K2) (mb p (orE q)) := by
  intro S v S' r h1 kk
  obtain ⟨a, S1, ha, h1⟩ := mb_inv h1
  cases a with
  | inl x =>
    obtain ⟨rfl, rfl⟩ := pu_inv h1
    exact h S _ _ r ha kk
  | inr a => exact h S _ S1 r ha (hq a S1 v S' r h1 kk)
theorem G_at {L' : α → Lcl} {a : α} (hL : L = L' a) : GS mi T j L (Kat mi T j L') (pu a) := by
  intro S v S' r h kk
  obtain ⟨rfl, rfl⟩ := pu_inv h
  rw [hL]
  exact kk
theorem G_goto {p : PM β} {K : β → Sg → RT → Prop} {off : Int} (hd : decode (mB mi) i = .ok (.goto off, 3)) (ht : jmp i off = some j) (h : GS mi T j L K p) : GS mi T i L K p := by
  intro S v S' r h1 kk
  refine Rn.step hd ?_ (h S v S' r h1 kk)
  simp [stp, ckl, go, ht, nx]
theorem G_inl {ρ : Type} {K1 : ρ → Sg → RT → Prop} {K2 : β → Sg → RT → Prop} {a : ρ} (h : GS mi T i L K1 (pu a)) : GS mi T i L (Ksum K1 K2) (pu (.inl a)) := by
  intro S v S' r h1 kk
  obtain ⟨rfl, rfl⟩ := pu_inv h1
  exact h S a S r rfl kk
theorem G_inr {ρ : Type} {K1 : ρ → Sg → RT → Prop} {K2 : β → Sg → RT → Prop} {a : β} (h : GS mi T i L K2 (pu a)) : GS mi T i L (Ksum K1 K2) (pu (.inr a)) := by
  intro S v S' r h1 kk
  obtain ⟨rfl, rfl⟩ := pu_inv h1
  exact h S a S r rfl kk
theorem G_ret {nu : α → Value} {e : PM α} {ins : Instr} {len : Nat} (h : EV mi T 0 i j L nu e) (hd : decode (mB mi) j = .ok (ins, len)) (hs : ∀ a lw, stp mi j ins len L [nu a] lw (0, 0) = some (.inr (.inr (some (nu a))))) : GS mi T i L (Kret T (fun a => some (nu a))) e := by
  intro S v S' r h1 kk
  unfold Kret at kk
  subst kk
  exact h S v S' h1 [] _ (Nat.le_refl _) (Rn.ret hd (hs v _) ⟨Nat.zero_le _, Nat.zero_le _⟩)
theorem G_retS {β : Type} {nu : α → Value} {e : PM α} {ins : Instr} {len : Nat} {K2 : β → Sg → RT → Prop} (h : EV mi T 0 i j L nu e) (hd : decode (mB mi) j = .ok (ins, len)) (hs : ∀ a lw, stp mi j ins len L [nu a] lw (0, 0) = some (.inr (.inr (some (nu a))))) : GS mi T i L (Ksum (Kret T (fun a => some (nu a))) K2) (mb e fun a => pu (.inl a)) := by
  intro S v S' r h1 kk
  obtain ⟨a, S1, ha, h1⟩ := mb_inv h1
  obtain ⟨rfl, rfl⟩ := pu_inv h1
  have kk : r = _ := kk
  subst kk
  exact h S a S1 ha [] _ (Nat.le_refl _) (Rn.ret hd (hs a _) ⟨Nat.zero_le _, Nat.zero_le _⟩)
theorem G_retv {ins : Instr} {len : Nat} (hd : decode (mB mi) i = .ok (ins, len)) (hs : ∀ lw, stp mi i ins len L [] lw (0, 0) = some (.inr (.inr none))) : GS mi T i L (Kret T (fun _ : Unit => none)) (pu ()) := by
  intro S v S' r h1 kk
  obtain ⟨rfl, rfl⟩ := pu_inv h1
  unfold Kret at kk
  subst kk
  exact Rn.ret hd (hs _) ⟨Nat.zero_le _, Nat.zero_le _⟩
theorem G_loop {LL : α → Lcl} {K : β → Sg → RT → Prop} {step : α → PM (α ⊕ β)} (h : ∀ a, GS mi T i (LL a) (Ksum (Kat mi T i LL) K) (step a)) : ∀ (F : Nat) (a : α), GS mi T i (LL a) K (lp F step a) := by
  intro F
  induction F with
  | zero => intro a S v S' r h1; cases h1
  | succ n ih =>
    intro a S v S' r h1 kk
    obtain ⟨q, S1, hq, h1⟩ := mb_inv h1
    cases q with
    | inl a' => exact h a S _ S1 r hq (ih a' S1 v S' r h1 kk)
    | inr b =>
      obtain ⟨rfl, rfl⟩ := pu_inv h1
      exact h a S _ _ r hq kk
theorem MT_of {as : List Value} {nu : α → Option Value} {p : PM α} (h : GS mi T 0 (entL (mL mi) as) (Kret T nu) p) : MT mi T as nu p := fun S v S' h1 => h S v S' _ h1 rfl
/-! calls -/
theorem E_call {ins : Instr} {q : Nat} {as rest : List Value} {nu : α → Value} {p : PM α} {S S' : Sg} {v : α} {st : List Value} {r : RT} (hm : MT q T as (fun a => some (nu a)) p) (hd : decode (mB mi) i = .ok (ins, 3)) (hz : mMc q = 0 ∧ mMs q = 0) (hs : stp mi i ins 3 L st (T S) (0, 0) = some (.inr (.inl (q, as, rest)))) (h : p S = some (v, S')) (kk : Rn mi (i + 3, L, nu v :: rest, T S', (0, 0)) r) : Rn mi (i, L, st, T S, (0, 0)) r := by
  refine Rn.call hd hs (hm S v S' h) ?_
  rw [hz.1, hz.2]
  exact kk
theorem U_call {ins : Instr} {q : Nat} {as rest : List Value} {p : PM α} {S S' : Sg} {v : α} {st : List Value} {r : RT} (hm : MT q T as (fun _ => none) p) (hd : decode (mB mi) i = .ok (ins, 3)) (hz : mMc q = 0 ∧ mMs q = 0) (hs : stp mi i ins 3 L st (T S) (0, 0) = some (.inr (.inl (q, as, rest)))) (h : p S = some (v, S')) (kk : Rn mi (i + 3, L, rest, T S', (0, 0)) r) : Rn mi (i, L, st, T S, (0, 0)) r := by
  refine Rn.call hd hs (hm S v S' h) ?_
  rw [hz.1, hz.2]
  exact kk
end rules
