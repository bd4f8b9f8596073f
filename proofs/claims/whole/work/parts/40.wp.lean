/-! reading plain programs: what a run of one answers -/
def WP {α : Type} (p : PM α) (S : Sg) (Q : α → Sg → Prop) : Prop := ∃ v S', p S = some (v, S') ∧ Q v S'
theorem WP.mono {α : Type} {p : PM α} {S : Sg} {Q Q' : α → Sg → Prop} (h : WP p S Q) (hq : ∀ v S', Q v S' → Q' v S') : WP p S Q' := by
  obtain ⟨v, S', h1, h2⟩ := h
  exact ⟨v, S', h1, hq v S' h2⟩
theorem WP.of_eq {α : Type} {p : PM α} {S S' : Sg} {v : α} (h : p S = some (v, S')) {Q : α → Sg → Prop} : WP p S Q ↔ Q v S' := by
  constructor
  · rintro ⟨w, T, h1, h2⟩
    rw [h] at h1
    cases h1
    exact h2
  · exact fun h2 => ⟨v, S', h, h2⟩
theorem WP.fix {α : Type} {p : PM α} {S S' : Sg} {v : α} (h : WP p S (fun v' T => v' = v ∧ T = S')) {Q : α → Sg → Prop} : WP p S Q ↔ Q v S' := by
  obtain ⟨w, T, h1, rfl, rfl⟩ := h
  exact WP.of_eq h1
theorem WP.eq {α : Type} {p : PM α} {S S' : Sg} {v : α} (h : WP p S (fun v' T => v' = v ∧ T = S')) : p S = some (v, S') := by
  obtain ⟨w, T, h1, rfl, rfl⟩ := h
  exact h1
def rd {α : Type} (P : Sg → Bool) (f : Sg → α) : PM α := fun S => bif P S then some (f S, S) else none
theorem rd_pu {α : Type} (a : α) : pu a = rd (fun _ => true) (fun _ => a) := rfl
theorem rd_gI (a k : Nat) : gI a k = rd (fun _ => true) (fun S => fi S a k) := rfl
theorem rd_gB (a k : Nat) : gB a k = rd (fun _ => true) (fun S => fb S a k) := rfl
theorem rd_gL (a k : Nat) : gL a k = rd (fun _ => true) (fun S => fl S a k) := rfl
theorem rd_gQ (a k : Nat) : gQ a k = rd (fun _ => true) (fun S => fr S a k) := rfl
theorem rd_rI (t n : Nat) (i : Int32) : rI t n i = rd (fun _ => inb i n) (fun S => ai S t i.toNatClampNeg) := rfl
theorem rd_rB (t n : Nat) (i : Int32) : rB t n i = rd (fun _ => inb i n) (fun S => ab S t i.toNatClampNeg) := rfl
theorem rd_rQ (t n : Nat) (i : Int32) : rQ t n i = rd (fun _ => inb i n) (fun S => ar S t i.toNatClampNeg) := rfl
theorem rd_rK (t n : Nat) (i : Int32) : rK t n i = rd (fun _ => inb i n) (fun _ => cst t i.toNatClampNeg) := rfl
theorem rd_dq (q : Option Nat) : dq q = rd (fun _ => Option.any isC q) (fun _ => q.getD 0) := by
  funext S
  cases q <;> rfl
theorem rd_cq (q : Option Nat) : cq q = rd (fun _ => Option.all isC q) (fun _ => q) := by
  funext S
  cases q <;> rfl
theorem rd_div (a b : Int32) : xdiv a b = rd (fun _ => !decide (b = 0)) (fun _ => a / b) := by
  funext S
  unfold xdiv rd
  by_cases h : b = 0 <;> simp [h]
theorem rd_rem (a b : Int32) : xrem a b = rd (fun _ => !decide (b = 0)) (fun _ => a - a / b * b) := by
  funext S
  unfold xrem rd
  by_cases h : b = 0 <;> simp [h]
theorem rd_sAt (w : Nat) (x : Int32) : sAt w x = rd (fun _ => inb x (strB.getD w []).length) (fun _ => (strB.getD w []).getD x.toNatClampNeg 0) := rfl
theorem rd_mb {α β : Type} (P : Sg → Bool) (f : Sg → α) (P' : α → Sg → Bool) (f' : α → Sg → β) : mb (rd P f) (fun a => rd (P' a) (f' a)) = rd (fun S => P S && P' (f S) S) (fun S => f' (f S) S) := by
  funext S
  unfold mb rd
  cases h : P S <;> simp [h]
theorem rd_mif {β : Type} (P P1 P2 c : Sg → Bool) (f1 f2 : Sg → β) : mif (rd P c) (rd P1 f1) (rd P2 f2) = rd (fun S => P S && bif c S then P1 S else P2 S) (fun S => bif c S then f1 S else f2 S) := by
  funext S
  unfold mif mb rd
  cases h : P S <;> cases h2 : c S <;> simp [h, h2]
theorem wp_rd {α : Type} (P : Sg → Bool) (f : Sg → α) (S : Sg) (Q : α → Sg → Prop) : WP (rd P f) S Q ↔ P S = true ∧ Q (f S) S := by
  cases h : P S
  · exact ⟨fun ⟨v, S', h1, _⟩ => by simp [rd, h] at h1, fun ⟨h1, _⟩ => by cases h1⟩
  · exact ⟨fun ⟨v, S', h1, h2⟩ => by
      simp only [rd, h, cond_true] at h1
      cases h1
      exact ⟨rfl, h2⟩, fun ⟨_, h2⟩ => ⟨_, _, by simp only [rd, h, cond_true], h2⟩⟩
theorem wp_mb {α β : Type} (e : PM α) (k : α → PM β) (S : Sg) (Q : β → Sg → Prop) : WP (mb e k) S Q ↔ WP e S (fun a S1 => WP (k a) S1 Q) := by
  unfold WP mb
  constructor
  · rintro ⟨v, S', h, hq⟩
    obtain ⟨⟨a, S1⟩, h1, h2⟩ := Option.bind_eq_some_iff.mp h
    exact ⟨a, S1, h1, v, S', h2, hq⟩
  · rintro ⟨a, S1, h1, v, S', h2, hq⟩
    exact ⟨v, S', by rw [h1]; exact h2, hq⟩
theorem wp_mif {β : Type} (c : PM Bool) (p q : PM β) (S : Sg) (Q : β → Sg → Prop) : WP (mif c p q) S Q ↔ WP c S (fun b S1 => (b = true → WP p S1 Q) ∧ (b = false → WP q S1 Q)) := by
  unfold mif
  rw [wp_mb]
  constructor
  · intro h
    exact h.mono fun v S' h => by cases v <;> simp_all
  · intro h
    exact h.mono fun v S' h => by cases v <;> simp_all
theorem wp_sI (a k : Nat) (v : Int32) (S : Sg) (Q : Unit → Sg → Prop) : WP (sI a k v) S Q ↔ Q () (ufi S a k v) := WP.of_eq rfl
theorem wp_sB (a k : Nat) (v : Bool) (S : Sg) (Q : Unit → Sg → Prop) : WP (sB a k v) S Q ↔ Q () (ufb S a k v) := WP.of_eq rfl
theorem wp_sL (a k : Nat) (v : Int64) (S : Sg) (Q : Unit → Sg → Prop) : WP (sL a k v) S Q ↔ Q () (ufl S a k v) := WP.of_eq rfl
theorem wp_sQ (a k : Nat) (v : Option Nat) (S : Sg) (Q : Unit → Sg → Prop) : WP (sQ a k v) S Q ↔ Q () (ufr S a k v) := WP.of_eq rfl
/-! whole arrays -/
def sa (S : Sg) (t : Nat) (f : Nat → Int32) : Sg := (S.1, S.2.1, S.2.2.1, S.2.2.2.1, (fun x => if x = t then f else S.2.2.2.2.1 x), S.2.2.2.2.2)
def sab (S : Sg) (t : Nat) (f : Nat → Bool) : Sg := (S.1, S.2.1, S.2.2.1, S.2.2.2.1, S.2.2.2.2.1, (fun x => if x = t then f else S.2.2.2.2.2.1 x), S.2.2.2.2.2.2)
def sar (S : Sg) (t : Nat) (f : Nat → Option Nat) : Sg := (S.1, S.2.1, S.2.2.1, S.2.2.2.1, S.2.2.2.2.1, S.2.2.2.2.2.1, (fun x => if x = t then f else S.2.2.2.2.2.2 x))
def upf {β : Type} (f : Nat → β) (k : Nat) (v : β) : Nat → β := fun j => if j = k then v else f j
theorem uai_sa (S : Sg) (t k : Nat) (v : Int32) : uai S t k v = sa S t (upf (ai S t) k v) := by
  unfold uai sa up2
  congr 5
  funext x y
  by_cases h : x = t
  · subst h; simp [upf, ai]
  · simp [h]
theorem uab_sab (S : Sg) (t k : Nat) (v : Bool) : uab S t k v = sab S t (upf (ab S t) k v) := by
  unfold uab sab up2
  congr 6
  funext x y
  by_cases h : x = t
  · subst h; simp [upf, ab]
  · simp [h]
theorem uar_sar (S : Sg) (t k : Nat) (v : Option Nat) : uar S t k v = sar S t (upf (ar S t) k v) := by
  unfold uar sar up2
  congr 6
  funext x y
  by_cases h : x = t
  · subst h; simp [upf, ar]
  · simp [h]
theorem wp_wI (t n : Nat) (i v : Int32) (S : Sg) (Q : Unit → Sg → Prop) : WP (wI t n i v) S Q ↔ inb i n = true ∧ Q () (sa S t (upf (ai S t) i.toNatClampNeg v)) := by
  rw [← uai_sa]
  cases h : inb i n
  · exact ⟨fun ⟨v, S', h1, _⟩ => by simp [wI, h] at h1, fun ⟨h1, _⟩ => by cases h1⟩
  · exact ⟨fun ⟨v, S', h1, h2⟩ => by
      simp only [wI, h, cond_true] at h1
      cases h1
      exact ⟨rfl, h2⟩, fun ⟨_, h2⟩ => ⟨_, _, by simp only [wI, h, cond_true], h2⟩⟩
theorem wp_wB (t n : Nat) (i : Int32) (v : Bool) (S : Sg) (Q : Unit → Sg → Prop) : WP (wB t n i v) S Q ↔ inb i n = true ∧ Q () (sab S t (upf (ab S t) i.toNatClampNeg v)) := by
  rw [← uab_sab]
  cases h : inb i n
  · exact ⟨fun ⟨v, S', h1, _⟩ => by simp [wB, h] at h1, fun ⟨h1, _⟩ => by cases h1⟩
  · exact ⟨fun ⟨v, S', h1, h2⟩ => by
      simp only [wB, h, cond_true] at h1
      cases h1
      exact ⟨rfl, h2⟩, fun ⟨_, h2⟩ => ⟨_, _, by simp only [wB, h, cond_true], h2⟩⟩
theorem wp_wQ (t n : Nat) (i : Int32) (v : Nat) (S : Sg) (Q : Unit → Sg → Prop) : WP (wQ t n i v) S Q ↔ inb i n = true ∧ Q () (sar S t (upf (ar S t) i.toNatClampNeg (some v))) := by
  rw [← uar_sar]
  cases h : inb i n
  · exact ⟨fun ⟨v, S', h1, _⟩ => by simp [wQ, h] at h1, fun ⟨h1, _⟩ => by cases h1⟩
  · exact ⟨fun ⟨v, S', h1, h2⟩ => by
      simp only [wQ, h, cond_true] at h1
      cases h1
      exact ⟨rfl, h2⟩, fun ⟨_, h2⟩ => ⟨_, _, by simp only [wQ, h, cond_true], h2⟩⟩
theorem orR_l {α ρ : Type} (q : α → PM ρ) (x : ρ) : orR q (.inl x) = pu x := rfl
theorem orR_r {α ρ : Type} (q : α → PM ρ) (x : α) : orR q (.inr x) = q x := rfl
theorem orE_l {α β ρ : Type} (q : α → PM (ρ ⊕ β)) (x : ρ) : orE q (.inl x) = pu (.inl x) := rfl
theorem orE_r {α β ρ : Type} (q : α → PM (ρ ⊕ β)) (x : α) : orE q (.inr x) = q x := rfl
/-! what is read behind a write -/
section rw
variable (S : Sg) (a a' k k' t t' : Nat)
theorem fi_ufi (v : Int32) : fi (ufi S a k v) a k = v := by simp [fi, ufi, up2]
theorem fi_ufi1 (v : Int32) (h : a' ≠ a) : fi (ufi S a k v) a' k' = fi S a' k' := by simp [fi, ufi, up2, h]
theorem fi_ufi2 (v : Int32) (h : k' ≠ k) : fi (ufi S a k v) a' k' = fi S a' k' := by
  simp only [fi, ufi, up2]
  split <;> simp_all
theorem fb_ufb (v : Bool) : fb (ufb S a k v) a k = v := by simp [fb, ufb, up2]
theorem fb_ufb1 (v : Bool) (h : a' ≠ a) : fb (ufb S a k v) a' k' = fb S a' k' := by simp [fb, ufb, up2, h]
theorem fb_ufb2 (v : Bool) (h : k' ≠ k) : fb (ufb S a k v) a' k' = fb S a' k' := by
  simp only [fb, ufb, up2]
  split <;> simp_all
theorem fl_ufl (v : Int64) : fl (ufl S a k v) a k = v := by simp [fl, ufl, up2]
theorem fl_ufl1 (v : Int64) (h : a' ≠ a) : fl (ufl S a k v) a' k' = fl S a' k' := by simp [fl, ufl, up2, h]
theorem fl_ufl2 (v : Int64) (h : k' ≠ k) : fl (ufl S a k v) a' k' = fl S a' k' := by
  simp only [fl, ufl, up2]
  split <;> simp_all
theorem fr_ufr (v : Option Nat) : fr (ufr S a k v) a k = v := by simp [fr, ufr, up2]
theorem fr_ufr1 (v : Option Nat) (h : a' ≠ a) : fr (ufr S a k v) a' k' = fr S a' k' := by simp [fr, ufr, up2, h]
theorem fr_ufr2 (v : Option Nat) (h : k' ≠ k) : fr (ufr S a k v) a' k' = fr S a' k' := by
  simp only [fr, ufr, up2]
  split <;> simp_all
theorem ai_sa (f : Nat → Int32) : ai (sa S t f) t = f := by simp [ai, sa]
theorem ai_sa1 (f : Nat → Int32) (h : t' ≠ t) : ai (sa S t f) t' = ai S t' := by simp [ai, sa, h]
theorem ab_sab (f : Nat → Bool) : ab (sab S t f) t = f := by simp [ab, sab]
theorem ab_sab1 (f : Nat → Bool) (h : t' ≠ t) : ab (sab S t f) t' = ab S t' := by simp [ab, sab, h]
theorem ar_sar (f : Nat → Option Nat) : ar (sar S t f) t = f := by simp [ar, sar]
theorem ar_sar1 (f : Nat → Option Nat) (h : t' ≠ t) : ar (sar S t f) t' = ar S t' := by simp [ar, sar, h]
theorem upf_eq {β : Type} (f : Nat → β) (v : β) : upf f k v k = v := by simp [upf]
theorem upf_ne {β : Type} (f : Nat → β) (v : β) (h : k' ≠ k) : upf f k v k' = f k' := by simp [upf, h]
theorem upf_upf {β : Type} (f : Nat → β) (v w : β) : upf (upf f k v) k w = upf f k w := by
  funext j
  unfold upf
  split <;> rfl
theorem sa_sa (f g : Nat → Int32) : sa (sa S t f) t g = sa S t g := by
  unfold sa
  congr 5
  funext x
  by_cases h : x = t <;> simp [h]
theorem sab_sab (f g : Nat → Bool) : sab (sab S t f) t g = sab S t g := by
  unfold sab
  congr 6
  funext x
  by_cases h : x = t <;> simp [h]
theorem sar_sar (f g : Nat → Option Nat) : sar (sar S t f) t g = sar S t g := by
  unfold sar
  congr 6
  funext x
  by_cases h : x = t <;> simp [h]
theorem ufi_ufi (v w : Int32) : ufi (ufi S a k v) a k w = ufi S a k w := by
  unfold ufi up2
  congr 1
  funext x y
  by_cases h : x = a <;> by_cases h2 : y = k <;> simp [h, h2]
theorem sa_id : sa S t (ai S t) = S := by
  obtain ⟨s1, s2, s3, s4, s5, s6⟩ := S
  unfold sa ai
  congr 5
  funext x
  by_cases h : x = t <;> simp [h]
end rw
theorem fi_ufb (S : Sg) (a k : Nat) (v : Bool) : fi (ufb S a k v) = fi S := rfl
theorem fi_ufl (S : Sg) (a k : Nat) (v : Int64) : fi (ufl S a k v) = fi S := rfl
theorem fi_ufr (S : Sg) (a k : Nat) (v : Option Nat) : fi (ufr S a k v) = fi S := rfl
theorem fi_sa (S : Sg) (a : Nat) (f : Nat → Int32) : fi (sa S a f) = fi S := rfl
theorem fi_sab (S : Sg) (a : Nat) (f : Nat → Bool) : fi (sab S a f) = fi S := rfl
theorem fi_sar (S : Sg) (a : Nat) (f : Nat → Option Nat) : fi (sar S a f) = fi S := rfl
theorem fb_ufi (S : Sg) (a k : Nat) (v : Int32) : fb (ufi S a k v) = fb S := rfl
theorem fb_ufl (S : Sg) (a k : Nat) (v : Int64) : fb (ufl S a k v) = fb S := rfl
theorem fb_ufr (S : Sg) (a k : Nat) (v : Option Nat) : fb (ufr S a k v) = fb S := rfl
theorem fb_sa (S : Sg) (a : Nat) (f : Nat → Int32) : fb (sa S a f) = fb S := rfl
theorem fb_sab (S : Sg) (a : Nat) (f : Nat → Bool) : fb (sab S a f) = fb S := rfl
theorem fb_sar (S : Sg) (a : Nat) (f : Nat → Option Nat) : fb (sar S a f) = fb S := rfl
theorem fl_ufi (S : Sg) (a k : Nat) (v : Int32) : fl (ufi S a k v) = fl S := rfl
theorem fl_ufb (S : Sg) (a k : Nat) (v : Bool) : fl (ufb S a k v) = fl S := rfl
theorem fl_ufr (S : Sg) (a k : Nat) (v : Option Nat) : fl (ufr S a k v) = fl S := rfl
theorem fl_sa (S : Sg) (a : Nat) (f : Nat → Int32) : fl (sa S a f) = fl S := rfl
theorem fl_sab (S : Sg) (a : Nat) (f : Nat → Bool) : fl (sab S a f) = fl S := rfl
theorem fl_sar (S : Sg) (a : Nat) (f : Nat → Option Nat) : fl (sar S a f) = fl S := rfl
theorem fr_ufi (S : Sg) (a k : Nat) (v : Int32) : fr (ufi S a k v) = fr S := rfl
theorem fr_ufb (S : Sg) (a k : Nat) (v : Bool) : fr (ufb S a k v) = fr S := rfl
theorem fr_ufl (S : Sg) (a k : Nat) (v : Int64) : fr (ufl S a k v) = fr S := rfl
theorem fr_sa (S : Sg) (a : Nat) (f : Nat → Int32) : fr (sa S a f) = fr S := rfl
theorem fr_sab (S : Sg) (a : Nat) (f : Nat → Bool) : fr (sab S a f) = fr S := rfl
theorem fr_sar (S : Sg) (a : Nat) (f : Nat → Option Nat) : fr (sar S a f) = fr S := rfl
theorem ai_ufi (S : Sg) (a k : Nat) (v : Int32) : ai (ufi S a k v) = ai S := rfl
theorem ai_ufb (S : Sg) (a k : Nat) (v : Bool) : ai (ufb S a k v) = ai S := rfl
theorem ai_ufl (S : Sg) (a k : Nat) (v : Int64) : ai (ufl S a k v) = ai S := rfl
theorem ai_ufr (S : Sg) (a k : Nat) (v : Option Nat) : ai (ufr S a k v) = ai S := rfl
theorem ai_sab (S : Sg) (a : Nat) (f : Nat → Bool) : ai (sab S a f) = ai S := rfl
theorem ai_sar (S : Sg) (a : Nat) (f : Nat → Option Nat) : ai (sar S a f) = ai S := rfl
theorem ab_ufi (S : Sg) (a k : Nat) (v : Int32) : ab (ufi S a k v) = ab S := rfl
theorem ab_ufb (S : Sg) (a k : Nat) (v : Bool) : ab (ufb S a k v) = ab S := rfl
theorem ab_ufl (S : Sg) (a k : Nat) (v : Int64) : ab (ufl S a k v) = ab S := rfl
theorem ab_ufr (S : Sg) (a k : Nat) (v : Option Nat) : ab (ufr S a k v) = ab S := rfl
theorem ab_sa (S : Sg) (a : Nat) (f : Nat → Int32) : ab (sa S a f) = ab S := rfl
theorem ab_sar (S : Sg) (a : Nat) (f : Nat → Option Nat) : ab (sar S a f) = ab S := rfl
theorem ar_ufi (S : Sg) (a k : Nat) (v : Int32) : ar (ufi S a k v) = ar S := rfl
theorem ar_ufb (S : Sg) (a k : Nat) (v : Bool) : ar (ufb S a k v) = ar S := rfl
theorem ar_ufl (S : Sg) (a k : Nat) (v : Int64) : ar (ufl S a k v) = ar S := rfl
theorem ar_ufr (S : Sg) (a k : Nat) (v : Option Nat) : ar (ufr S a k v) = ar S := rfl
theorem ar_sa (S : Sg) (a : Nat) (f : Nat → Int32) : ar (sa S a f) = ar S := rfl
theorem ar_sab (S : Sg) (a : Nat) (f : Nat → Bool) : ar (sab S a f) = ar S := rfl
/-! loops -/
def sK {α β : Type} (f : α → Sg → Prop) (g : β → Sg → Prop) (q : α ⊕ β) (S : Sg) : Prop := match q with
  | .inl a => f a S
  | .inr b => g b S
theorem sK_l {α β : Type} (f : α → Sg → Prop) (g : β → Sg → Prop) (a : α) (S : Sg) : sK f g (.inl a) S ↔ f a S := Iff.rfl
theorem sK_r {α β : Type} (f : α → Sg → Prop) (g : β → Sg → Prop) (b : β) (S : Sg) : sK f g (.inr b) S ↔ g b S := Iff.rfl
theorem sK_c {α β : Type} (f : α → Sg → Prop) (g : β → Sg → Prop) (c : Bool) (x y : α ⊕ β) (S : Sg) : sK f g (bif c then x else y) S ↔ (c = true → sK f g x S) ∧ (c = false → sK f g y S) := by cases c <;> simp
theorem cond_tr (c x y : Bool) : ((bif c then x else y) = true) ↔ (c = true → x = true) ∧ (c = false → y = true) := by cases c <;> simp
theorem wp_lp {α β : Type} {f : α → PM (α ⊕ β)} {Q : β → Sg → Prop} (I : α → Sg → Prop) (mu : α → Sg → Nat) (h : ∀ a S, I a S → WP (f a) S (sK (fun a' S' => I a' S' ∧ mu a' S' < mu a S) Q)) : ∀ (F : Nat) (a : α) (S : Sg), I a S → mu a S < F → WP (lp F f a) S Q := by
  intro F
  induction F with
  | zero => intro a S _ hm; omega
  | succ n ih =>
    intro a S hI hm
    have h1 := h a S hI
    unfold lp
    rw [wp_mb]
    refine h1.mono fun q S' hq => ?_
    cases q with
    | inl a' =>
      exact ih a' S' hq.1 (by have := hq.2; omega)
    | inr b =>
      exact ⟨b, S', rfl, hq⟩
/-- a loop by a counter: J k holds as round k begins; a round goes on, or comes to Q at once -/
theorem wp_for {α β : Type} {f : α → PM (α ⊕ β)} {Q : β → Sg → Prop} (n : Nat) (hn : n < FU) (J : Nat → α → Sg → Prop) (h : ∀ k a S, k ≤ n → J k a S → WP (f a) S (sK (fun a' S' => k < n ∧ J (k + 1) a' S') Q)) {a : α} {S : Sg} (h0 : J 0 a S) : WP (lp FU f a) S Q := by
  have key : ∀ F k a S, k ≤ n → J k a S → n - k < F → WP (lp F f a) S Q := by
    intro F
    induction F with
    | zero => intro k a S _ _ hm; omega
    | succ m ih =>
      intro k a S hk hJ hm
      unfold lp
      rw [wp_mb]
      refine (h k a S hk hJ).mono fun q S' hq => ?_
      cases q with
      | inl a' => exact ih (k + 1) a' S' (by have := hq.1; omega) hq.2 (by have := hq.1; omega)
      | inr b => exact ⟨b, S', rfl, hq⟩
  exact key FU 0 a S (Nat.zero_le _) h0 (by omega)
/-- the same from n down to 0 -/
theorem wp_lpm {α β : Type} {f : α → PM (α ⊕ β)} {Q : β → Sg → Prop} (n : Nat) (hn : n < FU) (J : Nat → α → Sg → Prop) (h : ∀ k a S, J k a S → WP (f a) S (sK (fun a' S' => ∃ k', k' < k ∧ J k' a' S') Q)) {a : α} {S : Sg} (h0 : J n a S) : WP (lp FU f a) S Q := by
  have key : ∀ F k a S, J k a S → k < F → WP (lp F f a) S Q := by
    intro F
    induction F with
    | zero => intro k a S _ hm; omega
    | succ m ih =>
      intro k a S hJ hm
      unfold lp
      rw [wp_mb]
      refine (h k a S hJ).mono fun q S' hq => ?_
      cases q with
      | inl a' =>
        obtain ⟨k', h1, h2⟩ := hq
        exact ih k' a' S' h2 (by omega)
      | inr b => exact ⟨b, S', rfl, hq⟩
  exact key FU n a S h0 hn
