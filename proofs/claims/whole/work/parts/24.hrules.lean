theorem ne0 {own : Nat → Bool} {a : Nat} {x : Nat × Nat} (hx : x ≠ (9, 0)) (h : okD own a x) : a ≠ 0 := fun q => by
  have h2 := h.2.2
  rw [q] at h2
  exact hx (h2.symm.trans (rfl : dsc 0 = (9, 0)))
section hrules
variable {mi : Nat} {own : Nat → Bool} {o : Nat → va_E} {d i j k u w : Nat} {L : Lcl} {α β : Type}
abbrev vI : Int32 → Value := fun x => .int x
abbrev vB : Bool → Value := fun b => .int (b2i b)
abbrev vJ : Int64 → Value := fun x => .long x
abbrev vR : Nat → Value := fun a => .ref a
abbrev vQ : Option Nat → Value := fun q => va_rf q
/-- what an expression's value is sure to be -/
def Sure {α : Type} (P : α → Prop) (e : PM α) : Prop := ∀ S v S', e S = some (v, S') → P v
theorem Sure.pu {P : α → Prop} {a : α} (h : P a) : Sure P (pu a) := fun S v S' q => by
  obtain ⟨rfl, -⟩ := pu_inv q
  exact h
theorem Sure.mb {P : β → Prop} {e : PM α} {p : α → PM β} (h : ∀ a, Sure P (p a)) : Sure P (mb e p) := fun S v S' q => by
  obtain ⟨a, S1, -, q⟩ := mb_inv q
  exact h a S1 v S' q
theorem dq_some (a : Nat) (S : Sg) : dq (some a) S = (bif isC a then some (a, S) else none) := rfl
theorem Sure.dq {q : Option Nat} : Sure (fun a => okD ownC a (0, 0)) (dq q) := fun S v S' h => by
  cases q with
  | none => cases h
  | some a =>
    rw [dq_some] at h
    cases hc : isC a with
    | true => rw [hc] at h; cases h; exact okC hc
    | false => rw [hc] at h; cases h
/-- fields -/
theorem get_gen {nu : α → Value} {g : Sg → α} {a ci f idx : Nat} {e : PM α} (he : ∀ S, e S = some (g S, S)) (h1 : EV mi (Tw own o) d i k L vR (pu a)) (hok : okD own a (0, ci)) (hd : decode (mB mi) k = .ok (.getfield idx, 3)) (hl : lk ftab (mC mi) idx = some (ci, f)) (hf : f < fN ci) (hv : ∀ S, fvS S a ci f = nu (g S)) : EV mi (Tw own o) d i (k + 3) L nu e := by
  intro S v S' h st r hc kk
  rw [he] at h
  cases h
  exact h1 S a S rfl st r hc (Rn.step hd (stp_get hl (obj_at hok) rfl (by rw [fv_at hf, hv])) kk)
theorem E_gI {a ci f idx : Nat} (h1 : EV mi (Tw own o) d i k L vR (pu a)) (hok : okD own a (0, ci)) (hd : decode (mB mi) k = .ok (.getfield idx, 3)) (hl : lk ftab (mC mi) idx = some (ci, f)) (hf : f < fN ci ∧ fkd ci f = 0) : EV mi (Tw own o) d i (k + 3) L vI (gI a f) :=
  get_gen (g := fun S => fi S a f) (fun _ => rfl) h1 hok hd hl hf.1 (fun S => by simp only [fvS, hf.2])
theorem E_gB {a ci f idx : Nat} (h1 : EV mi (Tw own o) d i k L vR (pu a)) (hok : okD own a (0, ci)) (hd : decode (mB mi) k = .ok (.getfield idx, 3)) (hl : lk ftab (mC mi) idx = some (ci, f)) (hf : f < fN ci ∧ fkd ci f = 1) : EV mi (Tw own o) d i (k + 3) L vB (gB a f) :=
  get_gen (g := fun S => fb S a f) (fun _ => rfl) h1 hok hd hl hf.1 (fun S => by simp only [fvS, hf.2])
theorem E_gL {a ci f idx : Nat} (h1 : EV mi (Tw own o) d i k L vR (pu a)) (hok : okD own a (0, ci)) (hd : decode (mB mi) k = .ok (.getfield idx, 3)) (hl : lk ftab (mC mi) idx = some (ci, f)) (hf : f < fN ci ∧ fkd ci f = 2) : EV mi (Tw own o) d i (k + 3) L vJ (gL a f) :=
  get_gen (g := fun S => fl S a f) (fun _ => rfl) h1 hok hd hl hf.1 (fun S => by simp only [fvS, hf.2])
theorem E_gQ {a ci f idx : Nat} (h1 : EV mi (Tw own o) d i k L vR (pu a)) (hok : okD own a (0, ci)) (hd : decode (mB mi) k = .ok (.getfield idx, 3)) (hl : lk ftab (mC mi) idx = some (ci, f)) (hf : f < fN ci ∧ fkd ci f = 3) : EV mi (Tw own o) d i (k + 3) L vQ (gQ a f) :=
  get_gen (g := fun S => fr S a f) (fun _ => rfl) h1 hok hd hl hf.1 (fun S => by simp only [fvS, hf.2])
/-- a final reference -/
theorem E_gR {a ci f idx b : Nat} (h1 : EV mi (Tw own o) d i k L vR (pu a)) (hok : okD own a (0, ci)) (hd : decode (mB mi) k = .ok (.getfield idx, 3)) (hl : lk ftab (mC mi) idx = some (ci, f)) (hf : f < fN ci ∧ fkd ci f = 4) (hb : rfs a f = b) : EV mi (Tw own o) d i (k + 3) L vR (pu b) :=
  get_gen (g := fun _ => b) (fun _ => rfl) h1 hok hd hl hf.1 (fun S => by simp only [fvS, hf.2, hb])
/-- the same of a reference that is worked out -/
theorem E_on {nu : α → Value} {e : PM Nat} {p : Nat → PM α} (P : Nat → Prop) (hP : Sure P e) (h1 : EV mi (Tw own o) d i k L vR e) (h2 : ∀ a, P a → EV mi (Tw own o) d k j L nu (mb (pu a) fun a => p a) → True) (h3 : ∀ a, P a → ∀ S v S', p a S = some (v, S') → ∀ st r, cats st ≤ d → Rn mi (j, L, nu v :: st, Tw own o S', (0, 0)) r → Rn mi (k, L, .ref a :: st, Tw own o S, (0, 0)) r) : EV mi (Tw own o) d i j L nu (mb e p) := by
  intro S v S' h st r hc kk
  obtain ⟨a, S1, ha, h⟩ := mb_inv h
  exact h1 S a S1 ha st r hc (h3 a (hP S a S1 ha) S1 v S' h st r hc kk)
theorem dyn_gen {nu : α → Value} {g : Nat → Sg → α} {ci f idx : Nat} {e : PM Nat} {p : Nat → PM α} (hp : ∀ a S, p a S = some (g a S, S)) (hP : Sure (fun a => okD own a (0, ci)) e) (h1 : EV mi (Tw own o) d i k L vR e) (hd : decode (mB mi) k = .ok (.getfield idx, 3)) (hl : lk ftab (mC mi) idx = some (ci, f)) (hf : f < fN ci) (hv : ∀ a S, fvS S a ci f = nu (g a S)) : EV mi (Tw own o) d i (k + 3) L nu (mb e p) := by
  intro S v S' h st r hc kk
  obtain ⟨a, S1, ha, h⟩ := mb_inv h
  rw [hp] at h
  cases h
  exact h1 S a _ ha st r hc (Rn.step hd (stp_get hl (obj_at (hP S a _ ha)) rfl (by rw [fv_at hf, hv])) kk)
theorem E_dI {ci f idx : Nat} {e : PM Nat} (hP : Sure (fun a => okD own a (0, ci)) e) (h1 : EV mi (Tw own o) d i k L vR e) (hd : decode (mB mi) k = .ok (.getfield idx, 3)) (hl : lk ftab (mC mi) idx = some (ci, f)) (hf : f < fN ci ∧ fkd ci f = 0) : EV mi (Tw own o) d i (k + 3) L vI (mb e fun a => gI a f) :=
  dyn_gen (g := fun a S => fi S a f) (fun _ _ => rfl) hP h1 hd hl hf.1 (fun a S => by simp only [fvS, hf.2])
theorem E_dB {ci f idx : Nat} {e : PM Nat} (hP : Sure (fun a => okD own a (0, ci)) e) (h1 : EV mi (Tw own o) d i k L vR e) (hd : decode (mB mi) k = .ok (.getfield idx, 3)) (hl : lk ftab (mC mi) idx = some (ci, f)) (hf : f < fN ci ∧ fkd ci f = 1) : EV mi (Tw own o) d i (k + 3) L vB (mb e fun a => gB a f) :=
  dyn_gen (g := fun a S => fb S a f) (fun _ _ => rfl) hP h1 hd hl hf.1 (fun a S => by simp only [fvS, hf.2])
theorem E_dL {ci f idx : Nat} {e : PM Nat} (hP : Sure (fun a => okD own a (0, ci)) e) (h1 : EV mi (Tw own o) d i k L vR e) (hd : decode (mB mi) k = .ok (.getfield idx, 3)) (hl : lk ftab (mC mi) idx = some (ci, f)) (hf : f < fN ci ∧ fkd ci f = 2) : EV mi (Tw own o) d i (k + 3) L vJ (mb e fun a => gL a f) :=
  dyn_gen (g := fun a S => fl S a f) (fun _ _ => rfl) hP h1 hd hl hf.1 (fun a S => by simp only [fvS, hf.2])
theorem E_dQ {ci f idx : Nat} {e : PM Nat} (hP : Sure (fun a => okD own a (0, ci)) e) (h1 : EV mi (Tw own o) d i k L vR e) (hd : decode (mB mi) k = .ok (.getfield idx, 3)) (hl : lk ftab (mC mi) idx = some (ci, f)) (hf : f < fN ci ∧ fkd ci f = 3) : EV mi (Tw own o) d i (k + 3) L vQ (mb e fun a => gQ a f) :=
  dyn_gen (g := fun a S => fr S a f) (fun _ _ => rfl) hP h1 hd hl hf.1 (fun a S => by simp only [fvS, hf.2])
/-- a reference out of a place that may hold null, or a Call -/
theorem E_dq {e : PM (Option Nat)} (h1 : EV mi (Tw own o) d i j L vQ e) : EV mi (Tw own o) d i j L vR (mb e fun q => dq q) := by
  intro S v S' h st r hc kk
  obtain ⟨q, S1, hq, h⟩ := mb_inv h
  cases q with
  | none => cases h
  | some a =>
    simp only [dq] at h
    cases hca : isC a with
    | true => rw [hca] at h; cases h; exact h1 S _ _ hq st r hc kk
    | false => rw [hca] at h; cases h
theorem E_cq {e : PM (Option Nat)} (h1 : EV mi (Tw own o) d i j L vQ e) : EV mi (Tw own o) d i j L vQ (mb e fun q => cq q) := by
  intro S v S' h st r hc kk
  obtain ⟨q, S1, hq, h⟩ := mb_inv h
  cases q with
  | none => cases h; exact h1 S _ _ hq st r hc kk
  | some a =>
    simp only [cq] at h
    cases hca : isC a with
    | true => rw [hca] at h; cases h; exact h1 S _ _ hq st r hc kk
    | false => rw [hca] at h; cases h
/-- arrays -/
theorem E_rI {t n : Nat} {e : PM Int32} (h1 : EV mi (Tw own o) d i w L vR (pu t)) (hok : okD own t (1, n)) (h2 : EV mi (Tw own o) (d + 1) w k L vI e) (hd : decode (mB mi) k = .ok (.iaload, 1)) : EV mi (Tw own o) d i (k + 1) L vI (mb e fun x => rI t n x) := by
  intro S v S' h st r hc kk
  obtain ⟨x, S1, hx, h⟩ := mb_inv h
  simp only [rI] at h
  cases hb : inb x n with
  | false => rw [hb] at h; cases h
  | true =>
    rw [hb] at h
    cases h
    refine h1 S t S rfl st r hc (h2 S x _ hx _ r (cats_ref hc) (Rn.step hd ?_ kk))
    simp [stp, ckl, iLd, arI_at hok, hb, nx]
theorem E_rB {t n : Nat} {e : PM Int32} (h1 : EV mi (Tw own o) d i w L vR (pu t)) (hok : okD own t (2, n)) (h2 : EV mi (Tw own o) (d + 1) w k L vI e) (hd : decode (mB mi) k = .ok (.baload, 1)) : EV mi (Tw own o) d i (k + 1) L vB (mb e fun x => rB t n x) := by
  intro S v S' h st r hc kk
  obtain ⟨x, S1, hx, h⟩ := mb_inv h
  simp only [rB] at h
  cases hb : inb x n with
  | false => rw [hb] at h; cases h
  | true =>
    rw [hb] at h
    cases h
    refine h1 S t S rfl st r hc (h2 S x _ hx _ r (cats_ref hc) (Rn.step hd ?_ kk))
    simp [stp, ckl, iLd, arB_at hok, hb, nx, ne0 (by simp) hok]
theorem E_rQ {t n : Nat} {e : PM Int32} (h1 : EV mi (Tw own o) d i w L vR (pu t)) (hok : okD own t (3, n)) (h2 : EV mi (Tw own o) (d + 1) w k L vI e) (hd : decode (mB mi) k = .ok (.aaload, 1)) : EV mi (Tw own o) d i (k + 1) L vQ (mb e fun x => rQ t n x) := by
  intro S v S' h st r hc kk
  obtain ⟨x, S1, hx, h⟩ := mb_inv h
  simp only [rQ] at h
  cases hb : inb x n with
  | false => rw [hb] at h; cases h
  | true =>
    rw [hb] at h
    cases h
    refine h1 S t S rfl st r hc (h2 S x _ hx _ r (cats_ref hc) (Rn.step hd ?_ kk))
    simp [stp, ckl, rLd, arR_at hok, hb, nx, ne0 (by simp) hok]
theorem E_rK {t n : Nat} {e : PM Int32} (h1 : EV mi (Tw own o) d i w L vR (pu t)) (hok : okD own t (4, n)) (h2 : EV mi (Tw own o) (d + 1) w k L vI e) (hd : decode (mB mi) k = .ok (.aaload, 1)) : EV mi (Tw own o) d i (k + 1) L vR (mb e fun x => rK t n x) := by
  intro S v S' h st r hc kk
  obtain ⟨x, S1, hx, h⟩ := mb_inv h
  simp only [rK] at h
  cases hb : inb x n with
  | false => rw [hb] at h; cases h
  | true =>
    rw [hb] at h
    cases h
    refine h1 S t S rfl st r hc (h2 S x _ hx _ r (cats_ref hc) (Rn.step hd ?_ kk))
    simp [stp, ckl, rLd, arK_at hok, hb, nx, va_rf, ne0 (by simp) hok]
/-- stores into fields -/
theorem put_st {S S' : Sg} {a ci f idx pc : Nat} {st : List Value} {v : Value} {r : RT} (h0 : own 0 = false) (hok : okD own a (0, ci)) (hd : decode (mB mi) pc = .ok (.putfield idx, 3)) (hl : lk ftab (mC mi) idx = some (ci, f)) (hf : f < fN ci) (hfit : fitV (tyF ci f) v = true) (hn : (TT ci f).2.2.2 = false) (hb : ∀ b, b ≠ a → celS S' b = celS S b) (hv : ∀ j, fvS S' a ci j = if j = f then v else fvS S a ci j) (kk : Rn mi (pc + 3, L, st, Tw own o S', (0, 0)) r) : Rn mi (pc, L, v :: .ref a :: st, Tw own o S, (0, 0)) r := by
  refine Rn.step hd (stp_put hl (obj_at hok) rfl (okD_ne h0 hok) (by simpa using hf) hfit hn) ?_
  rw [fld_set hok hf hb hv]
  exact kk
theorem fv_ufi {S : Sg} {a ci f : Nat} {x : Int32} (hk : fkd ci f = 0) (j : Nat) : fvS (ufi S a f x) a ci j = if j = f then .int x else fvS S a ci j := by
  by_cases h : j = f
  · subst h
    simp [fvS, hk, ufi, fi, up2]
  · rw [if_neg h]
    unfold fvS
    split <;> simp [ufi, fi, fb, fl, fr, up2, h]
theorem fv_ufb {S : Sg} {a ci f : Nat} {x : Bool} (hk : fkd ci f = 1) (j : Nat) : fvS (ufb S a f x) a ci j = if j = f then .int (b2i x) else fvS S a ci j := by
  by_cases h : j = f
  · subst h
    simp [fvS, hk, ufb, fb, up2]
  · rw [if_neg h]
    unfold fvS
    split <;> simp [ufb, fi, fb, fl, fr, up2, h]
theorem fv_ufl {S : Sg} {a ci f : Nat} {x : Int64} (hk : fkd ci f = 2) (j : Nat) : fvS (ufl S a f x) a ci j = if j = f then .long x else fvS S a ci j := by
  by_cases h : j = f
  · subst h
    simp [fvS, hk, ufl, fl, up2]
  · rw [if_neg h]
    unfold fvS
    split <;> simp [ufl, fi, fb, fl, fr, up2, h]
theorem fv_ufr {S : Sg} {a ci f : Nat} {x : Option Nat} (hk : fkd ci f = 3) (j : Nat) : fvS (ufr S a f x) a ci j = if j = f then va_rf x else fvS S a ci j := by
  by_cases h : j = f
  · subst h
    simp [fvS, hk, ufr, fr, up2]
  · rw [if_neg h]
    unfold fvS
    split <;> simp [ufr, fi, fb, fl, fr, up2, h]
theorem cel_ufi {S : Sg} {a k : Nat} {x : Int32} : ∀ b, b ≠ a → celS (ufi S a k x) b = celS S b := fun b h => cel_ne (by simp [ufi, fi, up2_ne h]) rfl rfl rfl rfl rfl rfl
theorem cel_ufb {S : Sg} {a k : Nat} {x : Bool} : ∀ b, b ≠ a → celS (ufb S a k x) b = celS S b := fun b h => cel_ne rfl (by simp [ufb, fb, up2_ne h]) rfl rfl rfl rfl rfl
theorem cel_ufl {S : Sg} {a k : Nat} {x : Int64} : ∀ b, b ≠ a → celS (ufl S a k x) b = celS S b := fun b h => cel_ne rfl rfl (by simp [ufl, fl, up2_ne h]) rfl rfl rfl rfl
theorem cel_ufr {S : Sg} {a k : Nat} {x : Option Nat} : ∀ b, b ≠ a → celS (ufr S a k x) b = celS S b := fun b h => cel_ne rfl rfl rfl (by simp [ufr, fr, up2_ne h]) rfl rfl rfl
theorem cel_uai {S : Sg} {a k : Nat} {x : Int32} : ∀ b, b ≠ a → celS (uai S a k x) b = celS S b := fun b h => cel_ne rfl rfl rfl rfl (by simp [uai, ai, up2_ne h]) rfl rfl
theorem cel_uab {S : Sg} {a k : Nat} {x : Bool} : ∀ b, b ≠ a → celS (uab S a k x) b = celS S b := fun b h => cel_ne rfl rfl rfl rfl rfl (by simp [uab, ab, up2_ne h]) rfl
theorem cel_uar {S : Sg} {a k : Nat} {x : Option Nat} : ∀ b, b ≠ a → celS (uar S a k x) b = celS S b := fun b h => cel_ne rfl rfl rfl rfl rfl rfl (by simp [uar, ar, up2_ne h])
/-- a field is written: with the value put behind it on the stack -/
theorem fit_int {ci f : Nat} (h : tyF ci f = .int) (x : Int32) : fitV (tyF ci f) (.int x) = true := by rw [h]; rfl
theorem fit_bool {ci f : Nat} (h : tyF ci f = .boolean) (b : Bool) : fitV (tyF ci f) (.int (b2i b)) = true := by rw [h]; cases b <;> rfl
theorem fit_long {ci f : Nat} (h : tyF ci f = .long) (x : Int64) : fitV (tyF ci f) (.long x) = true := by rw [h]; rfl
theorem fit_ref {ci f : Nat} {C : String} (h : tyF ci f = .object C) (x : Option Nat) : fitV (tyF ci f) (va_rf x) = true := by rw [h]; cases x <;> rfl
/-- what a store needs of its field -/
def okF (c idx ci f kd : Nat) : Prop := lk ftab c idx = some (ci, f) ∧ f < fN ci ∧ fkd ci f = kd ∧ (TT ci f).2.2.2 = false
theorem U_sI {a ci f idx : Nat} {e : PM Int32} (h0 : own 0 = false) (h1 : EV mi (Tw own o) d i w L vR (pu a)) (hok : okD own a (0, ci)) (h2 : EV mi (Tw own o) (d + 1) w k L vI e) (hd : decode (mB mi) k = .ok (.putfield idx, 3)) (hf : okF (mC mi) idx ci f 0) (ht : tyF ci f = .int) : EU mi (Tw own o) d i (k + 3) L (mb e fun x => sI a f x) := by
  intro S v S' h st r hc kk
  obtain ⟨x, S1, hx, h⟩ := mb_inv h
  cases h
  exact h1 S a S rfl st r hc (h2 S x S1 hx _ r (cats_ref hc) (put_st h0 hok hd hf.1 hf.2.1 (fit_int ht x) hf.2.2.2 cel_ufi (fv_ufi hf.2.2.1) kk))
theorem U_sB {a ci f idx : Nat} {e : PM Bool} (h0 : own 0 = false) (h1 : EV mi (Tw own o) d i w L vR (pu a)) (hok : okD own a (0, ci)) (h2 : EV mi (Tw own o) (d + 1) w k L vB e) (hd : decode (mB mi) k = .ok (.putfield idx, 3)) (hf : okF (mC mi) idx ci f 1) (ht : tyF ci f = .boolean) : EU mi (Tw own o) d i (k + 3) L (mb e fun x => sB a f x) := by
  intro S v S' h st r hc kk
  obtain ⟨x, S1, hx, h⟩ := mb_inv h
  cases h
  exact h1 S a S rfl st r hc (h2 S x S1 hx _ r (cats_ref hc) (put_st h0 hok hd hf.1 hf.2.1 (fit_bool ht x) hf.2.2.2 cel_ufb (fv_ufb hf.2.2.1) kk))
theorem U_sL {a ci f idx : Nat} {e : PM Int64} (h0 : own 0 = false) (h1 : EV mi (Tw own o) d i w L vR (pu a)) (hok : okD own a (0, ci)) (h2 : EV mi (Tw own o) (d + 1) w k L vJ e) (hd : decode (mB mi) k = .ok (.putfield idx, 3)) (hf : okF (mC mi) idx ci f 2) (ht : tyF ci f = .long) : EU mi (Tw own o) d i (k + 3) L (mb e fun x => sL a f x) := by
  intro S v S' h st r hc kk
  obtain ⟨x, S1, hx, h⟩ := mb_inv h
  cases h
  exact h1 S a S rfl st r hc (h2 S x S1 hx _ r (cats_ref hc) (put_st h0 hok hd hf.1 hf.2.1 (fit_long ht x) hf.2.2.2 cel_ufl (fv_ufl hf.2.2.1) kk))
theorem U_sQ {a ci f idx : Nat} {C : String} {e : PM (Option Nat)} (h0 : own 0 = false) (h1 : EV mi (Tw own o) d i w L vR (pu a)) (hok : okD own a (0, ci)) (h2 : EV mi (Tw own o) (d + 1) w k L vQ e) (hd : decode (mB mi) k = .ok (.putfield idx, 3)) (hf : okF (mC mi) idx ci f 3) (ht : tyF ci f = .object C) : EU mi (Tw own o) d i (k + 3) L (mb e fun x => sQ a f x) := by
  intro S v S' h st r hc kk
  obtain ⟨x, S1, hx, h⟩ := mb_inv h
  cases h
  exact h1 S a S rfl st r hc (h2 S x S1 hx _ r (cats_ref hc) (put_st h0 hok hd hf.1 hf.2.1 (fit_ref ht x) hf.2.2.2 cel_ufr (fv_ufr hf.2.2.1) kk))
/-- x.f = e, x worked out first -/
theorem U_dQ {ci f idx : Nat} {C : String} {e1 : PM Nat} {e : PM (Option Nat)} (h0 : own 0 = false) (hP : Sure (fun a => okD own a (0, ci)) e1) (h1 : EV mi (Tw own o) d i w L vR e1) (h2 : EV mi (Tw own o) (d + 1) w k L vQ e) (hd : decode (mB mi) k = .ok (.putfield idx, 3)) (hf : okF (mC mi) idx ci f 3) (ht : tyF ci f = .object C) : EU mi (Tw own o) d i (k + 3) L (mb e1 fun a => mb e fun x => sQ a f x) := by
  intro S v S' h st r hc kk
  obtain ⟨a, S0, ha, h⟩ := mb_inv h
  obtain ⟨x, S1, hx, h⟩ := mb_inv h
  cases h
  exact h1 S a S0 ha st r hc (h2 S0 x S1 hx _ r (cats_ref hc) (put_st h0 (hP S a S0 ha) hd hf.1 hf.2.1 (fit_ref ht x) hf.2.2.2 cel_ufr (fv_ufr hf.2.2.1) kk))
theorem U_dI {ci f idx : Nat} {e1 : PM Nat} {e : PM Int32} (h0 : own 0 = false) (hP : Sure (fun a => okD own a (0, ci)) e1) (h1 : EV mi (Tw own o) d i w L vR e1) (h2 : EV mi (Tw own o) (d + 1) w k L vI e) (hd : decode (mB mi) k = .ok (.putfield idx, 3)) (hf : okF (mC mi) idx ci f 0) (ht : tyF ci f = .int) : EU mi (Tw own o) d i (k + 3) L (mb e1 fun a => mb e fun x => sI a f x) := by
  intro S v S' h st r hc kk
  obtain ⟨a, S0, ha, h⟩ := mb_inv h
  obtain ⟨x, S1, hx, h⟩ := mb_inv h
  cases h
  exact h1 S a S0 ha st r hc (h2 S0 x S1 hx _ r (cats_ref hc) (put_st h0 (hP S a S0 ha) hd hf.1 hf.2.1 (fit_int ht x) hf.2.2.2 cel_ufi (fv_ufi hf.2.2.1) kk))
/-- x.f op= e -/
theorem U_oI {a ci f idx idx2 : Nat} {e : PM Int32} {g : Int32 → Int32 → Int32} {ins : Instr} {len u2 : Nat} (h0 : own 0 = false) (h1 : EV mi (Tw own o) d i u L vR (pu a)) (hok : okD own a (0, ci)) (hdup : decode (mB mi) u = .ok (.dup, 1)) (hg : decode (mB mi) (u + 1) = .ok (.getfield idx2, 3)) (hl : lk ftab (mC mi) idx2 = some (ci, f)) (h2 : EV mi (Tw own o) (d + 2) (u + 1 + 3) w L vI e) (ho : decode (mB mi) w = .ok (ins, len)) (hs : ∀ x y st lw, stp mi w ins len L (.int y :: .int x :: st) lw (0, 0) = some (.inl (u2, L, .int (g x y) :: st, lw, (0, 0)))) (hd : decode (mB mi) u2 = .ok (.putfield idx, 3)) (hf : okF (mC mi) idx ci f 0) (ht : tyF ci f = .int) : EU mi (Tw own o) d i (u2 + 3) L (mb (gI a f) fun x => mb e fun y => sI a f (g x y)) := by
  intro S v S' h st r hc kk
  obtain ⟨x, S0, hx, h⟩ := mb_inv h
  obtain ⟨y, S1, hy, h⟩ := mb_inv h
  cases h
  cases hx
  refine h1 S a S rfl st r hc (Rn.step hdup (x := (u + 1, L, .ref a :: .ref a :: st, Tw own o S, (0, 0))) (by simp [stp, ckl, nx, Value.category]) (Rn.step hg (stp_get hl (obj_at hok) rfl (by rw [fv_at hf.2.1])) ?_))
  have e1 : fvS S a ci f = .int (fi S a f) := by simp only [fvS, hf.2.2.1]
  rw [e1]
  refine h2 S y S1 hy _ r (cats_int (cats_ref hc)) (Rn.step ho (hs _ _ _ _) ?_)
  exact put_st h0 hok hd hf.1 hf.2.1 (fit_int ht _) hf.2.2.2 cel_ufi (fv_ufi hf.2.2.1) kk
theorem U_oB {a ci f idx idx2 : Nat} {e : PM Bool} {g : Bool → Bool → Bool} {ins : Instr} {len u2 : Nat} (h0 : own 0 = false) (h1 : EV mi (Tw own o) d i u L vR (pu a)) (hok : okD own a (0, ci)) (hdup : decode (mB mi) u = .ok (.dup, 1)) (hg : decode (mB mi) (u + 1) = .ok (.getfield idx2, 3)) (hl : lk ftab (mC mi) idx2 = some (ci, f)) (h2 : EV mi (Tw own o) (d + 2) (u + 1 + 3) w L vB e) (ho : decode (mB mi) w = .ok (ins, len)) (hs : ∀ x y st lw, stp mi w ins len L (.int (b2i y) :: .int (b2i x) :: st) lw (0, 0) = some (.inl (u2, L, .int (b2i (g x y)) :: st, lw, (0, 0)))) (hd : decode (mB mi) u2 = .ok (.putfield idx, 3)) (hf : okF (mC mi) idx ci f 1) (ht : tyF ci f = .boolean) : EU mi (Tw own o) d i (u2 + 3) L (mb (gB a f) fun x => mb e fun y => sB a f (g x y)) := by
  intro S v S' h st r hc kk
  obtain ⟨x, S0, hx, h⟩ := mb_inv h
  obtain ⟨y, S1, hy, h⟩ := mb_inv h
  cases h
  cases hx
  refine h1 S a S rfl st r hc (Rn.step hdup (x := (u + 1, L, .ref a :: .ref a :: st, Tw own o S, (0, 0))) (by simp [stp, ckl, nx, Value.category]) (Rn.step hg (stp_get hl (obj_at hok) rfl (by rw [fv_at hf.2.1])) ?_))
  have e1 : fvS S a ci f = .int (b2i (fb S a f)) := by simp only [fvS, hf.2.2.1]
  rw [e1]
  refine h2 S y S1 hy _ r (cats_int (cats_ref hc)) (Rn.step ho (hs _ _ _ _) ?_)
  exact put_st h0 hok hd hf.1 hf.2.1 (fit_bool ht _) hf.2.2.2 cel_ufb (fv_ufb hf.2.2.1) kk
/-- x.f op= e, x worked out first -/
theorem U_doI {ci f idx idx2 : Nat} {e1 : PM Nat} {e : PM Int32} {g : Int32 → Int32 → Int32} {ins : Instr} {len u2 : Nat} (h0 : own 0 = false) (hP : Sure (fun a => okD own a (0, ci)) e1) (h1 : EV mi (Tw own o) d i u L vR e1) (hdup : decode (mB mi) u = .ok (.dup, 1)) (hg : decode (mB mi) (u + 1) = .ok (.getfield idx2, 3)) (hl : lk ftab (mC mi) idx2 = some (ci, f)) (h2 : EV mi (Tw own o) (d + 2) (u + 1 + 3) w L vI e) (ho : decode (mB mi) w = .ok (ins, len)) (hs : ∀ x y st lw, stp mi w ins len L (.int y :: .int x :: st) lw (0, 0) = some (.inl (u2, L, .int (g x y) :: st, lw, (0, 0)))) (hd : decode (mB mi) u2 = .ok (.putfield idx, 3)) (hf : okF (mC mi) idx ci f 0) (ht : tyF ci f = .int) : EU mi (Tw own o) d i (u2 + 3) L (mb e1 fun a => mb (gI a f) fun x => mb e fun y => sI a f (g x y)) := by
  intro S v S' h st r hc kk
  obtain ⟨a, Sa, ha, h⟩ := mb_inv h
  obtain ⟨x, S0, hx, h⟩ := mb_inv h
  obtain ⟨y, S1, hy, h⟩ := mb_inv h
  cases h
  cases hx
  have hok := hP S a _ ha
  refine h1 S a _ ha st r hc (Rn.step hdup (x := (u + 1, L, .ref a :: .ref a :: st, Tw own o Sa, (0, 0))) (by simp [stp, ckl, nx, Value.category]) (Rn.step hg (stp_get hl (obj_at hok) rfl (by rw [fv_at hf.2.1])) ?_))
  have e1 : fvS Sa a ci f = .int (fi Sa a f) := by simp only [fvS, hf.2.2.1]
  rw [e1]
  refine h2 Sa y S1 hy _ r (cats_int (cats_ref hc)) (Rn.step ho (hs _ _ _ _) ?_)
  exact put_st h0 hok hd hf.1 hf.2.1 (fit_int ht _) hf.2.2.2 cel_ufi (fv_ufi hf.2.2.1) kk
/-- stores into arrays -/
theorem ast_I {S : Sg} {t n pc : Nat} {x y : Int32} {st : List Value} {r : RT} (h0 : own 0 = false) (hok : okD own t (1, n)) (hb : inb x n = true) (hd : decode (mB mi) pc = .ok (.iastore, 1)) (kk : Rn mi (pc + 1, L, st, Tw own o (uai S t x.toNatClampNeg y), (0, 0)) r) : Rn mi (pc, L, .int y :: .int x :: .ref t :: st, Tw own o S, (0, 0)) r := by
  have e : (Tw own o S).set t (.inl (0, n, .inl (upd (ai S t) x.toNatClampNeg y))) = Tw own o (uai S t x.toNatClampNeg y) := by
    rw [← Tw_set (S := S) (S' := uai S t x.toNatClampNeg y) hok.1 cel_uai]
    congr 1
    simp only [celS, hok.2.2]
    congr 4
    funext z
    simp [uai, ai, up2, upd]
  refine Rn.step hd ?_ kk
  simp [stp, ckl, iSt, arI_at hok, hb, nx, okD_ne h0 hok, e]
theorem ast_B {S : Sg} {t n pc : Nat} {x : Int32} {y : Bool} {st : List Value} {r : RT} (h0 : own 0 = false) (hok : okD own t (2, n)) (hb : inb x n = true) (hd : decode (mB mi) pc = .ok (.bastore, 1)) (kk : Rn mi (pc + 1, L, st, Tw own o (uab S t x.toNatClampNeg y), (0, 0)) r) : Rn mi (pc, L, .int (b2i y) :: .int x :: .ref t :: st, Tw own o S, (0, 0)) r := by
  have e : (Tw own o S).set t (.inl (1, n, .inl (upd (fun j => b2i (ab S t j)) x.toNatClampNeg (b2i y)))) = Tw own o (uab S t x.toNatClampNeg y) := by
    rw [← Tw_set (S := S) (S' := uab S t x.toNatClampNeg y) hok.1 cel_uab]
    congr 1
    simp only [celS, hok.2.2]
    congr 4
    funext z
    by_cases hz : z = x.toNatClampNeg <;> simp [uab, ab, up2, upd, hz]
  have hy : b2i y = 0 ∨ b2i y = 1 := by cases y <;> simp [b2i]
  refine Rn.step hd ?_ kk
  simp [stp, ckl, iSt, arB_at hok, hb, nx, okD_ne h0 hok, e, hy]
theorem ast_Q {S : Sg} {t n pc y : Nat} {x : Int32} {st : List Value} {r : RT} (h0 : own 0 = false) (hok : okD own t (3, n)) (hy : okD own y (0, 0)) (hb : inb x n = true) (hd : decode (mB mi) pc = .ok (.aastore, 1)) (kk : Rn mi (pc + 1, L, st, Tw own o (uar S t x.toNatClampNeg (some y)), (0, 0)) r) : Rn mi (pc, L, .ref y :: .int x :: .ref t :: st, Tw own o S, (0, 0)) r := by
  have e : (Tw own o S).set t (.inl (2, n, .inr (.inr (.inr (.inr (va_up (ar S t) x.toNatClampNeg (some y))))))) = Tw own o (uar S t x.toNatClampNeg (some y)) := by
    rw [← Tw_set (S := S) (S' := uar S t x.toNatClampNeg (some y)) hok.1 cel_uar]
    congr 1
    simp only [celS, hok.2.2]
    congr 7
    funext z
    simp [uar, ar, up2, va_up]
  refine Rn.step hd ?_ kk
  simp [stp, ckl, rSt, arR_at hok, hb, nx, okD_ne h0 hok, e, obj_at hy]
theorem U_wI {t n : Nat} {e1 e2 : PM Int32} (h0 : own 0 = false) (h1 : EV mi (Tw own o) d i u L vR (pu t)) (hok : okD own t (1, n)) (h2 : EV mi (Tw own o) (d + 1) u w L vI e1) (h3 : EV mi (Tw own o) (d + 2) w k L vI e2) (hd : decode (mB mi) k = .ok (.iastore, 1)) : EU mi (Tw own o) d i (k + 1) L (mb e1 fun x => mb e2 fun y => wI t n x y) := by
  intro S v S' h st r hc kk
  obtain ⟨x, S0, hx, h⟩ := mb_inv h
  obtain ⟨y, S1, hy, h⟩ := mb_inv h
  simp only [wI] at h
  cases hb : inb x n with
  | false => rw [hb] at h; cases h
  | true =>
    rw [hb] at h
    cases h
    exact h1 S t S rfl st r hc (h2 S x S0 hx _ r (cats_ref hc) (h3 S0 y S1 hy _ r (cats_int (cats_ref hc)) (ast_I h0 hok hb hd kk)))
theorem U_wB {t n : Nat} {e1 : PM Int32} {e2 : PM Bool} (h0 : own 0 = false) (h1 : EV mi (Tw own o) d i u L vR (pu t)) (hok : okD own t (2, n)) (h2 : EV mi (Tw own o) (d + 1) u w L vI e1) (h3 : EV mi (Tw own o) (d + 2) w k L vB e2) (hd : decode (mB mi) k = .ok (.bastore, 1)) : EU mi (Tw own o) d i (k + 1) L (mb e1 fun x => mb e2 fun y => wB t n x y) := by
  intro S v S' h st r hc kk
  obtain ⟨x, S0, hx, h⟩ := mb_inv h
  obtain ⟨y, S1, hy, h⟩ := mb_inv h
  simp only [wB] at h
  cases hb : inb x n with
  | false => rw [hb] at h; cases h
  | true =>
    rw [hb] at h
    cases h
    exact h1 S t S rfl st r hc (h2 S x S0 hx _ r (cats_ref hc) (h3 S0 y S1 hy _ r (cats_int (cats_ref hc)) (ast_B h0 hok hb hd kk)))
theorem U_wQ {t n : Nat} {e1 : PM Int32} {e2 : PM Nat} (h0 : own 0 = false) (h1 : EV mi (Tw own o) d i u L vR (pu t)) (hok : okD own t (3, n)) (h2 : EV mi (Tw own o) (d + 1) u w L vI e1) (hP : Sure (fun a => okD own a (0, 0)) e2) (h3 : EV mi (Tw own o) (d + 2) w k L vR e2) (hd : decode (mB mi) k = .ok (.aastore, 1)) : EU mi (Tw own o) d i (k + 1) L (mb e1 fun x => mb e2 fun y => wQ t n x y) := by
  intro S v S' h st r hc kk
  obtain ⟨x, S0, hx, h⟩ := mb_inv h
  obtain ⟨y, S1, hy, h⟩ := mb_inv h
  simp only [wQ] at h
  cases hb : inb x n with
  | false => rw [hb] at h; cases h
  | true =>
    rw [hb] at h
    cases h
    exact h1 S t S rfl st r hc (h2 S x S0 hx _ r (cats_ref hc) (h3 S0 y S1 hy _ r (cats_int (cats_ref hc)) (ast_Q h0 hok (hP S0 y S1 hy) hb hd kk)))
/-- a[x] op= e -/
theorem U_woI {t n : Nat} {e1 e2 : PM Int32} {g : Int32 → Int32 → Int32} {ins : Instr} {len u2 : Nat} (h0 : own 0 = false) (h1 : EV mi (Tw own o) d i u L vR (pu t)) (hok : okD own t (1, n)) (h2 : EV mi (Tw own o) (d + 1) u w L vI e1) (hdup : decode (mB mi) w = .ok (.dup2, 1)) (hld : decode (mB mi) (w + 1) = .ok (.iaload, 1)) (h3 : EV mi (Tw own o) (d + 3) (w + 1 + 1) k L vI e2) (ho : decode (mB mi) k = .ok (ins, len)) (hs : ∀ x y st lw, stp mi k ins len L (.int y :: .int x :: st) lw (0, 0) = some (.inl (u2, L, .int (g x y) :: st, lw, (0, 0)))) (hd : decode (mB mi) u2 = .ok (.iastore, 1)) : EU mi (Tw own o) d i (u2 + 1) L (mb e1 fun x => mb (rI t n x) fun z => mb e2 fun y => wI t n x (g z y)) := by
  intro S v S' h st r hc kk
  obtain ⟨x, S0, hx, h⟩ := mb_inv h
  obtain ⟨z, Sz, hz, h⟩ := mb_inv h
  obtain ⟨y, S1, hy, h⟩ := mb_inv h
  simp only [wI] at h
  simp only [rI] at hz
  cases hb : inb x n with
  | false => rw [hb] at h; cases h
  | true =>
    rw [hb] at h hz
    cases h
    cases hz
    refine h1 S t S rfl st r hc (h2 S x S0 hx _ r (cats_ref hc) (Rn.step hdup (x := (w + 1, L, .int x :: .ref t :: .int x :: .ref t :: st, Tw own o S0, (0, 0))) (by simp [stp, ckl, nx, Value.category]) (Rn.step hld (x := (w + 1 + 1, L, .int (ai S0 t x.toNatClampNeg) :: .int x :: .ref t :: st, Tw own o S0, (0, 0))) (by simp [stp, ckl, iLd, arI_at hok, hb, nx]) ?_)))
    exact h3 S0 y S1 hy _ r (cats_int (cats_int (cats_ref hc))) (Rn.step ho (hs _ _ _ _) (ast_I h0 hok hb hd kk))
/-- comparisons of references -/
theorem C_null {e : PM (Option Nat)} {ins : Instr} {len t f : Nat} {g : Option Nat → Bool} (h1 : EV mi (Tw own o) d i k L vQ e) (hd : decode (mB mi) k = .ok (ins, len)) (hs : ∀ q st lw, stp mi k ins len L (va_rf q :: st) lw (0, 0) = some (.inl (bif g q then t else f, L, st, lw, (0, 0)))) : CD mi (Tw own o) d i t f L (mb e fun q => pu (g q)) := by
  intro S v S' h st r hc kk
  obtain ⟨a, S1, ha, h⟩ := mb_inv h
  obtain ⟨rfl, rfl⟩ := pu_inv h
  exact h1 S a S1 ha st r hc (Rn.step hd (hs a st _) kk)
theorem C_same {e1 : PM (Option Nat)} {e2 : PM Nat} {ins : Instr} {len t f : Nat} {g : Bool → Bool} (h1 : EV mi (Tw own o) d i u L vQ (mb e1 fun q => cq q)) (hC : own = ownC) (hP : Sure (fun a => okD own a (0, 0)) e2) (h2 : EV mi (Tw own o) (d + 1) u k L vR e2) (hd : decode (mB mi) k = .ok (ins, len)) (hs : ∀ q a st lw, rfB q lw = true → a < lw.length → stp mi k ins len L (.ref a :: va_rf q :: st) lw (0, 0) = some (.inl (bif g (decide (q = some a)) then t else f, L, st, lw, (0, 0)))) : CD mi (Tw own o) d i t f L (mb (mb e1 fun q => cq q) fun q => mb e2 fun a => pu (g (decide (q = some a)))) := by
  intro S v S' h st r hc kk
  obtain ⟨q, S1, hq, h⟩ := mb_inv h
  obtain ⟨a, S2, ha, h⟩ := mb_inv h
  obtain ⟨rfl, rfl⟩ := pu_inv h
  have hok := hP S1 a _ ha
  have hrf : rfB q (Tw own o S2) = true := by
    obtain ⟨q0, Sq, hq0, hq1⟩ := mb_inv hq
    cases q0 with
    | none => cases hq1; rfl
    | some b =>
      simp only [cq] at hq1
      cases hcb : isC b with
      | false => rw [hcb] at hq1; cases hq1
      | true =>
        rw [hcb] at hq1
        cases hq1
        have := (okC hcb).2.1
        simp [rfB, Tw_len, this]
  exact h1 S q S1 hq st r hc (h2 S1 a S2 ha _ r (cats_rf hc) (Rn.step hd (hs q a st _ hrf (by rw [Tw_len]; exact hok.2.1)) kk))
end hrules
