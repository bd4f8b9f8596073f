/-! what the rules of cells need -/
section heap
variable {mi : Nat} {own : Nat → Bool} {o : Nat → va_E} {d i j k : Nat} {L : Lcl} {α β : Type}
theorem Tw_at {S : Sg} {a : Nat} (h1 : own a = true) (h2 : a < NL) : (Tw own o S)[a]? = some (celS S a) := by
  unfold Tw
  rw [List.getElem?_map, List.getElem?_range h2]
  simp [h1]
theorem Tw_len {S : Sg} : (Tw own o S).length = NL := by simp [Tw]
theorem Tw_set {S S' : Sg} {a : Nat} (h1 : own a = true) (hb : ∀ b, b ≠ a → celS S' b = celS S b) : (Tw own o S).set a (celS S' a) = Tw own o S' := by
  apply List.ext_getElem?
  intro b
  by_cases hab : a = b
  · subst hab
    by_cases hl : a < NL
    · rw [List.getElem?_set_self (by rw [Tw_len]; exact hl), Tw_at h1 hl]
    · rw [List.getElem?_eq_none (by rw [List.length_set, Tw_len]; omega), List.getElem?_eq_none (by rw [Tw_len]; omega)]
  · rw [List.getElem?_set_ne hab]
    unfold Tw
    rw [List.getElem?_map, List.getElem?_map]
    by_cases hl : b < NL
    · rw [List.getElem?_range hl]
      simp only [Option.map_some, hb b (Ne.symm hab)]
    · rw [List.getElem?_eq_none (by simp; omega)]; rfl
theorem obj_at {S : Sg} {a ci : Nat} (h : okD own a (0, ci)) : obj (Tw own o S) a = some (ci, (List.range (fN ci)).map (fvS S a ci)) := by
  unfold obj
  rw [Tw_at h.1 h.2.1]
  simp only [celS, h.2.2]
theorem arI_at {S : Sg} {a n : Nat} (h : okD own a (1, n)) : arI (Tw own o S) 0 a = some (n, ai S a) := by
  unfold arI
  rw [Tw_at h.1 h.2.1]
  simp [celS, h.2.2]
theorem arB_at {S : Sg} {a n : Nat} (h : okD own a (2, n)) : arI (Tw own o S) 1 a = some (n, fun j => b2i (ab S a j)) := by
  unfold arI
  rw [Tw_at h.1 h.2.1]
  simp [celS, h.2.2]
theorem arR_at {S : Sg} {a n : Nat} (h : okD own a (3, n)) : arR (Tw own o S) a = some (n, ar S a) := by
  unfold arR
  rw [Tw_at h.1 h.2.1]
  simp [celS, h.2.2]
theorem arK_at {S : Sg} {a n : Nat} (h : okD own a (4, n)) : arR (Tw own o S) a = some (n, fun j => some (cst a j)) := by
  unfold arR
  rw [Tw_at h.1 h.2.1]
  simp [celS, h.2.2]
theorem fv_at {S : Sg} {a ci k : Nat} (hk : k < fN ci) : ((List.range (fN ci)).map (fvS S a ci))[k]? = some (fvS S a ci k) := by
  rw [List.getElem?_map, List.getElem?_range hk]
  rfl
theorem cel_ne {S S' : Sg} {b : Nat} (h1 : fi S' b = fi S b) (h2 : fb S' b = fb S b) (h3 : fl S' b = fl S b) (h4 : fr S' b = fr S b) (h5 : ai S' b = ai S b) (h6 : ab S' b = ab S b) (h7 : ar S' b = ar S b) : celS S' b = celS S b := by
  unfold celS fvS
  simp only [h1, h2, h3, h4, h5, h6, h7]
theorem up2_ne {γ : Type} {f : Nat → Nat → γ} {a k b : Nat} {v : γ} (h : b ≠ a) : up2 f a k v b = f b := by
  funext y
  simp [up2, h]
theorem up2_at {γ : Type} {f : Nat → Nat → γ} {a k : Nat} {v : γ} : up2 f a k v a = fun y => if y = k then v else f a y := by
  funext y
  simp [up2]
/-- a field's new value -/
theorem fld_set {S S' : Sg} {a ci k : Nat} (h : okD own a (0, ci)) (hk : k < fN ci) {v : Value} (hb : ∀ b, b ≠ a → celS S' b = celS S b) (hv : ∀ j, fvS S' a ci j = if j = k then v else fvS S a ci j) :
    (Tw own o S).set a (.inr (ci, ((List.range (fN ci)).map (fvS S a ci)).set k v)) = Tw own o S' := by
  rw [← Tw_set (S := S) (S' := S') h.1 hb]
  congr 1
  simp only [celS, h.2.2]
  congr 2
  apply List.ext_getElem?
  intro j
  by_cases hkj : k = j
  · subst hkj
    rw [List.getElem?_set_self (by simp; exact hk), fv_at hk, hv]
    simp
  · rw [List.getElem?_set_ne hkj, List.getElem?_map, List.getElem?_map]
    by_cases hj : j < fN ci
    · rw [List.getElem?_range hj]
      simp only [Option.map_some, hv]
      rw [if_neg (fun e => hkj e.symm)]
    · rw [List.getElem?_eq_none (by simp; omega)]; rfl
/-! programs that read and write -/
def gI (a k : Nat) : PM Int32 := fun S => some (fi S a k, S)
def gB (a k : Nat) : PM Bool := fun S => some (fb S a k, S)
def gL (a k : Nat) : PM Int64 := fun S => some (fl S a k, S)
def gQ (a k : Nat) : PM (Option Nat) := fun S => some (fr S a k, S)
def sI (a k : Nat) (v : Int32) : PM Unit := fun S => some ((), ufi S a k v)
def sB (a k : Nat) (v : Bool) : PM Unit := fun S => some ((), ufb S a k v)
def sL (a k : Nat) (v : Int64) : PM Unit := fun S => some ((), ufl S a k v)
def sQ (a k : Nat) (v : Option Nat) : PM Unit := fun S => some ((), ufr S a k v)
def rI (t n : Nat) (i : Int32) : PM Int32 := fun S => bif inb i n then some (ai S t i.toNatClampNeg, S) else none
def rB (t n : Nat) (i : Int32) : PM Bool := fun S => bif inb i n then some (ab S t i.toNatClampNeg, S) else none
def rQ (t n : Nat) (i : Int32) : PM (Option Nat) := fun S => bif inb i n then some (ar S t i.toNatClampNeg, S) else none
def rK (t n : Nat) (i : Int32) : PM Nat := fun S => bif inb i n then some (cst t i.toNatClampNeg, S) else none
def wI (t n : Nat) (i : Int32) (v : Int32) : PM Unit := fun S => bif inb i n then some ((), uai S t i.toNatClampNeg v) else none
def wB (t n : Nat) (i : Int32) (v : Bool) : PM Unit := fun S => bif inb i n then some ((), uab S t i.toNatClampNeg v) else none
def wQ (t n : Nat) (i : Int32) (v : Nat) : PM Unit := fun S => bif inb i n then some ((), uar S t i.toNatClampNeg (some v)) else none
/-- a reference that must be one of the Calls -/
def isC (a : Nat) : Bool := ownC a && decide (dsc a = (0, 0))
def dq (q : Option Nat) : PM Nat := fun S => match q with
  | some a => bif isC a then some (a, S) else none
  | none => none
/-- one that must be so if it isn't null -/
def cq (q : Option Nat) : PM (Option Nat) := fun S => match q with
  | some a => bif isC a then some (some a, S) else none
  | none => some (none, S)
theorem okC {a : Nat} (h : isC a = true) : okD ownC a (0, 0) := by
  unfold isC at h
  rw [Bool.and_eq_true, decide_eq_true_eq] at h
  refine ⟨h.1, ?_, h.2⟩
  have := h.1
  unfold ownC at this
  rw [Bool.and_eq_true, decide_eq_true_eq, decide_eq_true_eq] at this
  exact Nat.lt_of_lt_of_le this.2 (by decide)
theorem stp_get {pc idx a : Nat} {st : List Value} {lw : LW} {f : Nat × Nat} {os : Nat × List Value} {v : Value} (hl : lk ftab (mC mi) idx = some f) (ho : obj lw a = some os) (hc : os.1 = f.1) (hv : os.2[f.2]? = some v) : stp mi pc (.getfield idx) 3 L (.ref a :: st) lw (0, 0) = some (.inl (pc + 3, L, v :: st, lw, (0, 0))) := by
  simp [stp, ckl, gtF, hl, ho, hc, hv, nx]
theorem stp_put {pc idx a : Nat} {st : List Value} {lw : LW} {f : Nat × Nat} {os : Nat × List Value} {v : Value} (hl : lk ftab (mC mi) idx = some f) (ho : obj lw a = some os) (hc : os.1 = f.1) (ha : a ≠ 0) (hlen : f.2 < os.2.length) (hf : fitV (tyF f.1 f.2) v = true) (hn : (TT f.1 f.2).2.2.2 = false) : stp mi pc (.putfield idx) 3 L (v :: .ref a :: st) lw (0, 0) = some (.inl (pc + 3, L, st, lw.set a (.inr (os.1, os.2.set f.2 v)), (0, 0))) := by
  simp only [stp, ckl, ptF, hl, ho, if_true, Option.bind_some, nx]
  rw [if_pos ⟨hc, ha, hlen, hf, fun q => by rw [hn] at q; cases q⟩]
theorem okD_ne (h0 : own 0 = false) {a : Nat} {x : Nat × Nat} (h : okD own a x) : a ≠ 0 := fun q => by
  have := h.1
  rw [q, h0] at this
  cases this
end heap
