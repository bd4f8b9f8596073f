/-! a run that the kernel can do: what is known is written down at each step -/
noncomputable def frcN {β : Type} (n : Nat) (k : Nat → β) : β := Nat.rec (motive := fun _ => β) (k 0) (fun m _ => k (Nat.succ m)) n
theorem frcN_eq {β : Type} (n : Nat) (k : Nat → β) : frcN n k = k n := by cases n <;> rfl
noncomputable def frcL {α β : Type} (l : List α) (k : List α → β) : β := List.rec (motive := fun _ => (List α → β) → β) (fun k => k []) (fun a _ ih k => ih fun t => k (a :: t)) l k
theorem frcL_eq {α β : Type} (l : List α) : ∀ k : List α → β, frcL l k = k l := by
  induction l with
  | nil => intro k; rfl
  | cons a l ih => intro k; exact ih fun t => k (a :: t)
noncomputable def frcV {β : Type} (v : Value) (k : Value → β) : β := match v with
  | .int x => frcN x.toBitVec.toNat fun n => k (.int (Int32.ofNat n))
  | .ref a => frcN a fun a => k (.ref a)
  | v => k v
theorem ofN_tn (x : Int32) : Int32.ofNat x.toBitVec.toNat = x := by
  apply Int32.toBitVec.inj
  rw [Int32.toBitVec_ofNat', BitVec.ofNat_toNat, BitVec.setWidth_eq]
theorem frcV_eq {β : Type} (v : Value) (k : Value → β) : frcV v k = k v := by
  cases v <;> unfold frcV <;> first | rfl | (simp only [frcN_eq, ofN_tn])
noncomputable def frcVs {β : Type} (l : List Value) (k : List Value → β) : β := List.rec (motive := fun _ => (List Value → β) → β) (fun k => k []) (fun a _ ih k => frcV a fun a => ih fun t => k (a :: t)) l k
theorem frcVs_eq {β : Type} (l : List Value) : ∀ k : List Value → β, frcVs l k = k l := by
  induction l with
  | nil => intro k; rfl
  | cons a l ih =>
    intro k
    show (frcV a fun a => frcVs l fun t => k (a :: t)) = _
    rw [frcV_eq, ih]
noncomputable def frcO {β : Type} (l : Lcl) (k : Lcl → β) : β := List.rec (motive := fun _ => (Lcl → β) → β) (fun k => k []) (fun a _ ih k => match a with
  | none => ih fun t => k (none :: t)
  | some a => frcV a fun a => ih fun t => k (some a :: t)) l k
theorem frcO_eq {β : Type} (l : Lcl) : ∀ k : Lcl → β, frcO l k = k l := by
  induction l with
  | nil => intro k; rfl
  | cons a l ih =>
    intro k
    cases a with
    | none => exact ih fun t => k (none :: t)
    | some a =>
      show (frcV a fun a => frcO l fun t => k (some a :: t)) = _
      rw [frcV_eq, ih]
def chg (i : Instr) : Bool := match i with
  | .putfield _ | .iastore | .bastore | .aastore | .new _ | .newarray _ | .anewarray _ => true
  | _ => false
noncomputable def nrmS {β : Type} (b : Bool) (s : St) (k : Nat → Lcl → List Value → LW → Nat → Nat → β) : β := frcN s.1 fun pc => frcO s.2.1 fun L => frcVs s.2.2.1 fun st => frcN s.2.2.2.2.1 fun ca => frcN s.2.2.2.2.2 fun cb => bif b then frcL s.2.2.2.1 fun lw => k pc L st lw ca cb else k pc L st s.2.2.2.1 ca cb
theorem nrmS_eq {β : Type} (b : Bool) (s : St) (k : Nat → Lcl → List Value → LW → Nat → Nat → β) : nrmS b s k = k s.1 s.2.1 s.2.2.1 s.2.2.2.1 s.2.2.2.2.1 s.2.2.2.2.2 := by
  unfold nrmS
  simp only [frcN_eq, frcO_eq, frcVs_eq, frcL_eq, Bool.cond_self]
noncomputable def execF : Nat → Nat → Nat → Lcl → List Value → LW → Nat → Nat → Option (Option Value × LW × (Nat × Nat))
  | 0, _, _, _, _, _, _, _ => none
  | n + 1, mi, pc, L, st, lw, ca, cb => match decode (mB mi) pc with
    | .error _ => none
    | .ok q => match stp mi pc q.1 q.2 L st lw (ca, cb) with
      | none => none
      | some (.inl s') => nrmS (chg q.1) s' (execF n mi)
      | some (.inr (.inl c)) => frcN c.1 fun j => frcVs c.2.1 fun as => match execF n j 0 (entL (mL j) as) [] lw 0 0 with
        | none => none
        | some r => nrmS false (pc + 3, L, r.1.toList ++ c.2.2, r.2.1, (ca + mMc j, cb + mMs j)) (execF n mi)
      | some (.inr (.inr v)) => if ca ≤ mMc mi ∧ cb ≤ mMs mi then some (v, lw, (ca, cb)) else none
theorem execF_eq : ∀ (n mi pc : Nat) (L : Lcl) (st : List Value) (lw : LW) (ca cb : Nat), execF n mi pc L st lw ca cb = exec n mi (pc, L, st, lw, (ca, cb)) := by
  intro n
  induction n with
  | zero => intro mi pc L st lw ca cb; rfl
  | succ n ih =>
    intro mi pc L st lw ca cb
    rw [execF, exec]
    simp only [nrmS_eq, frcN_eq, frcVs_eq, ih]
    rfl
/-! the state that a list of cells is -/
def fvl (lw : LW) (a k : Nat) : Option Value := (obj lw a).bind fun o => o.2[k]?
def SofL (lw : LW) : Sg := (fun a k => match fvl lw a k with
    | some (.int x) => x
    | _ => 0, fun a k => match fvl lw a k with
    | some (.int x) => !decide (x = 0)
    | _ => false, fun a k => match fvl lw a k with
    | some (.long x) => x
    | _ => 0, fun a k => match fvl lw a k with
    | some (.ref b) => some b
    | _ => none, fun t => match lw[t]? with
    | some (.inl (_, _, .inl f)) => f
    | _ => fun _ => 0, fun t j => match lw[t]? with
    | some (.inl (_, _, .inl f)) => !decide (f j = 0)
    | _ => false, fun t => match lw[t]? with
    | some (.inl (_, _, .inr (.inr (.inr (.inr f))))) => f
    | _ => fun _ => none)
def chkO (lw : LW) (a ci : Nat) : Option va_E → Bool
  | some (.inr o) => !(decide (ci = 99)) && decide (o.1 = ci) && decide (o.2 = (List.range (fN ci)).map (fvS (SofL lw) a ci))
  | _ => false
def chkI (n : Nat) : Option va_E → Bool
  | some (.inl (t, m, .inl _)) => decide (t = 0) && decide (m = n)
  | _ => false
def chkB (n : Nat) : Option va_E → Bool
  | some (.inl (t, m, .inl f)) => decide (t = 1) && decide (m = n) && (List.range n).all fun j => decide (f j = 0) || decide (f j = 1)
  | _ => false
def chkR (n : Nat) : Option va_E → Bool
  | some (.inl (t, m, .inr (.inr (.inr (.inr _))))) => decide (t = 2) && decide (m = n)
  | _ => false
def chkK (a n : Nat) : Option va_E → Bool
  | some (.inl (t, m, .inr (.inr (.inr (.inr f))))) => decide (t = 2) && decide (m = n) && (List.range n).all fun j => decide (f j = some (cst a j))
  | _ => false
def chkA (lw : LW) (a : Nat) : Nat × Nat → Bool
  | (0, ci) => chkO lw a ci lw[a]?
  | (1, n) => chkI n lw[a]?
  | (2, n) => chkB n lw[a]?
  | (3, n) => chkR n lw[a]?
  | (4, n) => chkK a n lw[a]?
  | _ => false
theorem chk_cel {lw : LW} {a : Nat} (h : chkA lw a (dsc a) = true) : ∃ e, lw[a]? = some e ∧ cel (celS (SofL lw) a) e := by
  unfold celS
  generalize dsc a = d at h ⊢
  obtain ⟨k, n⟩ := d
  cases e : lw[a]? with
  | none =>
    exfalso
    match k, h with
    | 0, h => unfold chkA at h; rw [e] at h; cases h
    | 1, h => unfold chkA at h; rw [e] at h; cases h
    | 2, h => unfold chkA at h; rw [e] at h; cases h
    | 3, h => unfold chkA at h; rw [e] at h; cases h
    | 4, h => unfold chkA at h; rw [e] at h; cases h
    | k + 5, h => cases h
  | some x =>
    refine ⟨x, rfl, ?_⟩
    match k, h with
    | 0, h =>
      unfold chkA at h; rw [e] at h
      rcases x with x | o
      · cases h
      · replace h : (!(decide (n = 99)) && decide (o.1 = n) && decide (o.2 = (List.range (fN n)).map (fvS (SofL lw) a n))) = true := h
        rw [Bool.and_eq_true, Bool.and_eq_true, decide_eq_true_eq, decide_eq_true_eq, Bool.not_eq_true', decide_eq_false_iff_not] at h
        obtain ⟨o1, o2⟩ := o
        simp only at h ⊢
        refine ⟨fun e2 => ?_, Or.inl ?_⟩
        · injection e2 with e2
          injection e2 with e2 e3
          exact h.1.1 e2
        · rw [h.1.2, h.2]
    | 1, h =>
      unfold chkA at h; rw [e] at h
      rcases x with ⟨t, m, (f | y)⟩ | o
      · replace h : (decide (t = 0) && decide (m = n)) = true := h
        rw [Bool.and_eq_true, decide_eq_true_eq, decide_eq_true_eq] at h
        obtain ⟨rfl, rfl⟩ := h
        refine cel_I fun j _ => ?_
        show f j = (match lw[a]? with
          | some (.inl (_, _, .inl f)) => f
          | _ => fun _ => 0) j
        rw [e]
      · cases h
      · cases h
    | 2, h =>
      unfold chkA at h; rw [e] at h
      rcases x with ⟨t, m, (f | y)⟩ | o
      · replace h : (decide (t = 1) && decide (m = n) && (List.range n).all fun j => decide (f j = 0) || decide (f j = 1)) = true := h
        rw [Bool.and_eq_true, Bool.and_eq_true, decide_eq_true_eq, decide_eq_true_eq, List.all_eq_true] at h
        obtain ⟨⟨rfl, rfl⟩, h⟩ := h
        refine cel_I fun j hj => ?_
        have hj := h j (List.mem_range.2 hj)
        rw [Bool.or_eq_true, decide_eq_true_eq, decide_eq_true_eq] at hj
        have e2 : ab (SofL lw) a j = !decide (f j = 0) := by
          show (match lw[a]? with
            | some (.inl (_, _, .inl f)) => !decide (f j = 0)
            | _ => false) = _
          rw [e]
        show f j = b2i (ab (SofL lw) a j)
        rw [e2]
        rcases hj with hj | hj
        · rw [hj]; rfl
        · rw [hj]; rfl
      · cases h
      · cases h
    | 3, h =>
      unfold chkA at h; rw [e] at h
      rcases x with ⟨t, m, (f | f | f | f | f)⟩ | o
      · cases h
      · cases h
      · cases h
      · cases h
      · replace h : (decide (t = 2) && decide (m = n)) = true := h
        rw [Bool.and_eq_true, decide_eq_true_eq, decide_eq_true_eq] at h
        obtain ⟨rfl, rfl⟩ := h
        refine cel_R fun j _ => ?_
        show f j = (match lw[a]? with
          | some (.inl (_, _, .inr (.inr (.inr (.inr f))))) => f
          | _ => fun _ => none) j
        rw [e]
      · cases h
    | 4, h =>
      unfold chkA at h; rw [e] at h
      rcases x with ⟨t, m, (f | f | f | f | f)⟩ | o
      · cases h
      · cases h
      · cases h
      · cases h
      · replace h : (decide (t = 2) && decide (m = n) && (List.range n).all fun j => decide (f j = some (cst a j))) = true := h
        rw [Bool.and_eq_true, Bool.and_eq_true, decide_eq_true_eq, decide_eq_true_eq, List.all_eq_true] at h
        obtain ⟨⟨rfl, rfl⟩, h⟩ := h
        refine cel_R fun j hj => ?_
        have hj := h j (List.mem_range.2 hj)
        exact of_decide_eq_true hj
      · cases h
    | k + 5, h => cases h
/-! what is asked of the cells behind the constructors -/
def allN (n : Nat) (p : Nat → Bool) : Bool := (List.range n).all p
theorem allN_at {n : Nat} {p : Nat → Bool} (h : allN n p = true) {j : Nat} (hj : j < n) : p j = true := List.all_eq_true.1 h j (List.mem_range.2 hj)
def eqI (S : Sg) (q : Nat × Nat × Int32) : Bool := decide (fi S q.1 q.2.1 = q.2.2)
def eqA (S : Sg) (q : Nat × Nat × Int32) : Bool := allN q.2.1 fun j => decide (ai S q.1 j = q.2.2)
def fC : List (Nat × Nat × Int32) := [(1, 11, 0), (2, 4, 0), (2, 5, 0), (2, 8, 0), (29, 5, 0), (29, 12, 0), (29, 6, 0), (29, 7, 0), (29, 10, 0), (29, 13, 0), (11, 4, 0), (17, 6, 0), (24, 1, -1), (27, 1, 0), (27, 3, -1), (75, 0, 0)]
def aC : List (Nat × Nat × Int32) := [(3, 20, -1), (4, 20, -1), (10, 64, -1), (31, 20, 0), (32, 20, 0), (16, 8, 3), (78, 12, 0), (76, 64, 1000000000)]
def kC9 : List (Nat × Int32) := [(9, 0), (10, -1), (11, -1), (12, 0), (13, 0), (14, 0), (15, 0), (16, -1), (7, -1)]
def isD : Option va_E → Bool
  | some (.inr (k, vs)) => decide (k = 99) && decide (vs = [])
  | _ => false
theorem isD_at {x : Option va_E} (h : isD x = true) : x = some dmy := by
  rcases x with _ | (y | ⟨k, vs⟩)
  · cases h
  · cases h
  · replace h : (decide (k = 99) && decide (vs = [])) = true := h
    rw [Bool.and_eq_true, decide_eq_true_eq, decide_eq_true_eq] at h
    obtain ⟨rfl, rfl⟩ := h
    rfl
def chkC (lw : LW) : Bool := decide (lw.length = 127) && isD lw[0]? && (allN 126 fun a => chkA lw (a + 1) (dsc (a + 1))) && fC.all (eqI (SofL lw)) && aC.all (eqA (SofL lw)) && (allN 40 fun c => (kC9.all fun q => decide (fi (SofL lw) (29 + 6 + c) q.1 = q.2)) && !(fb (SofL lw) (29 + 6 + c) 8)) && !(fb (SofL lw) 80 14) && !(fb (SofL lw) 75 1)
def fR : List (Nat × Nat × Int32) := [(127, 0, 0), (127, 72, 0), (127, 1, 0), (127, 39, 0), (127, 38, 0), (127, 59, 0), (127, 5, 0), (127, 17, 0), (127, 26, 0), (127, 29, -1), (127, 66, 0)]
def aR : List (Nat × Nat × Int32) := [(166, 20, 0), (135, 8, 3), (176, 12, 0), (174, 81, 1000000)]
def chkM (lw : LW) : Bool := decide (lw.length = 183) && (allN 127 fun a => isD lw[a]?) && (allN 56 fun a => chkA lw (a + 127) (dsc (a + 127))) && fR.all (eqI (SofL lw)) && aR.all (eqA (SofL lw)) && !(fb (SofL lw) 127 11)
def isCn : Option (Option Value × LW × (Nat × Nat)) → Bool
  | some (none, lw, _) => chkC lw
  | _ => false
def isMd : Option (Option Value × LW × (Nat × Nat)) → Bool
  | some (none, lw, _) => chkM lw
  | _ => false
/-! a run cut into pieces, with states written down between them -/
noncomputable def execT : Nat → Nat → Nat → Nat → Lcl → List Value → LW → Nat → Nat → Option St
  | 0, _, _, _, _, _, _, _, _ => none
  | n + 1, mi, p, pc, L, st, lw, ca, cb => match Nat.beq pc p with
    | true => some (pc, L, st, lw, (ca, cb))
    | false => match decode (mB mi) pc with
      | .error _ => none
      | .ok q => match stp mi pc q.1 q.2 L st lw (ca, cb) with
        | none => none
        | some (.inl s') => nrmS (chg q.1) s' (execT n mi p)
        | some (.inr (.inl c)) => frcN c.1 fun j => frcVs c.2.1 fun as => match execF n j 0 (entL (mL j) as) [] lw 0 0 with
          | none => none
          | some r => nrmS false (pc + 3, L, r.1.toList ++ c.2.2, r.2.1, (ca + mMc j, cb + mMs j)) (execT n mi p)
        | some (.inr (.inr _)) => none
theorem execT_Rn : ∀ (n : Nat) {mi p pc : Nat} {L : Lcl} {st : List Value} {lw : LW} {ca cb : Nat} {x : St} {r : RT}, execT n mi p pc L st lw ca cb = some x → Rn mi x r → Rn mi (pc, L, st, lw, (ca, cb)) r := by
  intro n
  induction n with
  | zero => intro mi p pc L st lw ca cb x r h; cases h
  | succ n ih =>
    intro mi p pc L st lw ca cb x r h hr
    rw [execT] at h
    cases hp : Nat.beq pc p with
    | true =>
      rw [hp] at h
      cases h
      exact hr
    | false =>
      rw [hp] at h
      simp only at h
      cases hd : decode (mB mi) pc with
      | error z => rw [hd] at h; cases h
      | ok q =>
        rw [hd] at h
        simp only at h
        cases hs : stp mi pc q.1 q.2 L st lw (ca, cb) with
        | none => rw [hs] at h; cases h
        | some w =>
          rw [hs] at h
          rcases w with s' | c | v
          · simp only [nrmS_eq] at h
            exact Rn.step hd hs (ih h hr)
          · simp only [frcN_eq, frcVs_eq] at h
            cases he : execF n c.1 0 (entL (mL c.1) c.2.1) [] lw 0 0 with
            | none => rw [he] at h; cases h
            | some r' =>
              rw [he] at h
              simp only [nrmS_eq] at h
              rw [execF_eq] at he
              exact Rn.call (j := c.1) (as := c.2.1) (rest := c.2.2) (rv := r'.1) (lw' := r'.2.1) hd hs ⟨n, r'.2.2, he⟩ (ih h hr)
          · cases h
def celB : va_E → va_E → Bool
  | .inr o, .inr o' => decide (o = o')
  | .inl (t, n, .inl f), .inl (t', n', .inl f') => decide (t = t') && decide (n = n') && (List.range n).all fun j => decide (f' j = f j)
  | .inl (t, n, .inr (.inr (.inr (.inr f)))), .inl (t', n', .inr (.inr (.inr (.inr f')))) => decide (t = t') && decide (n = n') && (List.range n).all fun j => decide (f' j = f j)
  | _, _ => false
theorem celB_ok {e e' : va_E} (h : celB e e' = true) : cel e e' ∨ (e = dmy ∧ e' = dmy) := by
  rcases e with ⟨t, n, (f | f | f | f | f)⟩ | o
  · rcases e' with ⟨t', n', (f' | f')⟩ | o'
    · replace h : (decide (t = t') && decide (n = n') && (List.range n).all fun j => decide (f' j = f j)) = true := h
      rw [Bool.and_eq_true, Bool.and_eq_true, decide_eq_true_eq, decide_eq_true_eq, List.all_eq_true] at h
      obtain ⟨⟨rfl, rfl⟩, h⟩ := h
      exact Or.inl (cel_I fun j hj => of_decide_eq_true (h j (List.mem_range.2 hj)))
    · cases h
    · cases h
  · cases h
  · cases h
  · cases h
  · rcases e' with ⟨t', n', (f' | f' | f' | f' | f')⟩ | o'
    · cases h
    · cases h
    · cases h
    · cases h
    · replace h : (decide (t = t') && decide (n = n') && (List.range n).all fun j => decide (f' j = f j)) = true := h
      rw [Bool.and_eq_true, Bool.and_eq_true, decide_eq_true_eq, decide_eq_true_eq, List.all_eq_true] at h
      obtain ⟨⟨rfl, rfl⟩, h⟩ := h
      exact Or.inl (cel_R fun j hj => of_decide_eq_true (h j (List.mem_range.2 hj)))
    · cases h
  · rcases e' with e' | o'
    · cases h
    · replace h : decide (o = o') = true := h
      rw [decide_eq_true_eq] at h
      subst h
      by_cases hd : (Sum.inr o : va_E) = dmy
      · exact Or.inr ⟨hd, hd⟩
      · exact Or.inl ⟨hd, Or.inl rfl⟩
def celLB : LW → LW → Bool
  | [], [] => true
  | a :: as, b :: bs => celB a b && celLB as bs
  | _, _ => false
theorem celLB_ok : ∀ {l l' : LW}, celLB l l' = true → RL (fun _ => dmy) l l' := by
  intro l
  induction l with
  | nil =>
    intro l' h
    cases l' with
    | nil => exact ⟨rfl, fun a e h => by cases h⟩
    | cons b bs => cases h
  | cons a as ih =>
    intro l' h
    cases l' with
    | nil => cases h
    | cons b bs =>
      replace h : (celB a b && celLB as bs) = true := h
      rw [Bool.and_eq_true] at h
      obtain ⟨i1, i2⟩ := ih h.2
      refine ⟨by rw [List.length_cons, List.length_cons, i1], fun k e hk => ?_⟩
      cases k with
      | zero =>
        cases hk
        exact ⟨b, rfl, celB_ok h.1⟩
      | succ k => exact i2 k e hk
def chkX (x : Option St) (y : St) : Bool := match x with
  | some x => decide (x.1 = y.1) && decide (x.2.1 = y.2.1) && decide (x.2.2.1 = y.2.2.1) && decide (x.2.2.2.2 = y.2.2.2.2) && celLB y.2.2.2.1 x.2.2.2.1
  | none => false
theorem cel_tr {x y z : va_E} (h : cel x y) (g : cel y z) : cel x z := by
  obtain ⟨h0, h⟩ := h
  obtain ⟨-, g⟩ := g
  refine ⟨h0, ?_⟩
  rcases h with rfl | ⟨t, n, f, f', rfl, rfl, h⟩ | ⟨t, n, f, f', rfl, rfl, h⟩
  · exact g
  · rcases g with rfl | ⟨t2, n2, k, k', e, rfl, g⟩ | ⟨t2, n2, k, k', e, rfl, g⟩
    · exact Or.inr (Or.inl ⟨t, n, f, f', rfl, rfl, h⟩)
    · cases e
      exact Or.inr (Or.inl ⟨t, n, f, k', rfl, rfl, fun j hj => (g j hj).trans (h j hj)⟩)
    · cases e
  · rcases g with rfl | ⟨t2, n2, k, k', e, rfl, g⟩ | ⟨t2, n2, k, k', e, rfl, g⟩
    · exact Or.inr (Or.inr ⟨t, n, f, f', rfl, rfl, h⟩)
    · cases e
    · cases e
      exact Or.inr (Or.inr ⟨t, n, f, k', rfl, rfl, fun j hj => (g j hj).trans (h j hj)⟩)
theorem celd_ne {x y : va_E} (h : cel x y) : y ≠ dmy := by
  obtain ⟨h0, h⟩ := h
  rcases h with rfl | ⟨t, n, f, f', rfl, rfl, h⟩ | ⟨t, n, f, f', rfl, rfl, h⟩
  · exact h0
  · exact fun e => by cases e
  · exact fun e => by cases e
theorem RL_tr {c : Nat → va_E} {l l' l2 : LW} (h : RL (fun _ => dmy) l l') (g : RL c l' l2) : RL c l l2 := by
  refine ⟨g.1.trans h.1, fun a e he => ?_⟩
  obtain ⟨e', h1, h2⟩ := h.2 a e he
  obtain ⟨e2, g1, g2⟩ := g.2 a e' h1
  refine ⟨e2, g1, ?_⟩
  rcases h2 with h2 | ⟨h2, h3⟩
  · rcases g2 with g2 | ⟨g2, -⟩
    · exact Or.inl (cel_tr h2 g2)
    · exact absurd g2 (celd_ne h2)
  · rcases g2 with g2 | ⟨-, g3⟩
    · exact absurd h3 g2.1
    · exact Or.inr ⟨h2, g3⟩
theorem seg_Rn {n mi p pc : Nat} {L : Lcl} {st : List Value} {lw : LW} {ca cb : Nat} {y : St} {v : Option Value} {lwF : LW} (h : chkX (execT n mi p pc L st lw ca cb) y = true) (hr : Rn mi y (v, lwF)) : ∃ lwF', Rn mi (pc, L, st, lw, (ca, cb)) (v, lwF') ∧ RL (fun _ => dmy) lwF lwF' := by
  generalize hx : execT n mi p pc L st lw ca cb = x at h
  cases x with
  | none => cases h
  | some x =>
    obtain ⟨p1, L1, s1, w1, c1⟩ := x
    obtain ⟨p2, L2, s2, w2, c2⟩ := y
    replace h : (decide (p1 = p2) && decide (L1 = L2) && decide (s1 = s2) && decide (c1 = c2) && celLB w2 w1) = true := h
    rw [Bool.and_eq_true, Bool.and_eq_true, Bool.and_eq_true, Bool.and_eq_true, decide_eq_true_eq, decide_eq_true_eq, decide_eq_true_eq, decide_eq_true_eq] at h
    obtain ⟨⟨⟨⟨rfl, rfl⟩, rfl⟩, rfl⟩, h⟩ := h
    obtain ⟨lwF', h1, h2⟩ := Rn_sim (celLB_ok h) hr
    exact ⟨lwF', execT_Rn n hx h1, h2⟩
