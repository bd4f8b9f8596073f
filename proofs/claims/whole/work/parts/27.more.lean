section more
variable {mi i j k d t f : Nat} {own : Nat → Bool} {o : Nat → va_E} {L : Lcl} {T : Sg → LW}
def ng : ClassFile.Cond → ClassFile.Cond
  | .eq => .ne | .ne => .eq | .lt => .ge | .ge => .lt | .gt => .le | .le => .gt
theorem lt_le (x y : Int32) : decide (y ≤ x) = !decide (x < y) := by
  by_cases h : x < y
  · simp [h, Int32.not_le.mpr h]
  · simp [h, Int32.not_lt.mp h]
theorem cmp2_ng (c : ClassFile.Cond) (x y : Int32) : cmp2 (ng c) x y = !cmp2 c x y := by
  cases c <;> simp only [ng, cmp2, Bool.not_not, lt_le]
theorem cmp0_ng (c : ClassFile.Cond) (x : Int32) : cmp0 (ng c) x = !cmp0 c x := by
  cases c <;> simp only [ng, cmp0, Bool.not_not, lt_le]
theorem bif_not {b : Bool} : (bif !b then t else f) = bif b then f else t := by cases b <;> rfl
theorem icT (c : ClassFile.Cond) {off : Int} (ht : jmp k off = some t) (a b : Int32) (st : List Value) (lw : LW) : stp mi k (.if_icmp c off) 3 L (.int b :: .int a :: st) lw (0, 0) = some (.inl (bif cmp2 c a b then t else k + 3, L, st, lw, (0, 0))) := by
  simp [stp, ckl, ht, nx]
theorem icF (c : ClassFile.Cond) {off : Int} (ht : jmp k off = some f) (a b : Int32) (st : List Value) (lw : LW) : stp mi k (.if_icmp (ng c) off) 3 L (.int b :: .int a :: st) lw (0, 0) = some (.inl (bif cmp2 c a b then k + 3 else f, L, st, lw, (0, 0))) := by
  simp only [stp, ckl, ht, nx, if_true, Option.bind_some, cmp2_ng, bif_not]
theorem izT (c : ClassFile.Cond) {off : Int} (ht : jmp k off = some t) (a : Int32) (st : List Value) (lw : LW) : stp mi k (.ifCond c off) 3 L (.int a :: st) lw (0, 0) = some (.inl (bif cmp0 c a then t else k + 3, L, st, lw, (0, 0))) := by
  simp [stp, ckl, ht, nx]
theorem izF (c : ClassFile.Cond) {off : Int} (ht : jmp k off = some f) (a : Int32) (st : List Value) (lw : LW) : stp mi k (.ifCond (ng c) off) 3 L (.int a :: st) lw (0, 0) = some (.inl (bif cmp0 c a then k + 3 else f, L, st, lw, (0, 0))) := by
  simp only [stp, ckl, ht, nx, if_true, Option.bind_some, cmp0_ng, bif_not]
theorem vlT {off : Int} (ht : jmp k off = some t) (b : Bool) (st : List Value) (lw : LW) : stp mi k (.ifCond .ne off) 3 L (.int (b2i b) :: st) lw (0, 0) = some (.inl (bif b then t else k + 3, L, st, lw, (0, 0))) := by
  cases b <;> simp [stp, ckl, ht, nx, cmp0, b2i]
theorem vlF {off : Int} (ht : jmp k off = some f) (b : Bool) (st : List Value) (lw : LW) : stp mi k (.ifCond .eq off) 3 L (.int (b2i b) :: st) lw (0, 0) = some (.inl (bif b then k + 3 else f, L, st, lw, (0, 0))) := by
  cases b <;> simp [stp, ckl, ht, nx, cmp0, b2i]
/-- x == null: jumps where it is, where it isn't -/
theorem nuT {off : Int} (ht : jmp k off = some t) (q : Option Nat) (st : List Value) (lw : LW) : stp mi k (.ifnull off) 3 L (va_rf q :: st) lw (0, 0) = some (.inl (bif q.isNone then t else k + 3, L, st, lw, (0, 0))) := by
  cases q <;> simp [stp, ckl, go, ht, nx, va_rf]
theorem nuF {off : Int} (ht : jmp k off = some f) (q : Option Nat) (st : List Value) (lw : LW) : stp mi k (.ifnonnull off) 3 L (va_rf q :: st) lw (0, 0) = some (.inl (bif q.isNone then k + 3 else f, L, st, lw, (0, 0))) := by
  cases q <;> simp [stp, ckl, go, ht, nx, va_rf]
/-- x != null -/
theorem nnT {off : Int} (ht : jmp k off = some t) (q : Option Nat) (st : List Value) (lw : LW) : stp mi k (.ifnonnull off) 3 L (va_rf q :: st) lw (0, 0) = some (.inl (bif q.isSome then t else k + 3, L, st, lw, (0, 0))) := by
  cases q <;> simp [stp, ckl, go, ht, nx, va_rf]
theorem nnF {off : Int} (ht : jmp k off = some f) (q : Option Nat) (st : List Value) (lw : LW) : stp mi k (.ifnull off) 3 L (va_rf q :: st) lw (0, 0) = some (.inl (bif q.isSome then k + 3 else f, L, st, lw, (0, 0))) := by
  cases q <;> simp [stp, ckl, go, ht, nx, va_rf]
theorem saF {off : Int} (ht : jmp k off = some f) (q : Option Nat) (a : Nat) (st : List Value) (lw : LW) (h1 : rfB q lw = true) (h2 : a < lw.length) : stp mi k (.if_acmp .ne off) 3 L (.ref a :: va_rf q :: st) lw (0, 0) = some (.inl (bif (fun b : Bool => b) (decide (q = some a)) then k + 3 else f, L, st, lw, (0, 0))) := by
  have e1 : rfO (va_rf q) = some q := by cases q <;> rfl
  have e2 : rfB (some a) lw = true := by simp [rfB, h2]
  simp only [stp, ckl, if_true, e1, Option.bind_some, h1, ht, nx, cmpR]
  simp only [rfO, Option.bind_some, h1, e2, Bool.and_self, if_true, bif_not]
theorem E_ldc {idx : Nat} {v : Int32} (hd : decode (mB mi) i = .ok (.ldc idx, 2)) (hk : lk ktab (mC mi) idx = some v) : EV mi T d i (i + 2) L vI (pu v) := E_push hd (fun st lw => by simp [stp, ckl, hk, nx])
theorem E_ldcw {idx : Nat} {v : Int32} (hd : decode (mB mi) i = .ok (.ldc_w idx, 3)) (hk : lk ktab (mC mi) idx = some v) : EV mi T d i (i + 3) L vI (pu v) := E_push hd (fun st lw => by simp [stp, ckl, hk, nx])
theorem E_ldc2 {idx : Nat} {v : Int64} (hd : decode (mB mi) i = .ok (.ldc2_w idx, 3)) (hk : lk ltab (mC mi) idx = some v) : EV mi T d i (i + 3) L vJ (pu v) := E_push hd (fun st lw => by simp [stp, ckl, hk, nx])
theorem E_lds {idx a : Nat} (hd : decode (mB mi) i = .ok (.ldc idx, 2)) (hk : lk ktab (mC mi) idx = none) (hs : lk stab (mC mi) idx = some a) (ha : a < 4) : EV mi T d i (i + 2) L vR (pu (EXT + a)) := E_push hd (fun st lw => by simp [stp, ckl, hk, hs, ha, nx])
theorem E_ldq {ins : Instr} {len : Nat} {q : Option Nat} (hd : decode (mB mi) i = .ok (ins, len)) (hs : ∀ st lw, stp mi i ins len L st lw (0, 0) = some (.inl (j, L, va_rf q :: st, lw, (0, 0)))) : EV mi T d i j L vQ (pu q) := E_push (nu := vQ) hd hs
def xdiv (a b : Int32) : PM Int32 := fun S => if b = 0 then none else some (a / b, S)
def xrem (a b : Int32) : PM Int32 := fun S => if b = 0 then none else some (a - a / b * b, S)
theorem E_div {u : Nat} {e1 e2 : PM Int32} (h1 : EV mi T d i u L vI e1) (h2 : EV mi T (d + 1) u k L vI e2) (hd : decode (mB mi) k = .ok (.idiv, 1)) : EV mi T d i (k + 1) L vI (mb e1 fun a => mb e2 fun b => xdiv a b) := by
  intro S v S' h st r hc kk
  obtain ⟨a, S1, ha, h⟩ := mb_inv h
  obtain ⟨b, S2, hb, h⟩ := mb_inv h
  unfold xdiv at h
  split at h
  · cases h
  next hz =>
  cases h
  refine h1 S a S1 ha st r hc (h2 S1 b _ hb _ r (cats_int hc) (Rn.step hd ?_ kk))
  simp [stp, ckl, dv2, hz, nx]
theorem E_rem {u : Nat} {e1 e2 : PM Int32} (h1 : EV mi T d i u L vI e1) (h2 : EV mi T (d + 1) u k L vI e2) (hd : decode (mB mi) k = .ok (.irem, 1)) : EV mi T d i (k + 1) L vI (mb e1 fun a => mb e2 fun b => xrem a b) := by
  intro S v S' h st r hc kk
  obtain ⟨a, S1, ha, h⟩ := mb_inv h
  obtain ⟨b, S2, hb, h⟩ := mb_inv h
  unfold xrem at h
  split at h
  · cases h
  next hz =>
  cases h
  refine h1 S a S1 ha st r hc (h2 S1 b _ hb _ r (cats_int hc) (Rn.step hd ?_ kk))
  simp [stp, ckl, dv2, hz, nx]
/-- the JDK's own -/
def intF (mi dd : Nat) : Prop := 4 ≤ mF mi ∧ 100 ≤ mO mi ∧ dd + 13 ≤ mO mi ∧ dd ≤ 8
def jabs (x : Int32) : Int32 := if 0 ≤ x then x else 0 - x
def jmax (x y : Int32) : Int32 := if x < y then y else x
def jmin (x y : Int32) : Int32 := if y < x then y else x
def okM (mi dd : Nat) : Prop := 1 ≤ mF mi ∧ dd + 13 ≤ mO mi
theorem M_abs {idx z : Nat} {e : PM Int32} (h1 : EV mi (Tw own o) d i k L vI e) (hd : decode (mB mi) k = .ok (.invokestatic idx, 3)) (hl : lk ctab (mC mi) idx = some (9, z)) (hm : okM mi d) : EV mi (Tw own o) d i (k + 3) L vI (mb e fun x => pu (jabs x)) := by
  intro S v S' h st r hc kk
  obtain ⟨x, S1, hx, h⟩ := mb_inv h
  obtain ⟨rfl, rfl⟩ := pu_inv h
  refine h1 S x S1 hx st r hc (Rn.step hd ?_ kk)
  have h2 := hm.1
  have h3 := hm.2
  unfold cats at hc
  simp only [stp, ckl, inv, hl, if_true, Option.bind_some, NLpos, nx]
  simp only [List.mem_cons, true_or, or_true, not_true, or_false, if_false, false_or]
  rw [if_neg (by omega)]
  rfl
theorem M_max {idx z u : Nat} {e1 e2 : PM Int32} (h1 : EV mi (Tw own o) d i u L vI e1) (h2 : EV mi (Tw own o) (d + 1) u k L vI e2) (hd : decode (mB mi) k = .ok (.invokestatic idx, 3)) (hl : lk ctab (mC mi) idx = some (10, z)) (hm : okM mi d) : EV mi (Tw own o) d i (k + 3) L vI (mb e1 fun x => mb e2 fun y => pu (jmax x y)) := by
  intro S v S' h st r hc kk
  obtain ⟨x, S1, hx, h⟩ := mb_inv h
  obtain ⟨y, S2, hy, h⟩ := mb_inv h
  obtain ⟨rfl, rfl⟩ := pu_inv h
  refine h1 S x S1 hx st r hc (h2 S1 y S2 hy _ r (cats_int hc) (Rn.step hd ?_ kk))
  have h2 := hm.1
  have h3 := hm.2
  unfold cats at hc
  simp only [stp, ckl, inv, hl, if_true, Option.bind_some, NLpos, nx]
  simp only [List.mem_cons, true_or, or_true, not_true, or_false, if_false, false_or]
  rw [if_neg (by omega)]
  rfl
theorem M_min {idx z u : Nat} {e1 e2 : PM Int32} (h1 : EV mi (Tw own o) d i u L vI e1) (h2 : EV mi (Tw own o) (d + 1) u k L vI e2) (hd : decode (mB mi) k = .ok (.invokestatic idx, 3)) (hl : lk ctab (mC mi) idx = some (11, z)) (hm : okM mi d) : EV mi (Tw own o) d i (k + 3) L vI (mb e1 fun x => mb e2 fun y => pu (jmin x y)) := by
  intro S v S' h st r hc kk
  obtain ⟨x, S1, hx, h⟩ := mb_inv h
  obtain ⟨y, S2, hy, h⟩ := mb_inv h
  obtain ⟨rfl, rfl⟩ := pu_inv h
  refine h1 S x S1 hx st r hc (h2 S1 y S2 hy _ r (cats_int hc) (Rn.step hd ?_ kk))
  have h2 := hm.1
  have h3 := hm.2
  unfold cats at hc
  simp only [stp, ckl, inv, hl, if_true, Option.bind_some, NLpos, nx]
  simp only [List.mem_cons, true_or, or_true, not_true, or_false, if_false, false_or]
  rw [if_neg (by omega)]
  rfl
/-- the String constants -/
def sLen (w : Nat) : Int32 := Int32.ofNat (strB.getD w []).length
def sAt (w : Nat) (x : Int32) : PM Int32 := fun S => bif inb x (strB.getD w []).length then some ((strB.getD w []).getD x.toNatClampNeg 0, S) else none
theorem M_len {idx z w : Nat} (hw : w < 4) (h1 : EV mi (Tw own o) d i k L vR (pu (EXT + w))) (hd : decode (mB mi) k = .ok (.invokevirtual idx, 3)) (hl : lk ctab (mC mi) idx = some (7, z)) (hm : intF mi d) : EV mi (Tw own o) d i (k + 3) L vI (pu (sLen w)) := by
  intro S v S' h st r hc kk
  obtain ⟨rfl, rfl⟩ := pu_inv h
  refine h1 S _ S rfl st r hc (Rn.step hd ?_ kk)
  obtain ⟨h2, h3, h4, h5⟩ := hm
  unfold cats at hc
  have e4 : strL.length = 4 := rfl
  simp only [stp, ckl, inv, hl, if_true, Option.bind_some, NLpos, nx]
  simp only [List.mem_cons, true_or, or_true, not_true, or_false, if_false, false_or, Nat.add_sub_cancel_left, e4]
  rw [if_neg (by simp; omega)]
  rfl
theorem M_at {idx z w u : Nat} {e : PM Int32} (hw : w < 4) (h1 : EV mi (Tw own o) d i u L vR (pu (EXT + w))) (h2 : EV mi (Tw own o) (d + 1) u k L vI e) (hd : decode (mB mi) k = .ok (.invokevirtual idx, 3)) (hl : lk ctab (mC mi) idx = some (8, z)) (hm : intF mi d) : EV mi (Tw own o) d i (k + 3) L vI (mb e fun x => sAt w x) := by
  intro S v S' h st r hc kk
  obtain ⟨x, S1, hx, h⟩ := mb_inv h
  unfold sAt at h
  cases hb : inb x (strB.getD w []).length with
  | false => rw [hb] at h; cases h
  | true =>
    rw [hb] at h
    cases h
    refine h1 S _ S rfl st r hc (h2 S x _ hx _ r (cats_ref hc) (Rn.step hd ?_ kk))
    obtain ⟨h2, h3, h4, h5⟩ := hm
    unfold cats at hc
    have e4 : strL.length = 4 := rfl
    simp only [stp, ckl, inv, hl, if_true, Option.bind_some, NLpos, nx]
    simp only [List.mem_cons, true_or, or_true, not_true, or_false, if_false, false_or, Nat.add_sub_cancel_left, e4, hb]
    rw [if_neg (by simp; omega)]
/-- System.arraycopy -/
def xcpy (a0 n0 : Nat) (sp : Int32) (a n1 : Nat) (dp n : Int32) : PM Unit := fun S =>
  if sp < 0 ∨ dp < 0 ∨ n < 0 ∨ n0 < sp.toNatClampNeg + n.toNatClampNeg ∨ n1 < dp.toNatClampNeg + n.toNatClampNeg then none else
    some ((), (S.1, S.2.1, S.2.2.1, S.2.2.2.1, (fun x => if x = a then va_cpy (ai S a0) (ai S a) sp.toNatClampNeg dp.toNatClampNeg n.toNatClampNeg else S.2.2.2.2.1 x), S.2.2.2.2.2))
theorem M_cpy {idx z u1 u2 u3 u4 a0 a n0 n1 : Nat} {e1 e2 e3 : PM Int32} (h0 : own 0 = false) (g1 : EV mi (Tw own o) d i u1 L vR (pu a0)) (k0 : okD own a0 (1, n0)) (g2 : EV mi (Tw own o) (d + 1) u1 u2 L vI e1) (g3 : EV mi (Tw own o) (d + 2) u2 u3 L vR (pu a)) (k1 : okD own a (1, n1)) (g4 : EV mi (Tw own o) (d + 3) u3 u4 L vI e2) (g5 : EV mi (Tw own o) (d + 4) u4 k L vI e3)
    (hd : decode (mB mi) k = .ok (.invokestatic idx, 3)) (hl : lk ctab (mC mi) idx = some (6, z)) (hm : 1 ≤ mF mi ∧ d + (nativeFrameWords "java/lang/System" "arraycopy" 5 + 11) ≤ mO mi) : EU mi (Tw own o) d i (k + 3) L (mb e1 fun sp => mb e2 fun dp => mb e3 fun n => xcpy a0 n0 sp a n1 dp n) := by
  intro S v S' h st r hc kk
  obtain ⟨sp, S1, x1, h⟩ := mb_inv h
  obtain ⟨dp, S2, x2, h⟩ := mb_inv h
  obtain ⟨n, S3, x3, h⟩ := mb_inv h
  unfold xcpy at h
  split at h
  · cases h
  next hz =>
  cases h
  simp only [not_or, Nat.not_lt] at hz
  obtain ⟨z1, z2, z3, z4, z5⟩ := hz
  have hb : ∀ b, b ≠ a → celS (S3.1, S3.2.1, S3.2.2.1, S3.2.2.2.1, (fun x => if x = a then va_cpy (ai S3 a0) (ai S3 a) sp.toNatClampNeg dp.toNatClampNeg n.toNatClampNeg else S3.2.2.2.2.1 x), S3.2.2.2.2.2) b = celS S3 b := fun b hb => cel_ne rfl rfl rfl rfl (by simp [ai, hb]) rfl rfl
  have e : (Tw own o S3).set a (.inl (0, n1, .inl (va_cpy (ai S3 a0) (ai S3 a) sp.toNatClampNeg dp.toNatClampNeg n.toNatClampNeg))) = Tw own o (S3.1, S3.2.1, S3.2.2.1, S3.2.2.2.1, (fun x => if x = a then va_cpy (ai S3 a0) (ai S3 a) sp.toNatClampNeg dp.toNatClampNeg n.toNatClampNeg else S3.2.2.2.2.1 x), S3.2.2.2.2.2) := by
    rw [← Tw_set k1.1 hb]
    congr 1
    simp only [celS, k1.2.2]
    congr 4
    simp [ai]
  refine g1 S a0 S rfl st r hc (g2 S sp S1 x1 _ r (cats_ref hc) (g3 S1 a S1 rfl _ r (cats_int (cats_ref hc)) (g4 S1 dp S2 x2 _ r (cats_ref (cats_int (cats_ref hc))) (g5 S2 n S3 x3 _ r (cats_int (cats_ref (cats_int (cats_ref hc)))) (Rn.step hd ?_ kk)))))
  have h2 := hm.1
  have h3 := hm.2
  unfold cats at hc
  simp only [stp, ckl, inv, hl, if_true, Option.bind_some, NLpos, nx]
  simp only [List.mem_cons, true_or, or_true, not_true, or_false, if_false, false_or]
  rw [if_neg (by simp only [okD_ne h0 k0, okD_ne h0 k1, z1, z2, z3, false_or, or_false]; omega), arI_at k0, arI_at k1]
  simp only [Option.bind_some]
  rw [if_neg (by omega), e]
/-- the Days and what they hold -/
def isDay (t : Nat) : Prop := t = 29 ∨ t = 80
theorem okD_dec {own : Nat → Bool} {a : Nat} {x : Nat × Nat} (h : (own a && decide (a < NL) && decide (dsc a = x)) = true) : okD own a x := by
  simp only [Bool.and_eq_true, decide_eq_true_eq] at h
  exact ⟨h.1.1, h.1.2, h.2⟩
theorem day_ok {t : Nat} (h : isDay t) : okD ownC t (0, 2) := by rcases h with rfl | rfl <;> exact okD_dec rfl
theorem day_calls {t : Nat} (h : isDay t) : okD ownC (t + 1) (4, 40) := by rcases h with rfl | rfl <;> exact okD_dec rfl
theorem day_idle {t : Nat} (h : isDay t) : okD ownC (t + 2) (1, 20) := by rcases h with rfl | rfl <;> exact okD_dec rfl
theorem day_talked {t : Nat} (h : isDay t) : okD ownC (t + 3) (1, 20) := by rcases h with rfl | rfl <;> exact okD_dec rfl
theorem day_handsLeft {t : Nat} (h : isDay t) : okD ownC (t + 4) (1, 8) := by rcases h with rfl | rfl <;> exact okD_dec rfl
theorem day_row {t : Nat} (h : isDay t) : okD ownC (t + 5) (3, 40) := by rcases h with rfl | rfl <;> exact okD_dec rfl
theorem day_r0 {t : Nat} (h : isDay t) : rfs t 0 = 2 := by rcases h with rfl | rfl <;> rfl
theorem day_r1 {t : Nat} (h : isDay t) : rfs t 1 = 11 := by rcases h with rfl | rfl <;> rfl
theorem day_r2 {t : Nat} (h : isDay t) : rfs t 2 = 24 := by rcases h with rfl | rfl <;> rfl
theorem day_r3 {t : Nat} (h : isDay t) : rfs t 3 = 16 := by rcases h with rfl | rfl <;> rfl
theorem day_r4 {t : Nat} (h : isDay t) : rfs t 4 = t + 1 := by rcases h with rfl | rfl <;> rfl
theorem day_r8 {t : Nat} (h : isDay t) : rfs t 8 = t + 2 := by rcases h with rfl | rfl <;> rfl
theorem day_r9 {t : Nat} (h : isDay t) : rfs t 9 = t + 3 := by rcases h with rfl | rfl <;> rfl
theorem day_r15 {t : Nat} (h : isDay t) : rfs t 15 = t + 4 := by rcases h with rfl | rfl <;> rfl
theorem day_r16 {t : Nat} (h : isDay t) : rfs t 16 = t + 5 := by rcases h with rfl | rfl <;> rfl
theorem cst_all : (List.range 40).all (fun j => (ownC (cst 30 j) && decide (cst 30 j < NL) && decide (dsc (cst 30 j) = (0, 0))) && (ownC (cst 81 j) && decide (cst 81 j < NL) && decide (dsc (cst 81 j) = (0, 0)))) = true := by decide +kernel
theorem sureK {t : Nat} (h : isDay t) {x : Int32} : Sure (fun a => okD ownC a (0, 0)) (rK (t + 1) 40 x) := fun S v S' q => by
  unfold rK at q
  cases hb : inb x 40 with
  | false => rw [hb] at q; cases q
  | true =>
    rw [hb] at q
    cases q
    have hlt : x.toNatClampNeg < 40 := Nat.not_le.mp fun z => inb_in hb (Or.inr z)
    have hc := List.all_eq_true.mp cst_all _ (List.mem_range.mpr hlt)
    rw [Bool.and_eq_true] at hc
    rcases h with rfl | rfl
    · exact okD_dec hc.1
    · exact okD_dec hc.2
theorem ownC0 : ownC 0 = false := rfl
theorem ownR0 : ownR 0 = false := rfl
end more
section more2
variable {mi i j k d t f u : Nat} {own : Nat → Bool} {o : Nat → va_E} {L : Lcl} {T : Sg → LW}
theorem E_alen {a n : Nat} (h1 : EV mi (Tw own o) d i k L vR (pu a)) (hok : okD own a (1, n)) (hd : decode (mB mi) k = .ok (.arraylength, 1)) : EV mi (Tw own o) d i (k + 1) L vI (pu (Int32.ofNat n)) := by
  intro S v S' h st r hc kk
  obtain ⟨rfl, rfl⟩ := pu_inv h
  refine h1 S _ S rfl st r hc (Rn.step hd ?_ kk)
  have e : (Tw own o S)[a]? = some (.inl (0, n, .inl (ai S a))) := by
    rw [Tw_at hok.1 hok.2.1]
    simp only [celS, hok.2.2]
  simp [stp, ckl, e, nx]
theorem E_ifB {c a b : PM Bool} {t2 f2 u2 u3 : Nat} {off off2 : Int} (h : CD mi T d i t f L c) (ha : CD mi T d t t2 f2 L a) (g1 : decode (mB mi) t2 = .ok (.iconst 1, 1)) (e1 : t2 + 1 = u2) (g2 : decode (mB mi) u2 = .ok (.goto off, 3)) (e2 : jmp u2 off = some j) (g3 : decode (mB mi) f2 = .ok (.iconst 0, 1)) (e3 : f2 + 1 = u3) (g4 : decode (mB mi) u3 = .ok (.goto off2, 3)) (e4 : jmp u3 off2 = some j) (hb : EV mi T d f j L vB b) : EV mi T d i j L vB (mif c a b) := by
  intro S v S' h1 st r hc kk
  obtain ⟨x, S1, hx, h1⟩ := mif_inv h1
  refine h S x S1 hx st r hc ?_
  cases x
  · exact hb S1 v S' h1 st r hc kk
  · refine ha S1 v S' h1 st r hc ?_
    cases v
    · refine Rn.step g3 (x := (u3, L, .int 0 :: st, T S', (0, 0))) (by rw [← e3]; rfl) (Rn.step g4 ?_ kk)
      simp [stp, ckl, go, e4, nx, b2i]
    · refine Rn.step g1 (x := (u2, L, .int 1 :: st, T S', (0, 0))) (by rw [← e1]; rfl) (Rn.step g2 ?_ kk)
      simp [stp, ckl, go, e2, nx, b2i]
theorem MT_ofL {α : Type} {as : List Value} {nu : α → Option Value} {p : PM α} (hL : entL (mL mi) as = L) (h : GS mi T 0 L (Kret T nu) p) : MT mi T as nu p := by
  subst hL
  exact MT_of h
theorem isDay_of {a : Nat} (h : okD ownC a (0, 2)) : isDay a := by
  have hall : (List.range 183).all (fun b => !(ownC b && decide (dsc b = (0, 2))) || decide (b = 29) || decide (b = 80)) = true := by decide +kernel
  have h2 := List.all_eq_true.mp hall a (List.mem_range.mpr h.2.1)
  simp only [h.1, h.2.2, Bool.or_eq_true, Bool.not_eq_true', decide_eq_true_eq, Bool.and_true, decide_true] at h2
  rcases h2 with (h2 | h2) | h2
  · simp at h2
  · exact Or.inl h2
  · exact Or.inr h2
end more2
