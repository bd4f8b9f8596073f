/-! the plain machine: one frame's run over a list of cells; a call is a run of its own -/
abbrev LW : Type := List va_E
abbrev Lcl : Type := List (Option Value)
abbrev St : Type := Nat × Lcl × List Value × LW × (Nat × Nat)
abbrev SR : Type := Option (St ⊕ ((Nat × List Value × List Value) ⊕ Option Value))
def EXT : Nat := 1000000
def argL : List Value → Lcl
  | [] => []
  | v :: vs => if v.category = 2 then some v :: none :: argL vs else some v :: argL vs
def entL (n : Nat) (as : List Value) : Lcl := argL as ++ List.replicate (n - (argL as).length) none
def cat2 : Option (Option Value) → Bool
  | some (some v) => v.category == 2
  | _ => false
def killL (L : Lcl) : Nat → Lcl
  | 0 => L
  | j + 1 => bif cat2 L[j]? then L.set j none else L
def st1 (L : Lcl) (i : Nat) (v : Value) : Option Lcl := if i < L.length then some ((killL L i).set i (some v)) else none
def st2 (L : Lcl) (i : Nat) (v : Value) : Option Lcl := if i + 1 < L.length then some (((killL L i).set i (some v)).set (i + 1) none) else none
def ldv (L : Lcl) (i : Nat) : Option Value := match L[i]? with
  | some (some v) => some v
  | _ => none
def jmp (pc : Nat) (off : Int) : Option Nat := if 0 ≤ (pc : Int) + off then some ((pc : Int) + off).toNat else none
def nx (pc : Nat) (L : Lcl) (st : List Value) (lw : LW) (cs : Nat × Nat) : SR := some (.inl (pc, L, st, lw, cs))
def go (pc : Nat) (off : Int) (L : Lcl) (st : List Value) (lw : LW) (cs : Nat × Nat) : SR := (jmp pc off).bind fun t => nx t L st lw cs
def ckl (a b : Nat) (r : SR) : SR := if a = b then r else none
def inb (i : Int32) (n : Nat) : Bool := !(decide (i < 0) || decide (n ≤ i.toNatClampNeg))
def dflt (c : Nat) : List Value := (fD.getD c []).map (fun q => defaultValue q.2.2.2.2)
def fitV (ty : FieldType) (v : Value) : Bool := match ty, v with
  | .int, .int _ => true
  | .boolean, .int x => decide (x = 0) || decide (x = 1)
  | .long, .long _ => true
  | .object _, .null => true
  | .object _, .ref _ => true
  | .array _, .ref _ => true
  | _, _ => false
def cmp0 (c : ClassFile.Cond) (x : Int32) : Bool := match c with
  | .eq => decide (x = 0) | .ne => !decide (x = 0) | .lt => decide (x < 0) | .ge => decide (0 ≤ x) | .gt => decide (0 < x) | .le => decide (x ≤ 0)
def cmp2 (c : ClassFile.Cond) (x y : Int32) : Bool := match c with
  | .eq => decide (x = y) | .ne => !decide (x = y) | .lt => decide (x < y) | .ge => decide (y ≤ x) | .gt => decide (y < x) | .le => decide (x ≤ y)
def cmpR (c : ClassFile.ACond) (x y : Option Nat) : Bool := match c with
  | .eq => decide (x = y) | .ne => !decide (x = y)
def lcm (x y : Int64) : Int32 := lg_cmp x y
def rfO (v : Value) : Option (Option Nat) := match v with
  | .null => some none
  | .ref a => some (some a)
  | _ => none
def rfB (r : Option Nat) (lw : LW) : Bool := match r with
  | none => true
  | some a => decide (a < lw.length)
/-- the cells of an array of ints, of booleans, of references -/
def arI (lw : LW) (t a : Nat) : Option (Nat × (Nat → Int32)) := match lw[a]? with
  | some (.inl (t', n, .inl f)) => if t' = t then some (n, f) else none
  | _ => none
def arR (lw : LW) (a : Nat) : Option (Nat × (Nat → Option Nat)) := match lw[a]? with
  | some (.inl (t', n, .inr (.inr (.inr (.inr f))))) => if t' = 2 then some (n, f) else none
  | _ => none
def obj (lw : LW) (a : Nat) : Option (Nat × List Value) := match lw[a]? with
  | some (.inr o) => some o
  | _ => none
def iLd (t pc : Nat) (L : Lcl) (st : List Value) (lw : LW) (cs : Nat × Nat) : SR := match st with
  | .int j :: .ref a :: r => if a = 0 ∧ ¬ t = 0 then none else (arI lw t a).bind fun q => if inb j q.1 then nx (pc + 1) L (.int (q.2 j.toNatClampNeg) :: r) lw cs else none
  | _ => none
def iSt (t pc : Nat) (L : Lcl) (st : List Value) (lw : LW) (cs : Nat × Nat) : SR := match st with
  | .int x :: .int j :: .ref a :: r => if t = 1 ∧ ¬ (x = 0 ∨ x = 1) ∨ a = 0 then none else
      (arI lw t a).bind fun q => if inb j q.1 then nx (pc + 1) L r (lw.set a (.inl (t, q.1, .inl (upd q.2 j.toNatClampNeg x)))) cs else none
  | _ => none
def rLd (pc : Nat) (L : Lcl) (st : List Value) (lw : LW) (cs : Nat × Nat) : SR := match st with
  | .int j :: .ref a :: r => if a = 0 then none else (arR lw a).bind fun q => if inb j q.1 then nx (pc + 1) L (va_rf (q.2 j.toNatClampNeg) :: r) lw cs else none
  | _ => none
def rSt (pc : Nat) (L : Lcl) (st : List Value) (lw : LW) (cs : Nat × Nat) : SR := match st with
  | v :: .int j :: .ref a :: r => if a = 0 then none else match v with
    | .null => (arR lw a).bind fun q => if inb j q.1 then nx (pc + 1) L r (lw.set a (.inl (2, q.1, .inr (.inr (.inr (.inr (va_up q.2 j.toNatClampNeg none))))))) cs else none
    | .ref w => (arR lw a).bind fun q => (obj lw w).bind fun o => if o.1 = 0 then (if inb j q.1 then nx (pc + 1) L r (lw.set a (.inl (2, q.1, .inr (.inr (.inr (.inr (va_up q.2 j.toNatClampNeg (some w)))))))) cs else none) else none
    | _ => none
  | _ => none
def gtF (mi idx pc : Nat) (L : Lcl) (st : List Value) (lw : LW) (cs : Nat × Nat) : SR := match st with
  | .ref a :: r => (lk ftab (mC mi) idx).bind fun f => (obj lw a).bind fun o => if o.1 = f.1 then (o.2[f.2]?).bind fun v => nx (pc + 3) L (v :: r) lw cs else none
  | _ => none
def ptF (mi idx pc : Nat) (L : Lcl) (st : List Value) (lw : LW) (cs : Nat × Nat) : SR := match st with
  | v :: .ref a :: r => (lk ftab (mC mi) idx).bind fun f => (obj lw a).bind fun o =>
      if o.1 = f.1 ∧ a ≠ 0 ∧ f.2 < o.2.length ∧ fitV (tyF f.1 f.2) v = true ∧ ((TT f.1 f.2).2.2.2 = true → (mK mi = 2 ∧ mC mi = f.1)) then nx (pc + 3) L r (lw.set a (.inr (o.1, o.2.set f.2 v))) cs else none
  | _ => none
def nwA (mi pc t w : Nat) (e : Nat → vp_A) (L : Lcl) (st : List Value) (lw : LW) (cs : Nat × Nat) : SR := match st with
  | .int n :: r => if n < 0 ∨ 20000 < n.toNatClampNeg ∨ mMc mi < cs.1 + 1 ∨ mMs mi < cs.2 + n.toNatClampNeg ∨ EXT ≤ lw.length ∨ lw.length = 0 then none else
      nx (pc + w) L (.ref lw.length :: r) (lw ++ [.inl (t, e n.toNatClampNeg)]) (cs.1 + 1, cs.2 + n.toNatClampNeg)
  | _ => none
def nwO (mi idx pc : Nat) (L : Lcl) (st : List Value) (lw : LW) (cs : Nat × Nat) : SR := (lk cltab (mC mi) idx).bind fun c =>
  if 11 ≤ c ∨ mMc mi < cs.1 + 1 ∨ mMs mi < cs.2 + fN c ∨ EXT ≤ lw.length ∨ lw.length = 0 then none else
    nx (pc + 3) L (.ref lw.length :: st) (lw ++ [.inr (c, dflt c)]) (cs.1 + 1, cs.2 + fN c)
/-- a call of a method with code -/
def cal (mi j n : Nat) (st : List Value) (cs : Nat × Nat) : SR :=
  if n ≤ st.length ∧ (argL (st.take n).reverse).length ≤ mL j ∧ ((st.drop n).map (fun v => v.category)).sum ≤ 8 ∧ mF j + 1 ≤ mF mi ∧ 8 + (mL j + 11) + mO j ≤ mO mi ∧ cs.1 + mMc j ≤ mMc mi ∧ cs.2 + mMs j ≤ mMs mi ∧ j < iLaw then
    some (.inr (.inl (j, (st.take n).reverse, st.drop n))) else none
def recv (st : List Value) (lw : LW) (n j : Nat) : Bool := match st[n]? with
  | some (.ref b) => match obj lw b with
    | some o => decide (o.1 = mC j) && decide (o.1 < 11)
    | none => false
  | _ => false
def inv (mi idx pc : Nat) (ks : List Nat) (L : Lcl) (st : List Value) (lw : LW) (cs : Nat × Nat) : SR := (lk ctab (mC mi) idx).bind fun q =>
  if ¬ q.1 ∈ ks ∨ lw.length = 0 then none else match q.1 with
  | 0 => if recv st lw (mA q.2) q.2 then cal mi q.2 (mA q.2 + 1) st cs else none
  | 1 => cal mi q.2 (mA q.2) st cs
  | 2 => if recv st lw (mA q.2) q.2 ∧ mK q.2 = 2 then cal mi q.2 (mA q.2 + 1) st cs else none
  | 3 => cal mi q.2 (mA q.2) st cs
  | 4 => if recv st lw (mA q.2) q.2 ∧ mK q.2 = 2 then cal mi q.2 (mA q.2 + 1) st cs else none
  | 5 => match st with
    | .ref _ :: r => if (r.map (fun v => v.category)).sum + 12 ≤ mO mi ∧ 1 ≤ mF mi then nx (pc + 3) L r lw cs else none
    | _ => none
  | 6 => match st with
    | .int n :: .int dp :: .ref a :: .int sp :: .ref a0 :: r => if a = 0 ∨ a0 = 0 ∨ sp < 0 ∨ dp < 0 ∨ n < 0 ∨ mF mi < 1 ∨ mO mi < (r.map (fun v => v.category)).sum + (nativeFrameWords "java/lang/System" "arraycopy" 5 + 11) then none else
        (arI lw 0 a0).bind fun q0 => (arI lw 0 a).bind fun q1 => if q0.1 < sp.toNatClampNeg + n.toNatClampNeg ∨ q1.1 < dp.toNatClampNeg + n.toNatClampNeg then none else
          nx (pc + 3) L r (lw.set a (.inl (0, q1.1, .inl (va_cpy q0.2 q1.2 sp.toNatClampNeg dp.toNatClampNeg n.toNatClampNeg)))) cs
    | _ => none
  | 7 => match st with
    | .ref a :: r => if a < EXT ∨ EXT + strL.length ≤ a ∨ mF mi < 4 ∨ mO mi < 100 ∨ mMc mi < cs.1 ∨ mMs mi < cs.2 ∨ 8 < (r.map (fun v => v.category)).sum then none else nx (pc + 3) L (.int (Int32.ofNat (strB.getD (a - EXT) []).length) :: r) lw cs
    | _ => none
  | 8 => match st with
    | .int j :: .ref a :: r => if a < EXT ∨ EXT + strL.length ≤ a ∨ mF mi < 4 ∨ mO mi < 100 ∨ mMc mi < cs.1 ∨ mMs mi < cs.2 ∨ 8 < (r.map (fun v => v.category)).sum ∨ inb j (strB.getD (a - EXT) []).length = false then none else nx (pc + 3) L (.int ((strB.getD (a - EXT) []).getD j.toNatClampNeg 0) :: r) lw cs
    | _ => none
  | 9 => match st with
    | .int x :: r => if mF mi < 1 ∨ mO mi < (r.map (fun v => v.category)).sum + 13 ∨ mMc mi < cs.1 ∨ mMs mi < cs.2 then none else nx (pc + 3) L (.int (if 0 ≤ x then x else 0 - x) :: r) lw cs
    | _ => none
  | 10 => match st with
    | .int y :: .int x :: r => if mF mi < 1 ∨ mO mi < (r.map (fun v => v.category)).sum + 13 ∨ mMc mi < cs.1 ∨ mMs mi < cs.2 then none else nx (pc + 3) L (.int (if x < y then y else x) :: r) lw cs
    | _ => none
  | _ => match st with
    | .int y :: .int x :: r => if mF mi < 1 ∨ mO mi < (r.map (fun v => v.category)).sum + 13 ∨ mMc mi < cs.1 ∨ mMs mi < cs.2 then none else nx (pc + 3) L (.int (if y < x then y else x) :: r) lw cs
    | _ => none
def stI (L : Lcl) (i pc : Nat) (st : List Value) (lw : LW) (cs : Nat × Nat) : SR := match st with
  | .int x :: r => (st1 L i (.int x)).bind fun L' => nx pc L' r lw cs
  | _ => none
def stA (L : Lcl) (i pc : Nat) (st : List Value) (lw : LW) (cs : Nat × Nat) : SR := match st with
  | .ref x :: r => (st1 L i (.ref x)).bind fun L' => nx pc L' r lw cs
  | .null :: r => (st1 L i .null).bind fun L' => nx pc L' r lw cs
  | _ => none
def stJ (L : Lcl) (i pc : Nat) (st : List Value) (lw : LW) (cs : Nat × Nat) : SR := match st with
  | .long x :: r => (st2 L i (.long x)).bind fun L' => nx pc L' r lw cs
  | _ => none
def ldI (L : Lcl) (i pc : Nat) (st : List Value) (lw : LW) (cs : Nat × Nat) : SR := match ldv L i with
  | some (.int x) => nx pc L (.int x :: st) lw cs
  | _ => none
def ldJ (L : Lcl) (i pc : Nat) (st : List Value) (lw : LW) (cs : Nat × Nat) : SR := match ldv L i with
  | some (.long x) => nx pc L (.long x :: st) lw cs
  | _ => none
def ldA (L : Lcl) (i pc : Nat) (st : List Value) (lw : LW) (cs : Nat × Nat) : SR := match ldv L i with
  | some (.ref x) => nx pc L (.ref x :: st) lw cs
  | some .null => nx pc L (.null :: st) lw cs
  | _ => none
def bi2 (f : Int32 → Int32 → Int32) (pc : Nat) (L : Lcl) (st : List Value) (lw : LW) (cs : Nat × Nat) : SR := match st with
  | .int y :: .int x :: r => nx (pc + 1) L (.int (f x y) :: r) lw cs
  | _ => none
def bl2 (f : Int64 → Int64 → Int64) (pc : Nat) (L : Lcl) (st : List Value) (lw : LW) (cs : Nat × Nat) : SR := match st with
  | .long y :: .long x :: r => nx (pc + 1) L (.long (f x y) :: r) lw cs
  | _ => none
def bls (f : Int64 → Int32 → Int64) (pc : Nat) (L : Lcl) (st : List Value) (lw : LW) (cs : Nat × Nat) : SR := match st with
  | .int y :: .long x :: r => nx (pc + 1) L (.long (f x y) :: r) lw cs
  | _ => none
def dv2 (f : Int32 → Int32 → Int32) (pc : Nat) (L : Lcl) (st : List Value) (lw : LW) (cs : Nat × Nat) : SR := match st with
  | .int y :: .int x :: r => if y = 0 then none else nx (pc + 1) L (.int (f x y) :: r) lw cs
  | _ => none
def jsh (x y : Int32) : Int32 := x <<< (y &&& 31)
def jsr' (x y : Int32) : Int32 := x >>> (y &&& 31)
def jus (x y : Int32) : Int32 := (x.toUInt32 >>> (y.toUInt32 &&& Int32.toUInt32 31)).toInt32
def llsh (x : Int64) (y : Int32) : Int64 := x <<< (y.toInt64 &&& 63)
def llsr (x : Int64) (y : Int32) : Int64 := x >>> (y.toInt64 &&& 63)
def llus (x : Int64) (y : Int32) : Int64 := (x.toUInt64 >>> (y.toInt64.toUInt64 &&& Int64.toUInt64 63)).toInt64
def swT (dflt lo : Int) (offs : Array Int) (hi : Int) (x : Int32) : Option Int := if x.toInt < lo ∨ hi < x.toInt then some dflt else offs[(x.toInt - lo).toNat]?
def stp (mi pc : Nat) (i : Instr) (len : Nat) (L : Lcl) (st : List Value) (lw : LW) (cs : Nat × Nat) : SR := match i with
  | .aload_n k => ckl len 1 (ldA L k (pc + 1) st lw cs)
  | .aload k => ckl len 2 (ldA L k (pc + 2) st lw cs)
  | .iload_n k => ckl len 1 (ldI L k (pc + 1) st lw cs)
  | .iload k => ckl len 2 (ldI L k (pc + 2) st lw cs)
  | .lload_n k => ckl len 1 (ldJ L k (pc + 1) st lw cs)
  | .lload k => ckl len 2 (ldJ L k (pc + 2) st lw cs)
  | .astore_n k => ckl len 1 (stA L k (pc + 1) st lw cs)
  | .astore k => ckl len 2 (stA L k (pc + 2) st lw cs)
  | .istore_n k => ckl len 1 (stI L k (pc + 1) st lw cs)
  | .istore k => ckl len 2 (stI L k (pc + 2) st lw cs)
  | .lstore_n k => ckl len 1 (stJ L k (pc + 1) st lw cs)
  | .lstore k => ckl len 2 (stJ L k (pc + 2) st lw cs)
  | .iinc k n => ckl len 3 (match ldv L k with
    | some (.int x) => (st1 L k (.int (x + Int32.ofInt n))).bind fun L' => nx (pc + 3) L' st lw cs
    | _ => none)
  | .iconst n => ckl len 1 (nx (pc + 1) L (.int (Int32.ofInt n) :: st) lw cs)
  | .bipush n => ckl len 2 (nx (pc + 2) L (.int (Int8.ofInt n).toInt32 :: st) lw cs)
  | .sipush n => ckl len 3 (nx (pc + 3) L (.int (Int16.ofInt n).toInt32 :: st) lw cs)
  | .lconst n => ckl len 1 (nx (pc + 1) L (.long (Int64.ofNat (n : Nat)) :: st) lw cs)
  | .aconst_null => ckl len 1 (nx (pc + 1) L (.null :: st) lw cs)
  | .ldc k => ckl len 2 (match lk ktab (mC mi) k with
    | some x => nx (pc + 2) L (.int x :: st) lw cs
    | none => (lk stab (mC mi) k).bind fun a => if a < 4 then nx (pc + 2) L (.ref (EXT + a) :: st) lw cs else none)
  | .ldc_w k => ckl len 3 ((lk ktab (mC mi) k).bind fun x => nx (pc + 3) L (.int x :: st) lw cs)
  | .ldc2_w k => ckl len 3 ((lk ltab (mC mi) k).bind fun x => nx (pc + 3) L (.long x :: st) lw cs)
  | .iadd => ckl len 1 (bi2 (fun x y => x + y) pc L st lw cs)
  | .isub => ckl len 1 (bi2 (fun x y => x - y) pc L st lw cs)
  | .imul => ckl len 1 (bi2 (fun x y => x * y) pc L st lw cs)
  | .iand => ckl len 1 (bi2 (fun x y => x &&& y) pc L st lw cs)
  | .ior => ckl len 1 (bi2 (fun x y => x ||| y) pc L st lw cs)
  | .ixor => ckl len 1 (bi2 (fun x y => x ^^^ y) pc L st lw cs)
  | .ishl => ckl len 1 (bi2 jsh pc L st lw cs)
  | .ishr => ckl len 1 (bi2 jsr' pc L st lw cs)
  | .iushr => ckl len 1 (bi2 jus pc L st lw cs)
  | .idiv => ckl len 1 (dv2 (fun x y => x / y) pc L st lw cs)
  | .irem => ckl len 1 (dv2 (fun x y => x - x / y * y) pc L st lw cs)
  | .ineg => ckl len 1 (match st with
    | .int x :: r => nx (pc + 1) L (.int (-x) :: r) lw cs
    | _ => none)
  | .ladd => ckl len 1 (bl2 (fun x y => x + y) pc L st lw cs)
  | .lsub => ckl len 1 (bl2 (fun x y => x - y) pc L st lw cs)
  | .lmul => ckl len 1 (bl2 (fun x y => x * y) pc L st lw cs)
  | .land => ckl len 1 (bl2 (fun x y => x &&& y) pc L st lw cs)
  | .lor => ckl len 1 (bl2 (fun x y => x ||| y) pc L st lw cs)
  | .lshl => ckl len 1 (bls llsh pc L st lw cs)
  | .lshr => ckl len 1 (bls llsr pc L st lw cs)
  | .lushr => ckl len 1 (bls llus pc L st lw cs)
  | .lcmp => ckl len 1 (match st with
    | .long y :: .long x :: r => nx (pc + 1) L (.int (lcm x y) :: r) lw cs
    | _ => none)
  | .i2l => ckl len 1 (match st with
    | .int x :: r => nx (pc + 1) L (.long x.toInt64 :: r) lw cs
    | _ => none)
  | .l2i => ckl len 1 (match st with
    | .long x :: r => nx (pc + 1) L (.int x.toInt32 :: r) lw cs
    | _ => none)
  | .dup => ckl len 1 (match st with
    | v :: r => if v.category = 1 then nx (pc + 1) L (v :: v :: r) lw cs else none
    | _ => none)
  | .dup2 => ckl len 1 (match st with
    | v :: w :: r => if v.category = 1 ∧ w.category = 1 then nx (pc + 1) L (v :: w :: v :: w :: r) lw cs else none
    | _ => none)
  | .pop => ckl len 1 (match st with
    | v :: r => if v.category = 1 then nx (pc + 1) L r lw cs else none
    | _ => none)
  | .ifCond c off => ckl len 3 (match st with
    | .int x :: r => (jmp pc off).bind fun t => nx (bif cmp0 c x then t else pc + 3) L r lw cs
    | _ => none)
  | .if_icmp c off => ckl len 3 (match st with
    | .int y :: .int x :: r => (jmp pc off).bind fun t => nx (bif cmp2 c x y then t else pc + 3) L r lw cs
    | _ => none)
  | .if_acmp c off => ckl len 3 (match st with
    | w :: v :: r => (rfO w).bind fun ry => (rfO v).bind fun rx => if rfB rx lw && rfB ry lw then (jmp pc off).bind fun t => nx (bif cmpR c rx ry then t else pc + 3) L r lw cs else none
    | _ => none)
  | .ifnull off => ckl len 3 (match st with
    | .null :: r => go pc off L r lw cs
    | .ref _ :: r => nx (pc + 3) L r lw cs
    | _ => none)
  | .ifnonnull off => ckl len 3 (match st with
    | .null :: r => nx (pc + 3) L r lw cs
    | .ref _ :: r => go pc off L r lw cs
    | _ => none)
  | .goto off => ckl len 3 (go pc off L st lw cs)
  | .tableswitch dflt lo hi offs => match st with
    | .int x :: r => (swT dflt lo offs hi x).bind fun off => go pc off L r lw cs
    | _ => none
  | .lookupswitch dflt ps => match st with
    | .int x :: r => if (ps.toList.zip (ps.toList.drop 1)).all (fun (a, next) => a.1 < next.1) = true then go pc (Op.lookupswitch.offset ps.toList dflt x.toInt) L r lw cs else none
    | _ => none
  | .getfield k => ckl len 3 (gtF mi k pc L st lw cs)
  | .putfield k => ckl len 3 (ptF mi k pc L st lw cs)
  | .iaload => ckl len 1 (iLd 0 pc L st lw cs)
  | .iastore => ckl len 1 (iSt 0 pc L st lw cs)
  | .baload => ckl len 1 (iLd 1 pc L st lw cs)
  | .bastore => ckl len 1 (iSt 1 pc L st lw cs)
  | .aaload => ckl len 1 (rLd pc L st lw cs)
  | .aastore => ckl len 1 (rSt pc L st lw cs)
  | .arraylength => ckl len 1 (match st with
    | .ref a :: r => match lw[a]? with
      | some (.inl (t, n, _)) => if a = 0 ∧ ¬ t = 0 then none else nx (pc + 1) L (.int (Int32.ofNat n) :: r) lw cs
      | _ => none
    | _ => none)
  | .new k => ckl len 3 (nwO mi k pc L st lw cs)
  | .newarray .int => ckl len 2 (nwA mi pc 0 2 (fun n => (n, .inl (fun _ => 0))) L st lw cs)
  | .newarray .boolean => ckl len 2 (nwA mi pc 1 2 (fun n => (n, .inl (fun _ => 0))) L st lw cs)
  | .anewarray k => ckl len 3 (if lk cltab (mC mi) k = some 0 then nwA mi pc 2 3 (fun n => (n, .inr (.inr (.inr (.inr (fun _ => none)))))) L st lw cs else none)
  | .invokevirtual k => ckl len 3 (inv mi k pc [0, 7, 8] L st lw cs)
  | .invokestatic k => ckl len 3 (inv mi k pc [1, 3, 6, 9, 10, 11] L st lw cs)
  | .invokespecial k => ckl len 3 (inv mi k pc [2, 4, 5] L st lw cs)
  | .ireturn => ckl len 1 (match st with
    | [.int x] => (mR mi).bind fun ty => if fitV ty (.int x) = true then some (.inr (.inr (some (.int x)))) else none
    | _ => none)
  | .lreturn => ckl len 1 (match st with
    | [.long x] => if mR mi = some .long then some (.inr (.inr (some (.long x)))) else none
    | _ => none)
  | .areturn => ckl len 1 (match st with
    | [v] => match mR mi, v with
      | some (.object _), .null => some (.inr (.inr (some .null)))
      | some (.object _), .ref a => some (.inr (.inr (some (.ref a))))
      | _, _ => none
    | _ => none)
  | .return_ => ckl len 1 (match st with
    | [] => if mR mi = none then some (.inr (.inr none)) else none
    | _ => none)
  | _ => none
def exec : Nat → Nat → St → Option (Option Value × LW × (Nat × Nat))
  | 0, _, _ => none
  | n + 1, mi, s => match decode (mB mi) s.1 with
    | .error _ => none
    | .ok q => match stp mi s.1 q.1 q.2 s.2.1 s.2.2.1 s.2.2.2.1 s.2.2.2.2 with
      | none => none
      | some (.inl s') => exec n mi s'
      | some (.inr (.inl c)) => match exec n c.1 (0, entL (mL c.1) c.2.1, [], s.2.2.2.1, (0, 0)) with
        | none => none
        | some r => exec n mi (s.1 + 3, s.2.1, r.1.toList ++ c.2.2, r.2.1, (s.2.2.2.2.1 + mMc c.1, s.2.2.2.2.2 + mMs c.1))
      | some (.inr (.inr v)) => if s.2.2.2.2.1 ≤ mMc mi ∧ s.2.2.2.2.2 ≤ mMs mi then some (v, s.2.2.2.1, s.2.2.2.2) else none
