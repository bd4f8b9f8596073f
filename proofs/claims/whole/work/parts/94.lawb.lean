/-! the law's own steps -/
def LW0 (L : Nat) (xs : Nat → Int32) (SC SR : Sg) : LW := Tw ownC (fun a => bif ownR a then celS SR a else .inl (0, L, .inl xs)) SC
def LcL (i : Nat) : Lcl := [some (.ref 0), some (.ref 1), some (.ref 127), some (.int (Int32.ofNat i))]
/-- it comes to its end with 1 -/
def Fin1 (x : St) : Prop := ∃ lw, Rn 231 x (some (.int 1), lw)
section
variable {L i ca cb pc : Nat} {xs : Nat → Int32} {SC SR SC2 SR2 : Sg} {r : RT} {st : List Value}
theorem LW0_R : LW0 L xs SC SR = Tw ownR (fun a => bif ownC a then celS SC a else .inl (0, L, .inl xs)) SR := by
  unfold LW0 Tw
  refine List.map_congr_left fun a _ => ?_
  unfold ownC ownR
  by_cases h1 : 1 ≤ a <;> by_cases h2 : a < 127 <;> by_cases h3 : 127 ≤ a <;> by_cases h4 : a < 183 <;> simp [h1, h2, h3, h4] <;> omega
theorem LW0_0 : (LW0 L xs SC SR)[0]? = some (.inl (0, L, .inl xs)) := rfl
theorem LW0_len : (LW0 L xs SC SR).length = 183 := by
  unfold LW0
  rw [Tw_len]
  rfl
theorem la_arg {k : Int} {n : Nat} (d1 : decode (mB 231) pc = .ok (.aload_n 0, 1)) (d2 : decode (mB 231) (pc + 1) = .ok (.iload_n 3, 1)) (d3 : decode (mB 231) (pc + 2) = .ok (.iconst k, 1)) (d4 : decode (mB 231) (pc + 3) = .ok (.iadd, 1)) (d5 : decode (mB 231) (pc + 4) = .ok (.iaload, 1)) (hL : i + 6 ≤ L) (hL2 : L ≤ 3072) (hn : n < 6) (hk : Int32.ofInt k = Int32.ofNat n) (h : Rn 231 (pc + 5, LcL i, .int (xs (i + n)) :: st, LW0 L xs SC SR, (ca, cb)) r) : Rn 231 (pc, LcL i, st, LW0 L xs SC SR, (ca, cb)) r := by
  refine Rn.step d1 rfl (Rn.step d2 rfl (Rn.step d3 rfl (Rn.step d4 rfl (Rn.step d5 ?_ h))))
  show ckl 1 1 (iLd 0 (pc + 4) (LcL i) (.int (Int32.ofNat i + Int32.ofInt k) :: .ref 0 :: st) (LW0 L xs SC SR) (ca, cb)) = _
  rw [hk, addN]
  have e1 : arI (LW0 L xs SC SR) 0 0 = some (L, xs) := by
    unfold arI
    rw [LW0_0]
    rfl
  have e2 : inb (Int32.ofNat (i + n)) L = true := by rw [inbN (by omega)]; exact decide_eq_true (by omega)
  unfold ckl iLd
  simp only [if_true, e1, Option.bind_some, e2, tnN (show i + n < 2147483648 by omega)]
  rfl
theorem la_cal {q n : Nat} {as : List Value} (cf : callF 231 q) (hn : as.length = n) (ha : (argL as).length ≤ mL q) (hst : cats st ≤ 8) (hc : ca ≤ mMc 231 ∧ cb ≤ mMs 231) : cal 231 q n (as.reverse ++ st) (ca, cb) = some (.inr (.inl (q, as, st))) := by
  have e1 : (as.reverse ++ st).take n = as.reverse := by rw [← hn, ← List.length_reverse (as := as), List.take_left']; rfl
  have e2 : (as.reverse ++ st).drop n = st := by rw [← hn, ← List.length_reverse (as := as), List.drop_left']; rfl
  obtain ⟨c1, c2, c3, c4, c5, c6⟩ := cf
  unfold cal
  rw [e1, e2, List.reverse_reverse, if_pos]
  refine ⟨by rw [List.length_append, List.length_reverse]; omega, ha, by unfold cats at hst; omega, c1, c2, ?_, ?_, c5⟩
  · show ca + mMc q ≤ _; omega
  · show cb + mMs q ≤ _; omega
theorem la_V {idx q b : Nat} {own : Nat → Bool} {o : Nat → va_E} {S : Sg} {as : List Value} (hl : lk ctab (mC 231) idx = some (0, q)) (cf : callF 231 q) (hn : as.length = mA q) (ha : (argL (.ref b :: as)).length ≤ mL q) (hok : okD own b (0, mC q)) (h11 : mC q < 11) (hst : cats st ≤ 8) (hc : ca ≤ mMc 231 ∧ cb ≤ mMs 231) : stp 231 pc (.invokevirtual idx) 3 (LcL i) (as.reverse ++ .ref b :: st) (Tw own o S) (ca, cb) = some (.inr (.inl (q, .ref b :: as, st))) := by
  have hr : recv (as.reverse ++ .ref b :: st) (Tw own o S) (mA q) q = true := by
    unfold recv
    have e : (as.reverse ++ Value.ref b :: st)[mA q]? = some (.ref b) := by
      rw [← hn, List.getElem?_append_right (by rw [List.length_reverse]; exact Nat.le_refl _), List.length_reverse, Nat.sub_self]
      rfl
    rw [e]
    simp only [obj_at hok, h11, decide_true, Bool.and_self]
  have hc2 := la_cal (as := .ref b :: as) (st := st) (n := mA q + 1) cf (by rw [List.length_cons, hn]) ha hst hc
  rw [List.reverse_cons, List.append_assoc] at hc2
  simp only [stp, ckl, inv, hl, if_true, Option.bind_some, List.mem_cons, true_or, not_true, NLpos, or_self, if_false, hr]
  exact hc2
theorem la_callC {idx q : Nat} {as : List Value} {v : Int32} (hd : decode (mB 231) pc = .ok (.invokevirtual idx, 3)) (hl : lk ctab (mC 231) idx = some (0, q)) (cf : callF 231 q) (hn : as.length = mA q) (ha : (argL (.ref 1 :: as)).length ≤ mL q) (h9 : mC q = 9) (hst : cats st ≤ 8) (hm : Rn q (0, entL (mL q) (.ref 1 :: as), [], LW0 L xs SC SR, (0, 0)) (some (.int v), LW0 L xs SC2 SR)) (hc : ca ≤ mMc 231 ∧ cb ≤ mMs 231) (h : Rn 231 (pc + 3, LcL i, .int v :: st, LW0 L xs SC2 SR, (ca, cb)) r) : Rn 231 (pc, LcL i, as.reverse ++ .ref 1 :: st, LW0 L xs SC SR, (ca, cb)) r := by
  refine Rn.call hd (la_V (own := ownC) hl cf hn ha (by rw [h9]; exact ok_1) (by rw [h9]; decide) hst hc) hm ?_
  show Rn 231 (pc + 3, LcL i, .int v :: st, LW0 L xs SC2 SR, (ca + mMc q, cb + mMs q)) r
  rw [cf.2.2.1, cf.2.2.2.1]
  exact h
theorem la_callR {idx q : Nat} {as : List Value} {v : Int32} (hd : decode (mB 231) pc = .ok (.invokevirtual idx, 3)) (hl : lk ctab (mC 231) idx = some (0, q)) (cf : callF 231 q) (hn : as.length = mA q) (ha : (argL (.ref 127 :: as)).length ≤ mL q) (h10 : mC q = 10) (hst : cats st ≤ 8) (hm : Rn q (0, entL (mL q) (.ref 127 :: as), [], Tw ownR (fun a => bif ownC a then celS SC a else .inl (0, L, .inl xs)) SR, (0, 0)) (some (.int v), Tw ownR (fun a => bif ownC a then celS SC a else .inl (0, L, .inl xs)) SR2)) (hc : ca ≤ mMc 231 ∧ cb ≤ mMs 231) (h : Rn 231 (pc + 3, LcL i, .int v :: st, LW0 L xs SC SR2, (ca, cb)) r) : Rn 231 (pc, LcL i, as.reverse ++ .ref 127 :: st, LW0 L xs SC SR, (ca, cb)) r := by
  rw [LW0_R]
  refine Rn.call hd (la_V (own := ownR) hl cf hn ha (by rw [h10]; exact ok_127) (by rw [h10]; decide) hst hc) hm ?_
  show Rn 231 (pc + 3, LcL i, .int v :: st, _, (ca + mMc q, cb + mMs q)) r
  rw [cf.2.2.1, cf.2.2.2.1, ← LW0_R]
  exact h
theorem la_eq {off : Int} {v : Int32} {lw : LW} {t : Nat} (hd : decode (mB 231) pc = .ok (.if_icmp .eq off, 3)) (hj : jmp pc off = some t) (h : Rn 231 (t, LcL i, [], lw, (ca, cb)) r) : Rn 231 (pc, LcL i, [.int v, .int v], lw, (ca, cb)) r := by
  refine Rn.step hd ?_ h
  have e : cmp2 .eq v v = true := decide_eq_true rfl
  simp only [stp, ckl, if_true, hj, Option.bind_some, e, cond_true]
  rfl
theorem la_ldc2 {k : Nat} {x : Int64} {lw : LW} (hl : lk ltab (mC 231) k = some x) : stp 231 pc (.ldc2_w k) 3 (LcL i) st lw (ca, cb) = some (.inl (pc + 3, LcL i, .long x :: st, lw, (ca, cb))) := by
  simp only [stp, ckl, if_true, hl, Option.bind_some]
  rfl
end
