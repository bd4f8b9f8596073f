/-! calls, returns under wraps, switches -/
def callF (mi q : Nat) : Prop := mF q + 1 ≤ mF mi ∧ 8 + (mL q + 11) + mO q ≤ mO mi ∧ mMc q = 0 ∧ mMs q = 0 ∧ q < iLaw ∧ mC q < 14
section calls
variable {mi q idx pc d i : Nat} {own : Nat → Bool} {o : Nat → va_E} {L : Lcl} {β : Type}
theorem NLpos {S : Sg} : ¬ (Tw own o S).length = 0 := by rw [Tw_len]; decide
theorem cal_at {as st : List Value} {n : Nat} (cf : callF mi q) (hn : as.length = n) (ha : (argL as).length ≤ mL q) (hc : cats st ≤ d) (hd : d ≤ 8) : cal mi q n (as.reverse ++ st) (0, 0) = some (.inr (.inl (q, as, st))) := by
  have e1 : (as.reverse ++ st).take n = as.reverse := by rw [← hn, ← List.length_reverse (as := as), List.take_left']; rfl
  have e2 : (as.reverse ++ st).drop n = st := by rw [← hn, ← List.length_reverse (as := as), List.drop_left']; rfl
  obtain ⟨c1, c2, c3, c4, c5, c6⟩ := cf
  unfold cal
  rw [e1, e2, List.reverse_reverse, if_pos]
  refine ⟨by rw [List.length_append, List.length_reverse]; omega, ha, by unfold cats at hc; omega, c1, c2, ?_, ?_, c5⟩
  · show 0 + mMc q ≤ _; omega
  · show 0 + mMs q ≤ _; omega
theorem stp_V {as st : List Value} {b : Nat} {S : Sg} (hl : lk ctab (mC mi) idx = some (0, q)) (cf : callF mi q) (hn : as.length = mA q) (ha : (argL (.ref b :: as)).length ≤ mL q) (hok : okD own b (0, mC q)) (h11 : mC q < 11) (hc : cats st ≤ d) (hd : d ≤ 8) : stp mi pc (.invokevirtual idx) 3 L (as.reverse ++ .ref b :: st) (Tw own o S) (0, 0) = some (.inr (.inl (q, .ref b :: as, st))) := by
  have hr : recv (as.reverse ++ .ref b :: st) (Tw own o S) (mA q) q = true := by
    unfold recv
    have e : (as.reverse ++ Value.ref b :: st)[mA q]? = some (.ref b) := by
      rw [← hn, List.getElem?_append_right (by rw [List.length_reverse]; exact Nat.le_refl _), List.length_reverse, Nat.sub_self]
      rfl
    rw [e]
    simp only [obj_at hok, h11, decide_true, Bool.and_self]
  have hc2 := cal_at (as := .ref b :: as) (st := st) (n := mA q + 1) cf (by rw [List.length_cons, hn]) ha hc hd
  rw [List.reverse_cons, List.append_assoc] at hc2
  simp only [stp, ckl, inv, hl, if_true, Option.bind_some, List.mem_cons, true_or, not_true, NLpos, or_self, if_false, hr]
  exact hc2
theorem stp_S {as st : List Value} {kd : Nat} {S : Sg} (hk : kd = 1 ∨ kd = 3) (hl : lk ctab (mC mi) idx = some (kd, q)) (cf : callF mi q) (hn : as.length = mA q) (ha : (argL as).length ≤ mL q) (hc : cats st ≤ d) (hd : d ≤ 8) : stp mi pc (.invokestatic idx) 3 L (as.reverse ++ st) (Tw own o S) (0, 0) = some (.inr (.inl (q, as, st))) := by
  have hc2 := cal_at (as := as) (st := st) (n := mA q) cf hn ha hc hd
  rcases hk with rfl | rfl
  · simp only [stp, ckl, inv, hl, if_true, Option.bind_some, List.mem_cons, true_or, not_true, NLpos, or_self, if_false]
    exact hc2
  · simp only [stp, ckl, inv, hl, if_true, Option.bind_some, List.mem_cons, true_or, or_true, not_true, NLpos, or_self, if_false]
    exact hc2
abbrev P1 {α : Type} : α → Prop := fun _ => True
theorem Sure.t {α : Type} {e : PM α} : Sure P1 e := fun _ _ _ _ => trivial

theorem E_c0 {p : PM β} {ins : Instr} {nu : β → Value} (hm : MT q (Tw own o) [] (fun r => some (nu r)) (p)) (hz : mMc q = 0 ∧ mMs q = 0) (hd : decode (mB mi) i = .ok (ins, 3)) (hs : ∀ S st, cats st ≤ d → stp mi i ins 3 L (st) (Tw own o S) (0, 0) = some (.inr (.inl (q, [], st)))) : EV mi (Tw own o) d i (i + 3) L nu (p) := by
  intro S v S' h st r hc kk
  exact (E_call (hm  ) hd hz (hs   S st hc) h kk)

theorem E_c1 {α1 : Type} {P1_ : α1 → Prop} {n1 : α1 → Value} {e1 : PM α1} {p : α1 → PM β} {ins : Instr} {nu : β → Value} {k1 : Nat} (s1 : Sure P1_ e1) (h1 : EV mi (Tw own o) d i k1 L n1 e1) (hm : ∀ a1, P1_ a1 → MT q (Tw own o) [n1 a1] (fun r => some (nu r)) (p a1)) (hz : mMc q = 0 ∧ mMs q = 0) (hd : decode (mB mi) k1 = .ok (ins, 3)) (hs : ∀ a1, P1_ a1 → ∀ S st, cats st ≤ d → stp mi k1 ins 3 L (n1 a1 :: st) (Tw own o S) (0, 0) = some (.inr (.inl (q, [n1 a1], st)))) : EV mi (Tw own o) d i (k1 + 3) L nu (mb e1 fun a1 => p a1) := by
  intro S v S' h st r hc kk
  obtain ⟨a1, S1, x1, h⟩ := mb_inv h
  exact (h1 S a1 S1 x1 _ r hc (E_call (hm a1 (s1 S a1 S1 x1)) hd hz (hs a1 (s1 S a1 S1 x1) S1 st hc) h kk))

theorem E_c2 {α1 α2 : Type} {P1_ : α1 → Prop} {n1 : α1 → Value} {e1 : PM α1} {P2_ : α2 → Prop} {n2 : α2 → Value} {e2 : PM α2} {p : α1 → α2 → PM β} {ins : Instr} {nu : β → Value} {k1 k2 d1 : Nat} (s1 : Sure P1_ e1) (h1 : EV mi (Tw own o) d i k1 L n1 e1) (q1 : ∀ a st, cats st ≤ d → cats (n1 a :: st) ≤ d1) (s2 : Sure P2_ e2) (h2 : EV mi (Tw own o) d1 k1 k2 L n2 e2) (hm : ∀ a1 a2, P1_ a1 → P2_ a2 → MT q (Tw own o) [n1 a1, n2 a2] (fun r => some (nu r)) (p a1 a2)) (hz : mMc q = 0 ∧ mMs q = 0) (hd : decode (mB mi) k2 = .ok (ins, 3)) (hs : ∀ a1 a2, P1_ a1 → P2_ a2 → ∀ S st, cats st ≤ d → stp mi k2 ins 3 L (n2 a2 :: n1 a1 :: st) (Tw own o S) (0, 0) = some (.inr (.inl (q, [n1 a1, n2 a2], st)))) : EV mi (Tw own o) d i (k2 + 3) L nu (mb e1 fun a1 => mb e2 fun a2 => p a1 a2) := by
  intro S v S' h st r hc kk
  obtain ⟨a1, S1, x1, h⟩ := mb_inv h
  obtain ⟨a2, S2, x2, h⟩ := mb_inv h
  exact (h1 S a1 S1 x1 _ r hc (h2 S1 a2 S2 x2 _ r (q1 a1 _ hc) (E_call (hm a1 a2 (s1 S a1 S1 x1) (s2 S1 a2 S2 x2)) hd hz (hs a1 a2 (s1 S a1 S1 x1) (s2 S1 a2 S2 x2) S2 st hc) h kk)))

theorem E_c3 {α1 α2 α3 : Type} {P1_ : α1 → Prop} {n1 : α1 → Value} {e1 : PM α1} {P2_ : α2 → Prop} {n2 : α2 → Value} {e2 : PM α2} {P3_ : α3 → Prop} {n3 : α3 → Value} {e3 : PM α3} {p : α1 → α2 → α3 → PM β} {ins : Instr} {nu : β → Value} {k1 k2 k3 d1 d2 : Nat} (s1 : Sure P1_ e1) (h1 : EV mi (Tw own o) d i k1 L n1 e1) (q1 : ∀ a st, cats st ≤ d → cats (n1 a :: st) ≤ d1) (s2 : Sure P2_ e2) (h2 : EV mi (Tw own o) d1 k1 k2 L n2 e2) (q2 : ∀ a st, cats st ≤ d1 → cats (n2 a :: st) ≤ d2) (s3 : Sure P3_ e3) (h3 : EV mi (Tw own o) d2 k2 k3 L n3 e3) (hm : ∀ a1 a2 a3, P1_ a1 → P2_ a2 → P3_ a3 → MT q (Tw own o) [n1 a1, n2 a2, n3 a3] (fun r => some (nu r)) (p a1 a2 a3)) (hz : mMc q = 0 ∧ mMs q = 0) (hd : decode (mB mi) k3 = .ok (ins, 3)) (hs : ∀ a1 a2 a3, P1_ a1 → P2_ a2 → P3_ a3 → ∀ S st, cats st ≤ d → stp mi k3 ins 3 L (n3 a3 :: n2 a2 :: n1 a1 :: st) (Tw own o S) (0, 0) = some (.inr (.inl (q, [n1 a1, n2 a2, n3 a3], st)))) : EV mi (Tw own o) d i (k3 + 3) L nu (mb e1 fun a1 => mb e2 fun a2 => mb e3 fun a3 => p a1 a2 a3) := by
  intro S v S' h st r hc kk
  obtain ⟨a1, S1, x1, h⟩ := mb_inv h
  obtain ⟨a2, S2, x2, h⟩ := mb_inv h
  obtain ⟨a3, S3, x3, h⟩ := mb_inv h
  exact (h1 S a1 S1 x1 _ r hc (h2 S1 a2 S2 x2 _ r (q1 a1 _ hc) (h3 S2 a3 S3 x3 _ r (q2 a2 _ (q1 a1 _ hc)) (E_call (hm a1 a2 a3 (s1 S a1 S1 x1) (s2 S1 a2 S2 x2) (s3 S2 a3 S3 x3)) hd hz (hs a1 a2 a3 (s1 S a1 S1 x1) (s2 S1 a2 S2 x2) (s3 S2 a3 S3 x3) S3 st hc) h kk))))

theorem E_c4 {α1 α2 α3 α4 : Type} {P1_ : α1 → Prop} {n1 : α1 → Value} {e1 : PM α1} {P2_ : α2 → Prop} {n2 : α2 → Value} {e2 : PM α2} {P3_ : α3 → Prop} {n3 : α3 → Value} {e3 : PM α3} {P4_ : α4 → Prop} {n4 : α4 → Value} {e4 : PM α4} {p : α1 → α2 → α3 → α4 → PM β} {ins : Instr} {nu : β → Value} {k1 k2 k3 k4 d1 d2 d3 : Nat} (s1 : Sure P1_ e1) (h1 : EV mi (Tw own o) d i k1 L n1 e1) (q1 : ∀ a st, cats st ≤ d → cats (n1 a :: st) ≤ d1) (s2 : Sure P2_ e2) (h2 : EV mi (Tw own o) d1 k1 k2 L n2 e2) (q2 : ∀ a st, cats st ≤ d1 → cats (n2 a :: st) ≤ d2) (s3 : Sure P3_ e3) (h3 : EV mi (Tw own o) d2 k2 k3 L n3 e3) (q3 : ∀ a st, cats st ≤ d2 → cats (n3 a :: st) ≤ d3) (s4 : Sure P4_ e4) (h4 : EV mi (Tw own o) d3 k3 k4 L n4 e4) (hm : ∀ a1 a2 a3 a4, P1_ a1 → P2_ a2 → P3_ a3 → P4_ a4 → MT q (Tw own o) [n1 a1, n2 a2, n3 a3, n4 a4] (fun r => some (nu r)) (p a1 a2 a3 a4)) (hz : mMc q = 0 ∧ mMs q = 0) (hd : decode (mB mi) k4 = .ok (ins, 3)) (hs : ∀ a1 a2 a3 a4, P1_ a1 → P2_ a2 → P3_ a3 → P4_ a4 → ∀ S st, cats st ≤ d → stp mi k4 ins 3 L (n4 a4 :: n3 a3 :: n2 a2 :: n1 a1 :: st) (Tw own o S) (0, 0) = some (.inr (.inl (q, [n1 a1, n2 a2, n3 a3, n4 a4], st)))) : EV mi (Tw own o) d i (k4 + 3) L nu (mb e1 fun a1 => mb e2 fun a2 => mb e3 fun a3 => mb e4 fun a4 => p a1 a2 a3 a4) := by
  intro S v S' h st r hc kk
  obtain ⟨a1, S1, x1, h⟩ := mb_inv h
  obtain ⟨a2, S2, x2, h⟩ := mb_inv h
  obtain ⟨a3, S3, x3, h⟩ := mb_inv h
  obtain ⟨a4, S4, x4, h⟩ := mb_inv h
  exact (h1 S a1 S1 x1 _ r hc (h2 S1 a2 S2 x2 _ r (q1 a1 _ hc) (h3 S2 a3 S3 x3 _ r (q2 a2 _ (q1 a1 _ hc)) (h4 S3 a4 S4 x4 _ r (q3 a3 _ (q2 a2 _ (q1 a1 _ hc))) (E_call (hm a1 a2 a3 a4 (s1 S a1 S1 x1) (s2 S1 a2 S2 x2) (s3 S2 a3 S3 x3) (s4 S3 a4 S4 x4)) hd hz (hs a1 a2 a3 a4 (s1 S a1 S1 x1) (s2 S1 a2 S2 x2) (s3 S2 a3 S3 x3) (s4 S3 a4 S4 x4) S4 st hc) h kk)))))

theorem E_c5 {α1 α2 α3 α4 α5 : Type} {P1_ : α1 → Prop} {n1 : α1 → Value} {e1 : PM α1} {P2_ : α2 → Prop} {n2 : α2 → Value} {e2 : PM α2} {P3_ : α3 → Prop} {n3 : α3 → Value} {e3 : PM α3} {P4_ : α4 → Prop} {n4 : α4 → Value} {e4 : PM α4} {P5_ : α5 → Prop} {n5 : α5 → Value} {e5 : PM α5} {p : α1 → α2 → α3 → α4 → α5 → PM β} {ins : Instr} {nu : β → Value} {k1 k2 k3 k4 k5 d1 d2 d3 d4 : Nat} (s1 : Sure P1_ e1) (h1 : EV mi (Tw own o) d i k1 L n1 e1) (q1 : ∀ a st, cats st ≤ d → cats (n1 a :: st) ≤ d1) (s2 : Sure P2_ e2) (h2 : EV mi (Tw own o) d1 k1 k2 L n2 e2) (q2 : ∀ a st, cats st ≤ d1 → cats (n2 a :: st) ≤ d2) (s3 : Sure P3_ e3) (h3 : EV mi (Tw own o) d2 k2 k3 L n3 e3) (q3 : ∀ a st, cats st ≤ d2 → cats (n3 a :: st) ≤ d3) (s4 : Sure P4_ e4) (h4 : EV mi (Tw own o) d3 k3 k4 L n4 e4) (q4 : ∀ a st, cats st ≤ d3 → cats (n4 a :: st) ≤ d4) (s5 : Sure P5_ e5) (h5 : EV mi (Tw own o) d4 k4 k5 L n5 e5) (hm : ∀ a1 a2 a3 a4 a5, P1_ a1 → P2_ a2 → P3_ a3 → P4_ a4 → P5_ a5 → MT q (Tw own o) [n1 a1, n2 a2, n3 a3, n4 a4, n5 a5] (fun r => some (nu r)) (p a1 a2 a3 a4 a5)) (hz : mMc q = 0 ∧ mMs q = 0) (hd : decode (mB mi) k5 = .ok (ins, 3)) (hs : ∀ a1 a2 a3 a4 a5, P1_ a1 → P2_ a2 → P3_ a3 → P4_ a4 → P5_ a5 → ∀ S st, cats st ≤ d → stp mi k5 ins 3 L (n5 a5 :: n4 a4 :: n3 a3 :: n2 a2 :: n1 a1 :: st) (Tw own o S) (0, 0) = some (.inr (.inl (q, [n1 a1, n2 a2, n3 a3, n4 a4, n5 a5], st)))) : EV mi (Tw own o) d i (k5 + 3) L nu (mb e1 fun a1 => mb e2 fun a2 => mb e3 fun a3 => mb e4 fun a4 => mb e5 fun a5 => p a1 a2 a3 a4 a5) := by
  intro S v S' h st r hc kk
  obtain ⟨a1, S1, x1, h⟩ := mb_inv h
  obtain ⟨a2, S2, x2, h⟩ := mb_inv h
  obtain ⟨a3, S3, x3, h⟩ := mb_inv h
  obtain ⟨a4, S4, x4, h⟩ := mb_inv h
  obtain ⟨a5, S5, x5, h⟩ := mb_inv h
  exact (h1 S a1 S1 x1 _ r hc (h2 S1 a2 S2 x2 _ r (q1 a1 _ hc) (h3 S2 a3 S3 x3 _ r (q2 a2 _ (q1 a1 _ hc)) (h4 S3 a4 S4 x4 _ r (q3 a3 _ (q2 a2 _ (q1 a1 _ hc))) (h5 S4 a5 S5 x5 _ r (q4 a4 _ (q3 a3 _ (q2 a2 _ (q1 a1 _ hc)))) (E_call (hm a1 a2 a3 a4 a5 (s1 S a1 S1 x1) (s2 S1 a2 S2 x2) (s3 S2 a3 S3 x3) (s4 S3 a4 S4 x4) (s5 S4 a5 S5 x5)) hd hz (hs a1 a2 a3 a4 a5 (s1 S a1 S1 x1) (s2 S1 a2 S2 x2) (s3 S2 a3 S3 x3) (s4 S3 a4 S4 x4) (s5 S4 a5 S5 x5) S5 st hc) h kk))))))

theorem E_c6 {α1 α2 α3 α4 α5 α6 : Type} {P1_ : α1 → Prop} {n1 : α1 → Value} {e1 : PM α1} {P2_ : α2 → Prop} {n2 : α2 → Value} {e2 : PM α2} {P3_ : α3 → Prop} {n3 : α3 → Value} {e3 : PM α3} {P4_ : α4 → Prop} {n4 : α4 → Value} {e4 : PM α4} {P5_ : α5 → Prop} {n5 : α5 → Value} {e5 : PM α5} {P6_ : α6 → Prop} {n6 : α6 → Value} {e6 : PM α6} {p : α1 → α2 → α3 → α4 → α5 → α6 → PM β} {ins : Instr} {nu : β → Value} {k1 k2 k3 k4 k5 k6 d1 d2 d3 d4 d5 : Nat} (s1 : Sure P1_ e1) (h1 : EV mi (Tw own o) d i k1 L n1 e1) (q1 : ∀ a st, cats st ≤ d → cats (n1 a :: st) ≤ d1) (s2 : Sure P2_ e2) (h2 : EV mi (Tw own o) d1 k1 k2 L n2 e2) (q2 : ∀ a st, cats st ≤ d1 → cats (n2 a :: st) ≤ d2) (s3 : Sure P3_ e3) (h3 : EV mi (Tw own o) d2 k2 k3 L n3 e3) (q3 : ∀ a st, cats st ≤ d2 → cats (n3 a :: st) ≤ d3) (s4 : Sure P4_ e4) (h4 : EV mi (Tw own o) d3 k3 k4 L n4 e4) (q4 : ∀ a st, cats st ≤ d3 → cats (n4 a :: st) ≤ d4) (s5 : Sure P5_ e5) (h5 : EV mi (Tw own o) d4 k4 k5 L n5 e5) (q5 : ∀ a st, cats st ≤ d4 → cats (n5 a :: st) ≤ d5) (s6 : Sure P6_ e6) (h6 : EV mi (Tw own o) d5 k5 k6 L n6 e6) (hm : ∀ a1 a2 a3 a4 a5 a6, P1_ a1 → P2_ a2 → P3_ a3 → P4_ a4 → P5_ a5 → P6_ a6 → MT q (Tw own o) [n1 a1, n2 a2, n3 a3, n4 a4, n5 a5, n6 a6] (fun r => some (nu r)) (p a1 a2 a3 a4 a5 a6)) (hz : mMc q = 0 ∧ mMs q = 0) (hd : decode (mB mi) k6 = .ok (ins, 3)) (hs : ∀ a1 a2 a3 a4 a5 a6, P1_ a1 → P2_ a2 → P3_ a3 → P4_ a4 → P5_ a5 → P6_ a6 → ∀ S st, cats st ≤ d → stp mi k6 ins 3 L (n6 a6 :: n5 a5 :: n4 a4 :: n3 a3 :: n2 a2 :: n1 a1 :: st) (Tw own o S) (0, 0) = some (.inr (.inl (q, [n1 a1, n2 a2, n3 a3, n4 a4, n5 a5, n6 a6], st)))) : EV mi (Tw own o) d i (k6 + 3) L nu (mb e1 fun a1 => mb e2 fun a2 => mb e3 fun a3 => mb e4 fun a4 => mb e5 fun a5 => mb e6 fun a6 => p a1 a2 a3 a4 a5 a6) := by
  intro S v S' h st r hc kk
  obtain ⟨a1, S1, x1, h⟩ := mb_inv h
  obtain ⟨a2, S2, x2, h⟩ := mb_inv h
  obtain ⟨a3, S3, x3, h⟩ := mb_inv h
  obtain ⟨a4, S4, x4, h⟩ := mb_inv h
  obtain ⟨a5, S5, x5, h⟩ := mb_inv h
  obtain ⟨a6, S6, x6, h⟩ := mb_inv h
  exact (h1 S a1 S1 x1 _ r hc (h2 S1 a2 S2 x2 _ r (q1 a1 _ hc) (h3 S2 a3 S3 x3 _ r (q2 a2 _ (q1 a1 _ hc)) (h4 S3 a4 S4 x4 _ r (q3 a3 _ (q2 a2 _ (q1 a1 _ hc))) (h5 S4 a5 S5 x5 _ r (q4 a4 _ (q3 a3 _ (q2 a2 _ (q1 a1 _ hc)))) (h6 S5 a6 S6 x6 _ r (q5 a5 _ (q4 a4 _ (q3 a3 _ (q2 a2 _ (q1 a1 _ hc))))) (E_call (hm a1 a2 a3 a4 a5 a6 (s1 S a1 S1 x1) (s2 S1 a2 S2 x2) (s3 S2 a3 S3 x3) (s4 S3 a4 S4 x4) (s5 S4 a5 S5 x5) (s6 S5 a6 S6 x6)) hd hz (hs a1 a2 a3 a4 a5 a6 (s1 S a1 S1 x1) (s2 S1 a2 S2 x2) (s3 S2 a3 S3 x3) (s4 S3 a4 S4 x4) (s5 S4 a5 S5 x5) (s6 S5 a6 S6 x6) S6 st hc) h kk)))))))

theorem E_c7 {α1 α2 α3 α4 α5 α6 α7 : Type} {P1_ : α1 → Prop} {n1 : α1 → Value} {e1 : PM α1} {P2_ : α2 → Prop} {n2 : α2 → Value} {e2 : PM α2} {P3_ : α3 → Prop} {n3 : α3 → Value} {e3 : PM α3} {P4_ : α4 → Prop} {n4 : α4 → Value} {e4 : PM α4} {P5_ : α5 → Prop} {n5 : α5 → Value} {e5 : PM α5} {P6_ : α6 → Prop} {n6 : α6 → Value} {e6 : PM α6} {P7_ : α7 → Prop} {n7 : α7 → Value} {e7 : PM α7} {p : α1 → α2 → α3 → α4 → α5 → α6 → α7 → PM β} {ins : Instr} {nu : β → Value} {k1 k2 k3 k4 k5 k6 k7 d1 d2 d3 d4 d5 d6 : Nat} (s1 : Sure P1_ e1) (h1 : EV mi (Tw own o) d i k1 L n1 e1) (q1 : ∀ a st, cats st ≤ d → cats (n1 a :: st) ≤ d1) (s2 : Sure P2_ e2) (h2 : EV mi (Tw own o) d1 k1 k2 L n2 e2) (q2 : ∀ a st, cats st ≤ d1 → cats (n2 a :: st) ≤ d2) (s3 : Sure P3_ e3) (h3 : EV mi (Tw own o) d2 k2 k3 L n3 e3) (q3 : ∀ a st, cats st ≤ d2 → cats (n3 a :: st) ≤ d3) (s4 : Sure P4_ e4) (h4 : EV mi (Tw own o) d3 k3 k4 L n4 e4) (q4 : ∀ a st, cats st ≤ d3 → cats (n4 a :: st) ≤ d4) (s5 : Sure P5_ e5) (h5 : EV mi (Tw own o) d4 k4 k5 L n5 e5) (q5 : ∀ a st, cats st ≤ d4 → cats (n5 a :: st) ≤ d5) (s6 : Sure P6_ e6) (h6 : EV mi (Tw own o) d5 k5 k6 L n6 e6) (q6 : ∀ a st, cats st ≤ d5 → cats (n6 a :: st) ≤ d6) (s7 : Sure P7_ e7) (h7 : EV mi (Tw own o) d6 k6 k7 L n7 e7) (hm : ∀ a1 a2 a3 a4 a5 a6 a7, P1_ a1 → P2_ a2 → P3_ a3 → P4_ a4 → P5_ a5 → P6_ a6 → P7_ a7 → MT q (Tw own o) [n1 a1, n2 a2, n3 a3, n4 a4, n5 a5, n6 a6, n7 a7] (fun r => some (nu r)) (p a1 a2 a3 a4 a5 a6 a7)) (hz : mMc q = 0 ∧ mMs q = 0) (hd : decode (mB mi) k7 = .ok (ins, 3)) (hs : ∀ a1 a2 a3 a4 a5 a6 a7, P1_ a1 → P2_ a2 → P3_ a3 → P4_ a4 → P5_ a5 → P6_ a6 → P7_ a7 → ∀ S st, cats st ≤ d → stp mi k7 ins 3 L (n7 a7 :: n6 a6 :: n5 a5 :: n4 a4 :: n3 a3 :: n2 a2 :: n1 a1 :: st) (Tw own o S) (0, 0) = some (.inr (.inl (q, [n1 a1, n2 a2, n3 a3, n4 a4, n5 a5, n6 a6, n7 a7], st)))) : EV mi (Tw own o) d i (k7 + 3) L nu (mb e1 fun a1 => mb e2 fun a2 => mb e3 fun a3 => mb e4 fun a4 => mb e5 fun a5 => mb e6 fun a6 => mb e7 fun a7 => p a1 a2 a3 a4 a5 a6 a7) := by
  intro S v S' h st r hc kk
  obtain ⟨a1, S1, x1, h⟩ := mb_inv h
  obtain ⟨a2, S2, x2, h⟩ := mb_inv h
  obtain ⟨a3, S3, x3, h⟩ := mb_inv h
  obtain ⟨a4, S4, x4, h⟩ := mb_inv h
  obtain ⟨a5, S5, x5, h⟩ := mb_inv h
  obtain ⟨a6, S6, x6, h⟩ := mb_inv h
  obtain ⟨a7, S7, x7, h⟩ := mb_inv h
  exact (h1 S a1 S1 x1 _ r hc (h2 S1 a2 S2 x2 _ r (q1 a1 _ hc) (h3 S2 a3 S3 x3 _ r (q2 a2 _ (q1 a1 _ hc)) (h4 S3 a4 S4 x4 _ r (q3 a3 _ (q2 a2 _ (q1 a1 _ hc))) (h5 S4 a5 S5 x5 _ r (q4 a4 _ (q3 a3 _ (q2 a2 _ (q1 a1 _ hc)))) (h6 S5 a6 S6 x6 _ r (q5 a5 _ (q4 a4 _ (q3 a3 _ (q2 a2 _ (q1 a1 _ hc))))) (h7 S6 a7 S7 x7 _ r (q6 a6 _ (q5 a5 _ (q4 a4 _ (q3 a3 _ (q2 a2 _ (q1 a1 _ hc)))))) (E_call (hm a1 a2 a3 a4 a5 a6 a7 (s1 S a1 S1 x1) (s2 S1 a2 S2 x2) (s3 S2 a3 S3 x3) (s4 S3 a4 S4 x4) (s5 S4 a5 S5 x5) (s6 S5 a6 S6 x6) (s7 S6 a7 S7 x7)) hd hz (hs a1 a2 a3 a4 a5 a6 a7 (s1 S a1 S1 x1) (s2 S1 a2 S2 x2) (s3 S2 a3 S3 x3) (s4 S3 a4 S4 x4) (s5 S4 a5 S5 x5) (s6 S5 a6 S6 x6) (s7 S6 a7 S7 x7) S7 st hc) h kk))))))))

theorem E_c8 {α1 α2 α3 α4 α5 α6 α7 α8 : Type} {P1_ : α1 → Prop} {n1 : α1 → Value} {e1 : PM α1} {P2_ : α2 → Prop} {n2 : α2 → Value} {e2 : PM α2} {P3_ : α3 → Prop} {n3 : α3 → Value} {e3 : PM α3} {P4_ : α4 → Prop} {n4 : α4 → Value} {e4 : PM α4} {P5_ : α5 → Prop} {n5 : α5 → Value} {e5 : PM α5} {P6_ : α6 → Prop} {n6 : α6 → Value} {e6 : PM α6} {P7_ : α7 → Prop} {n7 : α7 → Value} {e7 : PM α7} {P8_ : α8 → Prop} {n8 : α8 → Value} {e8 : PM α8} {p : α1 → α2 → α3 → α4 → α5 → α6 → α7 → α8 → PM β} {ins : Instr} {nu : β → Value} {k1 k2 k3 k4 k5 k6 k7 k8 d1 d2 d3 d4 d5 d6 d7 : Nat} (s1 : Sure P1_ e1) (h1 : EV mi (Tw own o) d i k1 L n1 e1) (q1 : ∀ a st, cats st ≤ d → cats (n1 a :: st) ≤ d1) (s2 : Sure P2_ e2) (h2 : EV mi (Tw own o) d1 k1 k2 L n2 e2) (q2 : ∀ a st, cats st ≤ d1 → cats (n2 a :: st) ≤ d2) (s3 : Sure P3_ e3) (h3 : EV mi (Tw own o) d2 k2 k3 L n3 e3) (q3 : ∀ a st, cats st ≤ d2 → cats (n3 a :: st) ≤ d3) (s4 : Sure P4_ e4) (h4 : EV mi (Tw own o) d3 k3 k4 L n4 e4) (q4 : ∀ a st, cats st ≤ d3 → cats (n4 a :: st) ≤ d4) (s5 : Sure P5_ e5) (h5 : EV mi (Tw own o) d4 k4 k5 L n5 e5) (q5 : ∀ a st, cats st ≤ d4 → cats (n5 a :: st) ≤ d5) (s6 : Sure P6_ e6) (h6 : EV mi (Tw own o) d5 k5 k6 L n6 e6) (q6 : ∀ a st, cats st ≤ d5 → cats (n6 a :: st) ≤ d6) (s7 : Sure P7_ e7) (h7 : EV mi (Tw own o) d6 k6 k7 L n7 e7) (q7 : ∀ a st, cats st ≤ d6 → cats (n7 a :: st) ≤ d7) (s8 : Sure P8_ e8) (h8 : EV mi (Tw own o) d7 k7 k8 L n8 e8) (hm : ∀ a1 a2 a3 a4 a5 a6 a7 a8, P1_ a1 → P2_ a2 → P3_ a3 → P4_ a4 → P5_ a5 → P6_ a6 → P7_ a7 → P8_ a8 → MT q (Tw own o) [n1 a1, n2 a2, n3 a3, n4 a4, n5 a5, n6 a6, n7 a7, n8 a8] (fun r => some (nu r)) (p a1 a2 a3 a4 a5 a6 a7 a8)) (hz : mMc q = 0 ∧ mMs q = 0) (hd : decode (mB mi) k8 = .ok (ins, 3)) (hs : ∀ a1 a2 a3 a4 a5 a6 a7 a8, P1_ a1 → P2_ a2 → P3_ a3 → P4_ a4 → P5_ a5 → P6_ a6 → P7_ a7 → P8_ a8 → ∀ S st, cats st ≤ d → stp mi k8 ins 3 L (n8 a8 :: n7 a7 :: n6 a6 :: n5 a5 :: n4 a4 :: n3 a3 :: n2 a2 :: n1 a1 :: st) (Tw own o S) (0, 0) = some (.inr (.inl (q, [n1 a1, n2 a2, n3 a3, n4 a4, n5 a5, n6 a6, n7 a7, n8 a8], st)))) : EV mi (Tw own o) d i (k8 + 3) L nu (mb e1 fun a1 => mb e2 fun a2 => mb e3 fun a3 => mb e4 fun a4 => mb e5 fun a5 => mb e6 fun a6 => mb e7 fun a7 => mb e8 fun a8 => p a1 a2 a3 a4 a5 a6 a7 a8) := by
  intro S v S' h st r hc kk
  obtain ⟨a1, S1, x1, h⟩ := mb_inv h
  obtain ⟨a2, S2, x2, h⟩ := mb_inv h
  obtain ⟨a3, S3, x3, h⟩ := mb_inv h
  obtain ⟨a4, S4, x4, h⟩ := mb_inv h
  obtain ⟨a5, S5, x5, h⟩ := mb_inv h
  obtain ⟨a6, S6, x6, h⟩ := mb_inv h
  obtain ⟨a7, S7, x7, h⟩ := mb_inv h
  obtain ⟨a8, S8, x8, h⟩ := mb_inv h
  exact (h1 S a1 S1 x1 _ r hc (h2 S1 a2 S2 x2 _ r (q1 a1 _ hc) (h3 S2 a3 S3 x3 _ r (q2 a2 _ (q1 a1 _ hc)) (h4 S3 a4 S4 x4 _ r (q3 a3 _ (q2 a2 _ (q1 a1 _ hc))) (h5 S4 a5 S5 x5 _ r (q4 a4 _ (q3 a3 _ (q2 a2 _ (q1 a1 _ hc)))) (h6 S5 a6 S6 x6 _ r (q5 a5 _ (q4 a4 _ (q3 a3 _ (q2 a2 _ (q1 a1 _ hc))))) (h7 S6 a7 S7 x7 _ r (q6 a6 _ (q5 a5 _ (q4 a4 _ (q3 a3 _ (q2 a2 _ (q1 a1 _ hc)))))) (h8 S7 a8 S8 x8 _ r (q7 a7 _ (q6 a6 _ (q5 a5 _ (q4 a4 _ (q3 a3 _ (q2 a2 _ (q1 a1 _ hc))))))) (E_call (hm a1 a2 a3 a4 a5 a6 a7 a8 (s1 S a1 S1 x1) (s2 S1 a2 S2 x2) (s3 S2 a3 S3 x3) (s4 S3 a4 S4 x4) (s5 S4 a5 S5 x5) (s6 S5 a6 S6 x6) (s7 S6 a7 S7 x7) (s8 S7 a8 S8 x8)) hd hz (hs a1 a2 a3 a4 a5 a6 a7 a8 (s1 S a1 S1 x1) (s2 S1 a2 S2 x2) (s3 S2 a3 S3 x3) (s4 S3 a4 S4 x4) (s5 S4 a5 S5 x5) (s6 S5 a6 S6 x6) (s7 S6 a7 S7 x7) (s8 S7 a8 S8 x8) S8 st hc) h kk)))))))))

theorem U_c0 {p : PM β} {ins : Instr} (hm : MT q (Tw own o) [] (fun _ => none) (p)) (hz : mMc q = 0 ∧ mMs q = 0) (hd : decode (mB mi) i = .ok (ins, 3)) (hs : ∀ S st, cats st ≤ d → stp mi i ins 3 L (st) (Tw own o S) (0, 0) = some (.inr (.inl (q, [], st)))) : EU mi (Tw own o) d i (i + 3) L (p) := by
  intro S v S' h st r hc kk
  exact (U_call (hm  ) hd hz (hs   S st hc) h kk)

theorem U_c1 {α1 : Type} {P1_ : α1 → Prop} {n1 : α1 → Value} {e1 : PM α1} {p : α1 → PM β} {ins : Instr} {k1 : Nat} (s1 : Sure P1_ e1) (h1 : EV mi (Tw own o) d i k1 L n1 e1) (hm : ∀ a1, P1_ a1 → MT q (Tw own o) [n1 a1] (fun _ => none) (p a1)) (hz : mMc q = 0 ∧ mMs q = 0) (hd : decode (mB mi) k1 = .ok (ins, 3)) (hs : ∀ a1, P1_ a1 → ∀ S st, cats st ≤ d → stp mi k1 ins 3 L (n1 a1 :: st) (Tw own o S) (0, 0) = some (.inr (.inl (q, [n1 a1], st)))) : EU mi (Tw own o) d i (k1 + 3) L (mb e1 fun a1 => p a1) := by
  intro S v S' h st r hc kk
  obtain ⟨a1, S1, x1, h⟩ := mb_inv h
  exact (h1 S a1 S1 x1 _ r hc (U_call (hm a1 (s1 S a1 S1 x1)) hd hz (hs a1 (s1 S a1 S1 x1) S1 st hc) h kk))

theorem U_c2 {α1 α2 : Type} {P1_ : α1 → Prop} {n1 : α1 → Value} {e1 : PM α1} {P2_ : α2 → Prop} {n2 : α2 → Value} {e2 : PM α2} {p : α1 → α2 → PM β} {ins : Instr} {k1 k2 d1 : Nat} (s1 : Sure P1_ e1) (h1 : EV mi (Tw own o) d i k1 L n1 e1) (q1 : ∀ a st, cats st ≤ d → cats (n1 a :: st) ≤ d1) (s2 : Sure P2_ e2) (h2 : EV mi (Tw own o) d1 k1 k2 L n2 e2) (hm : ∀ a1 a2, P1_ a1 → P2_ a2 → MT q (Tw own o) [n1 a1, n2 a2] (fun _ => none) (p a1 a2)) (hz : mMc q = 0 ∧ mMs q = 0) (hd : decode (mB mi) k2 = .ok (ins, 3)) (hs : ∀ a1 a2, P1_ a1 → P2_ a2 → ∀ S st, cats st ≤ d → stp mi k2 ins 3 L (n2 a2 :: n1 a1 :: st) (Tw own o S) (0, 0) = some (.inr (.inl (q, [n1 a1, n2 a2], st)))) : EU mi (Tw own o) d i (k2 + 3) L (mb e1 fun a1 => mb e2 fun a2 => p a1 a2) := by
  intro S v S' h st r hc kk
  obtain ⟨a1, S1, x1, h⟩ := mb_inv h
  obtain ⟨a2, S2, x2, h⟩ := mb_inv h
  exact (h1 S a1 S1 x1 _ r hc (h2 S1 a2 S2 x2 _ r (q1 a1 _ hc) (U_call (hm a1 a2 (s1 S a1 S1 x1) (s2 S1 a2 S2 x2)) hd hz (hs a1 a2 (s1 S a1 S1 x1) (s2 S1 a2 S2 x2) S2 st hc) h kk)))

theorem U_c3 {α1 α2 α3 : Type} {P1_ : α1 → Prop} {n1 : α1 → Value} {e1 : PM α1} {P2_ : α2 → Prop} {n2 : α2 → Value} {e2 : PM α2} {P3_ : α3 → Prop} {n3 : α3 → Value} {e3 : PM α3} {p : α1 → α2 → α3 → PM β} {ins : Instr} {k1 k2 k3 d1 d2 : Nat} (s1 : Sure P1_ e1) (h1 : EV mi (Tw own o) d i k1 L n1 e1) (q1 : ∀ a st, cats st ≤ d → cats (n1 a :: st) ≤ d1) (s2 : Sure P2_ e2) (h2 : EV mi (Tw own o) d1 k1 k2 L n2 e2) (q2 : ∀ a st, cats st ≤ d1 → cats (n2 a :: st) ≤ d2) (s3 : Sure P3_ e3) (h3 : EV mi (Tw own o) d2 k2 k3 L n3 e3) (hm : ∀ a1 a2 a3, P1_ a1 → P2_ a2 → P3_ a3 → MT q (Tw own o) [n1 a1, n2 a2, n3 a3] (fun _ => none) (p a1 a2 a3)) (hz : mMc q = 0 ∧ mMs q = 0) (hd : decode (mB mi) k3 = .ok (ins, 3)) (hs : ∀ a1 a2 a3, P1_ a1 → P2_ a2 → P3_ a3 → ∀ S st, cats st ≤ d → stp mi k3 ins 3 L (n3 a3 :: n2 a2 :: n1 a1 :: st) (Tw own o S) (0, 0) = some (.inr (.inl (q, [n1 a1, n2 a2, n3 a3], st)))) : EU mi (Tw own o) d i (k3 + 3) L (mb e1 fun a1 => mb e2 fun a2 => mb e3 fun a3 => p a1 a2 a3) := by
  intro S v S' h st r hc kk
  obtain ⟨a1, S1, x1, h⟩ := mb_inv h
  obtain ⟨a2, S2, x2, h⟩ := mb_inv h
  obtain ⟨a3, S3, x3, h⟩ := mb_inv h
  exact (h1 S a1 S1 x1 _ r hc (h2 S1 a2 S2 x2 _ r (q1 a1 _ hc) (h3 S2 a3 S3 x3 _ r (q2 a2 _ (q1 a1 _ hc)) (U_call (hm a1 a2 a3 (s1 S a1 S1 x1) (s2 S1 a2 S2 x2) (s3 S2 a3 S3 x3)) hd hz (hs a1 a2 a3 (s1 S a1 S1 x1) (s2 S1 a2 S2 x2) (s3 S2 a3 S3 x3) S3 st hc) h kk))))

theorem U_c4 {α1 α2 α3 α4 : Type} {P1_ : α1 → Prop} {n1 : α1 → Value} {e1 : PM α1} {P2_ : α2 → Prop} {n2 : α2 → Value} {e2 : PM α2} {P3_ : α3 → Prop} {n3 : α3 → Value} {e3 : PM α3} {P4_ : α4 → Prop} {n4 : α4 → Value} {e4 : PM α4} {p : α1 → α2 → α3 → α4 → PM β} {ins : Instr} {k1 k2 k3 k4 d1 d2 d3 : Nat} (s1 : Sure P1_ e1) (h1 : EV mi (Tw own o) d i k1 L n1 e1) (q1 : ∀ a st, cats st ≤ d → cats (n1 a :: st) ≤ d1) (s2 : Sure P2_ e2) (h2 : EV mi (Tw own o) d1 k1 k2 L n2 e2) (q2 : ∀ a st, cats st ≤ d1 → cats (n2 a :: st) ≤ d2) (s3 : Sure P3_ e3) (h3 : EV mi (Tw own o) d2 k2 k3 L n3 e3) (q3 : ∀ a st, cats st ≤ d2 → cats (n3 a :: st) ≤ d3) (s4 : Sure P4_ e4) (h4 : EV mi (Tw own o) d3 k3 k4 L n4 e4) (hm : ∀ a1 a2 a3 a4, P1_ a1 → P2_ a2 → P3_ a3 → P4_ a4 → MT q (Tw own o) [n1 a1, n2 a2, n3 a3, n4 a4] (fun _ => none) (p a1 a2 a3 a4)) (hz : mMc q = 0 ∧ mMs q = 0) (hd : decode (mB mi) k4 = .ok (ins, 3)) (hs : ∀ a1 a2 a3 a4, P1_ a1 → P2_ a2 → P3_ a3 → P4_ a4 → ∀ S st, cats st ≤ d → stp mi k4 ins 3 L (n4 a4 :: n3 a3 :: n2 a2 :: n1 a1 :: st) (Tw own o S) (0, 0) = some (.inr (.inl (q, [n1 a1, n2 a2, n3 a3, n4 a4], st)))) : EU mi (Tw own o) d i (k4 + 3) L (mb e1 fun a1 => mb e2 fun a2 => mb e3 fun a3 => mb e4 fun a4 => p a1 a2 a3 a4) := by
  intro S v S' h st r hc kk
  obtain ⟨a1, S1, x1, h⟩ := mb_inv h
  obtain ⟨a2, S2, x2, h⟩ := mb_inv h
  obtain ⟨a3, S3, x3, h⟩ := mb_inv h
  obtain ⟨a4, S4, x4, h⟩ := mb_inv h
  exact (h1 S a1 S1 x1 _ r hc (h2 S1 a2 S2 x2 _ r (q1 a1 _ hc) (h3 S2 a3 S3 x3 _ r (q2 a2 _ (q1 a1 _ hc)) (h4 S3 a4 S4 x4 _ r (q3 a3 _ (q2 a2 _ (q1 a1 _ hc))) (U_call (hm a1 a2 a3 a4 (s1 S a1 S1 x1) (s2 S1 a2 S2 x2) (s3 S2 a3 S3 x3) (s4 S3 a4 S4 x4)) hd hz (hs a1 a2 a3 a4 (s1 S a1 S1 x1) (s2 S1 a2 S2 x2) (s3 S2 a3 S3 x3) (s4 S3 a4 S4 x4) S4 st hc) h kk)))))

theorem U_c5 {α1 α2 α3 α4 α5 : Type} {P1_ : α1 → Prop} {n1 : α1 → Value} {e1 : PM α1} {P2_ : α2 → Prop} {n2 : α2 → Value} {e2 : PM α2} {P3_ : α3 → Prop} {n3 : α3 → Value} {e3 : PM α3} {P4_ : α4 → Prop} {n4 : α4 → Value} {e4 : PM α4} {P5_ : α5 → Prop} {n5 : α5 → Value} {e5 : PM α5} {p : α1 → α2 → α3 → α4 → α5 → PM β} {ins : Instr} {k1 k2 k3 k4 k5 d1 d2 d3 d4 : Nat} (s1 : Sure P1_ e1) (h1 : EV mi (Tw own o) d i k1 L n1 e1) (q1 : ∀ a st, cats st ≤ d → cats (n1 a :: st) ≤ d1) (s2 : Sure P2_ e2) (h2 : EV mi (Tw own o) d1 k1 k2 L n2 e2) (q2 : ∀ a st, cats st ≤ d1 → cats (n2 a :: st) ≤ d2) (s3 : Sure P3_ e3) (h3 : EV mi (Tw own o) d2 k2 k3 L n3 e3) (q3 : ∀ a st, cats st ≤ d2 → cats (n3 a :: st) ≤ d3) (s4 : Sure P4_ e4) (h4 : EV mi (Tw own o) d3 k3 k4 L n4 e4) (q4 : ∀ a st, cats st ≤ d3 → cats (n4 a :: st) ≤ d4) (s5 : Sure P5_ e5) (h5 : EV mi (Tw own o) d4 k4 k5 L n5 e5) (hm : ∀ a1 a2 a3 a4 a5, P1_ a1 → P2_ a2 → P3_ a3 → P4_ a4 → P5_ a5 → MT q (Tw own o) [n1 a1, n2 a2, n3 a3, n4 a4, n5 a5] (fun _ => none) (p a1 a2 a3 a4 a5)) (hz : mMc q = 0 ∧ mMs q = 0) (hd : decode (mB mi) k5 = .ok (ins, 3)) (hs : ∀ a1 a2 a3 a4 a5, P1_ a1 → P2_ a2 → P3_ a3 → P4_ a4 → P5_ a5 → ∀ S st, cats st ≤ d → stp mi k5 ins 3 L (n5 a5 :: n4 a4 :: n3 a3 :: n2 a2 :: n1 a1 :: st) (Tw own o S) (0, 0) = some (.inr (.inl (q, [n1 a1, n2 a2, n3 a3, n4 a4, n5 a5], st)))) : EU mi (Tw own o) d i (k5 + 3) L (mb e1 fun a1 => mb e2 fun a2 => mb e3 fun a3 => mb e4 fun a4 => mb e5 fun a5 => p a1 a2 a3 a4 a5) := by
  intro S v S' h st r hc kk
  obtain ⟨a1, S1, x1, h⟩ := mb_inv h
  obtain ⟨a2, S2, x2, h⟩ := mb_inv h
  obtain ⟨a3, S3, x3, h⟩ := mb_inv h
  obtain ⟨a4, S4, x4, h⟩ := mb_inv h
  obtain ⟨a5, S5, x5, h⟩ := mb_inv h
  exact (h1 S a1 S1 x1 _ r hc (h2 S1 a2 S2 x2 _ r (q1 a1 _ hc) (h3 S2 a3 S3 x3 _ r (q2 a2 _ (q1 a1 _ hc)) (h4 S3 a4 S4 x4 _ r (q3 a3 _ (q2 a2 _ (q1 a1 _ hc))) (h5 S4 a5 S5 x5 _ r (q4 a4 _ (q3 a3 _ (q2 a2 _ (q1 a1 _ hc)))) (U_call (hm a1 a2 a3 a4 a5 (s1 S a1 S1 x1) (s2 S1 a2 S2 x2) (s3 S2 a3 S3 x3) (s4 S3 a4 S4 x4) (s5 S4 a5 S5 x5)) hd hz (hs a1 a2 a3 a4 a5 (s1 S a1 S1 x1) (s2 S1 a2 S2 x2) (s3 S2 a3 S3 x3) (s4 S3 a4 S4 x4) (s5 S4 a5 S5 x5) S5 st hc) h kk))))))

theorem U_c6 {α1 α2 α3 α4 α5 α6 : Type} {P1_ : α1 → Prop} {n1 : α1 → Value} {e1 : PM α1} {P2_ : α2 → Prop} {n2 : α2 → Value} {e2 : PM α2} {P3_ : α3 → Prop} {n3 : α3 → Value} {e3 : PM α3} {P4_ : α4 → Prop} {n4 : α4 → Value} {e4 : PM α4} {P5_ : α5 → Prop} {n5 : α5 → Value} {e5 : PM α5} {P6_ : α6 → Prop} {n6 : α6 → Value} {e6 : PM α6} {p : α1 → α2 → α3 → α4 → α5 → α6 → PM β} {ins : Instr} {k1 k2 k3 k4 k5 k6 d1 d2 d3 d4 d5 : Nat} (s1 : Sure P1_ e1) (h1 : EV mi (Tw own o) d i k1 L n1 e1) (q1 : ∀ a st, cats st ≤ d → cats (n1 a :: st) ≤ d1) (s2 : Sure P2_ e2) (h2 : EV mi (Tw own o) d1 k1 k2 L n2 e2) (q2 : ∀ a st, cats st ≤ d1 → cats (n2 a :: st) ≤ d2) (s3 : Sure P3_ e3) (h3 : EV mi (Tw own o) d2 k2 k3 L n3 e3) (q3 : ∀ a st, cats st ≤ d2 → cats (n3 a :: st) ≤ d3) (s4 : Sure P4_ e4) (h4 : EV mi (Tw own o) d3 k3 k4 L n4 e4) (q4 : ∀ a st, cats st ≤ d3 → cats (n4 a :: st) ≤ d4) (s5 : Sure P5_ e5) (h5 : EV mi (Tw own o) d4 k4 k5 L n5 e5) (q5 : ∀ a st, cats st ≤ d4 → cats (n5 a :: st) ≤ d5) (s6 : Sure P6_ e6) (h6 : EV mi (Tw own o) d5 k5 k6 L n6 e6) (hm : ∀ a1 a2 a3 a4 a5 a6, P1_ a1 → P2_ a2 → P3_ a3 → P4_ a4 → P5_ a5 → P6_ a6 → MT q (Tw own o) [n1 a1, n2 a2, n3 a3, n4 a4, n5 a5, n6 a6] (fun _ => none) (p a1 a2 a3 a4 a5 a6)) (hz : mMc q = 0 ∧ mMs q = 0) (hd : decode (mB mi) k6 = .ok (ins, 3)) (hs : ∀ a1 a2 a3 a4 a5 a6, P1_ a1 → P2_ a2 → P3_ a3 → P4_ a4 → P5_ a5 → P6_ a6 → ∀ S st, cats st ≤ d → stp mi k6 ins 3 L (n6 a6 :: n5 a5 :: n4 a4 :: n3 a3 :: n2 a2 :: n1 a1 :: st) (Tw own o S) (0, 0) = some (.inr (.inl (q, [n1 a1, n2 a2, n3 a3, n4 a4, n5 a5, n6 a6], st)))) : EU mi (Tw own o) d i (k6 + 3) L (mb e1 fun a1 => mb e2 fun a2 => mb e3 fun a3 => mb e4 fun a4 => mb e5 fun a5 => mb e6 fun a6 => p a1 a2 a3 a4 a5 a6) := by
  intro S v S' h st r hc kk
  obtain ⟨a1, S1, x1, h⟩ := mb_inv h
  obtain ⟨a2, S2, x2, h⟩ := mb_inv h
  obtain ⟨a3, S3, x3, h⟩ := mb_inv h
  obtain ⟨a4, S4, x4, h⟩ := mb_inv h
  obtain ⟨a5, S5, x5, h⟩ := mb_inv h
  obtain ⟨a6, S6, x6, h⟩ := mb_inv h
  exact (h1 S a1 S1 x1 _ r hc (h2 S1 a2 S2 x2 _ r (q1 a1 _ hc) (h3 S2 a3 S3 x3 _ r (q2 a2 _ (q1 a1 _ hc)) (h4 S3 a4 S4 x4 _ r (q3 a3 _ (q2 a2 _ (q1 a1 _ hc))) (h5 S4 a5 S5 x5 _ r (q4 a4 _ (q3 a3 _ (q2 a2 _ (q1 a1 _ hc)))) (h6 S5 a6 S6 x6 _ r (q5 a5 _ (q4 a4 _ (q3 a3 _ (q2 a2 _ (q1 a1 _ hc))))) (U_call (hm a1 a2 a3 a4 a5 a6 (s1 S a1 S1 x1) (s2 S1 a2 S2 x2) (s3 S2 a3 S3 x3) (s4 S3 a4 S4 x4) (s5 S4 a5 S5 x5) (s6 S5 a6 S6 x6)) hd hz (hs a1 a2 a3 a4 a5 a6 (s1 S a1 S1 x1) (s2 S1 a2 S2 x2) (s3 S2 a3 S3 x3) (s4 S3 a4 S4 x4) (s5 S4 a5 S5 x5) (s6 S5 a6 S6 x6) S6 st hc) h kk)))))))

theorem U_c7 {α1 α2 α3 α4 α5 α6 α7 : Type} {P1_ : α1 → Prop} {n1 : α1 → Value} {e1 : PM α1} {P2_ : α2 → Prop} {n2 : α2 → Value} {e2 : PM α2} {P3_ : α3 → Prop} {n3 : α3 → Value} {e3 : PM α3} {P4_ : α4 → Prop} {n4 : α4 → Value} {e4 : PM α4} {P5_ : α5 → Prop} {n5 : α5 → Value} {e5 : PM α5} {P6_ : α6 → Prop} {n6 : α6 → Value} {e6 : PM α6} {P7_ : α7 → Prop} {n7 : α7 → Value} {e7 : PM α7} {p : α1 → α2 → α3 → α4 → α5 → α6 → α7 → PM β} {ins : Instr} {k1 k2 k3 k4 k5 k6 k7 d1 d2 d3 d4 d5 d6 : Nat} (s1 : Sure P1_ e1) (h1 : EV mi (Tw own o) d i k1 L n1 e1) (q1 : ∀ a st, cats st ≤ d → cats (n1 a :: st) ≤ d1) (s2 : Sure P2_ e2) (h2 : EV mi (Tw own o) d1 k1 k2 L n2 e2) (q2 : ∀ a st, cats st ≤ d1 → cats (n2 a :: st) ≤ d2) (s3 : Sure P3_ e3) (h3 : EV mi (Tw own o) d2 k2 k3 L n3 e3) (q3 : ∀ a st, cats st ≤ d2 → cats (n3 a :: st) ≤ d3) (s4 : Sure P4_ e4) (h4 : EV mi (Tw own o) d3 k3 k4 L n4 e4) (q4 : ∀ a st, cats st ≤ d3 → cats (n4 a :: st) ≤ d4) (s5 : Sure P5_ e5) (h5 : EV mi (Tw own o) d4 k4 k5 L n5 e5) (q5 : ∀ a st, cats st ≤ d4 → cats (n5 a :: st) ≤ d5) (s6 : Sure P6_ e6) (h6 : EV mi (Tw own o) d5 k5 k6 L n6 e6) (q6 : ∀ a st, cats st ≤ d5 → cats (n6 a :: st) ≤ d6) (s7 : Sure P7_ e7) (h7 : EV mi (Tw own o) d6 k6 k7 L n7 e7) (hm : ∀ a1 a2 a3 a4 a5 a6 a7, P1_ a1 → P2_ a2 → P3_ a3 → P4_ a4 → P5_ a5 → P6_ a6 → P7_ a7 → MT q (Tw own o) [n1 a1, n2 a2, n3 a3, n4 a4, n5 a5, n6 a6, n7 a7] (fun _ => none) (p a1 a2 a3 a4 a5 a6 a7)) (hz : mMc q = 0 ∧ mMs q = 0) (hd : decode (mB mi) k7 = .ok (ins, 3)) (hs : ∀ a1 a2 a3 a4 a5 a6 a7, P1_ a1 → P2_ a2 → P3_ a3 → P4_ a4 → P5_ a5 → P6_ a6 → P7_ a7 → ∀ S st, cats st ≤ d → stp mi k7 ins 3 L (n7 a7 :: n6 a6 :: n5 a5 :: n4 a4 :: n3 a3 :: n2 a2 :: n1 a1 :: st) (Tw own o S) (0, 0) = some (.inr (.inl (q, [n1 a1, n2 a2, n3 a3, n4 a4, n5 a5, n6 a6, n7 a7], st)))) : EU mi (Tw own o) d i (k7 + 3) L (mb e1 fun a1 => mb e2 fun a2 => mb e3 fun a3 => mb e4 fun a4 => mb e5 fun a5 => mb e6 fun a6 => mb e7 fun a7 => p a1 a2 a3 a4 a5 a6 a7) := by
  intro S v S' h st r hc kk
  obtain ⟨a1, S1, x1, h⟩ := mb_inv h
  obtain ⟨a2, S2, x2, h⟩ := mb_inv h
  obtain ⟨a3, S3, x3, h⟩ := mb_inv h
  obtain ⟨a4, S4, x4, h⟩ := mb_inv h
  obtain ⟨a5, S5, x5, h⟩ := mb_inv h
  obtain ⟨a6, S6, x6, h⟩ := mb_inv h
  obtain ⟨a7, S7, x7, h⟩ := mb_inv h
  exact (h1 S a1 S1 x1 _ r hc (h2 S1 a2 S2 x2 _ r (q1 a1 _ hc) (h3 S2 a3 S3 x3 _ r (q2 a2 _ (q1 a1 _ hc)) (h4 S3 a4 S4 x4 _ r (q3 a3 _ (q2 a2 _ (q1 a1 _ hc))) (h5 S4 a5 S5 x5 _ r (q4 a4 _ (q3 a3 _ (q2 a2 _ (q1 a1 _ hc)))) (h6 S5 a6 S6 x6 _ r (q5 a5 _ (q4 a4 _ (q3 a3 _ (q2 a2 _ (q1 a1 _ hc))))) (h7 S6 a7 S7 x7 _ r (q6 a6 _ (q5 a5 _ (q4 a4 _ (q3 a3 _ (q2 a2 _ (q1 a1 _ hc)))))) (U_call (hm a1 a2 a3 a4 a5 a6 a7 (s1 S a1 S1 x1) (s2 S1 a2 S2 x2) (s3 S2 a3 S3 x3) (s4 S3 a4 S4 x4) (s5 S4 a5 S5 x5) (s6 S5 a6 S6 x6) (s7 S6 a7 S7 x7)) hd hz (hs a1 a2 a3 a4 a5 a6 a7 (s1 S a1 S1 x1) (s2 S1 a2 S2 x2) (s3 S2 a3 S3 x3) (s4 S3 a4 S4 x4) (s5 S4 a5 S5 x5) (s6 S5 a6 S6 x6) (s7 S6 a7 S7 x7) S7 st hc) h kk))))))))

theorem U_c8 {α1 α2 α3 α4 α5 α6 α7 α8 : Type} {P1_ : α1 → Prop} {n1 : α1 → Value} {e1 : PM α1} {P2_ : α2 → Prop} {n2 : α2 → Value} {e2 : PM α2} {P3_ : α3 → Prop} {n3 : α3 → Value} {e3 : PM α3} {P4_ : α4 → Prop} {n4 : α4 → Value} {e4 : PM α4} {P5_ : α5 → Prop} {n5 : α5 → Value} {e5 : PM α5} {P6_ : α6 → Prop} {n6 : α6 → Value} {e6 : PM α6} {P7_ : α7 → Prop} {n7 : α7 → Value} {e7 : PM α7} {P8_ : α8 → Prop} {n8 : α8 → Value} {e8 : PM α8} {p : α1 → α2 → α3 → α4 → α5 → α6 → α7 → α8 → PM β} {ins : Instr} {k1 k2 k3 k4 k5 k6 k7 k8 d1 d2 d3 d4 d5 d6 d7 : Nat} (s1 : Sure P1_ e1) (h1 : EV mi (Tw own o) d i k1 L n1 e1) (q1 : ∀ a st, cats st ≤ d → cats (n1 a :: st) ≤ d1) (s2 : Sure P2_ e2) (h2 : EV mi (Tw own o) d1 k1 k2 L n2 e2) (q2 : ∀ a st, cats st ≤ d1 → cats (n2 a :: st) ≤ d2) (s3 : Sure P3_ e3) (h3 : EV mi (Tw own o) d2 k2 k3 L n3 e3) (q3 : ∀ a st, cats st ≤ d2 → cats (n3 a :: st) ≤ d3) (s4 : Sure P4_ e4) (h4 : EV mi (Tw own o) d3 k3 k4 L n4 e4) (q4 : ∀ a st, cats st ≤ d3 → cats (n4 a :: st) ≤ d4) (s5 : Sure P5_ e5) (h5 : EV mi (Tw own o) d4 k4 k5 L n5 e5) (q5 : ∀ a st, cats st ≤ d4 → cats (n5 a :: st) ≤ d5) (s6 : Sure P6_ e6) (h6 : EV mi (Tw own o) d5 k5 k6 L n6 e6) (q6 : ∀ a st, cats st ≤ d5 → cats (n6 a :: st) ≤ d6) (s7 : Sure P7_ e7) (h7 : EV mi (Tw own o) d6 k6 k7 L n7 e7) (q7 : ∀ a st, cats st ≤ d6 → cats (n7 a :: st) ≤ d7) (s8 : Sure P8_ e8) (h8 : EV mi (Tw own o) d7 k7 k8 L n8 e8) (hm : ∀ a1 a2 a3 a4 a5 a6 a7 a8, P1_ a1 → P2_ a2 → P3_ a3 → P4_ a4 → P5_ a5 → P6_ a6 → P7_ a7 → P8_ a8 → MT q (Tw own o) [n1 a1, n2 a2, n3 a3, n4 a4, n5 a5, n6 a6, n7 a7, n8 a8] (fun _ => none) (p a1 a2 a3 a4 a5 a6 a7 a8)) (hz : mMc q = 0 ∧ mMs q = 0) (hd : decode (mB mi) k8 = .ok (ins, 3)) (hs : ∀ a1 a2 a3 a4 a5 a6 a7 a8, P1_ a1 → P2_ a2 → P3_ a3 → P4_ a4 → P5_ a5 → P6_ a6 → P7_ a7 → P8_ a8 → ∀ S st, cats st ≤ d → stp mi k8 ins 3 L (n8 a8 :: n7 a7 :: n6 a6 :: n5 a5 :: n4 a4 :: n3 a3 :: n2 a2 :: n1 a1 :: st) (Tw own o S) (0, 0) = some (.inr (.inl (q, [n1 a1, n2 a2, n3 a3, n4 a4, n5 a5, n6 a6, n7 a7, n8 a8], st)))) : EU mi (Tw own o) d i (k8 + 3) L (mb e1 fun a1 => mb e2 fun a2 => mb e3 fun a3 => mb e4 fun a4 => mb e5 fun a5 => mb e6 fun a6 => mb e7 fun a7 => mb e8 fun a8 => p a1 a2 a3 a4 a5 a6 a7 a8) := by
  intro S v S' h st r hc kk
  obtain ⟨a1, S1, x1, h⟩ := mb_inv h
  obtain ⟨a2, S2, x2, h⟩ := mb_inv h
  obtain ⟨a3, S3, x3, h⟩ := mb_inv h
  obtain ⟨a4, S4, x4, h⟩ := mb_inv h
  obtain ⟨a5, S5, x5, h⟩ := mb_inv h
  obtain ⟨a6, S6, x6, h⟩ := mb_inv h
  obtain ⟨a7, S7, x7, h⟩ := mb_inv h
  obtain ⟨a8, S8, x8, h⟩ := mb_inv h
  exact (h1 S a1 S1 x1 _ r hc (h2 S1 a2 S2 x2 _ r (q1 a1 _ hc) (h3 S2 a3 S3 x3 _ r (q2 a2 _ (q1 a1 _ hc)) (h4 S3 a4 S4 x4 _ r (q3 a3 _ (q2 a2 _ (q1 a1 _ hc))) (h5 S4 a5 S5 x5 _ r (q4 a4 _ (q3 a3 _ (q2 a2 _ (q1 a1 _ hc)))) (h6 S5 a6 S6 x6 _ r (q5 a5 _ (q4 a4 _ (q3 a3 _ (q2 a2 _ (q1 a1 _ hc))))) (h7 S6 a7 S7 x7 _ r (q6 a6 _ (q5 a5 _ (q4 a4 _ (q3 a3 _ (q2 a2 _ (q1 a1 _ hc)))))) (h8 S7 a8 S8 x8 _ r (q7 a7 _ (q6 a6 _ (q5 a5 _ (q4 a4 _ (q3 a3 _ (q2 a2 _ (q1 a1 _ hc))))))) (U_call (hm a1 a2 a3 a4 a5 a6 a7 a8 (s1 S a1 S1 x1) (s2 S1 a2 S2 x2) (s3 S2 a3 S3 x3) (s4 S3 a4 S4 x4) (s5 S4 a5 S5 x5) (s6 S5 a6 S6 x6) (s7 S6 a7 S7 x7) (s8 S7 a8 S8 x8)) hd hz (hs a1 a2 a3 a4 a5 a6 a7 a8 (s1 S a1 S1 x1) (s2 S1 a2 S2 x2) (s3 S2 a3 S3 x3) (s4 S3 a4 S4 x4) (s5 S4 a5 S5 x5) (s6 S5 a6 S6 x6) (s7 S6 a7 S7 x7) (s8 S7 a8 S8 x8) S8 st hc) h kk)))))))))

/-- returns and ends under wraps -/
theorem G_retW {T : Sg → LW} {α τ : Type} {j len : Nat} {nu : α → Value} {e : PM α} {K : τ → Sg → RT → Prop} {ins : Instr} {w : α → τ} (h : EV mi T 0 i j L nu e) (hd : decode (mB mi) j = .ok (ins, len)) (hs : ∀ a lw, stp mi j ins len L [nu a] lw (0, 0) = some (.inr (.inr (some (nu a))))) (hK : ∀ a S r, K (w a) S r → r = (some (nu a), T S)) : GS mi T i L K (mb e fun a => pu (w a)) := by
  intro S v S' r h1 kk
  obtain ⟨a, S1, ha, h1⟩ := mb_inv h1
  obtain ⟨rfl, rfl⟩ := pu_inv h1
  have kk := hK _ _ _ kk
  subst kk
  exact h S a S1 ha [] _ (Nat.le_refl _) (Rn.ret hd (hs a _) ⟨Nat.zero_le _, Nat.zero_le _⟩)
theorem G_retvW {T : Sg → LW} {τ : Type} {len : Nat} {K : τ → Sg → RT → Prop} {ins : Instr} {b : τ} (hd : decode (mB mi) i = .ok (ins, len)) (hs : ∀ lw, stp mi i ins len L [] lw (0, 0) = some (.inr (.inr none))) (hK : ∀ S r, K b S r → r = (none, T S)) : GS mi T i L K (pu b) := by
  intro S v S' r h1 kk
  obtain ⟨rfl, rfl⟩ := pu_inv h1
  have kk := hK _ _ kk
  subst kk
  exact Rn.ret hd (hs _) ⟨Nat.zero_le _, Nat.zero_le _⟩
theorem G_atK {T : Sg → LW} {τ : Type} {K : τ → Sg → RT → Prop} {M : Lcl} {b : τ} (hL : Le M L) (hK : ∀ S r, K b S r → Rn mi (i, M, [], T S, (0, 0)) r) : GS mi T i L K (pu b) := by
  intro S v S' r h1 kk
  obtain ⟨rfl, rfl⟩ := pu_inv h1
  exact Rn.weak hL (hK _ _ kk)
theorem G_inc {T : Sg → LW} {τ : Type} {K : τ → Sg → RT → Prop} {p : PM τ} {ins : Instr} {len j : Nat} {L' : Lcl} (hd : decode (mB mi) i = .ok (ins, len)) (hs : ∀ lw, stp mi i ins len L [] lw (0, 0) = some (.inl (j, L', [], lw, (0, 0)))) (hp : GS mi T j L' K p) : GS mi T i L K p := by
  intro S v S' r h1 kk
  exact Rn.step hd (hs _) (hp S v S' r h1 kk)
theorem G_letP {T : Sg → LW} {α τ : Type} {j k len : Nat} {P : α → Prop} {nu : α → Value} {e : PM α} {p : α → PM τ} {K : τ → Sg → RT → Prop} {ins : Instr} {L' : α → Lcl} (hP : Sure P e) (h : EV mi T 0 i j L nu e) (hd : decode (mB mi) j = .ok (ins, len)) (hs : ∀ a lw, stp mi j ins len L [nu a] lw (0, 0) = some (.inl (k, L' a, [], lw, (0, 0)))) (hp : ∀ a, P a → GS mi T k (L' a) K (p a)) : GS mi T i L K (mb e p) := by
  intro S v S' r h1 kk
  obtain ⟨a, S1, ha, h1⟩ := mb_inv h1
  exact h S a S1 ha [] r (Nat.le_refl _) (Rn.step hd (hs a _) (hp a (hP S a S1 ha) S1 v S' r h1 kk))
/-- an expression's value thrown away, or none -/
theorem U_pop {T : Sg → LW} {α : Type} {j : Nat} {nu : α → Value} {e : PM α} (hn : ∀ a, (nu a).category = 1) (h : EV mi T d i j L nu e) (hd : decode (mB mi) j = .ok (.pop, 1)) : EU mi T d i (j + 1) L e := by
  intro S v S' h1 st r hc kk
  refine h S v S' h1 st r hc (Rn.step hd ?_ kk)
  simp [stp, ckl, hn v, nx]
def tsw {τ : Type} (lo hi : Int) (ps : List (PM τ)) (q : PM τ) (x : Int32) : PM τ := if x.toInt < lo ∨ hi < x.toInt then q else ps.getD (x.toInt - lo).toNat (fun _ => none)
theorem G_tsw {T : Sg → LW} {τ : Type} {j len td : Nat} {e : PM Int32} {K : τ → Sg → RT → Prop} {df lo hi : Int} {offs : Array Int} {ps : List (PM τ)} {qd : PM τ} (h : EV mi T 0 i j L vI e) (hd : decode (mB mi) j = .ok (.tableswitch df lo hi offs, len)) (ht : jmp j df = some td) (hq : GS mi T td L K qd) (hlen : ps.length = offs.size) (hps : ∀ k, (hk : k < ps.length) → ∃ t, (offs[k]?).bind (jmp j) = some t ∧ GS mi T t L K ps[k]) : GS mi T i L K (mb e fun x => tsw lo hi ps qd x) := by
  intro S v S' r h1 kk
  obtain ⟨x, S1, hx, h1⟩ := mb_inv h1
  refine h S x S1 hx [] r (Nat.le_refl _) ?_
  unfold tsw at h1
  split at h1
  · next hc =>
    refine Rn.step hd (x := (td, L, [], T S1, (0, 0))) ?_ (hq S1 v S' r h1 kk)
    simp [stp, swT, hc, go, ht, nx]
  · next hc =>
    by_cases hk : (x.toInt - lo).toNat < ps.length
    · obtain ⟨t, ht2, hg⟩ := hps _ hk
      obtain ⟨off, ho, hj⟩ := Option.bind_eq_some_iff.mp ht2
      rw [List.getD_eq_getElem?_getD, List.getElem?_eq_getElem hk] at h1
      refine Rn.step hd (x := (t, L, [], T S1, (0, 0))) ?_ (hg S1 v S' r h1 kk)
      simp [stp, swT, hc, go, ho, hj, nx]
    · rw [List.getD_eq_getElem?_getD, List.getElem?_eq_none (by omega)] at h1
      cases h1
def lsw {τ : Type} (ps : List (Int × PM τ)) (q : PM τ) (x : Int32) : PM τ := (ps.lookup x.toInt).getD q
theorem G_lsw {T : Sg → LW} {τ : Type} {j len td : Nat} {e : PM Int32} {K : τ → Sg → RT → Prop} {df : Int} {prs : Array (Int × Int)} {ps : List (Int × PM τ)} {qd : PM τ} (h : EV mi T 0 i j L vI e) (hd : decode (mB mi) j = .ok (.lookupswitch df prs, len)) (hsort : (prs.toList.zip (prs.toList.drop 1)).all (fun (a, next) => a.1 < next.1) = true) (ht : jmp j df = some td) (hq : GS mi T td L K qd)
    (hsel : ∀ x : Int, (∃ p t, ps.lookup x = some p ∧ jmp j (Op.lookupswitch.offset prs.toList df x) = some t ∧ GS mi T t L K p) ∨ (ps.lookup x = none ∧ Op.lookupswitch.offset prs.toList df x = df)) : GS mi T i L K (mb e fun x => lsw ps qd x) := by
  intro S v S' r h1 kk
  obtain ⟨x, S1, hx, h1⟩ := mb_inv h1
  refine h S x S1 hx [] r (Nat.le_refl _) ?_
  unfold lsw at h1
  rcases hsel x.toInt with ⟨p, t, e1, e2, hg⟩ | ⟨e1, e2⟩
  · rw [e1] at h1
    refine Rn.step hd (x := (t, L, [], T S1, (0, 0))) ?_ (hg S1 v S' r h1 kk)
    simp only [stp, hsort, if_true, go, e2, Option.bind_some, nx]
  · rw [e1] at h1
    refine Rn.step hd (x := (td, L, [], T S1, (0, 0))) ?_ (hq S1 v S' r h1 kk)
    simp only [stp, hsort, if_true, go, e2, ht, Option.bind_some, nx]
end calls
def FU : Nat := 1000000
