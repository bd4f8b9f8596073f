/-! a run doesn't mind what stands behind an array's end, nor a cell that it can't read -/
def dmy : va_E := .inr (99, [])
def cel (e e' : va_E) : Prop := e ≠ dmy ∧ (e = e' ∨ (∃ (t n : Nat) (f f' : Nat → Int32), e = .inl (t, n, .inl f) ∧ e' = .inl (t, n, .inl f') ∧ ∀ j : Nat, j < n → f' j = f j) ∨ (∃ (t n : Nat) (f f' : Nat → Option Nat), e = .inl (t, n, .inr (.inr (.inr (.inr f)))) ∧ e' = .inl (t, n, .inr (.inr (.inr (.inr f')))) ∧ ∀ j : Nat, j < n → f' j = f j))
def RL (c : Nat → va_E) (lw lw' : LW) : Prop := lw'.length = lw.length ∧ ∀ (a : Nat) (e : va_E), lw[a]? = some e → ∃ e', lw'[a]? = some e' ∧ (cel e e' ∨ (e = dmy ∧ e' = c a))
def RY (c : Nat → va_E) (y y' : St ⊕ ((Nat × List Value × List Value) ⊕ Option Value)) : Prop := match y, y' with
  | .inl x, .inl x' => ∃ lw', x' = (x.1, x.2.1, x.2.2.1, lw', x.2.2.2.2) ∧ RL c x.2.2.2.1 lw'
  | .inr z, .inr z' => z' = z
  | _, _ => False
def SRs (c : Nat → va_E) (r r' : SR) : Prop := ∀ y, r = some y → ∃ y', r' = some y' ∧ RY c y y'
section sim
variable {c : Nat → va_E} {mi pc idx : Nat} {L : Lcl} {st : List Value} {lw lw' : LW} {cs : Nat × Nat}
theorem s_non {r' : SR} : SRs c none r' := fun y h => by cases h
theorem s_nx (h : RL c lw lw') : SRs c (nx pc L st lw cs) (nx pc L st lw' cs) := fun y hy => by
  cases hy
  exact ⟨_, rfl, _, rfl, h⟩
theorem s_ret {z : (Nat × List Value × List Value) ⊕ Option Value} : SRs c (some (.inr z)) (some (.inr z)) := fun y hy => by
  cases hy
  exact ⟨_, rfl, rfl⟩
theorem s_ite {p p' : Prop} [Decidable p] [Decidable p'] {a a' b b' : SR} (hp : p ↔ p') (h1 : SRs c a a') (h2 : SRs c b b') : SRs c (if p then a else b) (if p' then a' else b') := by
  by_cases h : p
  · rw [if_pos h, if_pos (hp.1 h)]; exact h1
  · rw [if_neg h, if_neg (fun h' => h (hp.2 h'))]; exact h2
theorem s_itp {p p' : Prop} [Decidable p] [Decidable p'] {a a' b' : SR} (hp : p → p') (h1 : p → SRs c a a') : SRs c (if p then a else none) (if p' then a' else b') := by
  by_cases h : p
  · rw [if_pos h, if_pos (hp h)]; exact h1 h
  · rw [if_neg h]; exact s_non
theorem s_bnd {α : Type} {q : Option α} {f g : α → SR} (h : ∀ a, SRs c (f a) (g a)) : SRs c (q.bind f) (q.bind g) := by
  cases q with
  | none => exact s_non
  | some a => exact h a
theorem s_ckl {a b : Nat} {r r' : SR} (h : SRs c r r') : SRs c (ckl a b r) (ckl a b r') := s_ite Iff.rfl h s_non
theorem s_go {off : Int} (h : RL c lw lw') : SRs c (go pc off L st lw cs) (go pc off L st lw' cs) := s_bnd fun _ => s_nx h
theorem s_arI (h : RL c lw lw') {t a : Nat} {q : Nat × (Nat → Int32)} (hq : arI lw t a = some q) : ∃ q', arI lw' t a = some q' ∧ q'.1 = q.1 ∧ ∀ j, j < q.1 → q'.2 j = q.2 j := by
  unfold arI at hq
  split at hq
  · next t' n f e =>
    split at hq
    · next ht =>
      cases hq
      obtain ⟨e', he, ⟨-, (rfl | ⟨t1, n1, f1, f2, e1, rfl, e3⟩ | ⟨t1, n1, f1, f2, e1, rfl, e3⟩)⟩ | ⟨e1, -⟩⟩ := h.2 a _ e
      · exact ⟨(n, f), by unfold arI; rw [he]; simp only [ht, if_true], rfl, fun _ _ => rfl⟩
      · cases e1
        exact ⟨(n, f2), by unfold arI; rw [he]; simp only [ht, if_true], rfl, e3⟩
      · cases e1
      · cases e1
    · cases hq
  · cases hq
theorem s_arR (h : RL c lw lw') {a : Nat} {q : Nat × (Nat → Option Nat)} (hq : arR lw a = some q) : ∃ q', arR lw' a = some q' ∧ q'.1 = q.1 ∧ ∀ j, j < q.1 → q'.2 j = q.2 j := by
  unfold arR at hq
  split at hq
  · next t' n f e =>
    split at hq
    · next ht =>
      cases hq
      obtain ⟨e', he, ⟨-, (rfl | ⟨t1, n1, f1, f2, e1, rfl, e3⟩ | ⟨t1, n1, f1, f2, e1, rfl, e3⟩)⟩ | ⟨e1, -⟩⟩ := h.2 a _ e
      · exact ⟨(n, f), by unfold arR; rw [he]; simp only [ht, if_true], rfl, fun _ _ => rfl⟩
      · cases e1
      · cases e1
        exact ⟨(n, f2), by unfold arR; rw [he]; simp only [ht, if_true], rfl, e3⟩
      · cases e1
    · cases hq
  · cases hq
theorem s_obj (h : RL c lw lw') {a : Nat} {o : Nat × List Value} (hq : obj lw a = some o) (hn : o ≠ (99, [])) : obj lw' a = some o := by
  unfold obj at hq
  split at hq
  · next o' e =>
    cases hq
    obtain ⟨e', he, ⟨-, (rfl | ⟨t1, n1, f1, f2, e1, rfl, e3⟩ | ⟨t1, n1, f1, f2, e1, rfl, e3⟩)⟩ | ⟨e1, -⟩⟩ := h.2 a _ e
    · unfold obj; rw [he]
    · cases e1
    · cases e1
    · cases e1; exact absurd rfl hn
  · cases hq
theorem s_bI (h : RL c lw lw') {t a : Nat} {F G : Nat × (Nat → Int32) → SR} (hF : ∀ q q', q'.1 = q.1 → (∀ j, j < q.1 → q'.2 j = q.2 j) → SRs c (F q) (G q')) : SRs c ((arI lw t a).bind F) ((arI lw' t a).bind G) := by
  cases hq : arI lw t a with
  | none => exact s_non
  | some q =>
    obtain ⟨q', e, e1, e2⟩ := s_arI h hq
    rw [e]
    exact hF q q' e1 e2
theorem s_bR (h : RL c lw lw') {a : Nat} {F G : Nat × (Nat → Option Nat) → SR} (hF : ∀ q q', q'.1 = q.1 → (∀ j, j < q.1 → q'.2 j = q.2 j) → SRs c (F q) (G q')) : SRs c ((arR lw a).bind F) ((arR lw' a).bind G) := by
  cases hq : arR lw a with
  | none => exact s_non
  | some q =>
    obtain ⟨q', e, e1, e2⟩ := s_arR h hq
    rw [e]
    exact hF q q' e1 e2
theorem s_bO (h : RL c lw lw') {a : Nat} {F G : Nat × List Value → SR} (hd : F (99, []) = none) (hF : ∀ o, SRs c (F o) (G o)) : SRs c ((obj lw a).bind F) ((obj lw' a).bind G) := by
  cases hq : obj lw a with
  | none => exact s_non
  | some o =>
    by_cases ho : o = (99, [])
    · subst ho
      show SRs c (F (99, [])) _
      rw [hd]
      exact s_non
    · rw [s_obj h hq ho]
      exact hF o
theorem s_set (h : RL c lw lw') {a : Nat} {e e' : va_E} (he : cel e e') : RL c (lw.set a e) (lw'.set a e') := by
  refine ⟨by rw [List.length_set, List.length_set]; exact h.1, fun b x hb => ?_⟩
  by_cases hab : a = b
  · subst hab
    have hl : a < lw.length := by
      apply Decidable.byContradiction
      intro hc
      rw [List.getElem?_eq_none (by rw [List.length_set]; omega)] at hb
      cases hb
    rw [List.getElem?_set_self hl] at hb
    cases hb
    exact ⟨e', by rw [List.getElem?_set_self (by rw [h.1]; exact hl)], Or.inl he⟩
  · rw [List.getElem?_set_ne hab] at hb ⊢
    exact h.2 b x hb
theorem s_app (h : RL c lw lw') (e : va_E) (hne : e ≠ dmy) : RL c (lw ++ [e]) (lw' ++ [e]) := by
  refine ⟨by rw [List.length_append, List.length_append, h.1], fun b x hb => ?_⟩
  by_cases hlt : b < lw.length
  · rw [List.getElem?_append_left hlt] at hb
    rw [List.getElem?_append_left (by rw [h.1]; exact hlt)]
    exact h.2 b x hb
  · rw [List.getElem?_append_right (by omega)] at hb
    rw [List.getElem?_append_right (by rw [h.1]; omega), h.1]
    have hx : x = e := by
      have h0 : b - lw.length = 0 := by
        apply Decidable.byContradiction
        intro hc
        rw [List.getElem?_eq_none (by rw [List.length_singleton]; omega)] at hb
        cases hb
      rw [h0] at hb
      cases hb
      rfl
    exact ⟨x, hb, Or.inl ⟨by rw [hx]; exact hne, Or.inl rfl⟩⟩
theorem cel_I {t n : Nat} {f f' : Nat → Int32} (h : ∀ j, j < n → f' j = f j) : cel (.inl (t, n, .inl f)) (.inl (t, n, .inl f')) := ⟨fun h => (by cases h), Or.inr (Or.inl ⟨t, n, f, f', rfl, rfl, h⟩)⟩
theorem cel_R {t n : Nat} {f f' : Nat → Option Nat} (h : ∀ j, j < n → f' j = f j) : cel (.inl (t, n, .inr (.inr (.inr (.inr f))))) (.inl (t, n, .inr (.inr (.inr (.inr f'))))) := ⟨fun h => (by cases h), Or.inr (Or.inr ⟨t, n, f, f', rfl, rfl, h⟩)⟩
theorem inb_lt {j : Int32} {n : Nat} (h : inb j n = true) : j.toNatClampNeg < n := by
  unfold inb at h
  simp only [Bool.not_eq_true', Bool.or_eq_false_iff, decide_eq_false_iff_not] at h
  omega
theorem s_bi2 {g : Int32 → Int32 → Int32} (h : RL c lw lw') : SRs c (bi2 g pc L st lw cs) (bi2 g pc L st lw' cs) := by
  rcases st with _ | ⟨v, _ | ⟨w, r⟩⟩
  · exact s_non
  · cases v <;> exact s_non
  · cases v <;> cases w <;> first | exact s_non | exact s_nx h
theorem s_bl2 {g : Int64 → Int64 → Int64} (h : RL c lw lw') : SRs c (bl2 g pc L st lw cs) (bl2 g pc L st lw' cs) := by
  rcases st with _ | ⟨v, _ | ⟨w, r⟩⟩
  · exact s_non
  · cases v <;> exact s_non
  · cases v <;> cases w <;> first | exact s_non | exact s_nx h
theorem s_bls {g : Int64 → Int32 → Int64} (h : RL c lw lw') : SRs c (bls g pc L st lw cs) (bls g pc L st lw' cs) := by
  rcases st with _ | ⟨v, _ | ⟨w, r⟩⟩
  · exact s_non
  · cases v <;> exact s_non
  · cases v <;> cases w <;> first | exact s_non | exact s_nx h
theorem s_dv2 {g : Int32 → Int32 → Int32} (h : RL c lw lw') : SRs c (dv2 g pc L st lw cs) (dv2 g pc L st lw' cs) := by
  rcases st with _ | ⟨v, _ | ⟨w, r⟩⟩
  · exact s_non
  · cases v <;> exact s_non
  · cases v <;> cases w <;> first | exact s_non | exact s_ite Iff.rfl s_non (s_nx h)
theorem s_iLd {t : Nat} (h : RL c lw lw') : SRs c (iLd t pc L st lw cs) (iLd t pc L st lw' cs) := by
  rcases st with _ | ⟨v, _ | ⟨w, r⟩⟩
  · exact s_non
  · cases v <;> exact s_non
  · cases v <;> cases w <;> first | exact s_non | exact s_ite Iff.rfl s_non (s_bI h fun q q' e1 e2 => s_itp (fun hp => by rw [e1]; exact hp) fun hp => by rw [e2 _ (inb_lt hp)]; exact s_nx h)
theorem s_rLd (h : RL c lw lw') : SRs c (rLd pc L st lw cs) (rLd pc L st lw' cs) := by
  rcases st with _ | ⟨v, _ | ⟨w, r⟩⟩
  · exact s_non
  · cases v <;> exact s_non
  · cases v <;> cases w <;> first | exact s_non | exact s_ite Iff.rfl s_non (s_bR h fun q q' e1 e2 => s_itp (fun hp => by rw [e1]; exact hp) fun hp => by rw [e2 _ (inb_lt hp)]; exact s_nx h)
theorem s_iSt {t : Nat} (h : RL c lw lw') : SRs c (iSt t pc L st lw cs) (iSt t pc L st lw' cs) := by
  rcases st with _ | ⟨v, _ | ⟨w, _ | ⟨z, r⟩⟩⟩
  · exact s_non
  · cases v <;> exact s_non
  · cases v <;> cases w <;> exact s_non
  · cases v <;> cases w <;> cases z <;> first | exact s_non | exact s_ite Iff.rfl s_non (s_bI h fun q q' e1 e2 => s_itp (fun hp => by rw [e1]; exact hp) fun hp => by
      rw [e1]
      refine s_nx (s_set h (cel_I fun j hj => ?_))
      unfold upd
      split
      · rfl
      · exact e2 j hj)
theorem s_rSt (h : RL c lw lw') : SRs c (rSt pc L st lw cs) (rSt pc L st lw' cs) := by
  rcases st with _ | ⟨v, _ | ⟨w, _ | ⟨z, r⟩⟩⟩
  · exact s_non
  · cases v <;> exact s_non
  · cases v <;> cases w <;> exact s_non
  · cases w <;> cases z <;> first | exact s_non | skip
    refine s_ite Iff.rfl s_non ?_
    cases v <;> first | exact s_non | skip
    · refine s_bR h fun q q' e1 e2 => s_itp (fun hp => by rw [e1]; exact hp) fun hp => ?_
      rw [e1]
      refine s_nx (s_set h (cel_R fun j hj => ?_))
      unfold va_up
      split
      · rfl
      · exact e2 j hj
    · refine s_bR h fun q q' e1 e2 => s_bO h (if_neg (by decide)) fun o => s_ite Iff.rfl (s_itp (fun hp => by rw [e1]; exact hp) fun hp => ?_) s_non
      rw [e1]
      refine s_nx (s_set h (cel_R fun j hj => ?_))
      unfold va_up
      split
      · rfl
      · exact e2 j hj
theorem s_gtF (h : RL c lw lw') : SRs c (gtF mi idx pc L st lw cs) (gtF mi idx pc L st lw' cs) := by
  rcases st with _ | ⟨v, r⟩
  · exact s_non
  · cases v <;> first | exact s_non | skip
    refine s_bnd fun f => s_bO h ?_ fun o => s_ite Iff.rfl (s_bnd fun _ => s_nx h) s_non
    by_cases hf : (99 : Nat) = f.1
    · rw [if_pos hf]; rfl
    · rw [if_neg hf]
theorem ne_set {o : Nat × List Value} {k : Nat} {v : Value} (h : k < o.2.length) : (Sum.inr (o.1, o.2.set k v) : va_E) ≠ dmy := fun e => by
  injection e with e
  injection e with e1 e2
  have := congrArg List.length e2
  rw [List.length_set] at this
  rw [this] at h
  exact absurd h (Nat.not_lt_zero _)
theorem s_ptF (h : RL c lw lw') : SRs c (ptF mi idx pc L st lw cs) (ptF mi idx pc L st lw' cs) := by
  rcases st with _ | ⟨v, _ | ⟨w, r⟩⟩
  · exact s_non
  · exact s_non
  · cases w <;> first | exact s_non | exact s_bnd fun f => s_bO h (if_neg fun hc => absurd hc.2.2.1 (Nat.not_lt_zero _)) fun o => s_itp (fun hp => hp) fun hp => s_nx (s_set h ⟨ne_set hp.2.2.1, Or.inl rfl⟩)
theorem s_nwA {t w : Nat} {e : Nat → vp_A} (h : RL c lw lw') : SRs c (nwA mi pc t w e L st lw cs) (nwA mi pc t w e L st lw' cs) := by
  rcases st with _ | ⟨v, r⟩
  · exact s_non
  · cases v <;> first | exact s_non | skip
    unfold nwA
    simp only [h.1]
    exact s_ite Iff.rfl s_non (s_nx (s_app h _ fun h => by cases h))
theorem s_nwO (h : RL c lw lw') : SRs c (nwO mi idx pc L st lw cs) (nwO mi idx pc L st lw' cs) := by
  unfold nwO
  simp only [h.1]
  refine s_bnd fun k => ?_
  split
  · exact s_non
  · next hc =>
    refine s_nx (s_app h _ fun e => ?_)
    injection e with e
    injection e with e1 e2
    exact hc (Or.inl (by rw [e1]; decide))
theorem s_cal {j n : Nat} : SRs c (cal mi j n st cs) (cal mi j n st cs) := s_ite Iff.rfl s_ret s_non
theorem s_recv (h : RL c lw lw') {n j : Nat} (hr : recv st lw n j = true) : recv st lw' n j = true := by
  unfold recv at hr ⊢
  split at hr
  · next b e =>
    split at hr
    · next o ho =>
      rw [s_obj h ho (fun e => by rw [e] at hr; simp at hr)]
      exact hr
    · cases hr
  · cases hr
theorem s_inv {ks : List Nat} (h : RL c lw lw') : SRs c (inv mi idx pc ks L st lw cs) (inv mi idx pc ks L st lw' cs) := by
  refine s_bnd fun q => s_ite (by rw [h.1]) s_non ?_
  obtain ⟨kd, j⟩ := q
  match kd with
  | 0 => exact s_itp (s_recv h) fun _ => s_cal
  | 1 => exact s_cal
  | 2 => exact s_itp (fun hp => ⟨s_recv h hp.1, hp.2⟩) fun _ => s_cal
  | 3 => exact s_cal
  | 4 => exact s_itp (fun hp => ⟨s_recv h hp.1, hp.2⟩) fun _ => s_cal
  | 5 =>
    rcases st with _ | ⟨v, r⟩
    · exact s_non
    · cases v <;> first | exact s_non | exact s_ite Iff.rfl (s_nx h) s_non
  | 6 =>
    rcases st with _ | ⟨v1, _ | ⟨v2, _ | ⟨v3, _ | ⟨v4, _ | ⟨v5, r⟩⟩⟩⟩⟩
    · exact s_non
    · cases v1 <;> exact s_non
    · cases v1 <;> cases v2 <;> exact s_non
    · cases v1 <;> cases v2 <;> cases v3 <;> exact s_non
    · cases v1 <;> cases v2 <;> cases v3 <;> cases v4 <;> exact s_non
    · cases v1 <;> try exact s_non
      cases v2 <;> try exact s_non
      cases v3 <;> try exact s_non
      cases v4 <;> try exact s_non
      cases v5 <;> try exact s_non
      refine s_ite Iff.rfl s_non (s_bI h fun q0 q0' a1 a2 => s_bI h fun q1 q1' b1 b2 => ?_)
      rw [a1, b1]
      split
      · exact s_non
      · next hc =>
        refine s_nx (s_set h (cel_I fun j hj => ?_))
        unfold va_cpy
        split
        · next hj2 =>
          exact a2 _ (by omega)
        · exact b2 j hj
  | 7 =>
    rcases st with _ | ⟨v, r⟩
    · exact s_non
    · cases v <;> first | exact s_non | exact s_ite Iff.rfl s_non (s_nx h)
  | 8 =>
    rcases st with _ | ⟨v, _ | ⟨w, r⟩⟩
    · exact s_non
    · cases v <;> exact s_non
    · cases v <;> cases w <;> first | exact s_non | exact s_ite Iff.rfl s_non (s_nx h)
  | 9 =>
    rcases st with _ | ⟨v, r⟩
    · exact s_non
    · cases v <;> first | exact s_non | exact s_ite Iff.rfl s_non (s_nx h)
  | 10 =>
    rcases st with _ | ⟨v, _ | ⟨w, r⟩⟩
    · exact s_non
    · cases v <;> exact s_non
    · cases v <;> cases w <;> first | exact s_non | exact s_ite Iff.rfl s_non (s_nx h)
  | n + 11 =>
    rcases st with _ | ⟨v, _ | ⟨w, r⟩⟩
    · exact s_non
    · cases v <;> exact s_non
    · cases v <;> cases w <;> first | exact s_non | exact s_ite Iff.rfl s_non (s_nx h)
theorem s_ldA {k p1 : Nat} (h : RL c lw lw') : SRs c (ldA L k p1 st lw cs) (ldA L k p1 st lw' cs) := by
  unfold ldA
  cases ldv L k with
  | none => exact s_non
  | some v => cases v <;> first | exact s_non | exact s_nx h
theorem s_ldI {k p1 : Nat} (h : RL c lw lw') : SRs c (ldI L k p1 st lw cs) (ldI L k p1 st lw' cs) := by
  unfold ldI
  cases ldv L k with
  | none => exact s_non
  | some v => cases v <;> first | exact s_non | exact s_nx h
theorem s_ldJ {k p1 : Nat} (h : RL c lw lw') : SRs c (ldJ L k p1 st lw cs) (ldJ L k p1 st lw' cs) := by
  unfold ldJ
  cases ldv L k with
  | none => exact s_non
  | some v => cases v <;> first | exact s_non | exact s_nx h
theorem s_stI {k p1 : Nat} (h : RL c lw lw') : SRs c (stI L k p1 st lw cs) (stI L k p1 st lw' cs) := by
  rcases st with _ | ⟨v, r⟩
  · exact s_non
  · cases v <;> first | exact s_non | exact s_bnd fun _ => s_nx h
theorem s_stA {k p1 : Nat} (h : RL c lw lw') : SRs c (stA L k p1 st lw cs) (stA L k p1 st lw' cs) := by
  rcases st with _ | ⟨v, r⟩
  · exact s_non
  · cases v <;> first | exact s_non | exact s_bnd fun _ => s_nx h
theorem s_stJ {k p1 : Nat} (h : RL c lw lw') : SRs c (stJ L k p1 st lw cs) (stJ L k p1 st lw' cs) := by
  rcases st with _ | ⟨v, r⟩
  · exact s_non
  · cases v <;> first | exact s_non | exact s_bnd fun _ => s_nx h
theorem s_len (h : RL c lw lw') : SRs c (match st with
    | .ref a :: r => match lw[a]? with
      | some (.inl (t, n, _)) => if a = 0 ∧ ¬ t = 0 then none else nx (pc + 1) L (.int (Int32.ofNat n) :: r) lw cs
      | _ => none
    | _ => none) (match st with
    | .ref a :: r => match lw'[a]? with
      | some (.inl (t, n, _)) => if a = 0 ∧ ¬ t = 0 then none else nx (pc + 1) L (.int (Int32.ofNat n) :: r) lw' cs
      | _ => none
    | _ => none) := by
  rcases st with _ | ⟨v, r⟩
  · exact s_non
  · cases v <;> first | exact s_non | skip
    next a =>
    show SRs c (match lw[a]? with
      | some (.inl (t, n, _)) => if a = 0 ∧ ¬ t = 0 then none else nx (pc + 1) L (.int (Int32.ofNat n) :: r) lw cs
      | _ => none) (match lw'[a]? with
      | some (.inl (t, n, _)) => if a = 0 ∧ ¬ t = 0 then none else nx (pc + 1) L (.int (Int32.ofNat n) :: r) lw' cs
      | _ => none)
    cases e : lw[a]? with
    | none => exact s_non
    | some x =>
      rcases x with ⟨t, n, g⟩ | o
      · obtain ⟨e', he, ⟨-, (rfl | ⟨t1, n1, f1, f2, e1, rfl, e3⟩ | ⟨t1, n1, f1, f2, e1, rfl, e3⟩)⟩ | ⟨e1, -⟩⟩ := h.2 a _ e
        · rw [he]; exact s_ite Iff.rfl s_non (s_nx h)
        · cases e1; rw [he]; exact s_ite Iff.rfl s_non (s_nx h)
        · cases e1; rw [he]; exact s_ite Iff.rfl s_non (s_nx h)
        · cases e1
      · exact s_non
theorem s_acmp {cd : ClassFile.ACond} {off : Int} (h : RL c lw lw') : SRs c (stp mi pc (.if_acmp cd off) 3 L st lw cs) (stp mi pc (.if_acmp cd off) 3 L st lw' cs) := by
  have hb : ∀ r, rfB r lw' = rfB r lw := fun r => by cases r <;> simp [rfB, h.1]
  rcases st with _ | ⟨v, _ | ⟨w, r⟩⟩
  · exact s_non
  · exact s_non
  · refine s_ckl (s_bnd fun ry => s_bnd fun rx => ?_)
    rw [hb, hb]
    exact s_ite Iff.rfl (s_bnd fun _ => s_nx h) s_non
end sim
