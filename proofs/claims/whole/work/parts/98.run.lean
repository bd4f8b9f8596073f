/-! the law from its beginning to its end -/
theorem ctor_C : ∃ lwC lw, chkC lwC = true ∧ RL (fun _ => dmy) lwC lw ∧ Rn 0 (0, entL (mL 0) [.ref 1], [], [dmy, .inr (9, dflt 9)], (0, 0)) (none, lw) := by
  have h := gC4
  rw [execF_eq] at h
  generalize hr : exec 20000 0 (xC3.1, xC3.2.1, xC3.2.2.1, xC3.2.2.2.1, (xC3.2.2.2.2.1, xC3.2.2.2.2.2)) = r at h
  match r, h, hr with
  | some (some v, lw, cs), h, _ => cases h
  | none, h, _ => cases h
  | some (none, lw, cs), h, hr =>
    obtain ⟨l3, r3, s3⟩ := seg_Rn gC3 (v := none) (lwF := lw) ⟨20000, cs, hr⟩
    obtain ⟨l2, r2, s2⟩ := seg_Rn gC2 r3
    obtain ⟨l1, r1, s1⟩ := seg_Rn gC1 r2
    obtain ⟨l0, r0, s0⟩ := seg_Rn gC0 r1
    exact ⟨lw, l0, h, RL_tr s3 (RL_tr s2 (RL_tr s1 s0)), r0⟩
theorem ctor_M : ∃ lwM lw, chkM lwM = true ∧ RL (fun _ => dmy) lwM lw ∧ Rn 134 (0, entL (mL 134) [.ref 127], [], List.replicate 127 dmy ++ [.inr (10, dflt 10)], (0, 0)) (none, lw) := by
  have h := gM4
  rw [execF_eq] at h
  generalize hr : exec 20000 134 (xM3.1, xM3.2.1, xM3.2.2.1, xM3.2.2.2.1, (xM3.2.2.2.2.1, xM3.2.2.2.2.2)) = r at h
  match r, h, hr with
  | some (some v, lw, cs), h, _ => cases h
  | none, h, _ => cases h
  | some (none, lw, cs), h, hr =>
    obtain ⟨l3, r3, s3⟩ := seg_Rn gM3 (v := none) (lwF := lw) ⟨20000, cs, hr⟩
    obtain ⟨l2, r2, s2⟩ := seg_Rn gM2 r3
    obtain ⟨l1, r1, s1⟩ := seg_Rn gM1 r2
    obtain ⟨l0, r0, s0⟩ := seg_Rn gM0 r1
    exact ⟨lw, l0, h, RL_tr s3 (RL_tr s2 (RL_tr s1 s0)), r0⟩
section
variable {ca cb pc : Nat} {L : Lcl} {st : List Value} {lw : LW}
theorem la_new {k c : Nat} (hl : lk cltab (mC 231) k = some c) (h11 : ¬ 11 ≤ c) (h1 : ca + 1 ≤ mMc 231) (h2 : cb + fN c ≤ mMs 231) (h3 : lw.length < EXT) (h4 : lw.length ≠ 0) : stp 231 pc (.new k) 3 L st lw (ca, cb) = some (.inl (pc + 3, L, .ref lw.length :: st, lw ++ [.inr (c, dflt c)], (ca + 1, cb + fN c))) := by
  show ckl 3 3 ((lk cltab (mC 231) k).bind fun c => if 11 ≤ c ∨ mMc 231 < ca + 1 ∨ mMs 231 < cb + fN c ∨ EXT ≤ lw.length ∨ lw.length = 0 then none else nx (pc + 3) L (.ref lw.length :: st) (lw ++ [.inr (c, dflt c)]) (ca + 1, cb + fN c)) = _
  rw [hl]
  show (if 3 = 3 then (if 11 ≤ c ∨ mMc 231 < ca + 1 ∨ mMs 231 < cb + fN c ∨ EXT ≤ lw.length ∨ lw.length = 0 then none else nx (pc + 3) L (.ref lw.length :: st) (lw ++ [.inr (c, dflt c)]) (ca + 1, cb + fN c)) else none) = _
  rw [if_pos rfl, if_neg (by omega)]
  rfl
theorem la_I {idx q b : Nat} {fs : List Value} (hl : lk ctab (mC 231) idx = some (2, q)) (hf : mF q + 1 ≤ mF 231 ∧ 8 + (mL q + 11) + mO q ≤ mO 231 ∧ q < iLaw) (h1 : ca + mMc q ≤ mMc 231) (h2 : cb + mMs q ≤ mMs 231) (hA : mA q = 0) (hK : mK q = 2) (ho : obj lw b = some (mC q, fs)) (h11 : mC q < 11) (ha : 1 ≤ mL q) (hst : cats st ≤ 8) (h0 : lw.length ≠ 0) : stp 231 pc (.invokespecial idx) 3 L (.ref b :: st) lw (ca, cb) = some (.inr (.inl (q, [.ref b], st))) := by
  have hr : recv (.ref b :: st) lw (mA q) q = true := by
    unfold recv
    rw [hA]
    show (match obj lw b with
      | some o => decide (o.1 = mC q) && decide (o.1 < 11)
      | none => false) = true
    rw [ho]
    simp only [h11, decide_true, Bool.and_self]
  have hc : cal 231 q (mA q + 1) (.ref b :: st) (ca, cb) = some (.inr (.inl (q, [.ref b], st))) := by
    rw [hA]
    unfold cal
    rw [if_pos]
    · rfl
    · refine ⟨by show 0 + 1 ≤ st.length + 1; omega, by show 1 ≤ mL q; exact ha, ?_, hf.1, hf.2.1, h1, h2, hf.2.2⟩
      show (st.map (fun v => v.category)).sum ≤ 8
      exact hst
  simp only [stp, ckl, inv, hl, if_true, Option.bind_some, List.mem_cons, true_or, not_true, h0, or_self, if_false, hr, hK, and_self]
  exact hc
end
theorem ln_7 : lk cltab (mC 231) 7 = some 9 := by decide +kernel
theorem ln_10 : lk cltab (mC 231) 10 = some 10 := by decide +kernel
theorem li_9 : lk ctab (mC 231) 9 = some (2, 0) := by decide +kernel
theorem li_12 : lk ctab (mC 231) 12 = some (2, 134) := by decide +kernel
theorem lq_0 : mF 0 + 1 ≤ mF 231 ∧ 8 + (mL 0 + 11) + mO 0 ≤ mO 231 ∧ 0 < iLaw := by decide +kernel
theorem lq_134 : mF 134 + 1 ≤ mF 231 ∧ 8 + (mL 134 + 11) + mO 134 ≤ mO 231 ∧ 134 < iLaw := by decide +kernel
theorem lz : (0 + 1 + mMc 0 + 1 + mMc 134 ≤ mMc 231 ∧ 0 + fN 9 + mMs 0 + fN 10 + mMs 134 ≤ mMs 231) ∧ mA 0 = 0 ∧ mK 0 = 2 ∧ mC 0 = 9 ∧ 1 ≤ mL 0 ∧ mA 134 = 0 ∧ mK 134 = 2 ∧ mC 134 = 10 ∧ 1 ≤ mL 134 := by decide +kernel
theorem LW0_at {L : Nat} {xs : Nat → Int32} {S R : Sg} {a : Nat} {e : va_E} (h : (LW0 L xs S R)[a]? = some e) : a < 183 ∧ (a = 0 → e = .inl (0, L, .inl xs)) ∧ (1 ≤ a → a < 127 → e = celS S a) ∧ (127 ≤ a → e = celS R a) := by
  have ha : a < 183 := by
    apply Decidable.byContradiction
    intro hc
    rw [List.getElem?_eq_none (by rw [LW0_len]; omega)] at h
    cases h
  refine ⟨ha, fun h0 => ?_, fun l1 l2 => ?_, fun l1 => ?_⟩
  · subst h0
    rw [LW0_0] at h
    cases h
    rfl
  · unfold LW0 at h
    rw [Tw_at (by unfold ownC; rw [decide_eq_true l1, decide_eq_true l2]; rfl) ha] at h
    cases h
    rfl
  · rw [LW0_R, Tw_at (by unfold ownR; rw [decide_eq_true l1, decide_eq_true ha]; rfl) ha] at h
    cases h
    rfl
theorem law_hrun (L : Nat) (xs : Nat → Int32) (hL : L ≤ 3072) : ∃ n lw' cs', exec n iLaw (0, entL 4 [.ref 0], [], [.inl (0, L, .inl xs)], (0, 0)) = some (some (.int 1), lw', cs') := by
  obtain ⟨lwC, lwD, hC, sC, rC⟩ := ctor_C
  obtain ⟨lwM, lwN, hM, sM, rM⟩ := ctor_M
  obtain ⟨q1, q2, q3, -⟩ := chkC_at hC
  obtain ⟨p1, p2, p3, -⟩ := chkM_at hM
  obtain ⟨⟨z1, z2⟩, z3, z4, z5, z6, z7, z8, z9, z10⟩ := lz
  have R1 : RL (fun _ => .inl (0, L, .inl xs)) [dmy, .inr (9, dflt 9)] [.inl (0, L, .inl xs), .inr (9, dflt 9)] := by
    refine ⟨rfl, fun a e h => ?_⟩
    match a, h with
    | 0, h => cases h; exact ⟨_, rfl, Or.inr ⟨rfl, rfl⟩⟩
    | 1, h =>
      cases h
      exact ⟨_, rfl, Or.inl ⟨fun e => (by injection e with e; injection e with e1 e2; cases e1), Or.inl rfl⟩⟩
    | a + 2, h => cases h
  obtain ⟨lw1, r1, S1⟩ := Rn_sim R1 rC
  have S1 := RL_tr sC S1
  have l1 : lw1.length = 127 := S1.1.trans q1
  have k0 : lw1[0]? = some (.inl (0, L, .inl xs)) := by
    obtain ⟨e, he, ⟨h, -⟩ | ⟨-, h⟩⟩ := S1.2 0 _ q2
    · exact absurd rfl h
    · rw [he, h]
  have k1 : ∀ a, 1 ≤ a → a < 127 → ∃ y, lw1[a]? = some y ∧ cel (celS (SofL lwC) a) y := fun a h1 h2 => by
    obtain ⟨x, hx, hc⟩ := chk_cel (q3 a h1 h2)
    obtain ⟨y, hy, h | ⟨h, -⟩⟩ := S1.2 a x hx
    · exact ⟨y, hy, cel_tr hc h⟩
    · exact absurd h (celd_ne hc)
  have R2 : RL (fun a => (lw1[a]?).getD dmy) (List.replicate 127 dmy ++ [.inr (10, dflt 10)]) (lw1 ++ [.inr (10, dflt 10)]) := by
    refine ⟨by rw [List.length_append, List.length_append, List.length_replicate, l1], fun a e h => ?_⟩
    by_cases ha : a < 127
    · rw [List.getElem?_append_left (by rw [List.length_replicate]; exact ha), List.getElem?_replicate, if_pos ha] at h
      cases h
      rw [List.getElem?_append_left (by omega)]
      have hl : a < lw1.length := by omega
      refine ⟨lw1[a], List.getElem?_eq_getElem hl, Or.inr ⟨rfl, ?_⟩⟩
      show lw1[a] = (lw1[a]?).getD dmy
      rw [List.getElem?_eq_getElem hl]
      rfl
    · rw [List.getElem?_append_right (by rw [List.length_replicate]; omega), List.length_replicate] at h
      rw [List.getElem?_append_right (by omega), l1]
      refine ⟨e, h, Or.inl ⟨?_, Or.inl rfl⟩⟩
      match a - 127, h with
      | 0, h => cases h; exact fun e => by injection e with e; injection e with e1 e2; cases e1
      | n + 1, h => cases h
  obtain ⟨lw2, r2, S2⟩ := Rn_sim R2 rM
  have S2 := RL_tr sM S2
  have l2 : lw2.length = 183 := S2.1.trans p1
  have j1 : ∀ a, a < 127 → lw2[a]? = lw1[a]? := fun a ha => by
    obtain ⟨e, he, ⟨h, -⟩ | ⟨-, h⟩⟩ := S2.2 a _ (p2 a ha)
    · exact absurd rfl h
    · have hl : a < lw1.length := by omega
      rw [he, h]
      show some ((lw1[a]?).getD dmy) = _
      rw [List.getElem?_eq_getElem hl]
      rfl
  have j2 : ∀ a, 127 ≤ a → a < 183 → ∃ y, lw2[a]? = some y ∧ cel (celS (SofL lwM) a) y := fun a h1 h2 => by
    obtain ⟨x, hx, hc⟩ := chk_cel (p3 a h1 h2)
    obtain ⟨y, hy, h | ⟨h, -⟩⟩ := S2.2 a x hx
    · exact ⟨y, hy, cel_tr hc h⟩
    · exact absurd h (celd_ne hc)
  have R3 : RL (fun _ => dmy) (LW0 L xs (SofL lwC) (SofL lwM)) lw2 := by
    refine ⟨by rw [l2, LW0_len], fun a e h => ?_⟩
    obtain ⟨h183, e0, e1, e2⟩ := LW0_at h
    by_cases h0 : a = 0
    · subst h0
      refine ⟨_, (j1 0 (by decide)).trans k0, Or.inl ?_⟩
      rw [e0 rfl]
      exact ⟨fun h => (by cases h), Or.inl rfl⟩
    · by_cases h127 : a < 127
      · obtain ⟨y, hy, hc⟩ := k1 a (by omega) h127
        rw [e1 (by omega) h127]
        exact ⟨y, (j1 a h127).trans hy, Or.inl hc⟩
      · obtain ⟨y, hy, hc⟩ := j2 a (by omega) h183
        rw [e2 (by omega)]
        exact ⟨y, hy, Or.inl hc⟩
  obtain ⟨lw3, h3⟩ := la_loop (xs := xs) hL ⟨z1, z2⟩ L 0 _ _ (INV_0 hC hM) (by omega) (by omega)
  obtain ⟨lw4, h4, -⟩ := Rn_sim R3 h3
  have o1 : obj (lw1 ++ [.inr (10, dflt 10)]) 127 = some (mC 134, dflt 10) := by
    unfold obj
    rw [List.getElem?_append_right (by omega), l1, z9]
    rfl
  have o0 : obj ([.inl (0, L, .inl xs)] ++ [.inr (9, dflt 9)]) 1 = some (mC 0, dflt 9) := by
    rw [z5]
    rfl
  have fin : Rn 231 (0, entL 4 [.ref 0], [], [.inl (0, L, .inl xs)], (0, 0)) (some (.int 1), lw4) := by
    refine Rn.step ld_0 (la_new ln_7 (by decide) (by omega) (by omega) (by show 1 < EXT; decide) (by show 1 ≠ 0; decide)) ?_
    refine Rn.step ld_3 rfl ?_
    refine Rn.call ld_4 (la_I li_9 lq_0 (by omega) (by omega) z3 z4 o0 (by rw [z5]; decide) z6 (by show cats [Value.ref 1] ≤ 8; decide) (by show 2 ≠ 0; decide)) r1 ?_
    refine Rn.step ld_7 rfl ?_
    refine Rn.step ld_8 (la_new ln_10 (by decide) (by show 0 + 1 + mMc 0 + 1 ≤ _; omega) (by show 0 + fN 9 + mMs 0 + fN 10 ≤ _; omega) (by rw [l1]; decide) (by rw [l1]; decide)) ?_
    rw [l1]
    refine Rn.step ld_11 rfl ?_
    refine Rn.call ld_12 (la_I li_12 lq_134 (by omega) (by omega) z7 z8 o1 (by rw [z9]; decide) z10 (by decide) (by rw [List.length_append]; show _ + 1 ≠ 0; omega)) r2 ?_
    refine Rn.step ld_15 rfl ?_
    refine Rn.step ld_16 rfl ?_
    refine Rn.step ld_17 rfl ?_
    exact h4
  obtain ⟨n, cs, hn⟩ := fin
  exact ⟨n, lw4, cs, hn⟩
