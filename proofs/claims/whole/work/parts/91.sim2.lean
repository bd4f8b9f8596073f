/-! a run doesn't mind: all instructions, and a run -/
section
variable {c : Nat → va_E} {mi pc : Nat} {L : Lcl} {st : List Value} {lw lw' : LW} {cs : Nat × Nat}
set_option maxHeartbeats 4000000 in
theorem stp_sim (h : RL c lw lw') {i : Instr} {len : Nat} : SRs c (stp mi pc i len L st lw cs) (stp mi pc i len L st lw' cs) := by
  cases i
  case newarray t => cases t <;> simp only [stp] <;> first | exact s_non | exact s_ckl (s_nwA h)
  all_goals simp only [stp]
  all_goals try (exact s_non)
  all_goals try (refine s_ckl ?_)
  all_goals try (first | exact s_ldA h | exact s_ldI h | exact s_ldJ h | exact s_stA h | exact s_stI h | exact s_stJ h | exact s_nx h)
  all_goals try (first | exact s_bi2 h | exact s_bl2 h | exact s_bls h | exact s_dv2 h | exact s_iLd h | exact s_iSt h | exact s_rLd h | exact s_rSt h | exact s_gtF h | exact s_ptF h | exact s_nwO h | exact s_inv h | exact s_go h | exact s_len h)
  case anewarray k => exact s_ite Iff.rfl (s_nwA h) s_non
  case iinc k n =>
    cases ldv L k with
    | none => exact s_non
    | some v => cases v <;> first | exact s_non | exact s_bnd fun _ => s_nx h
  case ldc k =>
    cases lk ktab (mC mi) k with
    | none => exact s_bnd fun _ => s_ite Iff.rfl (s_nx h) s_non
    | some x => exact s_nx h
  case ldc_w k => exact s_bnd fun _ => s_nx h
  case ldc2_w k => exact s_bnd fun _ => s_nx h
  case areturn => rcases st with _ | ⟨v, _ | ⟨w, r⟩⟩ <;> first | exact s_non | (cases mR mi with | none => cases v <;> exact s_non | some ty => cases ty <;> cases v <;> first | exact s_non | exact s_ret)
  case if_acmp cd off =>
    have hb : ∀ r, rfB r lw' = rfB r lw := fun r => by cases r <;> simp [rfB, h.1]
    rcases st with _ | ⟨v, _ | ⟨w, r⟩⟩
    · exact s_non
    · exact s_non
    · refine s_bnd fun ry => s_bnd fun rx => ?_
      rw [hb, hb]
      exact s_ite Iff.rfl (s_bnd fun _ => s_nx h) s_non
  all_goals (rcases st with _ | ⟨v, _ | ⟨w, r⟩⟩)
  all_goals try (exact s_non)
  all_goals try (exact s_ite Iff.rfl s_ret s_non)
  all_goals try (exact s_ite Iff.rfl (s_nx h) s_non)
  all_goals cases v
  all_goals try (exact s_non)
  all_goals try (exact s_nx h)
  all_goals try (exact s_ite Iff.rfl s_ret s_non)
  all_goals try (exact s_ite Iff.rfl (s_nx h) s_non)
  all_goals try (exact s_bnd fun _ => s_ite Iff.rfl s_ret s_non)
  all_goals try (exact s_bnd fun _ => s_go h)
  all_goals try (exact s_bnd fun _ => s_nx h)
  all_goals try (exact s_ite Iff.rfl (s_go h) s_non)
  all_goals try (exact s_go h)
  all_goals try (cases w)
  all_goals try (exact s_non)
  all_goals try (exact s_nx h)
  all_goals try (exact s_bnd fun _ => s_nx h)
theorem exec_sim : ∀ (n : Nat) {mi pc : Nat} {L : Lcl} {st : List Value} {lw lw' : LW} {cs : Nat × Nat} {v : Option Value} {lw1 : LW} {cs1 : Nat × Nat}, RL c lw lw' → exec n mi (pc, L, st, lw, cs) = some (v, lw1, cs1) → ∃ lw1', exec n mi (pc, L, st, lw', cs) = some (v, lw1', cs1) ∧ RL c lw1 lw1' := by
  intro n
  induction n with
  | zero => intro mi pc L st lw lw' cs v lw1 cs1 _ h; cases h
  | succ n ih =>
    intro mi pc L st lw lw' cs v lw1 cs1 hL h
    simp only [exec] at h ⊢
    cases hd : decode (mB mi) pc with
    | error z => rw [hd] at h; cases h
    | ok q =>
      rw [hd] at h
      simp only at h ⊢
      cases hs : stp mi pc q.1 q.2 L st lw cs with
      | none => rw [hs] at h; cases h
      | some w =>
        obtain ⟨w', hw', hx⟩ := stp_sim (mi := mi) (pc := pc) (L := L) (st := st) (cs := cs) hL (i := q.1) (len := q.2) w hs
        rw [hs] at h
        rw [hw']
        rcases w with x | z
        · rcases w' with x' | z'
          · obtain ⟨lw2, rfl, hR⟩ := hx
            exact ih hR h
          · exact hx.elim
        · rcases w' with x' | z'
          · exact hx.elim
          · have hx : z' = z := hx
            subst hx
            rcases z' with c' | v'
            · simp only at h ⊢
              cases hr : exec n c'.1 (0, entL (mL c'.1) c'.2.1, [], lw, (0, 0)) with
              | none => rw [hr] at h; cases h
              | some r =>
                obtain ⟨r1, r2, r3⟩ := r
                obtain ⟨lw2, e2, hR⟩ := ih hL hr
                rw [hr] at h
                rw [e2]
                exact ih hR h
            · simp only at h ⊢
              split at h
              · next hc =>
                cases h
                rw [if_pos hc]
                exact ⟨lw', rfl, hL⟩
              · cases h
theorem Rn_sim {v : Option Value} {lw1 : LW} (hL : RL c lw lw') (h : Rn mi (pc, L, st, lw, cs) (v, lw1)) : ∃ lw1', Rn mi (pc, L, st, lw', cs) (v, lw1') ∧ RL c lw1 lw1' := by
  obtain ⟨n, cs', hn⟩ := h
  obtain ⟨lw1', e, hR⟩ := exec_sim n hL hn
  exact ⟨lw1', ⟨n, cs', e⟩, hR⟩
end
