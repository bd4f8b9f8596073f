/-! both readers together: a clause -/
def C4 (S : Sg) (g0 g1 g2 g3 : Nat → Int32) : Sg := sa (sa (sa (sa S 20 g0) 21 g1) 22 g2) 23 g3
def R4 (S : Sg) (g0 g1 g2 g3 : Nat → Int32) : Sg := sa (sa (sa (sa S 142 g0) 143 g1) 144 g2) 145 g3
theorem sa_cm (S : Sg) {a b : Nat} (f g : Nat → Int32) (h : a ≠ b) : sa (sa S a f) b g = sa (sa S b g) a f := by
  unfold sa
  congr 5
  funext x
  by_cases h1 : x = a
  · have : x ≠ b := by omega
    simp [h1, h]
  · simp [h1]
theorem C4_0 (S : Sg) (g0 g1 g2 g3 g : Nat → Int32) : sa (C4 S g0 g1 g2 g3) 20 g = C4 S g g1 g2 g3 := by
  unfold C4
  rw [sa_cm _ g3 _ (by decide), sa_cm _ g2 _ (by decide), sa_cm _ g1 _ (by decide), sa_sa]
theorem C4_1 (S : Sg) (g0 g1 g2 g3 g : Nat → Int32) : sa (C4 S g0 g1 g2 g3) 21 g = C4 S g0 g g2 g3 := by
  unfold C4
  rw [sa_cm _ g3 _ (by decide), sa_cm _ g2 _ (by decide), sa_sa]
theorem C4_2 (S : Sg) (g0 g1 g2 g3 g : Nat → Int32) : sa (C4 S g0 g1 g2 g3) 22 g = C4 S g0 g1 g g3 := by
  unfold C4
  rw [sa_cm _ g3 _ (by decide), sa_sa]
theorem C4_3 (S : Sg) (g0 g1 g2 g3 g : Nat → Int32) : sa (C4 S g0 g1 g2 g3) 23 g = C4 S g0 g1 g2 g := by
  unfold C4
  rw [sa_sa]
theorem R4_0 (S : Sg) (g0 g1 g2 g3 g : Nat → Int32) : sa (R4 S g0 g1 g2 g3) 142 g = R4 S g g1 g2 g3 := by
  unfold R4
  rw [sa_cm _ g3 _ (by decide), sa_cm _ g2 _ (by decide), sa_cm _ g1 _ (by decide), sa_sa]
theorem R4_1 (S : Sg) (g0 g1 g2 g3 g : Nat → Int32) : sa (R4 S g0 g1 g2 g3) 143 g = R4 S g0 g g2 g3 := by
  unfold R4
  rw [sa_cm _ g3 _ (by decide), sa_cm _ g2 _ (by decide), sa_sa]
theorem R4_2 (S : Sg) (g0 g1 g2 g3 g : Nat → Int32) : sa (R4 S g0 g1 g2 g3) 144 g = R4 S g0 g1 g g3 := by
  unfold R4
  rw [sa_cm _ g3 _ (by decide), sa_sa]
theorem R4_3 (S : Sg) (g0 g1 g2 g3 g : Nat → Int32) : sa (R4 S g0 g1 g2 g3) 145 g = R4 S g0 g1 g2 g := by
  unfold R4
  rw [sa_sa]
section
variable (S : Sg) (g0 g1 g2 g3 : Nat → Int32)
theorem C4_a0 : ai (C4 S g0 g1 g2 g3) 20 = g0 := by unfold C4; simp (disch := omega) only [fi_ufi, fi_ufi1, fi_ufi2, fb_ufb, fb_ufb1, fb_ufb2, fl_ufl, fl_ufl1, fl_ufl2, fr_ufr, fr_ufr1, fr_ufr2, ai_sa, ai_sa1, ab_sab, ab_sab1, ar_sar, ar_sar1, upf_eq, upf_ne, fi_ufb, fi_ufl, fi_ufr, fi_sa, fi_sab, fi_sar, fb_ufi, fb_ufl, fb_ufr, fb_sa, fb_sab, fb_sar, fl_ufi, fl_ufb, fl_ufr, fl_sa, fl_sab, fl_sar, fr_ufi, fr_ufb, fr_ufl, fr_sa, fr_sab, fr_sar, ai_ufi, ai_ufb, ai_ufl, ai_ufr, ai_sab, ai_sar, ab_ufi, ab_ufb, ab_ufl, ab_ufr, ab_sa, ab_sar, ar_ufi, ar_ufb, ar_ufl, ar_ufr, ar_sa, ar_sab, sa_sa, sab_sab, sar_sar, upf_upf, ufi_ufi]
theorem C4_a1 : ai (C4 S g0 g1 g2 g3) 21 = g1 := by unfold C4; simp (disch := omega) only [fi_ufi, fi_ufi1, fi_ufi2, fb_ufb, fb_ufb1, fb_ufb2, fl_ufl, fl_ufl1, fl_ufl2, fr_ufr, fr_ufr1, fr_ufr2, ai_sa, ai_sa1, ab_sab, ab_sab1, ar_sar, ar_sar1, upf_eq, upf_ne, fi_ufb, fi_ufl, fi_ufr, fi_sa, fi_sab, fi_sar, fb_ufi, fb_ufl, fb_ufr, fb_sa, fb_sab, fb_sar, fl_ufi, fl_ufb, fl_ufr, fl_sa, fl_sab, fl_sar, fr_ufi, fr_ufb, fr_ufl, fr_sa, fr_sab, fr_sar, ai_ufi, ai_ufb, ai_ufl, ai_ufr, ai_sab, ai_sar, ab_ufi, ab_ufb, ab_ufl, ab_ufr, ab_sa, ab_sar, ar_ufi, ar_ufb, ar_ufl, ar_ufr, ar_sa, ar_sab, sa_sa, sab_sab, sar_sar, upf_upf, ufi_ufi]
theorem C4_a2 : ai (C4 S g0 g1 g2 g3) 22 = g2 := by unfold C4; simp (disch := omega) only [fi_ufi, fi_ufi1, fi_ufi2, fb_ufb, fb_ufb1, fb_ufb2, fl_ufl, fl_ufl1, fl_ufl2, fr_ufr, fr_ufr1, fr_ufr2, ai_sa, ai_sa1, ab_sab, ab_sab1, ar_sar, ar_sar1, upf_eq, upf_ne, fi_ufb, fi_ufl, fi_ufr, fi_sa, fi_sab, fi_sar, fb_ufi, fb_ufl, fb_ufr, fb_sa, fb_sab, fb_sar, fl_ufi, fl_ufb, fl_ufr, fl_sa, fl_sab, fl_sar, fr_ufi, fr_ufb, fr_ufl, fr_sa, fr_sab, fr_sar, ai_ufi, ai_ufb, ai_ufl, ai_ufr, ai_sab, ai_sar, ab_ufi, ab_ufb, ab_ufl, ab_ufr, ab_sa, ab_sar, ar_ufi, ar_ufb, ar_ufl, ar_ufr, ar_sa, ar_sab, sa_sa, sab_sab, sar_sar, upf_upf, ufi_ufi]
theorem C4_a3 : ai (C4 S g0 g1 g2 g3) 23 = g3 := by unfold C4; simp (disch := omega) only [fi_ufi, fi_ufi1, fi_ufi2, fb_ufb, fb_ufb1, fb_ufb2, fl_ufl, fl_ufl1, fl_ufl2, fr_ufr, fr_ufr1, fr_ufr2, ai_sa, ai_sa1, ab_sab, ab_sab1, ar_sar, ar_sar1, upf_eq, upf_ne, fi_ufb, fi_ufl, fi_ufr, fi_sa, fi_sab, fi_sar, fb_ufi, fb_ufl, fb_ufr, fb_sa, fb_sab, fb_sar, fl_ufi, fl_ufb, fl_ufr, fl_sa, fl_sab, fl_sar, fr_ufi, fr_ufb, fr_ufl, fr_sa, fr_sab, fr_sar, ai_ufi, ai_ufb, ai_ufl, ai_ufr, ai_sab, ai_sar, ab_ufi, ab_ufb, ab_ufl, ab_ufr, ab_sa, ab_sar, ar_ufi, ar_ufb, ar_ufl, ar_ufr, ar_sa, ar_sab, sa_sa, sab_sab, sar_sar, upf_upf, ufi_ufi]
theorem C4_ax (a : Nat) (h : a < 20 ∨ 23 < a) : ai (C4 S g0 g1 g2 g3) a = ai S a := by unfold C4; simp (disch := omega) only [fi_ufi, fi_ufi1, fi_ufi2, fb_ufb, fb_ufb1, fb_ufb2, fl_ufl, fl_ufl1, fl_ufl2, fr_ufr, fr_ufr1, fr_ufr2, ai_sa, ai_sa1, ab_sab, ab_sab1, ar_sar, ar_sar1, upf_eq, upf_ne, fi_ufb, fi_ufl, fi_ufr, fi_sa, fi_sab, fi_sar, fb_ufi, fb_ufl, fb_ufr, fb_sa, fb_sab, fb_sar, fl_ufi, fl_ufb, fl_ufr, fl_sa, fl_sab, fl_sar, fr_ufi, fr_ufb, fr_ufl, fr_sa, fr_sab, fr_sar, ai_ufi, ai_ufb, ai_ufl, ai_ufr, ai_sab, ai_sar, ab_ufi, ab_ufb, ab_ufl, ab_ufr, ab_sa, ab_sar, ar_ufi, ar_ufb, ar_ufl, ar_ufr, ar_sa, ar_sab, sa_sa, sab_sab, sar_sar, upf_upf, ufi_ufi]
theorem C4_fi : fi (C4 S g0 g1 g2 g3) = fi S := rfl
theorem R4_a0 : ai (R4 S g0 g1 g2 g3) 142 = g0 := by unfold R4; simp (disch := omega) only [fi_ufi, fi_ufi1, fi_ufi2, fb_ufb, fb_ufb1, fb_ufb2, fl_ufl, fl_ufl1, fl_ufl2, fr_ufr, fr_ufr1, fr_ufr2, ai_sa, ai_sa1, ab_sab, ab_sab1, ar_sar, ar_sar1, upf_eq, upf_ne, fi_ufb, fi_ufl, fi_ufr, fi_sa, fi_sab, fi_sar, fb_ufi, fb_ufl, fb_ufr, fb_sa, fb_sab, fb_sar, fl_ufi, fl_ufb, fl_ufr, fl_sa, fl_sab, fl_sar, fr_ufi, fr_ufb, fr_ufl, fr_sa, fr_sab, fr_sar, ai_ufi, ai_ufb, ai_ufl, ai_ufr, ai_sab, ai_sar, ab_ufi, ab_ufb, ab_ufl, ab_ufr, ab_sa, ab_sar, ar_ufi, ar_ufb, ar_ufl, ar_ufr, ar_sa, ar_sab, sa_sa, sab_sab, sar_sar, upf_upf, ufi_ufi]
theorem R4_a1 : ai (R4 S g0 g1 g2 g3) 143 = g1 := by unfold R4; simp (disch := omega) only [fi_ufi, fi_ufi1, fi_ufi2, fb_ufb, fb_ufb1, fb_ufb2, fl_ufl, fl_ufl1, fl_ufl2, fr_ufr, fr_ufr1, fr_ufr2, ai_sa, ai_sa1, ab_sab, ab_sab1, ar_sar, ar_sar1, upf_eq, upf_ne, fi_ufb, fi_ufl, fi_ufr, fi_sa, fi_sab, fi_sar, fb_ufi, fb_ufl, fb_ufr, fb_sa, fb_sab, fb_sar, fl_ufi, fl_ufb, fl_ufr, fl_sa, fl_sab, fl_sar, fr_ufi, fr_ufb, fr_ufl, fr_sa, fr_sab, fr_sar, ai_ufi, ai_ufb, ai_ufl, ai_ufr, ai_sab, ai_sar, ab_ufi, ab_ufb, ab_ufl, ab_ufr, ab_sa, ab_sar, ar_ufi, ar_ufb, ar_ufl, ar_ufr, ar_sa, ar_sab, sa_sa, sab_sab, sar_sar, upf_upf, ufi_ufi]
theorem R4_a2 : ai (R4 S g0 g1 g2 g3) 144 = g2 := by unfold R4; simp (disch := omega) only [fi_ufi, fi_ufi1, fi_ufi2, fb_ufb, fb_ufb1, fb_ufb2, fl_ufl, fl_ufl1, fl_ufl2, fr_ufr, fr_ufr1, fr_ufr2, ai_sa, ai_sa1, ab_sab, ab_sab1, ar_sar, ar_sar1, upf_eq, upf_ne, fi_ufb, fi_ufl, fi_ufr, fi_sa, fi_sab, fi_sar, fb_ufi, fb_ufl, fb_ufr, fb_sa, fb_sab, fb_sar, fl_ufi, fl_ufb, fl_ufr, fl_sa, fl_sab, fl_sar, fr_ufi, fr_ufb, fr_ufl, fr_sa, fr_sab, fr_sar, ai_ufi, ai_ufb, ai_ufl, ai_ufr, ai_sab, ai_sar, ab_ufi, ab_ufb, ab_ufl, ab_ufr, ab_sa, ab_sar, ar_ufi, ar_ufb, ar_ufl, ar_ufr, ar_sa, ar_sab, sa_sa, sab_sab, sar_sar, upf_upf, ufi_ufi]
theorem R4_a3 : ai (R4 S g0 g1 g2 g3) 145 = g3 := by unfold R4; simp (disch := omega) only [fi_ufi, fi_ufi1, fi_ufi2, fb_ufb, fb_ufb1, fb_ufb2, fl_ufl, fl_ufl1, fl_ufl2, fr_ufr, fr_ufr1, fr_ufr2, ai_sa, ai_sa1, ab_sab, ab_sab1, ar_sar, ar_sar1, upf_eq, upf_ne, fi_ufb, fi_ufl, fi_ufr, fi_sa, fi_sab, fi_sar, fb_ufi, fb_ufl, fb_ufr, fb_sa, fb_sab, fb_sar, fl_ufi, fl_ufb, fl_ufr, fl_sa, fl_sab, fl_sar, fr_ufi, fr_ufb, fr_ufl, fr_sa, fr_sab, fr_sar, ai_ufi, ai_ufb, ai_ufl, ai_ufr, ai_sab, ai_sar, ab_ufi, ab_ufb, ab_ufl, ab_ufr, ab_sa, ab_sar, ar_ufi, ar_ufb, ar_ufl, ar_ufr, ar_sa, ar_sab, sa_sa, sab_sab, sar_sar, upf_upf, ufi_ufi]
theorem R4_ax (a : Nat) (h : a < 142 ∨ 145 < a) : ai (R4 S g0 g1 g2 g3) a = ai S a := by unfold R4; simp (disch := omega) only [fi_ufi, fi_ufi1, fi_ufi2, fb_ufb, fb_ufb1, fb_ufb2, fl_ufl, fl_ufl1, fl_ufl2, fr_ufr, fr_ufr1, fr_ufr2, ai_sa, ai_sa1, ab_sab, ab_sab1, ar_sar, ar_sar1, upf_eq, upf_ne, fi_ufb, fi_ufl, fi_ufr, fi_sa, fi_sab, fi_sar, fb_ufi, fb_ufl, fb_ufr, fb_sa, fb_sab, fb_sar, fl_ufi, fl_ufb, fl_ufr, fl_sa, fl_sab, fl_sar, fr_ufi, fr_ufb, fr_ufl, fr_sa, fr_sab, fr_sar, ai_ufi, ai_ufb, ai_ufl, ai_ufr, ai_sab, ai_sar, ab_ufi, ab_ufb, ab_ufl, ab_ufr, ab_sa, ab_sar, ar_ufi, ar_ufb, ar_ufl, ar_ufr, ar_sa, ar_sab, sa_sa, sab_sab, sar_sar, upf_upf, ufi_ufi]
theorem R4_fi : fi (R4 S g0 g1 g2 g3) = fi S := rfl
end
theorem C4_id (S : Sg) : C4 S (ai S 20) (ai S 21) (ai S 22) (ai S 23) = S := by
  unfold C4
  have e1 := sa_id S 20
  have e2 := sa_id S 21
  have e3 := sa_id S 22
  have e4 := sa_id S 23
  rw [e1, e2, e3, e4]
theorem R4_id (S : Sg) : R4 S (ai S 142) (ai S 143) (ai S 144) (ai S 145) = S := by
  unfold R4
  have e1 := sa_id S 142
  have e2 := sa_id S 143
  have e3 := sa_id S 144
  have e4 := sa_id S 145
  rw [e1, e2, e3, e4]
def SlotR (no s : Nat) (g0 g1 g2 g3 h0 h1 h2 h3 : Nat → Int32) : Prop := ∃ kd, kd < 9 ∧ g0 s = Int32.ofNat kd ∧ h0 s = Int32.ofNat kd ∧ (kd = 0 → ∃ m q, 1 ≤ m ∧ m ≤ 5 ∧ q < 32768 ∧ g1 s = Int32.ofNat m ∧ g2 s = Int32.ofNat q ∧ h1 s = Int32.ofNat q ∧ h2 s = Int32.ofNat m) ∧ (kd ≠ 0 → ∃ v, v < 10000 ∧ g1 s = Int32.ofNat v ∧ h1 s = Int32.ofNat v ∧ (kd = 1 → 1 ≤ v ∧ v ≤ 3) ∧ (kd = 8 → v < no)) ∧ (kd = 5 → ∃ v, v < 1000 ∧ g2 s = Int32.ofNat v ∧ h2 s = Int32.ofNat v) ∧ (kd = 6 → g2 s = h2 s ∧ g3 s = h3 s)
section
variable {SC SR : Sg} {len : Nat} {t : Nat → Nat}
/-- what both number readers do at one place -/
theorem R_num (T : TX len t (fi SC 27 1) (ai SC 28)) (T' : TX len t (fi SR 127 26) (ai SR 146)) {i fr lt : Nat} {p : Int32} {lo hi' : Nat} (hi : i ≤ len) (hlo : lo < 100000) (hh : hi' < 10000) : ∃ v1 T1 v2 T2, Reader_readNumber (Int32.ofNat lo) (Int32.ofNat hi') (CS SC i 0 p) = some (v1, T1) ∧ MO_takeNumber (Int32.ofNat lo) (Int32.ofNat hi') (RS SR i 0 p fr lt) = some (v2, T2) ∧
    ((∃ i' s v, i < i' ∧ i' ≤ len ∧ s ≤ i' ∧ lo ≤ v ∧ v ≤ hi' ∧ v1 = Int32.ofNat v ∧ v2 = Int32.ofNat v ∧ s = scw (isBl t) len i ∧ T1 = CS SC i' 0 p ∧ T2 = RS SR i' 0 p s lt) ∨ (∃ i' f q s, i' ≤ len ∧ s ≤ len ∧ 0 < f ∧ f < 10 ∧ T1 = CS SC i' f q ∧ T2 = RS SR i' f q s lt)) := by
  have hs := scw_le (isBl t) hi
  have hs0 := scw_ge (isBl t) len i
  have he := scw_le (isDg t) hs
  have he0 := scw_ge (isDg t) len (scw (isBl t) len i)
  have main : WP (Reader_readNumber (Int32.ofNat lo) (Int32.ofNat hi')) (CS SC i 0 p) fun v1 T1 => WP (MO_takeNumber (Int32.ofNat lo) (Int32.ofNat hi')) (RS SR i 0 p fr lt) fun v2 T2 => ((∃ i' s v, i < i' ∧ i' ≤ len ∧ s ≤ i' ∧ lo ≤ v ∧ v ≤ hi' ∧ v1 = Int32.ofNat v ∧ v2 = Int32.ofNat v ∧ s = scw (isBl t) len i ∧ T1 = CS SC i' 0 p ∧ T2 = RS SR i' 0 p s lt) ∨ (∃ i' f q s, i' ≤ len ∧ s ≤ len ∧ 0 < f ∧ f < 10 ∧ T1 = CS SC i' f q ∧ T2 = RS SR i' f q s lt)) := by
    refine wp_readNumber T hi (by omega) fun s e e1 e2 hd v hv => ?_
    refine wp_takeNumber T' hi fun s' e' e1' e2' => ?_
    rw [← e1] at e1'
    subst e1'
    rw [← e2] at e2'
    subst e2'
    rw [← e1] at hs hs0 he he0
    rw [← e2] at he he0
    refine ⟨fun hes => ?_, fun hes v' hv' => ⟨fun hb => ?_, fun h4 hw => ?_⟩⟩
    · right
      simp only [hes, if_true]
      exact ⟨s', 1, Int32.ofNat s', s', by omega, by omega, by omega, by omega, rfl, rfl⟩
    · right
      have hb2 : 4 < e' - s' ∨ wi v (Int32.ofNat lo) (Int32.ofNat hi') = false := by
        by_cases h4 : 4 < e' - s'
        · exact Or.inl h4
        · have := hv' (by omega)
          have h5 : min (e' - s') 5 = e' - s' := by omega
          rw [h5] at hv
          rw [this, ← hv] at hb
          exact hb
      simp only [hes, hb2, if_true, if_false]
      exact ⟨e', 2, Int32.ofNat s', s', by omega, by omega, by omega, by omega, rfl, rfl⟩
    · left
      have h5 : min (e' - s') 5 = e' - s' := by omega
      rw [h5] at hv
      have hvv := hv' h4
      rw [← hv] at hvv
      rw [hvv] at hw ⊢
      have hb2 : ¬ (4 < e' - s' ∨ wi v (Int32.ofNat lo) (Int32.ofNat hi') = false) := by
        rintro (h | h)
        · omega
        · rw [hw] at h; cases h
      simp only [hes, hb2, if_false]
      have hb := dec_bd (t := t) (s := s') (e' - s') (fun j a b => hd j a (by omega))
      have hp : 10 ^ (e' - s') ≤ 10 ^ 4 := Nat.pow_le_pow_right (by omega) h4
      rw [hv, wi_NN (by omega) (by omega) (by omega)] at hw
      simp only [Bool.and_eq_true, decide_eq_true_eq] at hw
      exact ⟨e', s', dec t s' (e' - s'), by omega, by omega, by omega, hw.1, hw.2, hv, hv, e1, rfl, rfl⟩
  obtain ⟨v1, T1, h1, v2, T2, h2, h3⟩ := main
  exact ⟨v1, T1, v2, T2, h1, h2, h3⟩
theorem wp_readNumber_f (T : TX len t (fi SC 27 1) (ai SC 28)) {i f : Nat} {p lo hi' : Int32} (hi : i ≤ len) (hf : 0 < f) (hf2 : f < 10) {Q : Int32 → Sg → Prop} (hQ : ∀ v i', i' ≤ len → Q v (CS SC i' f p)) : WP (Reader_readNumber lo hi') (CS SC i f p) Q := by
  have hs := scw_le (isBl t) hi
  have he := scw_le (isDg t) hs
  refine wp_readNumber T hi (by omega) fun s e e1 e2 hd v hv => ?_
  have hf0 : ¬ f = 0 := by omega
  unfold fu
  simp only [hf0, if_false]
  have h1 : (if e = s then f else if 4 < e - s ∨ wi v lo hi' = false then f else f) = f := by split <;> (try split) <;> rfl
  have h2 : (if e = s then p else if 4 < e - s ∨ wi v lo hi' = false then p else p) = p := by split <;> (try split) <;> rfl
  rw [h1, h2]
  exact hQ v e (by rw [e2, e1]; exact he)
theorem wp_readWord_f (T : TX len t (fi SC 27 1) (ai SC 28)) {i f w : Nat} {p : Int32} (hw : w < 4) (hi : i ≤ len) (hf : 0 < f) (hf2 : f < 10) {Q : Int32 → Sg → Prop} (hQ : ∀ v i', i' ≤ len → Q v (CS SC i' f p)) : WP (Reader_readWord w) (CS SC i f p) Q := by
  have hs := scw_le (isBl t) hi
  have he := scw_le (isLt t) hs
  refine wp_readWord T hw hi (by omega) fun r hr => ?_
  have hf0 : ¬ f = 0 := by omega
  unfold fu
  simp only [hf0, if_false]
  have h1 : (if r = none then f else f) = f := by split <;> rfl
  have h2 : (if r = none then p else p) = p := by split <;> rfl
  rw [h1, h2]
  exact hQ _ _ he
theorem wp_readSign_f (T : TX len t (fi SC 27 1) (ai SC 28)) {i f c : Nat} {p : Int32} (hc : c < 256) (hi : i ≤ len) (hf : 0 < f) (hf2 : f < 10) {Q : Unit → Sg → Prop} (hQ : ∀ i', i' ≤ len → Q () (CS SC i' f p)) : WP (Reader_readSign (Int32.ofNat c)) (CS SC i f p) Q := by
  have hs := scw_le (isBl t) hi
  have hf0 : ¬ f = 0 := by omega
  unfold Reader_readSign
  simp (disch := omega) only [q_0, q_1, q_2, q_3, q_4, q_5, q_6, q_7, q_8, q_9, q_10, q_11, q_12, q_15, q_16, q_20, q_21, q_25, q_30, q_31, q_32, q_40, q_44, q_48, q_50, q_57, q_59, q_60, q_64, q_81, q_97, q_98, q_99, q_100, q_101, q_102, q_103, q_104, q_105, q_107, q_108, q_110, q_111, q_114, q_115, q_116, q_119, q_120, q_121, q_122, q_136, q_160, q_200, q_255, q_300, q_400, q_401, q_402, q_460, q_479, q_480, q_920, q_999, q_1000, q_1023, q_1024, q_4020, q_9999, q_99999, q_1000000, q_1000000000, q_100001, q_100002, q_100003, q_100004, q_400000, nn_1, r_0, r_1, r_2, r_3, r_4, r_6, r_7, r_8, r_9, r_10, r_11, r_21, r_40, r_48, r_57, r_60, r_97, r_122, r_200, r_300, r_479, r_920, r_9999, r_99999, r_m1, rd_pu, rd_gI, rd_gB, rd_gL, rd_gQ, rd_rI, rd_rB, rd_rQ, rd_rK, rd_dq, rd_cq, rd_div, rd_rem, rd_mb, rd_mif, rd_within, rd_in, Bool.true_and, Bool.and_true, Bool.cond_self, Bool.cond_false_right, Bool.cond_true_left, cond_true, cond_false, rd_sAt, wp_rd, wp_mb, wp_mif, wp_sI, wp_sB, wp_sL, wp_sQ, wp_wI, wp_wB, wp_wQ, orR_l, orR_r, orE_l, orE_r, sK_l, sK_r, sK_c, cond_tr, fi_ufi, fi_ufi1, fi_ufi2, fb_ufb, fb_ufb1, fb_ufb2, fl_ufl, fl_ufl1, fl_ufl2, fr_ufr, fr_ufr1, fr_ufr2, ai_sa, ai_sa1, ab_sab, ab_sab1, ar_sar, ar_sar1, upf_eq, upf_ne, fi_ufb, fi_ufl, fi_ufr, fi_sa, fi_sab, fi_sar, fb_ufi, fb_ufl, fb_ufr, fb_sa, fb_sab, fb_sar, fl_ufi, fl_ufb, fl_ufr, fl_sa, fl_sab, fl_sar, fr_ufi, fr_ufb, fr_ufl, fr_sa, fr_sab, fr_sar, ai_ufi, ai_ufb, ai_ufl, ai_ufr, ai_sab, ai_sar, ab_ufi, ab_ufb, ab_ufl, ab_ufr, ab_sa, ab_sar, ar_ufi, ar_ufb, ar_ufl, ar_ufr, ar_sa, ar_sab, sa_sa, sab_sab, sar_sar, upf_upf, ufi_ufi, tnN, inbN, addN, subN, mulN, decN, divN, remN, n2_lt, n2_le, n2_gt, n2_ge, n2_eq, n2_ne, n0_lt, n0_ge, n0_gt, n0_le, n0_eq, n0_ne, m2_eq, m2_ne, m2_eqq, m2_neq, m0_lt, m0_ge, m0_eq, m0_ne, m2_eqN, m2_neN, wi_N, wi_P, wi_NN, inN_N, li_wi, Nat.reduceAdd, Nat.reduceSub, Nat.reduceMul, Nat.reduceDiv, Nat.reduceMod, Nat.reduceLT, Nat.reduceLeDiff, Nat.reduceEqDiff, decide_true, decide_false, Nat.add_zero, Nat.zero_add, Nat.mul_one, Nat.one_mul, Nat.mul_zero, Nat.zero_mul, n0_gts, Prod.mk.injEq, modN, decide_eq_true_eq, decide_eq_false_iff_not, Bool.and_eq_true, Bool.or_eq_true, Bool.not_eq_true', Bool.not_eq_false', Bool.not_eq_true, Bool.not_eq_false, Bool.not_not, Bool.not_true, Bool.not_false, Bool.true_eq_false, Bool.false_eq_true, true_and, and_true, false_and, and_false, true_implies, false_implies, implies_true, not_true_eq_false, not_false_eq_true, ne_eq, Bool.and_eq_false_imp, Bool.or_eq_false_iff, eq_self, or_false, false_or, or_true, true_or]
  refine wp_skipSign T hc hi (fun s h1 h2 => ?_) (fun s h1 h2 => ?_)
  · simp (disch := omega) only [q_0, q_1, q_2, q_3, q_4, q_5, q_6, q_7, q_8, q_9, q_10, q_11, q_12, q_15, q_16, q_20, q_21, q_25, q_30, q_31, q_32, q_40, q_44, q_48, q_50, q_57, q_59, q_60, q_64, q_81, q_97, q_98, q_99, q_100, q_101, q_102, q_103, q_104, q_105, q_107, q_108, q_110, q_111, q_114, q_115, q_116, q_119, q_120, q_121, q_122, q_136, q_160, q_200, q_255, q_300, q_400, q_401, q_402, q_460, q_479, q_480, q_920, q_999, q_1000, q_1023, q_1024, q_4020, q_9999, q_99999, q_1000000, q_1000000000, q_100001, q_100002, q_100003, q_100004, q_400000, nn_1, r_0, r_1, r_2, r_3, r_4, r_6, r_7, r_8, r_9, r_10, r_11, r_21, r_40, r_48, r_57, r_60, r_97, r_122, r_200, r_300, r_479, r_920, r_9999, r_99999, r_m1, rd_pu, rd_gI, rd_gB, rd_gL, rd_gQ, rd_rI, rd_rB, rd_rQ, rd_rK, rd_dq, rd_cq, rd_div, rd_rem, rd_mb, rd_mif, rd_within, rd_in, Bool.true_and, Bool.and_true, Bool.cond_self, Bool.cond_false_right, Bool.cond_true_left, cond_true, cond_false, rd_sAt, wp_rd, wp_mb, wp_mif, wp_sI, wp_sB, wp_sL, wp_sQ, wp_wI, wp_wB, wp_wQ, orR_l, orR_r, orE_l, orE_r, sK_l, sK_r, sK_c, cond_tr, fi_ufi, fi_ufi1, fi_ufi2, fb_ufb, fb_ufb1, fb_ufb2, fl_ufl, fl_ufl1, fl_ufl2, fr_ufr, fr_ufr1, fr_ufr2, ai_sa, ai_sa1, ab_sab, ab_sab1, ar_sar, ar_sar1, upf_eq, upf_ne, fi_ufb, fi_ufl, fi_ufr, fi_sa, fi_sab, fi_sar, fb_ufi, fb_ufl, fb_ufr, fb_sa, fb_sab, fb_sar, fl_ufi, fl_ufb, fl_ufr, fl_sa, fl_sab, fl_sar, fr_ufi, fr_ufb, fr_ufl, fr_sa, fr_sab, fr_sar, ai_ufi, ai_ufb, ai_ufl, ai_ufr, ai_sab, ai_sar, ab_ufi, ab_ufb, ab_ufl, ab_ufr, ab_sa, ab_sar, ar_ufi, ar_ufb, ar_ufl, ar_ufr, ar_sa, ar_sab, sa_sa, sab_sab, sar_sar, upf_upf, ufi_ufi, tnN, inbN, addN, subN, mulN, decN, divN, remN, n2_lt, n2_le, n2_gt, n2_ge, n2_eq, n2_ne, n0_lt, n0_ge, n0_gt, n0_le, n0_eq, n0_ne, m2_eq, m2_ne, m2_eqq, m2_neq, m0_lt, m0_ge, m0_eq, m0_ne, m2_eqN, m2_neN, wi_N, wi_P, wi_NN, inN_N, li_wi, Nat.reduceAdd, Nat.reduceSub, Nat.reduceMul, Nat.reduceDiv, Nat.reduceMod, Nat.reduceLT, Nat.reduceLeDiff, Nat.reduceEqDiff, decide_true, decide_false, Nat.add_zero, Nat.zero_add, Nat.mul_one, Nat.one_mul, Nat.mul_zero, Nat.zero_mul, n0_gts, Prod.mk.injEq, modN, decide_eq_true_eq, decide_eq_false_iff_not, Bool.and_eq_true, Bool.or_eq_true, Bool.not_eq_true', Bool.not_eq_false', Bool.not_eq_true, Bool.not_eq_false, Bool.not_not, Bool.not_true, Bool.not_false, Bool.true_eq_false, Bool.false_eq_true, true_and, and_true, false_and, and_false, true_implies, false_implies, implies_true, not_true_eq_false, not_false_eq_true, ne_eq, Bool.and_eq_false_imp, Bool.or_eq_false_iff, eq_self, or_false, false_or, or_true, true_or]
    exact hQ _ (by omega)
  · simp (disch := omega) only [q_0, q_1, q_2, q_3, q_4, q_5, q_6, q_7, q_8, q_9, q_10, q_11, q_12, q_15, q_16, q_20, q_21, q_25, q_30, q_31, q_32, q_40, q_44, q_48, q_50, q_57, q_59, q_60, q_64, q_81, q_97, q_98, q_99, q_100, q_101, q_102, q_103, q_104, q_105, q_107, q_108, q_110, q_111, q_114, q_115, q_116, q_119, q_120, q_121, q_122, q_136, q_160, q_200, q_255, q_300, q_400, q_401, q_402, q_460, q_479, q_480, q_920, q_999, q_1000, q_1023, q_1024, q_4020, q_9999, q_99999, q_1000000, q_1000000000, q_100001, q_100002, q_100003, q_100004, q_400000, nn_1, r_0, r_1, r_2, r_3, r_4, r_6, r_7, r_8, r_9, r_10, r_11, r_21, r_40, r_48, r_57, r_60, r_97, r_122, r_200, r_300, r_479, r_920, r_9999, r_99999, r_m1, rd_pu, rd_gI, rd_gB, rd_gL, rd_gQ, rd_rI, rd_rB, rd_rQ, rd_rK, rd_dq, rd_cq, rd_div, rd_rem, rd_mb, rd_mif, rd_within, rd_in, Bool.true_and, Bool.and_true, Bool.cond_self, Bool.cond_false_right, Bool.cond_true_left, cond_true, cond_false, rd_sAt, wp_rd, wp_mb, wp_mif, wp_sI, wp_sB, wp_sL, wp_sQ, wp_wI, wp_wB, wp_wQ, orR_l, orR_r, orE_l, orE_r, sK_l, sK_r, sK_c, cond_tr, fi_ufi, fi_ufi1, fi_ufi2, fb_ufb, fb_ufb1, fb_ufb2, fl_ufl, fl_ufl1, fl_ufl2, fr_ufr, fr_ufr1, fr_ufr2, ai_sa, ai_sa1, ab_sab, ab_sab1, ar_sar, ar_sar1, upf_eq, upf_ne, fi_ufb, fi_ufl, fi_ufr, fi_sa, fi_sab, fi_sar, fb_ufi, fb_ufl, fb_ufr, fb_sa, fb_sab, fb_sar, fl_ufi, fl_ufb, fl_ufr, fl_sa, fl_sab, fl_sar, fr_ufi, fr_ufb, fr_ufl, fr_sa, fr_sab, fr_sar, ai_ufi, ai_ufb, ai_ufl, ai_ufr, ai_sab, ai_sar, ab_ufi, ab_ufb, ab_ufl, ab_ufr, ab_sa, ab_sar, ar_ufi, ar_ufb, ar_ufl, ar_ufr, ar_sa, ar_sab, sa_sa, sab_sab, sar_sar, upf_upf, ufi_ufi, tnN, inbN, addN, subN, mulN, decN, divN, remN, n2_lt, n2_le, n2_gt, n2_ge, n2_eq, n2_ne, n0_lt, n0_ge, n0_gt, n0_le, n0_eq, n0_ne, m2_eq, m2_ne, m2_eqq, m2_neq, m0_lt, m0_ge, m0_eq, m0_ne, m2_eqN, m2_neN, wi_N, wi_P, wi_NN, inN_N, li_wi, Nat.reduceAdd, Nat.reduceSub, Nat.reduceMul, Nat.reduceDiv, Nat.reduceMod, Nat.reduceLT, Nat.reduceLeDiff, Nat.reduceEqDiff, decide_true, decide_false, Nat.add_zero, Nat.zero_add, Nat.mul_one, Nat.one_mul, Nat.mul_zero, Nat.zero_mul, n0_gts, Prod.mk.injEq, modN, decide_eq_true_eq, decide_eq_false_iff_not, Bool.and_eq_true, Bool.or_eq_true, Bool.not_eq_true', Bool.not_eq_false', Bool.not_eq_true, Bool.not_eq_false, Bool.not_not, Bool.not_true, Bool.not_false, Bool.true_eq_false, Bool.false_eq_true, true_and, and_true, false_and, and_false, true_implies, false_implies, implies_true, not_true_eq_false, not_false_eq_true, ne_eq, Bool.and_eq_false_imp, Bool.or_eq_false_iff, eq_self, or_false, false_or, or_true, true_or, CS_at, CS_f, CS_p, CS_n, CS_o, CS_ai, CS_sa, CS_i, CS_fl, wp_fails]
    unfold fu
    simp only [hf0, if_false]
    exact hQ _ (by rw [h1]; exact hs)
theorem wp_want_x {S : Sg} {i f fr lt : Nat} {p : Int32} (b : Bool) (hf : 0 < f) (hf2 : f < 10) (g q : Int32) (Q : Bool → Sg → Prop) : WP (MO_want b g q) (RS S i f p fr lt) Q ↔ Q false (RS S i f p fr lt) := by
  have hf0 : ¬ f = 0 := by omega
  unfold MO_want
  cases b <;> simp (disch := omega) only [q_0, q_1, q_2, q_3, q_4, q_5, q_6, q_7, q_8, q_9, q_10, q_11, q_12, q_15, q_16, q_20, q_21, q_25, q_30, q_31, q_32, q_40, q_44, q_48, q_50, q_57, q_59, q_60, q_64, q_81, q_97, q_98, q_99, q_100, q_101, q_102, q_103, q_104, q_105, q_107, q_108, q_110, q_111, q_114, q_115, q_116, q_119, q_120, q_121, q_122, q_136, q_160, q_200, q_255, q_300, q_400, q_401, q_402, q_460, q_479, q_480, q_920, q_999, q_1000, q_1023, q_1024, q_4020, q_9999, q_99999, q_1000000, q_1000000000, q_100001, q_100002, q_100003, q_100004, q_400000, nn_1, r_0, r_1, r_2, r_3, r_4, r_6, r_7, r_8, r_9, r_10, r_11, r_21, r_40, r_48, r_57, r_60, r_97, r_122, r_200, r_300, r_479, r_920, r_9999, r_99999, r_m1, rd_pu, rd_gI, rd_gB, rd_gL, rd_gQ, rd_rI, rd_rB, rd_rQ, rd_rK, rd_dq, rd_cq, rd_div, rd_rem, rd_mb, rd_mif, rd_within, rd_in, Bool.true_and, Bool.and_true, Bool.cond_self, Bool.cond_false_right, Bool.cond_true_left, cond_true, cond_false, rd_sAt, wp_rd, wp_mb, wp_mif, wp_sI, wp_sB, wp_sL, wp_sQ, wp_wI, wp_wB, wp_wQ, orR_l, orR_r, orE_l, orE_r, sK_l, sK_r, sK_c, cond_tr, fi_ufi, fi_ufi1, fi_ufi2, fb_ufb, fb_ufb1, fb_ufb2, fl_ufl, fl_ufl1, fl_ufl2, fr_ufr, fr_ufr1, fr_ufr2, ai_sa, ai_sa1, ab_sab, ab_sab1, ar_sar, ar_sar1, upf_eq, upf_ne, fi_ufb, fi_ufl, fi_ufr, fi_sa, fi_sab, fi_sar, fb_ufi, fb_ufl, fb_ufr, fb_sa, fb_sab, fb_sar, fl_ufi, fl_ufb, fl_ufr, fl_sa, fl_sab, fl_sar, fr_ufi, fr_ufb, fr_ufl, fr_sa, fr_sab, fr_sar, ai_ufi, ai_ufb, ai_ufl, ai_ufr, ai_sab, ai_sar, ab_ufi, ab_ufb, ab_ufl, ab_ufr, ab_sa, ab_sar, ar_ufi, ar_ufb, ar_ufl, ar_ufr, ar_sa, ar_sab, sa_sa, sab_sab, sar_sar, upf_upf, ufi_ufi, tnN, inbN, addN, subN, mulN, decN, divN, remN, n2_lt, n2_le, n2_gt, n2_ge, n2_eq, n2_ne, n0_lt, n0_ge, n0_gt, n0_le, n0_eq, n0_ne, m2_eq, m2_ne, m2_eqq, m2_neq, m0_lt, m0_ge, m0_eq, m0_ne, m2_eqN, m2_neN, wi_N, wi_P, wi_NN, inN_N, li_wi, Nat.reduceAdd, Nat.reduceSub, Nat.reduceMul, Nat.reduceDiv, Nat.reduceMod, Nat.reduceLT, Nat.reduceLeDiff, Nat.reduceEqDiff, decide_true, decide_false, Nat.add_zero, Nat.zero_add, Nat.mul_one, Nat.one_mul, Nat.mul_zero, Nat.zero_mul, n0_gts, Prod.mk.injEq, modN, decide_eq_true_eq, decide_eq_false_iff_not, Bool.and_eq_true, Bool.or_eq_true, Bool.not_eq_true', Bool.not_eq_false', Bool.not_eq_true, Bool.not_eq_false, Bool.not_not, Bool.not_true, Bool.not_false, Bool.true_eq_false, Bool.false_eq_true, true_and, and_true, false_and, and_false, true_implies, false_implies, implies_true, not_true_eq_false, not_false_eq_true, ne_eq, Bool.and_eq_false_imp, Bool.or_eq_false_iff, eq_self, or_false, false_or, or_true, true_or, RS_at, RS_f, RS_p, RS_fr, RS_lt, RS_k, RS_ai, RS_sa, RS_i, RS_ff, RS_w, RS_l, hf0]
theorem TX_C4 {S : Sg} {g0 g1 g2 g3 : Nat → Int32} (T : TX len t (fi S 27 1) (ai S 28)) : TX len t (fi (C4 S g0 g1 g2 g3) 27 1) (ai (C4 S g0 g1 g2 g3) 28) := by
  rw [C4_fi, C4_ax _ _ _ _ _ _ (by omega)]; exact T
theorem TX_R4 {S : Sg} {g0 g1 g2 g3 : Nat → Int32} (T : TX len t (fi S 127 26) (ai S 146)) : TX len t (fi (R4 S g0 g1 g2 g3) 127 26) (ai (R4 S g0 g1 g2 g3) 146) := by
  rw [R4_fi, R4_ax _ _ _ _ _ _ (by omega)]; exact T
/-- the two ends: no fault yet -/
theorem R_sign (T : TX len t (fi SC 27 1) (ai SC 28)) (T' : TX len t (fi SR 127 26) (ai SR 146)) {i fr lt : Nat} {p : Int32} (hi : i ≤ len) {Q : Unit → Sg → Unit → Sg → Prop}
    (h1 : ∀ i', i < i' → i' ≤ len → Q () (CS SC i' 0 p) () (RS SR i' 0 p fr lt)) (h2 : ∀ i' f q, i' ≤ len → 0 < f → f < 10 → Q () (CS SC i' f q) () (RS SR i' f q fr lt)) :
    WP (Reader_readSign (Int32.ofNat 59)) (CS SC i 0 p) fun v1 T1 => WP (mb MO_here fun c => mif (mb (pu 127) fun a72 => mb (mb (pu c) fun a74 => mb (pu (59 : Int32)) fun a75 => pu (cmp2 .eq a74 a75)) fun a73 => mb (pu (1 : Int32)) fun a76 => mb (gI 127 27) fun a77 => MO_want a73 a76 a77)
      (mb (mb (gI 127 27) fun a78 => mb (pu (1 : Int32)) fun a79 => sI 127 27 (a78 + a79)) fun _ => pu ()) (pu ())) (RS SR i 0 p fr lt) fun v2 T2 => Q v1 T1 v2 T2 := by
  have hs := scw_le (isBl t) hi
  have hs0 := scw_ge (isBl t) len i
  unfold Reader_readSign
  simp (disch := omega) only [q_0, q_1, q_2, q_3, q_4, q_5, q_6, q_7, q_8, q_9, q_10, q_11, q_12, q_15, q_16, q_20, q_21, q_25, q_30, q_31, q_32, q_40, q_44, q_48, q_50, q_57, q_59, q_60, q_64, q_81, q_97, q_98, q_99, q_100, q_101, q_102, q_103, q_104, q_105, q_107, q_108, q_110, q_111, q_114, q_115, q_116, q_119, q_120, q_121, q_122, q_136, q_160, q_200, q_255, q_300, q_400, q_401, q_402, q_460, q_479, q_480, q_920, q_999, q_1000, q_1023, q_1024, q_4020, q_9999, q_99999, q_1000000, q_1000000000, q_100001, q_100002, q_100003, q_100004, q_400000, nn_1, r_0, r_1, r_2, r_3, r_4, r_6, r_7, r_8, r_9, r_10, r_11, r_21, r_40, r_48, r_57, r_60, r_97, r_122, r_200, r_300, r_479, r_920, r_9999, r_99999, r_m1, rd_pu, rd_gI, rd_gB, rd_gL, rd_gQ, rd_rI, rd_rB, rd_rQ, rd_rK, rd_dq, rd_cq, rd_div, rd_rem, rd_mb, rd_mif, rd_within, rd_in, Bool.true_and, Bool.and_true, Bool.cond_self, Bool.cond_false_right, Bool.cond_true_left, cond_true, cond_false, rd_sAt, wp_rd, wp_mb, wp_mif, wp_sI, wp_sB, wp_sL, wp_sQ, wp_wI, wp_wB, wp_wQ, orR_l, orR_r, orE_l, orE_r, sK_l, sK_r, sK_c, cond_tr, fi_ufi, fi_ufi1, fi_ufi2, fb_ufb, fb_ufb1, fb_ufb2, fl_ufl, fl_ufl1, fl_ufl2, fr_ufr, fr_ufr1, fr_ufr2, ai_sa, ai_sa1, ab_sab, ab_sab1, ar_sar, ar_sar1, upf_eq, upf_ne, fi_ufb, fi_ufl, fi_ufr, fi_sa, fi_sab, fi_sar, fb_ufi, fb_ufl, fb_ufr, fb_sa, fb_sab, fb_sar, fl_ufi, fl_ufb, fl_ufr, fl_sa, fl_sab, fl_sar, fr_ufi, fr_ufb, fr_ufl, fr_sa, fr_sab, fr_sar, ai_ufi, ai_ufb, ai_ufl, ai_ufr, ai_sab, ai_sar, ab_ufi, ab_ufb, ab_ufl, ab_ufr, ab_sa, ab_sar, ar_ufi, ar_ufb, ar_ufl, ar_ufr, ar_sa, ar_sab, sa_sa, sab_sab, sar_sar, upf_upf, ufi_ufi, tnN, inbN, addN, subN, mulN, decN, divN, remN, n2_lt, n2_le, n2_gt, n2_ge, n2_eq, n2_ne, n0_lt, n0_ge, n0_gt, n0_le, n0_eq, n0_ne, m2_eq, m2_ne, m2_eqq, m2_neq, m0_lt, m0_ge, m0_eq, m0_ne, m2_eqN, m2_neN, wi_N, wi_P, wi_NN, inN_N, li_wi, Nat.reduceAdd, Nat.reduceSub, Nat.reduceMul, Nat.reduceDiv, Nat.reduceMod, Nat.reduceLT, Nat.reduceLeDiff, Nat.reduceEqDiff, decide_true, decide_false, Nat.add_zero, Nat.zero_add, Nat.mul_one, Nat.one_mul, Nat.mul_zero, Nat.zero_mul, n0_gts, Prod.mk.injEq, modN, decide_eq_true_eq, decide_eq_false_iff_not, Bool.and_eq_true, Bool.or_eq_true, Bool.not_eq_true', Bool.not_eq_false', Bool.not_eq_true, Bool.not_eq_false, Bool.not_not, Bool.not_true, Bool.not_false, Bool.true_eq_false, Bool.false_eq_true, true_and, and_true, false_and, and_false, true_implies, false_implies, implies_true, not_true_eq_false, not_false_eq_true, ne_eq, Bool.and_eq_false_imp, Bool.or_eq_false_iff, eq_self, or_false, false_or, or_true, true_or]
  refine wp_skipSign T (c := 59) (by omega) hi (fun s e1 hc => ?_) (fun s e1 hc => ?_)
  · rw [← e1] at hs hs0
    have hv : cmp2 .eq (if s < len then Int32.ofNat (t s) else nn) (Int32.ofNat 59) = true := by rw [if_pos hc.1, hc.2]; rfl
    simp (disch := omega) only [q_0, q_1, q_2, q_3, q_4, q_5, q_6, q_7, q_8, q_9, q_10, q_11, q_12, q_15, q_16, q_20, q_21, q_25, q_30, q_31, q_32, q_40, q_44, q_48, q_50, q_57, q_59, q_60, q_64, q_81, q_97, q_98, q_99, q_100, q_101, q_102, q_103, q_104, q_105, q_107, q_108, q_110, q_111, q_114, q_115, q_116, q_119, q_120, q_121, q_122, q_136, q_160, q_200, q_255, q_300, q_400, q_401, q_402, q_460, q_479, q_480, q_920, q_999, q_1000, q_1023, q_1024, q_4020, q_9999, q_99999, q_1000000, q_1000000000, q_100001, q_100002, q_100003, q_100004, q_400000, nn_1, r_0, r_1, r_2, r_3, r_4, r_6, r_7, r_8, r_9, r_10, r_11, r_21, r_40, r_48, r_57, r_60, r_97, r_122, r_200, r_300, r_479, r_920, r_9999, r_99999, r_m1, rd_pu, rd_gI, rd_gB, rd_gL, rd_gQ, rd_rI, rd_rB, rd_rQ, rd_rK, rd_dq, rd_cq, rd_div, rd_rem, rd_mb, rd_mif, rd_within, rd_in, Bool.true_and, Bool.and_true, Bool.cond_self, Bool.cond_false_right, Bool.cond_true_left, cond_true, cond_false, rd_sAt, wp_rd, wp_mb, wp_mif, wp_sI, wp_sB, wp_sL, wp_sQ, wp_wI, wp_wB, wp_wQ, orR_l, orR_r, orE_l, orE_r, sK_l, sK_r, sK_c, cond_tr, fi_ufi, fi_ufi1, fi_ufi2, fb_ufb, fb_ufb1, fb_ufb2, fl_ufl, fl_ufl1, fl_ufl2, fr_ufr, fr_ufr1, fr_ufr2, ai_sa, ai_sa1, ab_sab, ab_sab1, ar_sar, ar_sar1, upf_eq, upf_ne, fi_ufb, fi_ufl, fi_ufr, fi_sa, fi_sab, fi_sar, fb_ufi, fb_ufl, fb_ufr, fb_sa, fb_sab, fb_sar, fl_ufi, fl_ufb, fl_ufr, fl_sa, fl_sab, fl_sar, fr_ufi, fr_ufb, fr_ufl, fr_sa, fr_sab, fr_sar, ai_ufi, ai_ufb, ai_ufl, ai_ufr, ai_sab, ai_sar, ab_ufi, ab_ufb, ab_ufl, ab_ufr, ab_sa, ab_sar, ar_ufi, ar_ufb, ar_ufl, ar_ufr, ar_sa, ar_sab, sa_sa, sab_sab, sar_sar, upf_upf, ufi_ufi, tnN, inbN, addN, subN, mulN, decN, divN, remN, n2_lt, n2_le, n2_gt, n2_ge, n2_eq, n2_ne, n0_lt, n0_ge, n0_gt, n0_le, n0_eq, n0_ne, m2_eq, m2_ne, m2_eqq, m2_neq, m0_lt, m0_ge, m0_eq, m0_ne, m2_eqN, m2_neN, wi_N, wi_P, wi_NN, inN_N, li_wi, Nat.reduceAdd, Nat.reduceSub, Nat.reduceMul, Nat.reduceDiv, Nat.reduceMod, Nat.reduceLT, Nat.reduceLeDiff, Nat.reduceEqDiff, decide_true, decide_false, Nat.add_zero, Nat.zero_add, Nat.mul_one, Nat.one_mul, Nat.mul_zero, Nat.zero_mul, n0_gts, Prod.mk.injEq, modN, decide_eq_true_eq, decide_eq_false_iff_not, Bool.and_eq_true, Bool.or_eq_true, Bool.not_eq_true', Bool.not_eq_false', Bool.not_eq_true, Bool.not_eq_false, Bool.not_not, Bool.not_true, Bool.not_false, Bool.true_eq_false, Bool.false_eq_true, true_and, and_true, false_and, and_false, true_implies, false_implies, implies_true, not_true_eq_false, not_false_eq_true, ne_eq, Bool.and_eq_false_imp, Bool.or_eq_false_iff, eq_self, or_false, false_or, or_true, true_or, RS_at, RS_f, RS_p, RS_fr, RS_lt, RS_k, RS_ai, RS_sa, RS_i, RS_ff, RS_w, RS_l, wp_here T' hi, ← e1, hv, wp_want_t]
    exact h1 (s + 1) (by omega) (by omega)
  · rw [← e1] at hs hs0
    have hv : cmp2 .eq (if s < len then Int32.ofNat (t s) else nn) (Int32.ofNat 59) = false := by
      by_cases hsl : s < len
      · rw [if_pos hsl, n2_eq (by have := (T.2.2 s hsl).1; omega) (by omega)]
        exact decide_eq_false fun h => hc ⟨hsl, h⟩
      · rw [if_neg hsl]; decide
    simp (disch := omega) only [q_0, q_1, q_2, q_3, q_4, q_5, q_6, q_7, q_8, q_9, q_10, q_11, q_12, q_15, q_16, q_20, q_21, q_25, q_30, q_31, q_32, q_40, q_44, q_48, q_50, q_57, q_59, q_60, q_64, q_81, q_97, q_98, q_99, q_100, q_101, q_102, q_103, q_104, q_105, q_107, q_108, q_110, q_111, q_114, q_115, q_116, q_119, q_120, q_121, q_122, q_136, q_160, q_200, q_255, q_300, q_400, q_401, q_402, q_460, q_479, q_480, q_920, q_999, q_1000, q_1023, q_1024, q_4020, q_9999, q_99999, q_1000000, q_1000000000, q_100001, q_100002, q_100003, q_100004, q_400000, nn_1, r_0, r_1, r_2, r_3, r_4, r_6, r_7, r_8, r_9, r_10, r_11, r_21, r_40, r_48, r_57, r_60, r_97, r_122, r_200, r_300, r_479, r_920, r_9999, r_99999, r_m1, rd_pu, rd_gI, rd_gB, rd_gL, rd_gQ, rd_rI, rd_rB, rd_rQ, rd_rK, rd_dq, rd_cq, rd_div, rd_rem, rd_mb, rd_mif, rd_within, rd_in, Bool.true_and, Bool.and_true, Bool.cond_self, Bool.cond_false_right, Bool.cond_true_left, cond_true, cond_false, rd_sAt, wp_rd, wp_mb, wp_mif, wp_sI, wp_sB, wp_sL, wp_sQ, wp_wI, wp_wB, wp_wQ, orR_l, orR_r, orE_l, orE_r, sK_l, sK_r, sK_c, cond_tr, fi_ufi, fi_ufi1, fi_ufi2, fb_ufb, fb_ufb1, fb_ufb2, fl_ufl, fl_ufl1, fl_ufl2, fr_ufr, fr_ufr1, fr_ufr2, ai_sa, ai_sa1, ab_sab, ab_sab1, ar_sar, ar_sar1, upf_eq, upf_ne, fi_ufb, fi_ufl, fi_ufr, fi_sa, fi_sab, fi_sar, fb_ufi, fb_ufl, fb_ufr, fb_sa, fb_sab, fb_sar, fl_ufi, fl_ufb, fl_ufr, fl_sa, fl_sab, fl_sar, fr_ufi, fr_ufb, fr_ufl, fr_sa, fr_sab, fr_sar, ai_ufi, ai_ufb, ai_ufl, ai_ufr, ai_sab, ai_sar, ab_ufi, ab_ufb, ab_ufl, ab_ufr, ab_sa, ab_sar, ar_ufi, ar_ufb, ar_ufl, ar_ufr, ar_sa, ar_sab, sa_sa, sab_sab, sar_sar, upf_upf, ufi_ufi, tnN, inbN, addN, subN, mulN, decN, divN, remN, n2_lt, n2_le, n2_gt, n2_ge, n2_eq, n2_ne, n0_lt, n0_ge, n0_gt, n0_le, n0_eq, n0_ne, m2_eq, m2_ne, m2_eqq, m2_neq, m0_lt, m0_ge, m0_eq, m0_ne, m2_eqN, m2_neN, wi_N, wi_P, wi_NN, inN_N, li_wi, Nat.reduceAdd, Nat.reduceSub, Nat.reduceMul, Nat.reduceDiv, Nat.reduceMod, Nat.reduceLT, Nat.reduceLeDiff, Nat.reduceEqDiff, decide_true, decide_false, Nat.add_zero, Nat.zero_add, Nat.mul_one, Nat.one_mul, Nat.mul_zero, Nat.zero_mul, n0_gts, Prod.mk.injEq, modN, decide_eq_true_eq, decide_eq_false_iff_not, Bool.and_eq_true, Bool.or_eq_true, Bool.not_eq_true', Bool.not_eq_false', Bool.not_eq_true, Bool.not_eq_false, Bool.not_not, Bool.not_true, Bool.not_false, Bool.true_eq_false, Bool.false_eq_true, true_and, and_true, false_and, and_false, true_implies, false_implies, implies_true, not_true_eq_false, not_false_eq_true, ne_eq, Bool.and_eq_false_imp, Bool.or_eq_false_iff, eq_self, or_false, false_or, or_true, true_or, CS_at, CS_f, CS_p, CS_n, CS_o, CS_ai, CS_sa, CS_i, CS_fl, wp_fails, RS_at, RS_f, RS_p, RS_fr, RS_lt, RS_k, RS_ai, RS_sa, RS_i, RS_ff, RS_w, RS_l, wp_here T' hi, ← e1, hv, wp_want_f (g := 1) (by omega) (by omega)]
    exact h2 s 1 (Int32.ofNat s) hs (by omega) (by omega)
end
