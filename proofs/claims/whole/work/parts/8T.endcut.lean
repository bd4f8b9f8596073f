/-! ended and cut: both sides -/
def eD (act : Nat → Nat) (m : Nat) (D : Nat → Nat → Nat) : Nat → Nat → Nat := fun x c => if act c = 0 then D x c else if x = 0 then (if act c = 1 then 3 else if act c = 2 then 4 else 0) else if x = 4 then (if act c = 3 then D 4 c else m + 1) else if x = 1 ∨ x = 2 then (if act c = 3 then 0 else D x c) else D x c
theorem Bs_emp {f : Nat → Nat} {n : Nat} {X : Nat → Prop} (h : ∀ w, w < n → ¬ X w) : Bs f n X (Int32.ofNat 0) := by
  intro x hx
  rw [bt_zero]
  exact ⟨fun e => (by cases e), fun ⟨w, h1, _, h2⟩ => absurd h2 (h w h1)⟩
theorem dn_N (k : Nat) : Int32.ofNat k = dn (k + 1) := by simp [dn]
theorem cmpN2 {s : Nat} (h : s < 2147483648) : cmp2 .eq (Int32.ofNat s) (Int32.ofNat 2) = decide (s = 2) := n2_eq h (by omega)
section
variable {t : Nat} {f : Nat → Nat} {n : Nat} {M : Nat → Nat} {nc nR m : Nat} {E D : Nat → Nat → Nat} {hd : Nat → Option Nat} {SC SR : Sg} {ks : Nat} {W K F T : Nat → Nat} {nw : Nat}
set_option maxHeartbeats 4000000 in
theorem R_endCut (H : DD t f n M nc nR m E D hd SC SR) (hS : SS t nc nR E SC SR) (h6 : fi SC t 6 = Int32.ofNat m) (hm : m < 480) (hnn : nw ≤ n) (hus : ∀ w, w < n → bt (fi SC t 11) (f w) = (wy W K F T w m ks).isNone) (hIS : IS ks W K F T (ai SR 131) (ai SR 132) (ai SR 133) (ai SR 134)) (hks : fi SR 127 5 = Int32.ofNat ks) (hnw : nw ≤ 16) (h0 : fi SR 127 0 = Int32.ofNat nw) (hoff : ∀ w, nw ≤ w → w < n → wy W K F T w m ks = none) (hnn : nw ≤ n) {Q : Sg → Sg → Prop}
    (hQ : ∀ D' hd' SC' SR', DD t f n M nc nR m E D' hd' SC' SR' → KpC t SC SC' → KpR SR SR' → fi SC' t 7 = fi SC t 7 → fi SR' 127 59 = fi SR 127 59 → P5 D D' → Q SC' SR') : WP (Day_endAndCut t) SC fun _ SC' => WP (MO_endSome (Int32.ofNat m)) SR fun _ S1 => WP (MO_cutSome (Int32.ofNat m)) S1 fun _ SR' => Q SC' SR' := by
  obtain ⟨⟨g1, g2, g3, hf⟩, ⟨c1, c2, c3⟩, ⟨r1, r2, r3, r4⟩, hK, h6s, hH1, hH2⟩ := H
  -- the class
  refine wp_endAndCut (t := t) (nc := nc) (m := m) (st := D 0) (bg := fun c => D 3 c - 1) (ln := E 2) (by omega) c1 h6 (by omega) (fun c hc => ?_) fun FF hCE => ?_
  · obtain ⟨k1, k2, k3, k4, k5, k6, -⟩ := hK c hc
    obtain ⟨s1, s2, s3, s4, s5, s6, s7, s8, s9⟩ := hS c (by omega)
    obtain ⟨e1, e2, e3, e4, e5, e6⟩ := s9 hc
    obtain ⟨d1, d2, -⟩ := c3 c hc
    refine ⟨k1, d1, fun h2 => ?_⟩
    obtain ⟨-, -, p1, p2⟩ := k5 (by omega)
    refine ⟨by show D 3 c - 1 ≤ m; omega, by omega, ?_, e3⟩
    rw [d2, dn, if_neg (by omega)]
  generalize hbg : (fun c => D 3 c - 1) = bg at hCE
  -- what is done to each
  obtain ⟨act, hact⟩ : ∃ act : Nat → Nat, act = fun c => if c < nc then actC SC t m (D 0) bg (E 2) c else 0 := ⟨_, rfl⟩
  have hac : ∀ c, c < nc → actC SC t m (D 0) bg (E 2) c = act c := fun c hc => by rw [hact]; show _ = if c < nc then _ else _; rw [if_pos hc]
  have ha0 : ∀ c, nc ≤ c → act c = 0 := fun c hc => by rw [hact]; show (if c < nc then _ else _) = _; rw [if_neg (by omega)]
  have hcut : ∀ c, c < nc → (cmp0 .ne (fi SC (t + 6 + c) 15 &&& (fi SC t 11 ^^^ nn)) = true ↔ ∃ w, w < n ∧ hd w = some c ∧ wy W K F T w m ks ≠ none) := by
    intro c hc
    obtain ⟨-, -, -, -, -, -, b7, -⟩ := c3 c hc
    have : Bs f n (fun w => hd w = some c ∧ wy W K F T w m ks ≠ none) (fi SC (t + 6 + c) 15 &&& (fi SC t 11 ^^^ nn)) := by
      intro x hx
      rw [bt_and, bt_not _ hx, Bool.and_eq_true, Bool.not_eq_true', b7 x hx]
      constructor
      · rintro ⟨⟨w, h1, rfl, h3⟩, h4⟩
        rw [hus w h1] at h4
        exact ⟨w, h1, rfl, h3, fun e => by rw [e] at h4; cases h4⟩
      · rintro ⟨w, h1, rfl, h3, h4⟩
        refine ⟨⟨w, h1, rfl, h3⟩, ?_⟩
        rw [hus w h1]
        cases e : wy W K F T w m ks with
        | none => exact absurd e h4
        | some y => rfl
    exact Bs_ne0 hf this
  have hbge : ∀ c, bg c = D 3 c - 1 := fun c => by rw [← hbg]
  have A1 : ∀ c, act c = 1 ↔ c < nc ∧ D 0 c = 2 ∧ bg c + E 2 c ≤ m := by
    intro c
    by_cases hc : c < nc
    · rw [← hac c hc]
      unfold actC
      constructor
      · intro h
        split at h
        · next e => exact ⟨hc, e⟩
        · split at h
          · split at h <;> omega
          · omega
      · rintro ⟨-, h⟩; rw [if_pos h]
    · rw [ha0 c (by omega)]; exact ⟨fun h => by omega, fun h => by omega⟩
  have A23 : ∀ c, (act c = 2 ∨ act c = 3) ↔ c < nc ∧ ¬ (D 0 c = 2 ∧ bg c + E 2 c ≤ m) ∧ ∃ w, w < n ∧ hd w = some c ∧ wy W K F T w m ks ≠ none := by
    intro c
    by_cases hc : c < nc
    · rw [← hcut c hc, ← hac c hc]
      unfold actC
      constructor
      · intro h
        split at h
        · omega
        · next e =>
          split at h
          · next e2 => exact ⟨hc, e, e2⟩
          · omega
      · rintro ⟨-, h1, h2⟩
        rw [if_neg h1, if_pos h2]
        split <;> omega
    · rw [ha0 c (by omega)]; exact ⟨fun h => by omega, fun h => by omega⟩
  have A2 : ∀ c, act c = 2 → D 0 c = 2 := by
    intro c h
    have hc : c < nc := Nat.lt_of_not_le fun h2 => by rw [ha0 c h2] at h; omega
    rw [← hac c hc] at h
    unfold actC at h
    split at h
    · omega
    · split at h
      · split at h
        · assumption
        · omega
      · omega
  have A3 : ∀ c, act c = 3 → D 0 c ≠ 2 := by
    intro c h
    have hc : c < nc := Nat.lt_of_not_le fun h2 => by rw [ha0 c h2] at h; omega
    rw [← hac c hc] at h
    unfold actC at h
    split at h
    · omega
    · split at h
      · split at h
        · omega
        · assumption
      · omega
  have Ale : ∀ c, act c ≤ 3 := by
    intro c
    by_cases hc : c < nc
    · rw [← hac c hc]
      unfold actC
      split
      · omega
      · split
        · split <;> omega
        · omega
    · rw [ha0 c (by omega)]; omega
  have Ast : ∀ c, act c ≠ 0 → c < nc ∧ (D 0 c = 1 ∨ D 0 c = 2) := by
    intro c h
    have hc : c < nc := Nat.lt_of_not_le fun h2 => by rw [ha0 c h2] at h; omega
    refine ⟨hc, ?_⟩
    by_cases h1 : act c = 1
    · exact Or.inr ((A1 c).1 h1).2.1
    · obtain ⟨-, -, w, h3, h4, -⟩ := (A23 c).1 (by have := Ale c; omega)
      exact (hH1 w c h3 h4).2.2.1
  have A3' : ∀ c, act c = 3 → D 0 c = 1 := fun c h => by
    rcases (Ast c (by omega)).2 with e | e
    · exact e
    · exact absurd e (A3 c h)
  clear hact
  have hCE' : CE SC t act nc FF := by
    obtain ⟨x1, x2, x3⟩ := hCE
    refine ⟨fun c b hc => by rw [x1 c b hc, hac c hc], fun x hx => ?_, x3⟩
    rw [x2 x hx]
    refine and_congr Iff.rfl ⟨fun h c hc ha => h c hc (by rw [hac c hc]; exact ha), fun h c hc ha => h c hc (by rw [← hac c hc]; exact ha)⟩
  -- the reference
  have hEn : ∀ c, c < nR → (cmp2 .eq (ai SR 158 c) (Int32.ofNat 2) = decide (D 0 c = 2) ∧ (D 0 c = 2 → bg c < 1000 ∧ E 2 c < 100 ∧ ai SR 159 c = Int32.ofNat (bg c) ∧ ai SR 152 c = Int32.ofNat (E 2 c))) := by
    intro c hc
    obtain ⟨s1, s2, s3, s4, s5, s6, s7, s8, s9⟩ := hS c (by omega)
    by_cases hcn : c < nc
    · obtain ⟨k1, k2, k3, k4, k5, k6, -⟩ := hK c hcn
      obtain ⟨d1, d2, -⟩ := r3 c hcn
      refine ⟨by rw [d1, cmpN2 (by omega)], fun h2 => ?_⟩
      obtain ⟨-, -, p1, p2⟩ := k5 (by omega)
      rw [hbge]
      refine ⟨by omega, by omega, ?_, s8.2.2.1⟩
      rw [d2, dn, if_neg (by omega)]
    · have e6 := h6s c (by omega)
      refine ⟨by rw [r4 c (by omega) hc, e6]; decide, fun h2 => by omega⟩
  refine rm_endSome r2 (nc := nR) (m := m) (st := D 0) (bg := bg) (ln := E 2) (by omega) r1 (by omega) hEn fun g a b d e1 e2 e3 e4 => ?_
  generalize hen : (fun c => decide (D 0 c = 2 ∧ bg c + E 2 c ≤ m)) = en at e1 e2 e3 e4
  have hene : ∀ c, en c = true ↔ (D 0 c = 2 ∧ bg c + E 2 c ≤ m) := fun c => by rw [← hen]; exact decide_eq_true_iff
  have hd1 : ∀ w c, w < n → hdE hd en nR w = some c → hd w = some c ∧ c < nc ∧ en c = false := by
    intro w c hwn h
    unfold hdE at h
    cases hx : hd w with
    | none => rw [hx] at h; cases h
    | some d =>
      rw [hx] at h
      simp only at h
      split at h
      · cases h
      · next e5 =>
        cases h
        have := (hH1 w c hwn hx).2.1
        refine ⟨rfl, this, ?_⟩
        cases hec : en c
        · rfl
        · exact absurd ⟨by omega, hec⟩ e5
  have x66 : ai (ES SR g a b d) 166 = g := by unfold ES; rw [ai_sa1 _ _ _ _ (by decide), ai_sa1 _ _ _ _ (by decide), ai_sa1 _ _ _ _ (by decide), ai_sa]
  have x62 : ai (ES SR g a b d) 162 = a := by unfold ES; rw [ai_sa1 _ _ _ _ (by decide), ai_sa1 _ _ _ _ (by decide), ai_sa]
  have x58 : ai (ES SR g a b d) 158 = b := by unfold ES; rw [ai_sa1 _ _ _ _ (by decide), ai_sa]
  have x60 : ai (ES SR g a b d) 160 = d := by unfold ES; rw [ai_sa]
  have xx : ∀ s, s ≠ 166 ∧ s ≠ 162 ∧ s ≠ 158 ∧ s ≠ 160 → ai (ES SR g a b d) s = ai SR s := fun s h => by unfold ES; rw [ai_sa1 _ _ _ _ h.2.2.2, ai_sa1 _ _ _ _ h.2.2.1, ai_sa1 _ _ _ _ h.2.1, ai_sa1 _ _ _ _ h.1]
  refine rm_cutSome (S := ES SR g a b d) (hd := hdE hd en nR) (nw := nw) (m := m) (st := D 0) (W := W) (K := K) (F := F) (T := T) (by rw [xx _ (by decide), xx _ (by decide), xx _ (by decide), xx _ (by decide)]; exact hIS) hks (by rw [x66]; exact e1) hnw h0 (by omega) (fun c w hw h => ?_) fun g' a' b' d' e' y1 y2 y3 y4 y5 => ?_
  · obtain ⟨p1, p2, p3⟩ := hd1 w c (by omega) h
    refine ⟨(hK c p2).1, ?_⟩
    rw [x58, e3 c, if_neg (by rw [p3]; simp)]
    exact (r3 c p2).1
  generalize hsel : ctB (hdE hd en nR) (fun w => (wy W K F T w m ks).isSome) nw = sel at y1 y2 y3 y4 y5
  have hsele : ∀ c, sel c = true ↔ (act c = 2 ∨ act c = 3) := by
    intro c
    rw [A23 c, ← hsel]
    unfold ctB
    rw [List.any_eq_true]
    constructor
    · rintro ⟨w, hw, hq⟩
      rw [Bool.and_eq_true, decide_eq_true_eq] at hq
      have hwn : w < n := by have := List.mem_range.1 hw; omega
      obtain ⟨p1, p2, p3⟩ := hd1 w c hwn hq.1
      refine ⟨p2, fun h => (by rw [(hene c).2 h] at p3; cases p3), w, hwn, p1, fun h => ?_⟩
      have h2 : (wy W K F T w m ks).isSome = true := hq.2
      rw [h] at h2; cases h2
    · rintro ⟨p1, p2, w, p3, p4, p5⟩
      have hwn : w < nw := Nat.lt_of_not_le fun h => p5 (hoff w h p3)
      refine ⟨w, List.mem_range.2 hwn, ?_⟩
      rw [Bool.and_eq_true, decide_eq_true_eq]
      constructor
      · unfold hdE
        rw [p4]
        simp only
        rw [if_neg fun h => p2 ((hene c).1 h.2)]
      · show (wy W K F T w m ks).isSome = true
        cases hy : wy W K F T w m ks with
        | none => exact absurd hy p5
        | some y => rfl
  have hA1e : ∀ c, c < nR → (en c = true ↔ act c = 1) := by
    intro c hc
    rw [hene, A1]
    refine ⟨fun h => ⟨?_, h⟩, fun h => h.2⟩
    refine Nat.lt_of_not_le fun h2 => ?_
    have := h6s c h2
    omega
  rw [x62] at y2
  rw [x58] at y3
  rw [x60] at y4
  rw [xx 164 (by decide)] at y5
  -- fields of the reference behind it
  have z0 : ∀ c, c < nR → act c = 0 → sel c = false ∧ en c = false := by
    intro c hc h
    refine ⟨?_, ?_⟩
    · cases hx : sel c
      · rfl
      · have := (hsele c).1 hx; omega
    · cases hx : en c
      · rfl
      · have := (hA1e c hc).1 hx; omega
  have z1 : ∀ c, c < nR → act c = 1 → sel c = false ∧ en c = true := by
    intro c hc h
    refine ⟨?_, (hA1e c hc).2 h⟩
    cases hx : sel c
    · rfl
    · have := (hsele c).1 hx; omega
  have z2 : ∀ c, c < nR → (act c = 2 ∨ act c = 3) → sel c = true ∧ en c = false := by
    intro c hc h
    refine ⟨(hsele c).2 h, ?_⟩
    cases hx : en c
    · rfl
    · have := (hA1e c hc).1 hx; omega
  obtain ⟨x1, x2, x3⟩ := hCE'
  have hhd : hdX (hdE hd en nR) sel = hdX hd (fun c => decide (act c ≠ 0)) := by
    funext w
    unfold hdX hdE
    cases hx : hd w with
    | none => rfl
    | some c =>
      simp only
      by_cases hc : c < nc
      case neg =>
        have h0 := ha0 c (by omega)
        have u1 : sel c = false := by
          cases hx : sel c
          · rfl
          · have := (hsele c).1 hx; omega
        have u2 : en c = false := by
          cases hx : en c
          · rfl
          · have := (hene c).1 hx
            have := h6s c (by omega)
            omega
        rw [if_neg (by rw [u2]; simp), decide_eq_false (by omega)]
        simp only
        rw [u1]
      have hcR : c < nR := by omega
      rcases (by have := Ale c; omega : act c = 0 ∨ act c = 1 ∨ (act c = 2 ∨ act c = 3)) with h | h | h
      · obtain ⟨u1, u2⟩ := z0 c hcR h
        rw [if_neg (by rw [u2]; simp), decide_eq_false (by omega)]
        simp only
        rw [u1]
      · obtain ⟨u1, u2⟩ := z1 c hcR h
        rw [if_pos ⟨hcR, u2⟩, decide_eq_true (by omega)]
        rfl
      · obtain ⟨u1, u2⟩ := z2 c hcR h
        rw [if_neg (by rw [u2]; simp), decide_eq_true (by omega)]
        simp only
        rw [u1]
  rw [hhd] at y1
  have hhd' : ∀ w c, hdX hd (fun c => decide (act c ≠ 0)) w = some c ↔ hd w = some c ∧ act c = 0 := by
    intro w c
    unfold hdX
    cases hx : hd w with
    | none => simp
    | some d =>
      simp only
      by_cases h : act d = 0
      · rw [decide_eq_false (by omega)]
        constructor
        · intro e; cases e; exact ⟨rfl, h⟩
        · rintro ⟨e, -⟩; exact e
      · rw [decide_eq_true h]
        constructor
        · intro e; cases e
        · rintro ⟨e, h2⟩; cases e; exact absurd h2 h
  obtain ⟨v66, v62, v58, v60, v64⟩ := CT_a (ES SR g a b d) g' a' b' d' e'
  have vx : ∀ s, s ≠ 166 ∧ s ≠ 162 ∧ s ≠ 158 ∧ s ≠ 160 ∧ s ≠ 164 → ai (CT (ES SR g a b d) g' a' b' d' e') s = ai SR s := fun s h => by rw [CT_x _ _ _ _ _ _ h, xx s ⟨h.1, h.2.1, h.2.2.1, h.2.2.2.1⟩]
  generalize hdX hd (fun c => decide (act c ≠ 0)) = hd2 at *
  refine hQ (eD act m D) hd2 _ _ ⟨⟨g1, g2, g3, hf⟩, ⟨?_, ?_, ?_⟩, ⟨r1, ?_, ?_, ?_⟩, ?_, ?_, ?_, ?_⟩ ?_ ?_ ?_ rfl ?_
  · rw [fi_sfi, x3 _ _ (Or.inr (by decide)) (Or.inl (by omega))]; exact c1
  · rw [fi_sfi]
    intro x hx
    rw [x2 x hx, c2 x hx]
    constructor
    · rintro ⟨⟨w, h1, rfl, c, h3⟩, h4⟩
      have hc := (hH1 w c h1 h3).2.1
      refine ⟨w, h1, rfl, c, (hhd' w c).2 ⟨h3, ?_⟩⟩
      refine Classical.byContradiction fun hne => ?_
      have := h4 c hc hne
      rw [((c3 c hc).2.2.2.2.2.2.1 _ hx).2 ⟨w, h1, rfl, h3⟩] at this
      cases this
    · rintro ⟨w, h1, rfl, c, h3⟩
      obtain ⟨p1, p2⟩ := (hhd' w c).1 h3
      refine ⟨⟨w, h1, rfl, c, p1⟩, fun c' hc' ha => ?_⟩
      cases hb : bt (fi SC (t + 6 + c') 15) (f w)
      · rfl
      · have := (Bs_i hf (c3 c' hc').2.2.2.2.2.2.1 h1).1 hb
        rw [p1] at this; cases this; exact absurd p2 ha
  · intro c hc
    obtain ⟨d1, d2, d3, d4, d5, d6, d7, d8⟩ := c3 c hc
    unfold KC
    rw [fi_sfi, x1 c _ hc, x1 c _ hc, x1 c _ hc, x1 c _ hc, x1 c _ hc, x1 c _ hc, x1 c _ hc, x1 c _ hc, h6]
    by_cases ha : act c = 0
    · have eD0 : ∀ x, eD act m D x c = D x c := fun x => by unfold eD; rw [if_pos ha]
      simp only [eD0, ha, eV, if_true]
      refine ⟨d1, d2, d3, d4, d5, d6, Bs_cg d7 fun w hw => ?_, d8⟩
      rw [hhd']; exact ⟨fun h => ⟨h, ha⟩, fun h => h.1⟩
    · have hB : Bs f n (fun w => hd2 w = some c) (Int32.ofNat 0) := Bs_emp fun w hw h => ha ((hhd' w c).1 h).2
      rcases (by have := Ale c; omega : act c = 1 ∨ act c = 2 ∨ act c = 3) with h | h | h
      · simp [eD, eV, h, d1, d2, d4, d5, d6, dn]
        exact hB
      · simp [eD, eV, h, d1, d2, d4, d5, d6, dn]
        exact hB
      · have h1 := A3' c h
        have d3' := d3 (Or.inl (by omega))
        simp [eD, eV, h, d1, d2, d3', d4, d5, d6]
        exact hB
  · rw [v66]; exact y1
  · intro c hc
    have hcR : c < nR := by omega
    obtain ⟨d1, d2, d3, d4, d5, d6, d7⟩ := r3 c hc
    unfold KR
    rw [v58, v60, v62, v64, vx 159 (by decide), vx 161 (by decide), vx 163 (by decide), vx 165 (by decide), y2 c, y3 c, y4 c, y5 c, e2 c, e3 c, e4 c]
    rcases (by have := Ale c; omega : act c = 0 ∨ act c = 1 ∨ act c = 2 ∨ act c = 3) with h | h | h | h
    · obtain ⟨u1, u2⟩ := z0 c hcR h
      have eD0 : ∀ x, eD act m D x c = D x c := fun x => by unfold eD; rw [if_pos h]
      simp only [eD0, u1, u2, cond_false, Bool.false_eq_true, and_false, if_false]
      exact ⟨d1, d2, d3, d4, d5, d6, d7⟩
    · obtain ⟨u1, u2⟩ := z1 c hcR h
      have h2 : D 0 c = 2 := ((A1 c).1 h).2.1
      have d7' := d7 (Or.inl (by omega))
      simp [eD, h, u1, u2, hcR, d2, d4, d7'.1, dn]
      exact d7'.2
    · obtain ⟨u1, u2⟩ := z2 c hcR (Or.inl h)
      have h2 : D 0 c = 2 := A2 c h
      have d7' := d7 (Or.inl (by omega))
      simp [eD, h, u1, u2, hcR, h2, d2, d4, d7'.1, dn]
      exact d7'.2
    · obtain ⟨u1, u2⟩ := z2 c hcR (Or.inr h)
      have h1 := A3' c h
      have d3' := d3 (Or.inl (by omega))
      have w0 : wN 0 = 0 := rfl
      have hed : d c = dn (D 4 c) := by rw [e4 c, u2]; simp [d3']
      simp [eD, h, u1, u2, h1, d2, d4, hed, w0]
  · intro c h1 h2
    obtain ⟨u1, u2⟩ := z0 c h2 (ha0 c h1)
    rw [v58, y3 c, u1, e3 c, u2]
    simp only [cond_false, Bool.false_eq_true, and_false, if_false]
    exact r4 c h1 h2
  · intro c hc
    have hk := hK c hc
    obtain ⟨k1, k2, k3, k4, k5, k6, k7, k8, k9, k10⟩ := hk
    rcases (by have := Ale c; omega : act c = 0 ∨ act c = 1 ∨ act c = 2 ∨ act c = 3) with h | h | h | h
    · have eD0 : ∀ x, eD act m D x c = D x c := fun x => by unfold eD; rw [if_pos h]
      unfold KI
      simp only [eD0]
      exact ⟨k1, k2, k3, k4, k5, k6, k7, k8, k9, k10⟩
    · have h2 := (A1 c).1 h
      obtain ⟨p1, p2, p3, p4⟩ := k5 (by omega)
      have e0 : eD act m D 0 c = 3 := by simp [eD, h]
      have e1 : eD act m D 1 c = D 1 c := by simp [eD, h]
      have e2 : eD act m D 2 c = D 2 c := by simp [eD, h]
      have e3 : eD act m D 3 c = D 3 c := by simp [eD, h]
      have e4 : eD act m D 4 c = m + 1 := by simp [eD, h]
      have e5 : eD act m D 5 c = D 5 c := by simp [eD, h]
      have e6 : eD act m D 6 c = D 6 c := by simp [eD, h]
      unfold KI
      rw [e0, e1, e2, e3, e4, e5, e6]
      exact ⟨by omega, k2, by omega, by omega, by omega, by omega, by omega, by omega, by omega, by omega⟩
    · have h2 := A2 c h
      obtain ⟨p1, p2, p3, p4⟩ := k5 (by omega)
      obtain ⟨-, q1, -⟩ := (A23 c).1 (Or.inl h)
      rw [hbge] at q1
      have e0 : eD act m D 0 c = 4 := by simp [eD, h]
      have e1 : eD act m D 1 c = D 1 c := by simp [eD, h]
      have e2 : eD act m D 2 c = D 2 c := by simp [eD, h]
      have e3 : eD act m D 3 c = D 3 c := by simp [eD, h]
      have e4 : eD act m D 4 c = m + 1 := by simp [eD, h]
      have e5 : eD act m D 5 c = D 5 c := by simp [eD, h]
      have e6 : eD act m D 6 c = D 6 c := by simp [eD, h]
      unfold KI
      rw [e0, e1, e2, e3, e4, e5, e6]
      exact ⟨by omega, k2, by omega, by omega, by omega, by omega, by omega, by omega, by omega, by omega⟩
    · have h1 := A3' c h
      have e0 : eD act m D 0 c = 0 := by simp [eD, h]
      have e1 : eD act m D 1 c = 0 := by simp [eD, h]
      have e2 : eD act m D 2 c = 0 := by simp [eD, h]
      have e3 : eD act m D 3 c = D 3 c := by simp [eD, h]
      have e4 : eD act m D 4 c = D 4 c := by simp [eD, h]
      have e5 : eD act m D 5 c = D 5 c := by simp [eD, h]
      have e6 : eD act m D 6 c = D 6 c := by simp [eD, h]
      unfold KI
      rw [e0, e1, e2, e3, e4, e5, e6]
      exact ⟨by omega, Or.inl rfl, by omega, by omega, by omega, by omega, by omega, by omega, by omega, by omega⟩
  · intro c hc
    unfold eD
    rw [if_pos (ha0 c hc)]
    exact h6s c hc
  · intro w c hwn h
    obtain ⟨p1, p2⟩ := (hhd' w c).1 h
    have eD0 : ∀ x, eD act m D x c = D x c := fun x => by unfold eD; rw [if_pos p2]
    simp only [eD0]
    exact hH1 w c hwn p1
  · intro c j hc hst hj
    have ha : act c = 0 := by
      rcases (by have := Ale c; omega : act c = 0 ∨ act c = 1 ∨ act c = 2 ∨ act c = 3) with h | h | h | h
      · exact h
      · simp [eD, h] at hst
      · simp [eD, h] at hst
      · simp [eD, h] at hst
    have eD0 : ∀ x, eD act m D x c = D x c := fun x => by unfold eD; rw [if_pos ha]
    simp only [eD0] at hst hj ⊢
    exact (hhd' _ c).2 ⟨hH2 c j hc hst hj, ha⟩
  · refine ⟨fun a b h1 h2 => ?_, fun b h1 h2 h3 => ?_, fun c b hc hb => ?_, rfl, fun _ _ => rfl, rfl, fun k c b h1 h2 h3 h4 h5 => ?_⟩
    · rw [fi_sfi]; exact x3 a b (Or.inl h1) (by omega)
    · rw [fi_sfi]; exact x3 t b (Or.inr h2) (Or.inl (by omega))
    · rw [fi_sfi]
      by_cases hcn : c < nc
      · rw [x1 c b hcn]
        unfold eV
        rw [if_neg (show ¬ b = 15 by omega), if_neg (show ¬ b = 9 by omega), if_neg (show ¬ b = 11 by omega), if_neg (show ¬ b = 13 by omega), if_neg (show ¬ b = 14 by omega)]
        split <;> rfl
      · exact x3 _ b (Or.inl (by omega)) (Or.inr (by omega))
    · rw [c1, ofN_inj (by omega) (by omega)] at h1
      rw [fi_sfi]; exact x3 _ b (Or.inl (by omega)) (Or.inr (by omega))
  · refine ⟨fun _ _ _ => rfl, rfl, fun s hs => vx s (by omega), fun _ _ => rfl⟩
  · rw [fi_sfi]; exact x3 _ _ (Or.inr (by decide)) (Or.inl (by omega))
  · intro c
    rcases (by have := Ale c; omega : act c = 0 ∨ act c = 1 ∨ act c = 2 ∨ act c = 3) with h | h | h | h
    · have eD0 : ∀ x, eD act m D x c = D x c := fun x => by unfold eD; rw [if_pos h]
      rw [eD0, eD0]; exact ⟨Iff.rfl, fun _ => rfl⟩
    · have := (Ast c (by omega)).2
      have e0 : eD act m D 0 c = 3 := by simp [eD, h]
      rw [e0]; exact ⟨by omega, by omega⟩
    · have := (Ast c (by omega)).2
      have e0 : eD act m D 0 c = 4 := by simp [eD, h]
      rw [e0]; exact ⟨by omega, by omega⟩
    · have := (Ast c (by omega)).2
      have e0 : eD act m D 0 c = 0 := by simp [eD, h]
      rw [e0]; exact ⟨by omega, by omega⟩
end
