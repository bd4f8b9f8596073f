/-! the least way that will do -/
def LeW (n : Nat) (A B M : Nat → Nat) (a b most : Nat) (ok : Nat → Bool) (x : Nat) : Prop := (x = 0 ∧ ∀ q, q ∈ seg (lv n) A B M a b → wN q ≤ most → ok q = false) ∨ (x ∈ seg (lv n) A B M a b ∧ wN x ≤ most ∧ ok x = true ∧ ∀ q, q ∈ seg (lv n) A B M a b → wN q ≤ most → ok q = true → x ≤ q)
theorem leastN (P : Nat → Prop) : ∀ N, (∃ q, q < N ∧ P q) → ∃ x, P x ∧ ∀ q, P q → x ≤ q := by
  intro N
  induction N with
  | zero => rintro ⟨q, h, -⟩; omega
  | succ N ih =>
    rintro ⟨q, h, hp⟩
    by_cases e : ∃ q, q < N ∧ P q
    · exact ih e
    · exact ⟨q, hp, fun q' hq' => Nat.le_of_not_lt fun hlt => e ⟨q', by omega, hq'⟩⟩
section
variable {n : Nat} {A B M : Nat → Nat} {a b most : Nat} {ok : Nat → Bool} {c8 c9 c0 : Nat → Int32}
theorem LeW_ex (n : Nat) (A B M : Nat → Nat) (a b most : Nat) (ok : Nat → Bool) : ∃ x, LeW n A B M a b most ok x := by
  by_cases h : ∃ q, q ∈ seg (lv n) A B M a b ∧ wN q ≤ most ∧ ok q = true
  · obtain ⟨q, h1⟩ := h
    obtain ⟨x, ⟨x1, x2, x3⟩, hx⟩ := leastN (fun q => q ∈ seg (lv n) A B M a b ∧ wN q ≤ most ∧ ok q = true) (q + 1) ⟨q, by omega, h1⟩
    exact ⟨x, Or.inr ⟨x1, x2, x3, fun q a b c => hx q ⟨a, b, c⟩⟩⟩
  · refine ⟨0, Or.inl ⟨rfl, fun q h1 h2 => ?_⟩⟩
    cases e : ok q
    · rfl
    · exact absurd ⟨q, h1, h2, e⟩ h
theorem LeW_u {x y : Nat} (h : LeW n A B M a b most ok x) (h' : LeW n A B M a b most ok y) : x = y := by
  rcases h with ⟨h1, h2⟩ | ⟨h1, h2, h3, h4⟩ <;> rcases h' with ⟨g1, g2⟩ | ⟨g1, g2, g3, g4⟩
  · omega
  · rw [h2 y g1 g2] at g3; cases g3
  · rw [g2 x h1 h2] at h3; cases h3
  · have := h4 y g1 g2 g3
    have := g4 x h1 h2 h3
    omega
theorem LeW_WF (H : NetM n A B M c8 c9 c0) (hab : a ≠ b) {x : Nat} (h : LeW n A B M a b most ok x) (h0 : x ≠ 0) : WF n M x := by
  rcases h with ⟨h1, h2⟩ | ⟨h1, h2, h3, h4⟩
  · exact absurd h1 h0
  · exact seg_WF H hab h1
theorem LeW_ne (H : NetM n A B M c8 c9 c0) {x : Nat} (h : LeW n A B M a b most ok x) (h0 : x ≠ 0) : x ∈ seg (lv n) A B M a b ∧ wN x ≤ most ∧ ok x = true := by
  rcases h with ⟨h1, h2⟩ | ⟨h1, h2, h3, h4⟩
  · exact absurd h1 h0
  · exact ⟨h1, h2, h3⟩
/-- the class's answer -/
theorem cls_LeW {f : Nat → Nat} {there : Int32} {al : Nat → Bool} {A' B' M' : Nat → Nat} {c3 c4 c5 : Nat → Int32} (P : Phi f n there al A' B' M' A B M) (H : NetL al A' B' M' c3 c4 c5) (H' : NetM n A B M c8 c9 c0) {set firsts : Int32} {fr nw : Nat → Bool} {all : Bool} (hs : ∀ w, w < 20 → bt set w = true → bt there w = true) (h1 : ∀ w, w < n → bt firsts (f w) = fr w) (h2 : ∀ w, w < n → bt set (f w) = bif all then fr w else nw w) (h3 : ∀ w, w < n → fr w = true → bt set (f w) = true) {r x : Nat} (hr : (r = 0 ∧ ∀ q, q ∈ seg al A' B' M' a b → ¬ Fit set firsts most q) ∨ (r ∈ seg al A' B' M' a b ∧ Fit set firsts most r ∧ ∀ q, q ∈ seg al A' B' M' a b → Fit set firsts most q → r ≤ q)) (hx : LeW n A B M a b most (fun q => gd fr nw all q (wN q)) x) : r = if x = 0 then 0 else fq f x := by
  have back : r ∈ seg al A' B' M' a b → Fit set firsts most r → ∃ q', q' ∈ seg (lv n) A B M a b ∧ r = fq f q' ∧ wN q' ≤ most ∧ gd fr nw all q' (wN q') = true := by
    intro g1 g2
    have hsub : subB there r = true := subB_w.2 fun w hw => by
      obtain ⟨i, hi, rfl⟩ := hw
      exact hs _ (seg_P H g1 hi) (subB_w.1 g2.2.1 _ ⟨i, hi, rfl⟩)
    obtain ⟨q', hq', e⟩ := (seg_phi P H H').1 ⟨g1, hsub⟩
    rw [e] at g2
    exact ⟨q', hq', e, (fit_q P H' hq' h1 h2 h3).1 g2⟩
  rcases hx with ⟨rfl, hx⟩ | ⟨x1, x2, x3, x4⟩
  · rw [if_pos rfl]
    rcases hr with ⟨h, -⟩ | ⟨g1, g2, g3⟩
    · exact h
    · obtain ⟨q', p1, p2, p3, p4⟩ := back g1 g2
      have := hx q' p1 p3
      simp only at this
      rw [p4] at this; cases this
  · have x0 : x ≠ 0 := by have := (seg_bd (NetM_L H') x1).2; omega
    rw [if_neg x0]
    have hin := ((seg_phi P H H').2 ⟨x, x1, rfl⟩).1
    have hfit : Fit set firsts most (fq f x) := (fit_q P H' x1 h1 h2 h3).2 ⟨x2, x3⟩
    rcases hr with ⟨-, h⟩ | ⟨g1, g2, g3⟩
    · exact absurd hfit (h _ hin)
    · obtain ⟨q', p1, p2, p3, p4⟩ := back g1 g2
      have l1 := x4 q' p1 p3 p4
      have l2 := g3 _ hin hfit
      rcases Nat.lt_or_ge x q' with h | h
      · have := fq_mono P H' x1 p1 h; omega
      · have : x = q' := by omega
        rw [p2, this]
/-- the reference's -/
theorem Loc_mono {u p m' : Nat} {v : Nat → Nat} {d6 d7 d8 d9 : Nat → Int32} (hL : Loc n A B M a b u p m' d6 d7 d8 d9 v) : ∀ i j, i < j → j < m' → kN (v (p + i)) ≤ kN (v (p + j)) := by
  obtain ⟨q1, q2, q3, q4, q5, q6, q7, q8⟩ := hL
  intro i j h1 h2
  show wN (v (p + i) % 134217728) ≤ wN (v (p + j) % 134217728)
  unfold wN
  have := q8 i j h1 h2
  omega
theorem first_LeW (H : NetM n A B M c8 c9 c0) {u p m' : Nat} {v : Nat → Nat} {d6 d7 d8 d9 : Nat → Int32} (hL : Loc n A B M a b u p m' d6 d7 d8 d9 v) {x : Nat} (hx : LeW n A B M a b most (fun _ => true) x) : (x = 0 → ∀ i, i < m' → most < kN (v (p + i))) ∧ (x ≠ 0 → 0 < m' ∧ kN (v p) ≤ most ∧ v p % 134217728 = x) := by
  have hmono := Loc_mono hL
  obtain ⟨q1, q2, q3, q4, q5, q6, q7, q8⟩ := hL
  rcases hx with ⟨rfl, hx⟩ | ⟨x1, x2, x3, x4⟩
  · refine ⟨fun _ i hi => Nat.lt_of_not_le fun h => ?_, fun h => absurd rfl h⟩
    have := hx _ (q7.1 i hi) h
    cases this
  · have x0 : x ≠ 0 := by have := (seg_bd (NetM_L H) x1).2; omega
    refine ⟨fun h => absurd h x0, fun _ => ?_⟩
    obtain ⟨i, hi, e⟩ := q7.2.1 x x1
    simp only at e
    have hk0 : kN (v (p + 0)) ≤ kN (v (p + i)) := by
      by_cases h : i = 0
      · subst h; exact Nat.le_refl _
      · exact hmono 0 i (by omega) hi
    have hki : kN (v (p + i)) = wN x := by unfold kN; rw [e]
    rw [Nat.add_zero] at hk0
    refine ⟨by omega, by omega, ?_⟩
    have h4 := x4 _ (q7.1 0 (by omega)) (by show kN (v (p + 0)) ≤ most; rw [Nat.add_zero]; omega) rfl
    simp only [Nat.add_zero] at h4
    by_cases h : i = 0
    · subst h; exact e
    · have := q8 0 i (by omega) hi
      rw [Nat.add_zero] at this
      omega
section
variable {S : Sg} {k : Nat} {W K F T : Nat → Nat} {hd : Nat → Option Nat} {u : Nat}
theorem rm_far_LeW (HN : NetM n A B M c8 c9 c0) (hL : Laid n A B M u (ai S 136) (ai S 137) (ai S 138) (ai S 139)) {c : Nat} (ha : a < 8) (hb : b < 8) (hab : a ≠ b) (hc : c < 40) (hmo : most < 32) (e0 : ai S 150 c = Int32.ofNat a) (e1 : ai S 151 c = Int32.ofNat b) (e9 : ai S 149 1 = Int32.ofNat most) {x : Nat} (hx : LeW n A B M a b most (fun _ => true) x) {Q : Int32 → Sg → Prop} (hQ : Q (Int32.ofNat (wM x)) S) : WP (MO_farOf (Int32.ofNat c)) S Q := by
  obtain ⟨p, m', v, hl⟩ := loc_of HN hL ha hb hab
  refine rm_farOf ha hb hc hmo hl e0 e1 e9 ?_
  obtain ⟨f1, f2⟩ := first_LeW HN hl hx
  have : farV v p m' most = wM x := by
    unfold farV
    by_cases h : x = 0
    · rw [if_neg]
      · rw [h]; rfl
      · rintro ⟨h1, h2⟩
        have := f1 h 0 h1
        rw [Nat.add_zero] at this
        omega
    · obtain ⟨g1, g2, g3⟩ := f2 h
      rw [if_pos ⟨g1, g2⟩, ← g3, wM_mod]
  rw [this]
  exact hQ
theorem rm_be_LeW (HN : NetM n A B M c8 c9 c0) (hL : Laid n A B M u (ai S 136) (ai S 137) (ai S 138) (ai S 139)) (ha : a < 8) (hb : b < 8) (hab : a ≠ b) (hmo : most < 32) {x : Nat} (hx : LeW n A B M a b most (fun _ => true) x) : ∃ p e v, KSl u (ai S 136) (ai S 137) (ai S 138) v ∧ u ≤ 4020 ∧ p + e ≤ u ∧ (∀ Q, WP (MO_begin (Int32.ofNat a) (Int32.ofNat b)) S Q ↔ Q (Int32.ofNat p) S) ∧ (∀ Q : Int32 → Sg → Prop, WP (MO_end (Int32.ofNat a) (Int32.ofNat b) (Int32.ofNat most)) S Q ↔ Q (Int32.ofNat (p + e)) S) ∧ (x = 0 → e = 0) ∧ (x ≠ 0 → 0 < e ∧ v p % 134217728 = x) := by
  obtain ⟨p, m', v, hl⟩ := loc_of HN hL ha hb hab
  obtain ⟨f1, f2⟩ := first_LeW HN hl hx
  have hmono := Loc_mono hl
  obtain ⟨q1, q2, q3, q4, q5, q6, q7, q8⟩ := hl
  have key : WP (MO_end (Int32.ofNat a) (Int32.ofNat b) (Int32.ofNat most)) S fun r S' => ∃ e, r = Int32.ofNat (p + e) ∧ S' = S ∧ e ≤ m' ∧ (∀ i, i < e → kN (v (p + i)) ≤ most) ∧ ∀ i, e ≤ i → i < m' → most < kN (v (p + i)) := rm_end ha hb hmo q1 q5 q2 q3 q4 hmono fun e g1 g2 g3 => ⟨e, rfl, rfl, g1, g2, g3⟩
  obtain ⟨r, S', e1, e, rfl, rfl, g1, g2, g3⟩ := key
  refine ⟨p, e, v, q1, q5, by omega, fun Q => ?_, fun Q => WP.of_eq e1, fun h => ?_, fun h => ?_⟩
  · rw [rm_begin a b ha hb, q2]
  · refine Classical.byContradiction fun he => ?_
    have := f1 h 0 (by omega)
    have := g2 0 (by omega)
    omega
  · obtain ⟨h1, h2, h3⟩ := f2 h
    refine ⟨?_, h3⟩
    refine Nat.pos_of_ne_zero fun he => ?_
    have := g3 0 (by omega) h1
    rw [Nat.add_zero] at this
    omega
theorem rm_way_LeW (HN : NetM n A B M c8 c9 c0) (hL : Laid n A B M u (ai S 136) (ai S 137) (ai S 138) (ai S 139)) {c m : Nat} (H : IS k W K F T (ai S 131) (ai S 132) (ai S 133) (ai S 134)) (hk : fi S 127 5 = Int32.ofNat k) (hH : HDR hd (ai S 166)) (hm : m < 1000) (ha : a < 8) (hb : b < 8) (hab : a ≠ b) (hc : c < 40) (hmo : most < 32) (e0 : ai S 150 c = Int32.ofNat a) (e1 : ai S 151 c = Int32.ofNat b) (e9 : ai S 149 1 = Int32.ofNat most) (all : Bool) {x : Nat} (hx : LeW n A B M a b most (fun q => gd (frB hd W K F T k m) (fun w => (wy W K F T w m k).isNone) all q (wN q)) x) {Q : Int32 → Sg → Prop}
    (hQ1 : x ≠ 0 → ∀ i v, KSl u (ai S 136) (ai S 137) (ai S 138) v → u ≤ 4020 → i < u → v i % 134217728 = x → Q (Int32.ofNat i) S) (hQ0 : x = 0 → Q nn S) : WP (MO_wayFor (Int32.ofNat c) (Int32.ofNat m) all) S Q := by
  obtain ⟨p, m', v, hl⟩ := loc_of HN hL ha hb hab
  have hl' := hl
  obtain ⟨q1, q2, q3, q4, q5, q6, q7, q8⟩ := hl
  have gdk : ∀ q, gd (frB hd W K F T k m) (fun w => (wy W K F T w m k).isNone) all (q % 134217728) (wN (q % 134217728)) = gd (frB hd W K F T k m) (fun w => (wy W K F T w m k).isNone) all q (kN q) := fun q => by rw [gd_mod]; rfl
  refine rm_wayFor H hk hH hm ha hb hc hmo hl' e0 e1 e9 all (fun i hi hki hg hlo => ?_) fun hn => ?_
  · have hlw : LeW n A B M a b most (fun q => gd (frB hd W K F T k m) (fun w => (wy W K F T w m k).isNone) all q (wN q)) (v (p + i) % 134217728) := by
      refine Or.inr ⟨q7.1 i hi, hki, ?_, fun q hq1 hq2 hq3 => ?_⟩
      · show gd _ _ all (v (p + i) % 134217728) (wN (v (p + i) % 134217728)) = true
        rw [gdk]; exact hg
      · obtain ⟨j, hj, e⟩ := q7.2.1 q hq1
        simp only at e
        simp only at hq3
        rw [← e, gdk] at hq3
        rcases Nat.lt_trichotomy i j with h | h | h
        · have := q8 i j h hj; omega
        · subst h; omega
        · rw [hlo j h] at hq3; cases hq3
    have hxe := LeW_u hx hlw
    have hx0 : x ≠ 0 := by have := (seg_bd (NetM_L HN) (q7.1 i hi)).2; simp only at this; omega
    exact hQ1 hx0 (p + i) v q1 q5 (by omega) hxe.symm
  · refine hQ0 (LeW_u hx (Or.inl ⟨rfl, fun q hq1 hq2 => ?_⟩))
    obtain ⟨j, hj, e⟩ := q7.2.1 q hq1
    simp only at e
    have := hn j hj (by unfold kN; rw [e]; exact hq2)
    show gd _ _ all q (wN q) = false
    rw [← e, gdk]
    exact this
end
end
