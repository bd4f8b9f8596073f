/-! the class's first way is the reference's first path that will do -/
theorem wP_mod (q i : Nat) : wP (q % 134217728) i = wP q i := by
  unfold wP
  rcases (by omega : i = 0 ∨ i = 1 ∨ (2 - i) = 0) with e | e | e
  · subst e; simp only [Nat.sub_zero, Nat.reduceMul, Nat.reducePow]; omega
  · subst e; simp only [Nat.reduceSub, Nat.reduceMul, Nat.reducePow]; omega
  · rw [e]; simp only [Nat.zero_mul, Nat.pow_zero, Nat.div_one]; omega
theorem wM_mod (q : Nat) : wM (q % 134217728) = wM q := by unfold wM; omega
theorem gd_mod (fr nw : Nat → Bool) (all : Bool) (q : Nat) : ∀ j, gd fr nw all (q % 134217728) j = gd fr nw all q j
  | 0 => rfl
  | 1 => by show fr _ = fr _; rw [wP_mod]
  | j + 2 => by
    show (gd fr nw all (q % 134217728) (j + 1) && _) = (gd fr nw all q (j + 1) && _)
    rw [gd_mod fr nw all q (j + 1), wP_mod]
section
variable {f : Nat → Nat} {n : Nat} {there : Int32} {al : Nat → Bool} {A B M A' B' M' : Nat → Nat} {c3 c4 c5 c8 c9 c0 : Nat → Int32}
theorem seg_P (H : NetL al A B M c3 c4 c5) {a b q i : Nat} (h : q ∈ seg al A B M a b) (hi : i < wN q) : wP q i < 20 := by
  obtain ⟨w, x, hw, hf, h⟩ := mem_l1.1 h
  have m1 := ((H w hw).1 (fe_lt H hw hf).2.1).2.2.2
  rcases h with ⟨rfl, rfl⟩ | ⟨hxb, v, y, hv, hf2, h⟩
  · rw [wc_N (by omega) (by omega) (by omega) (by omega)] at hi
    have e : i = 0 := by omega
    subst e
    rw [wc_0 (by omega) (by omega) (by omega)]; exact hw
  · have m2 := ((H v hv).1 (fe_lt H hv hf2).2.1).2.2.2
    rcases h with ⟨rfl, rfl⟩ | ⟨hyb, hya, u, hu, hf3, rfl⟩
    · rw [wc_N (by omega) (by omega) (by omega) (by omega)] at hi
      rcases (by omega : i = 0 ∨ i = 1) with e | e <;> subst e
      · rw [wc_0 (by omega) (by omega) (by omega)]; exact hw
      · rw [wc_1 (by omega) (by omega)]; exact hv
    · have m3 := ((H u hu).1 (fe_lt H hu hf3).2.1).2.2.2
      rw [wc_N (by omega) (by omega) (by omega) (by omega)] at hi
      rcases (by omega : i = 0 ∨ i = 1 ∨ i = 2) with e | e | e <;> subst e
      · rw [wc_0 (by omega) (by omega) (by omega)]; exact hw
      · rw [wc_1 (by omega) (by omega)]; exact hv
      · rw [wc_2 (by omega)]; exact hu
theorem fit_q (P : Phi f n there al A B M A' B' M') (H' : NetM n A' B' M' c8 c9 c0) {a b q most : Nat} (h : q ∈ seg (lv n) A' B' M' a b) {set firsts : Int32} {fr nw : Nat → Bool} {all : Bool} (h1 : ∀ w, w < n → bt firsts (f w) = fr w) (h2 : ∀ w, w < n → bt set (f w) = bif all then fr w else nw w) (h3 : ∀ w, w < n → fr w = true → bt set (f w) = true) : Fit set firsts most (fq f q) ↔ wN q ≤ most ∧ gd fr nw all q (wN q) = true := by
  have hn := H'.1
  obtain ⟨k, m, x, y, z, a1, a2, a3, a4, a5, a6, a7, a8, rfl⟩ := seg_form H' h
  have fx := (P.2.1 x a4).1
  rw [fq_form P a1 a2 a3 a4 a5 a6 a7 a8]
  have hx : x < 20 := by omega
  rcases (by omega : k = 1 ∨ k = 2 ∨ k = 3) with e | e | e <;> subst e
  · rw [a6 (by omega), a8 (by omega)]
    unfold Fit
    rw [if_neg (by omega), if_neg (by omega), subB_1 a3 (by omega), wc_0 (by omega) (by omega) (by omega), wc_N a3 (by omega) (by omega) (by omega), h1 x a4]
    show _ ↔ _ ∧ fr (wP _ 0) = true
    rw [wc_0 (by omega) (by omega) (by omega)]
    constructor
    · rintro ⟨g1, g2, g3⟩
      exact ⟨by unfold wc at g1; omega, g3⟩
    · rintro ⟨g1, g2⟩
      exact ⟨by unfold wc; omega, h3 x a4 g2, g2⟩
  · have hy := a5 (by omega)
    have fy := (P.2.1 y hy).1
    rw [a8 (by omega)]
    unfold Fit
    rw [if_pos (by omega), if_neg (by omega), subB_2 a3 (by omega) (by omega), wc_0 (by omega) (by omega) (by omega), wc_N a3 (by omega) (by omega) (by omega), h1 x a4, h2 y hy]
    show _ ↔ _ ∧ (fr (wP _ 0) && (bif all then fr (wP _ 1) else nw (wP _ 1))) = true
    rw [wc_0 (by omega) (by omega) (by omega), wc_1 (by omega) (by omega), Bool.and_eq_true]
    constructor
    · rintro ⟨g1, ⟨g2, g4⟩, g3⟩
      exact ⟨by unfold wc at g1; omega, g3, g4⟩
    · rintro ⟨g1, g2, g3⟩
      exact ⟨by unfold wc; omega, ⟨h3 x a4 g2, g3⟩, g2⟩
  · have hy := a5 (by omega)
    have fy := (P.2.1 y hy).1
    have hz := a7 (by omega)
    have fz := (P.2.1 z hz).1
    unfold Fit
    rw [if_pos (by omega), if_pos (by omega), subB_3 a3 (by omega) (by omega) (by omega), wc_0 (by omega) (by omega) (by omega), wc_N a3 (by omega) (by omega) (by omega), h1 x a4, h2 y hy, h2 z hz]
    show _ ↔ _ ∧ ((fr (wP _ 0) && (bif all then fr (wP _ 1) else nw (wP _ 1))) && (bif all then fr (wP _ 2) else nw (wP _ 2))) = true
    rw [wc_0 (by omega) (by omega) (by omega), wc_1 (by omega) (by omega), wc_2 (by omega), Bool.and_eq_true, Bool.and_eq_true]
    constructor
    · rintro ⟨g1, ⟨g2, g4, g5⟩, g3⟩
      exact ⟨by unfold wc at g1; omega, ⟨g3, g4⟩, g5⟩
    · rintro ⟨g1, ⟨g2, g3⟩, g4⟩
      exact ⟨by unfold wc; omega, ⟨h3 x a4 g2, g3, g4⟩, g2⟩
variable {a b u p m' most r : Nat} {d6 d7 d8 d9 : Nat → Int32} {v : Nat → Nat} {set firsts : Int32} {fr nw : Nat → Bool} {all : Bool}
def FitH (f : Nat → Nat) (n : Nat) (there : Int32) (al : Nat → Bool) (A B M A' B' M' : Nat → Nat) (c3 c4 c5 c8 c9 c0 : Nat → Int32) (a b u p m' most r : Nat) (d6 d7 d8 d9 : Nat → Int32) (v : Nat → Nat) (set firsts : Int32) (fr nw : Nat → Bool) (all : Bool) : Prop := Phi f n there al A B M A' B' M' ∧ NetL al A B M c3 c4 c5 ∧ NetM n A' B' M' c8 c9 c0 ∧ Loc n A' B' M' a b u p m' d6 d7 d8 d9 v ∧ (∀ w, w < 20 → bt set w = true → bt there w = true) ∧ (∀ w, w < n → bt firsts (f w) = fr w) ∧ (∀ w, w < n → bt set (f w) = bif all then fr w else nw w) ∧ (∀ w, w < n → fr w = true → bt set (f w) = true) ∧ ((r = 0 ∧ ∀ q, q ∈ seg al A B M a b → ¬ Fit set firsts most q) ∨ (r ∈ seg al A B M a b ∧ Fit set firsts most r ∧ ∀ q, q ∈ seg al A B M a b → Fit set firsts most q → r ≤ q))
theorem fit_cls (hh : FitH f n there al A B M A' B' M' c3 c4 c5 c8 c9 c0 a b u p m' most r d6 d7 d8 d9 v set firsts fr nw all) : r ≠ 0 → ∃ j, j < m' ∧ r = fq f (v (p + j) % 134217728) ∧ kN (v (p + j)) ≤ most ∧ gd fr nw all (v (p + j)) (kN (v (p + j))) = true := by
  obtain ⟨P, H, H', hL, hs, h1, h2, h3, hr⟩ := hh
  intro hr0
  obtain ⟨q1, q2, q3, q4, q5, q6, q7, q8⟩ := hL
  rcases hr with ⟨h, -⟩ | ⟨g1, g2, g3⟩
  · exact absurd h hr0
  · have hsub : subB there r = true := subB_w.2 fun w hw => by
      obtain ⟨i, hi, rfl⟩ := hw
      have hb := subB_w.1 g2.2.1 _ ⟨i, hi, rfl⟩
      refine hs _ ?_ hb
      exact seg_P H g1 hi
    obtain ⟨q', hq', e⟩ := (seg_phi P H H').1 ⟨g1, hsub⟩
    obtain ⟨j, hj, e2⟩ := q7.2.1 q' hq'
    simp only at e2
    rw [← e2] at e hq'
    rw [e] at g2
    have := (fit_q P H' hq' h1 h2 h3).1 g2
    rw [gd_mod] at this
    exact ⟨j, hj, e, this.1, this.2⟩
theorem fit_1 (hh : FitH f n there al A B M A' B' M' c3 c4 c5 c8 c9 c0 a b u p m' most r d6 d7 d8 d9 v set firsts fr nw all) {i : Nat} (hi : i < m') (hk : kN (v (p + i)) ≤ most) (hg : gd fr nw all (v (p + i)) (kN (v (p + i))) = true) (hl : ∀ j, j < i → gd fr nw all (v (p + j)) (kN (v (p + j))) = false) : r = fq f (v (p + i) % 134217728) := by
  have hc := fit_cls hh
  obtain ⟨P, H, H', hL, hs, h1, h2, h3, hr⟩ := hh
  obtain ⟨q1, q2, q3, q4, q5, q6, q7, q8⟩ := hL
  have hm := q7.1 i hi
  have hf : Fit set firsts most (fq f (v (p + i) % 134217728)) := (fit_q P H' hm h1 h2 h3).2 ⟨hk, by rw [gd_mod]; exact hg⟩
  have hin := ((seg_phi P H H').2 ⟨_, hm, rfl⟩).1
  have hr0 : r ≠ 0 := by
    rcases hr with ⟨h, h2⟩ | ⟨g1, -⟩
    · exact absurd hf (h2 _ hin)
    · have := (seg_bd H g1).2; omega
  obtain ⟨j, hj, e, hk2, hg2⟩ := hc hr0
  have hle : r ≤ fq f (v (p + i) % 134217728) := by
    rcases hr with ⟨h, -⟩ | ⟨g1, g2, g3⟩
    · exact absurd h hr0
    · exact g3 _ hin hf
  rcases Nat.lt_trichotomy j i with h | h | h
  · rw [hl j h] at hg2; cases hg2
  · subst h; exact e
  · have := fq_mono P H' hm (q7.1 j hj) (q8 i j h hj)
    simp only at this
    omega
theorem fit_0 (hh : FitH f n there al A B M A' B' M' c3 c4 c5 c8 c9 c0 a b u p m' most r d6 d7 d8 d9 v set firsts fr nw all) (hn : ∀ i, i < m' → kN (v (p + i)) ≤ most → gd fr nw all (v (p + i)) (kN (v (p + i))) = false) : r = 0 := by
  refine Classical.byContradiction fun hr0 => ?_
  obtain ⟨j, hj, e, hk2, hg2⟩ := fit_cls hh hr0
  rw [hn j hj hk2] at hg2; cases hg2
end
