/-! lines of the reference and lines of the class -/
def Phi (f : Nat → Nat) (n : Nat) (there : Int32) (al : Nat → Bool) (A B M A' B' M' : Nat → Nat) : Prop := n ≤ 20 ∧ (∀ w, w < n → f w < 20 ∧ al (f w) = true ∧ bt there (f w) = true ∧ A (f w) = A' w ∧ B (f w) = B' w ∧ M (f w) = M' w) ∧ (∀ x, x < 20 → al x = true → bt there x = true → ∃ w, w < n ∧ f w = x) ∧ (∀ w w', w < w' → w' < n → f w < f w')
def fq (f : Nat → Nat) (q : Nat) : Nat := wc (wN q) (wM q) (f (wP q 0)) (if 2 ≤ wN q then f (wP q 1) else 0) (if 3 ≤ wN q then f (wP q 2) else 0)
theorem subB_1 {set : Int32} {m f : Nat} (hm : m < 1024) (hf : f < 32) : subB set (wc 1 m f 0 0) = true ↔ bt set f = true := by
  rw [subB_w]
  unfold wS
  rw [wc_N hm hf (by omega) (by omega)]
  constructor
  · intro h
    exact h f ⟨0, by omega, by rw [wc_0 hf (by omega) (by omega)]⟩
  · rintro h w ⟨i, hi, rfl⟩
    have e : i = 0 := by omega
    subst e
    rw [wc_0 hf (by omega) (by omega)]
    exact h
theorem subB_2 {set : Int32} {m f s : Nat} (hm : m < 1024) (hf : f < 32) (hs : s < 32) : subB set (wc 2 m f s 0) = true ↔ bt set f = true ∧ bt set s = true := by
  rw [subB_w]
  unfold wS
  rw [wc_N hm hf hs (by omega)]
  constructor
  · intro h
    exact ⟨h f ⟨0, by omega, by rw [wc_0 hf hs (by omega)]⟩, h s ⟨1, by omega, by rw [wc_1 hs (by omega)]⟩⟩
  · rintro ⟨h1, h2⟩ w ⟨i, hi, rfl⟩
    rcases (by omega : i = 0 ∨ i = 1) with e | e <;> subst e
    · rw [wc_0 hf hs (by omega)]; exact h1
    · rw [wc_1 hs (by omega)]; exact h2
theorem subB_3 {set : Int32} {m f s u : Nat} (hm : m < 1024) (hf : f < 32) (hs : s < 32) (hu : u < 32) : subB set (wc 3 m f s u) = true ↔ bt set f = true ∧ bt set s = true ∧ bt set u = true := by
  rw [subB_w]
  unfold wS
  rw [wc_N hm hf hs hu]
  constructor
  · intro h
    exact ⟨h f ⟨0, by omega, by rw [wc_0 hf hs hu]⟩, h s ⟨1, by omega, by rw [wc_1 hs hu]⟩, h u ⟨2, by omega, by rw [wc_2 hu]⟩⟩
  · rintro ⟨h1, h2, h3⟩ w ⟨i, hi, rfl⟩
    rcases (by omega : i = 0 ∨ i = 1 ∨ i = 2) with e | e | e <;> subst e
    · rw [wc_0 hf hs hu]; exact h1
    · rw [wc_1 hs hu]; exact h2
    · rw [wc_2 hu]; exact h3
theorem fq_1 {f : Nat → Nat} {m a : Nat} (hm : m < 1024) (ha : a < 32) : fq f (wc 1 m a 0 0) = wc 1 m (f a) 0 0 := by
  unfold fq
  rw [wc_N hm ha (by omega) (by omega), wc_M hm ha (by omega) (by omega), wc_0 ha (by omega) (by omega), if_neg (by omega), if_neg (by omega)]
theorem fq_2 {f : Nat → Nat} {m a b : Nat} (hm : m < 1024) (ha : a < 32) (hb : b < 32) : fq f (wc 2 m a b 0) = wc 2 m (f a) (f b) 0 := by
  unfold fq
  rw [wc_N hm ha hb (by omega), wc_M hm ha hb (by omega), wc_0 ha hb (by omega), wc_1 hb (by omega), if_pos (by omega), if_neg (by omega)]
theorem fq_3 {f : Nat → Nat} {m a b c : Nat} (hm : m < 1024) (ha : a < 32) (hb : b < 32) (hc : c < 32) : fq f (wc 3 m a b c) = wc 3 m (f a) (f b) (f c) := by
  unfold fq
  rw [wc_N hm ha hb hc, wc_M hm ha hb hc, wc_0 ha hb hc, wc_1 hb hc, wc_2 hc, if_pos (by omega), if_pos (by omega)]
section
variable {f : Nat → Nat} {n : Nat} {there : Int32} {al : Nat → Bool} {A B M A' B' M' : Nat → Nat} {c3 c4 c5 c8 c9 c0 : Nat → Int32}
theorem fe_phi (P : Phi f n there al A B M A' B' M') {w t : Nat} (hw : w < n) : fe (lv n) A' B' w t = fe al A B (f w) t := by
  obtain ⟨h1, h2, h3, h4, h5, h6⟩ := P.2.1 w hw
  unfold fe lv
  rw [if_pos (decide_eq_true hw), if_pos h2, h4, h5]
theorem phi_bk (P : Phi f n there al A B M A' B' M') {x t y : Nat} (hx : x < 20) (hb : bt there x = true) (h : fe al A B x t = some y) : ∃ w, w < n ∧ f w = x ∧ fe (lv n) A' B' w t = some y := by
  have ha : al x = true := by
    unfold fe at h
    by_cases e : al x = true
    · exact e
    · rw [if_neg e] at h; cases h
  obtain ⟨w, hw, e⟩ := P.2.2.1 x hx ha hb
  exact ⟨w, hw, e, by rw [fe_phi P hw, e]; exact h⟩
theorem seg_phi (P : Phi f n there al A B M A' B' M') (H : NetL al A B M c3 c4 c5) (H' : NetM n A' B' M' c8 c9 c0) {a b q : Nat} : (q ∈ seg al A B M a b ∧ subB there q = true) ↔ ∃ q', q' ∈ seg (lv n) A' B' M' a b ∧ q = fq f q' := by
  have hn := P.1
  have hM : ∀ w, w < n → 1 ≤ M' w ∧ M' w ≤ 300 := fun w hw => ⟨(H'.2 w hw).2.2.2.1, (H'.2 w hw).2.2.2.2.1⟩
  constructor
  · rintro ⟨hq, hs⟩
    obtain ⟨w, x, hw, hf, h⟩ := mem_l1.1 hq
    have hMM : ∀ w t x, w < 20 → fe al A B w t = some x → M w ≤ 300 := fun w t x h1 h2 => ((H w h1).1 (fe_lt H h1 h2).2.1).2.2.2.2.1
    have m1 := hMM w a x hw hf
    rcases h with ⟨rfl, rfl⟩ | ⟨hxb, v, y, hv, hf2, h⟩
    · obtain ⟨w', hw', e, hf'⟩ := phi_bk P hw ((subB_1 (by omega) (by omega)).1 hs) hf
      have p1 := P.2.1 w' hw'
      rw [e] at p1
      refine ⟨_, mem_l1.2 ⟨w', x, by omega, hf', Or.inl ⟨rfl, rfl⟩⟩, ?_⟩
      rw [fq_1 (by omega) (by omega), e, p1.2.2.2.2.2]
    · have m2 := hMM v x y hv hf2
      rcases h with ⟨rfl, rfl⟩ | ⟨hyb, hya, u, hu, hf3, rfl⟩
      · obtain ⟨b1, b2⟩ := (subB_2 (by omega) (by omega) (by omega)).1 hs
        obtain ⟨w', hw', e, hf'⟩ := phi_bk P hw b1 hf
        obtain ⟨v', hv', e2, hf2'⟩ := phi_bk P hv b2 hf2
        have p1 := P.2.1 w' hw'
        have p2 := P.2.1 v' hv'
        rw [e] at p1
        rw [e2] at p2
        refine ⟨_, mem_l1.2 ⟨w', x, by omega, hf', Or.inr ⟨hxb, v', y, by omega, hf2', Or.inl ⟨rfl, rfl⟩⟩⟩, ?_⟩
        rw [fq_2 (by omega) (by omega) (by omega), e, e2, p1.2.2.2.2.2, p2.2.2.2.2.2]
      · have m3 := hMM u y b hu hf3
        obtain ⟨b1, b2, b3⟩ := (subB_3 (by omega) (by omega) (by omega) (by omega)).1 hs
        obtain ⟨w', hw', e, hf'⟩ := phi_bk P hw b1 hf
        obtain ⟨v', hv', e2, hf2'⟩ := phi_bk P hv b2 hf2
        obtain ⟨u', hu', e3, hf3'⟩ := phi_bk P hu b3 hf3
        have p1 := P.2.1 w' hw'
        have p2 := P.2.1 v' hv'
        have p3 := P.2.1 u' hu'
        rw [e] at p1
        rw [e2] at p2
        rw [e3] at p3
        refine ⟨_, mem_l1.2 ⟨w', x, by omega, hf', Or.inr ⟨hxb, v', y, by omega, hf2', Or.inr ⟨hyb, hya, u', by omega, hf3', rfl⟩⟩⟩, ?_⟩
        rw [fq_3 (by omega) (by omega) (by omega) (by omega), e, e2, e3, p1.2.2.2.2.2, p2.2.2.2.2.2, p3.2.2.2.2.2]
  · rintro ⟨q', hq', rfl⟩
    obtain ⟨w, x, hw, hf, h⟩ := mem_l1.1 hq'
    have l1 := lvn_lt H' hf
    have p1 := P.2.1 w l1.1
    have m1 := hM w l1.1
    rw [fe_phi P l1.1] at hf
    rcases h with ⟨rfl, rfl⟩ | ⟨hxb, v, y, hv, hf2, h⟩
    · rw [fq_1 (by omega) (by omega)]
      refine ⟨mem_l1.2 ⟨f w, x, p1.1, hf, Or.inl ⟨rfl, by rw [p1.2.2.2.2.2]⟩⟩, (subB_1 (by omega) (by omega)).2 p1.2.2.1⟩
    · have l2 := lvn_lt H' hf2
      have p2 := P.2.1 v l2.1
      have m2 := hM v l2.1
      rw [fe_phi P l2.1] at hf2
      rcases h with ⟨rfl, rfl⟩ | ⟨hyb, hya, u, hu, hf3, rfl⟩
      · rw [fq_2 (by omega) (by omega) (by omega)]
        refine ⟨mem_l1.2 ⟨f w, x, p1.1, hf, Or.inr ⟨hxb, f v, y, p2.1, hf2, Or.inl ⟨rfl, by rw [p1.2.2.2.2.2, p2.2.2.2.2.2]⟩⟩⟩, (subB_2 (by omega) (by omega) (by omega)).2 ⟨p1.2.2.1, p2.2.2.1⟩⟩
      · have l3 := lvn_lt H' hf3
        have p3 := P.2.1 u l3.1
        have m3 := hM u l3.1
        rw [fe_phi P l3.1] at hf3
        rw [fq_3 (by omega) (by omega) (by omega) (by omega)]
        refine ⟨mem_l1.2 ⟨f w, x, p1.1, hf, Or.inr ⟨hxb, f v, y, p2.1, hf2, Or.inr ⟨hyb, hya, f u, p3.1, hf3, by rw [p1.2.2.2.2.2, p2.2.2.2.2.2, p3.2.2.2.2.2]⟩⟩⟩, (subB_3 (by omega) (by omega) (by omega) (by omega)).2 ⟨p1.2.2.1, p2.2.2.1, p3.2.2.1⟩⟩
/-- a way of the reference as a number -/
theorem seg_form (H' : NetM n A' B' M' c8 c9 c0) {a b q : Nat} (h : q ∈ seg (lv n) A' B' M' a b) : ∃ k m x y z, 1 ≤ k ∧ k ≤ 3 ∧ m < 1024 ∧ x < n ∧ (2 ≤ k → y < n) ∧ (k < 2 → y = 0) ∧ (3 ≤ k → z < n) ∧ (k < 3 → z = 0) ∧ q = wc k m x y z := by
  obtain ⟨w, x, hw, hf, h⟩ := mem_l1.1 h
  have l1 := lvn_lt H' hf
  have m1 := (H'.2 w l1.1).2.2.2
  rcases h with ⟨rfl, rfl⟩ | ⟨hxb, v, y, hv, hf2, h⟩
  · exact ⟨1, M' w, w, 0, 0, by omega, by omega, by omega, l1.1, by omega, by omega, by omega, by omega, rfl⟩
  · have l2 := lvn_lt H' hf2
    have m2 := (H'.2 v l2.1).2.2.2
    rcases h with ⟨rfl, rfl⟩ | ⟨hyb, hya, u, hu, hf3, rfl⟩
    · exact ⟨2, M' w + M' v, w, v, 0, by omega, by omega, by omega, l1.1, fun _ => l2.1, by omega, by omega, by omega, rfl⟩
    · have l3 := lvn_lt H' hf3
      have m3 := (H'.2 u l3.1).2.2.2
      exact ⟨3, M' w + M' v + M' u, w, v, u, by omega, by omega, by omega, l1.1, fun _ => l2.1, by omega, fun _ => l3.1, by omega, rfl⟩
theorem fq_form (P : Phi f n there al A B M A' B' M') {k m x y z : Nat} (h1 : 1 ≤ k) (h2 : k ≤ 3) (hm : m < 1024) (hx : x < n) (hy : 2 ≤ k → y < n) (hy0 : k < 2 → y = 0) (hz : 3 ≤ k → z < n) (hz0 : k < 3 → z = 0) : fq f (wc k m x y z) = wc k m (f x) (if 2 ≤ k then f y else 0) (if 3 ≤ k then f z else 0) := by
  have hn := P.1
  rcases (by omega : k = 1 ∨ k = 2 ∨ k = 3) with e | e | e <;> subst e
  · rw [hy0 (by omega), hz0 (by omega), fq_1 hm (by omega)]; rfl
  · rw [hz0 (by omega), fq_2 hm (by omega) (by have := hy (by omega); omega)]; rfl
  · rw [fq_3 hm (by omega) (by have := hy (by omega); omega) (by have := hz (by omega); omega)]; rfl
theorem f_le (P : Phi f n there al A B M A' B' M') {x y : Nat} (hx : x < n) (hy : y < n) : f x < f y ↔ x < y := by
  constructor
  · intro h
    refine Nat.lt_of_not_le fun h2 => ?_
    by_cases e : x = y
    · subst e; omega
    · have := P.2.2.2 y x (by omega) hx; omega
  · exact fun h => P.2.2.2 x y h hy
theorem fq_mono (P : Phi f n there al A B M A' B' M') (H' : NetM n A' B' M' c8 c9 c0) {a b q q' : Nat} (h : q ∈ seg (lv n) A' B' M' a b) (h' : q' ∈ seg (lv n) A' B' M' a b) (hlt : q < q') : fq f q < fq f q' := by
  have hn := P.1
  obtain ⟨k, m, x, y, z, h1, h2, h3, h4, h5, h6, h7, h8, rfl⟩ := seg_form H' h
  obtain ⟨k', m', x', y', z', g1, g2, g3, g4, g5, g6, g7, g8, rfl⟩ := seg_form H' h'
  rw [fq_form P h1 h2 h3 h4 h5 h6 h7 h8, fq_form P g1 g2 g3 g4 g5 g6 g7 g8]
  have fx := (P.2.1 x h4).1
  have fx' := (P.2.1 x' g4).1
  have fy : (if 2 ≤ k then f y else 0) < 20 := by split; exact (P.2.1 y (h5 (by omega))).1; omega
  have fy' : (if 2 ≤ k' then f y' else 0) < 20 := by split; exact (P.2.1 y' (g5 (by omega))).1; omega
  have fz : (if 3 ≤ k then f z else 0) < 20 := by split; exact (P.2.1 z (h7 (by omega))).1; omega
  have fz' : (if 3 ≤ k' then f z' else 0) < 20 := by split; exact (P.2.1 z' (g7 (by omega))).1; omega
  have hy : y < 20 := by by_cases e : 2 ≤ k; have := h5 e; omega; have := h6 (by omega); omega
  have hy' : y' < 20 := by by_cases e : 2 ≤ k'; have := g5 e; omega; have := g6 (by omega); omega
  have hz : z < 20 := by by_cases e : 3 ≤ k; have := h7 e; omega; have := h8 (by omega); omega
  have hz' : z' < 20 := by by_cases e : 3 ≤ k'; have := g7 e; omega; have := g8 (by omega); omega
  have exx := f_le P h4 g4
  have exx' := f_le P g4 h4
  by_cases ek : k = k'
  · subst ek
    have ey : (if 2 ≤ k then f y else 0) < (if 2 ≤ k then f y' else 0) ↔ y < y' := by
      split
      · exact f_le P (h5 (by omega)) (g5 (by omega))
      · rw [h6 (by omega), g6 (by omega)]
    have ey' : (if 2 ≤ k then f y' else 0) < (if 2 ≤ k then f y else 0) ↔ y' < y := by
      split
      · exact f_le P (g5 (by omega)) (h5 (by omega))
      · rw [h6 (by omega), g6 (by omega)]
    have ez : (if 3 ≤ k then f z else 0) < (if 3 ≤ k then f z' else 0) ↔ z < z' := by
      split
      · exact f_le P (h7 (by omega)) (g7 (by omega))
      · rw [h8 (by omega), g8 (by omega)]
    generalize (if 2 ≤ k then f y else 0) = Y at *
    generalize (if 2 ≤ k then f y' else 0) = Y' at *
    generalize (if 3 ≤ k then f z else 0) = Z at *
    generalize (if 3 ≤ k then f z' else 0) = Z' at *
    generalize f x = X at *
    generalize f x' = X' at *
    unfold wc at *
    omega
  · generalize (if 2 ≤ k then f y else 0) = Y at *
    generalize (if 2 ≤ k' then f y' else 0) = Y' at *
    generalize (if 3 ≤ k then f z else 0) = Z at *
    generalize (if 3 ≤ k' then f z' else 0) = Z' at *
    generalize f x = X at *
    generalize f x' = X' at *
    unfold wc at *
    omega
end
