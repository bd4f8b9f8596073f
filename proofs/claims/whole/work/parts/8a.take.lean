/-! a call takes lines: both sides -/
def tD (D : Nat → Nat → Nat) (c q h1 m : Nat) : Nat → Nat → Nat := fun x y => if y = c then (if x = 0 then (if h1 = wN q then 2 else 1) else if x = 1 then q else if x = 2 then h1 else if x = 3 then (if h1 = wN q then m + 1 else D 3 c) else if x = 6 then m + 1 else D x c) else D x y
theorem tD_ne {D : Nat → Nat → Nat} {c q h1 m x y : Nat} (h : y ≠ c) : tD D c q h1 m x y = D x y := by unfold tD; rw [if_neg h]
section
variable {D : Nat → Nat → Nat} {c q h1 m : Nat}
theorem tD_0 : tD D c q h1 m 0 c = if h1 = wN q then 2 else 1 := by simp [tD]
theorem tD_1 : tD D c q h1 m 1 c = q := by simp [tD]
theorem tD_2 : tD D c q h1 m 2 c = h1 := by simp [tD]
theorem tD_3 : tD D c q h1 m 3 c = if h1 = wN q then m + 1 else D 3 c := by simp [tD]
theorem tD_4 : tD D c q h1 m 4 c = D 4 c := by simp [tD]
theorem tD_5 : tD D c q h1 m 5 c = D 5 c := by simp [tD]
theorem tD_6 : tD D c q h1 m 6 c = m + 1 := by simp [tD]
end
section
variable {S : Sg} {t k h : Nat} {s : Int32} {full : Bool}
theorem TKS_x {a b : Nat} (h1 : a ≠ t ∨ b ≠ 12) (h2 : a ≠ k ∨ (b ≠ 15 ∧ b ≠ 14 ∧ b ≠ 16 ∧ b ≠ 9 ∧ b ≠ 10)) : fi (TKS S t k s h full) a b = fi S a b := by
  have e : ∀ (S : Sg) (x : Nat) (v : Int32), (a ≠ k ∨ b ≠ x) → fi (ufi S k x v) a b = fi S a b := fun S x v h => by
    rcases h with h | h
    · exact fi_ufi1 _ _ _ _ _ _ h
    · exact fi_ufi2 _ _ _ _ _ _ h
  have e2 : ∀ (S : Sg) (v : Int32), fi (ufi S t 12 v) a b = fi S a b := fun S v => by
    rcases h1 with h | h
    · exact fi_ufi1 _ _ _ _ _ _ h
    · exact fi_ufi2 _ _ _ _ _ _ h
  unfold TKS KS5
  cases full
  · rw [cond_false, e _ _ _ (by omega), e _ _ _ (by omega), e2, e _ _ _ (by omega), e _ _ _ (by omega)]
  · rw [cond_true, e _ _ _ (by omega), e _ _ _ (by omega), e _ _ _ (by omega), e2, e _ _ _ (by omega), e _ _ _ (by omega)]
theorem TKS_12 (hk : k ≠ t) : fi (TKS S t k s h full) t 12 = fi S t 12 ||| s := by
  unfold TKS KS5
  cases full
  · rw [cond_false, fi_ufi1 _ _ _ _ _ _ hk.symm, fi_ufi1 _ _ _ _ _ _ hk.symm, fi_ufi]
  · rw [cond_true, fi_ufi1 _ _ _ _ _ _ hk.symm, fi_ufi1 _ _ _ _ _ _ hk.symm, fi_ufi1 _ _ _ _ _ _ hk.symm, fi_ufi]
theorem TKS_15 (hk : k ≠ t) : fi (TKS S t k s h full) k 15 = s := by
  unfold TKS KS5
  cases full
  · rw [cond_false, fi_ufi2 _ _ _ _ _ _ (by decide), fi_ufi2 _ _ _ _ _ _ (by decide), fi_ufi1 _ _ _ _ _ _ hk, fi_ufi2 _ _ _ _ _ _ (by decide), fi_ufi]
  · rw [cond_true, fi_ufi2 _ _ _ _ _ _ (by decide), fi_ufi2 _ _ _ _ _ _ (by decide), fi_ufi2 _ _ _ _ _ _ (by decide), fi_ufi1 _ _ _ _ _ _ hk, fi_ufi2 _ _ _ _ _ _ (by decide), fi_ufi]
theorem TKS_14 (hk : k ≠ t) : fi (TKS S t k s h full) k 14 = Int32.ofNat h := by
  unfold TKS KS5
  cases full
  · rw [cond_false, fi_ufi2 _ _ _ _ _ _ (by decide), fi_ufi2 _ _ _ _ _ _ (by decide), fi_ufi1 _ _ _ _ _ _ hk, fi_ufi]
  · rw [cond_true, fi_ufi2 _ _ _ _ _ _ (by decide), fi_ufi2 _ _ _ _ _ _ (by decide), fi_ufi2 _ _ _ _ _ _ (by decide), fi_ufi1 _ _ _ _ _ _ hk, fi_ufi]
theorem TKS_16 : fi (TKS S t k s h full) k 16 = fi S t 6 := by
  unfold TKS
  cases full
  · rw [cond_false, fi_ufi2 _ _ _ _ _ _ (by decide), fi_ufi]
  · rw [cond_true, fi_ufi2 _ _ _ _ _ _ (by decide), fi_ufi2 _ _ _ _ _ _ (by decide), fi_ufi]
theorem TKS_9 : fi (TKS S t k s h full) k 9 = bif full then Int32.ofNat 2 else Int32.ofNat 1 := by
  unfold TKS
  cases full
  · rw [cond_false, fi_ufi]; rfl
  · rw [cond_true, fi_ufi2 _ _ _ _ _ _ (by decide), fi_ufi]; rfl
theorem TKS_10 (hk : k ≠ t) : fi (TKS S t k s h full) k 10 = bif full then fi S t 6 else fi S k 10 := by
  unfold TKS KS5
  cases full
  · rw [cond_false, fi_ufi2 _ _ _ _ _ _ (by decide), fi_ufi2 _ _ _ _ _ _ (by decide), fi_ufi1 _ _ _ _ _ _ hk, fi_ufi2 _ _ _ _ _ _ (by decide), fi_ufi2 _ _ _ _ _ _ (by decide)]; rfl
  · rw [cond_true, fi_ufi]; rfl
end
theorem TKS_id {S : Sg} {t k h : Nat} {s : Int32} {full : Bool} : ai (TKS S t k s h full) = ai S ∧ fb (TKS S t k s h full) = fb S ∧ ab (TKS S t k s h full) = ab S ∧ ar (TKS S t k s h full) = ar S := by
  unfold TKS KS5
  cases full <;> exact ⟨rfl, rfl, rfl, rfl⟩
theorem hst_inv {hd : Nat → Option Nat} {pt : Nat → Nat} {c h0 w d : Nat} : ∀ k, hst hd pt c h0 k w = some d → (d = c ∧ ∃ i, i < k ∧ w = pt (h0 + i)) ∨ (hd w = some d ∧ ∀ i, i < k → w ≠ pt (h0 + i)) := by
  intro k h
  by_cases e : ∃ i, i < k ∧ w = pt (h0 + i)
  · obtain ⟨i, hi, rfl⟩ := e
    rw [hst_i hi] at h
    cases h
    exact Or.inl ⟨rfl, i, hi, rfl⟩
  · have e2 : ∀ j, j < k → w ≠ pt (h0 + j) := fun j hj he => e ⟨j, hj, he⟩
    rw [hst_o e2] at h
    exact Or.inr ⟨h, e2⟩
section
variable {t : Nat} {f : Nat → Nat} {n : Nat} {M : Nat → Nat} {nc nR m : Nat} {E D : Nat → Nat → Nat} {hd : Nat → Option Nat} {SC SR SR' : Sg}
theorem DD_take (H : DD t f n M nc nR (m + 1) E D hd SC SR) {c q h0 h1 : Nat} (hc : c < nc) (hst' : D 0 c ≤ 1) (h6 : fi SC t 6 = Int32.ofNat m) (hW : WF n M q) (hq : D 0 c = 1 → q = D 1 c) (hh0 : h0 = D 2 c) {fr : Nat → Bool} (hfr : ∀ w, fr w = true → hd w = none) (hTK : TK fr (wP q) (wN q) h0 h1) {s : Int32} (hs : ∀ x, x < 32 → (bt s x = true ↔ bt (fi SC (t + 6 + c) 15) x = true ∨ ∃ j, h0 ≤ j ∧ j < h1 ∧ wP (fq f q) j = x)) (hdue : E 3 c = 2 → E 4 c ≤ m + 1)
    (r39 : fi SR' 127 39 = fi SR 127 39) (r66 : HDR (hst hd (wP q) c h0 (h1 - h0)) (ai SR' 166)) (r58 : ∀ x, ai SR' 158 x = upf (ai SR 158) c (Int32.ofNat (if h1 = wN q then 2 else 1)) x) (r59 : ∀ x, ai SR' 159 x = if h1 = wN q then upf (ai SR 159) c (Int32.ofNat m) x else ai SR 159 x) (r60 : ai SR' 160 = ai SR 160) (r61 : ai SR' 161 = ai SR 161) (r62 : ∀ x, ai SR' 162 x = upf (ai SR 162) c (Int32.ofNat h1) x) (r63 : ∀ x, ai SR' 163 x = upf (ai SR 163) c (Int32.ofNat m) x) (r64 : ∀ x, ai SR' 164 x = upf (ai SR 164) c (Int32.ofNat (wN q)) x) (r65 : (∀ j, j < wN q → ai SR' 165 (3 * c + j) = Int32.ofNat (wP q j)) ∧ ∀ x, (x < 3 * c ∨ 3 * c + 3 ≤ x) → ai SR' 165 x = ai SR 165 x) :
    DD t f n M nc nR (m + 1) E (tD D c q h1 m) (hst hd (wP q) c h0 (h1 - h0)) (TKS (ufi SC (t + 6 + c) 13 (Int32.ofNat (fq f q))) t (t + 6 + c) s h1 (decide (h1 = wN q))) SR' := by
  obtain ⟨⟨g1, g2, g3, hf⟩, ⟨c1, c2, c3⟩, ⟨r1, r2, r3, r4⟩, hK, h6s, hH1, hH2⟩ := H
  obtain ⟨w1, w2, w3, w4, w5, w6⟩ := WF_b hW g3
  obtain ⟨v1, v2, v3, v4, v5⟩ := WF_f hW g3 hf
  obtain ⟨t1, t2, t3, t4⟩ := hTK
  have hkt : t + 6 + c ≠ t := by omega
  obtain ⟨k1, k2, k3, k4, k5, k6, k7, k8, k9, k10⟩ := hK c hc
  have hnone : ∀ j, h0 ≤ j → j < h1 → hd (wP q j) = none := fun j h1 h2 => hfr _ (t3 j h1 h2)
  -- holders of others
  have hoth : ∀ w d, d ≠ c → (hst hd (wP q) c h0 (h1 - h0) w = some d ↔ hd w = some d) := by
    intro w d hd'
    constructor
    · intro h
      rcases hst_inv _ h with ⟨e, -⟩ | ⟨e, -⟩
      · exact absurd e hd'
      · exact e
    · intro h
      rw [hst_o fun j hj e => ?_]
      · exact h
      · rw [e, hnone _ (by omega) (by omega)] at h; cases h
  have hown : ∀ w, hst hd (wP q) c h0 (h1 - h0) w = some c ↔ hd w = some c ∨ ∃ j, h0 ≤ j ∧ j < h1 ∧ wP q j = w := by
    intro w
    constructor
    · intro h
      rcases hst_inv _ h with ⟨-, i, hi, e⟩ | ⟨e, -⟩
      · exact Or.inr ⟨h0 + i, by omega, by omega, e.symm⟩
      · exact Or.inl e
    · rintro (h | ⟨j, h2, h3, rfl⟩)
      · rw [hst_o fun j hj e => ?_]
        · exact h
        · rw [e, hnone _ (by omega) (by omega)] at h; cases h
      · have := hst_i (hd := hd) (pt := wP q) (c := c) (h0 := h0) (k := h1 - h0) (j := j - h0) (by omega)
        rw [show h0 + (j - h0) = j by omega] at this
        exact this
  have hBs : Bs f n (fun w => hst hd (wP q) c h0 (h1 - h0) w = some c) s := by
    intro x hx
    rw [hs x hx, (c3 c hc).2.2.2.2.2.2.1 x hx]
    constructor
    · rintro (⟨w, a1, a2, a3⟩ | ⟨j, a1, a2, a3⟩)
      · exact ⟨w, a1, a2, (hown w).2 (Or.inl a3)⟩
      · rw [v5 j (by omega)] at a3
        exact ⟨wP q j, w5 j (by omega), a3, (hown _).2 (Or.inr ⟨j, a1, a2, rfl⟩)⟩
    · rintro ⟨w, a1, a2, a3⟩
      rcases (hown w).1 a3 with h | ⟨j, b1, b2, b3⟩
      · exact Or.inl ⟨w, a1, a2, h⟩
      · exact Or.inr ⟨j, b1, b2, by rw [v5 j (by omega), b3]; exact a2⟩
  have u13 : ∀ a b, (a ≠ t + 6 + c ∨ b ≠ 13) → fi (ufi SC (t + 6 + c) 13 (Int32.ofNat (fq f q))) a b = fi SC a b := fun a b h => by
    rcases h with h | h
    · exact fi_ufi1 _ _ _ _ _ _ h
    · exact fi_ufi2 _ _ _ _ _ _ h
  have e6 : fi (ufi SC (t + 6 + c) 13 (Int32.ofNat (fq f q))) t 6 = Int32.ofNat m := by rw [u13 _ _ (Or.inl (by omega))]; exact h6
  refine ⟨⟨g1, g2, g3, hf⟩, ⟨?_, ?_, fun y hy => ?_⟩, ⟨by rw [r39]; exact r1, r66, fun y hy => ?_, fun y a1 a2 => ?_⟩, fun y hy => ?_, fun y hy => ?_, fun w y hwn h => ?_, fun y j hy hsy hj => ?_⟩
  · rw [TKS_x (Or.inr (by decide)) (Or.inl (by omega)), u13 _ _ (Or.inl (by omega))]; exact c1
  · rw [TKS_12 hkt, u13 _ _ (Or.inl (by omega))]
    refine Bs_cg (Bs_or c2 hBs) fun w hw => ⟨?_, ?_⟩
    · rintro (⟨d, h⟩ | h)
      · by_cases e : d = c
        · subst e; exact ⟨d, (hown w).2 (Or.inl h)⟩
        · exact ⟨d, (hoth w d e).2 h⟩
      · exact ⟨c, h⟩
    · rintro ⟨d, h⟩
      by_cases e : d = c
      · subst e; exact Or.inr h
      · exact Or.inl ⟨d, (hoth w d e).1 h⟩
  · obtain ⟨d1, d2, d3, d4, d5, d6, d7, d8⟩ := c3 y hy
    by_cases e : y = c
    · subst e
      unfold KC
      rw [tD_0, tD_1, tD_2, tD_3, tD_4, tD_5, tD_6, TKS_9, TKS_10 hkt, TKS_14 hkt, TKS_15 hkt, TKS_16, TKS_x (Or.inl (by omega)) (Or.inr (by decide)), TKS_x (Or.inl (by omega)) (Or.inr (by decide)), TKS_x (Or.inl (by omega)) (Or.inr (by decide)), e6, u13 _ 11 (Or.inr (by decide)), u13 _ 12 (Or.inr (by decide)), u13 _ 10 (Or.inr (by decide)), fi_ufi, if_neg w1]
      refine ⟨?_, ?_, fun _ => d3 (Or.inl (by omega)), d4, rfl, rfl, hBs, fun _ => dn_N m⟩
      · by_cases e2 : h1 = wN q
        · rw [decide_eq_true e2, if_pos e2]; rfl
        · rw [decide_eq_false e2, if_neg e2]; rfl
      · by_cases e2 : h1 = wN q
        · rw [decide_eq_true e2, if_pos e2]; exact dn_N m
        · rw [decide_eq_false e2, if_neg e2]; exact d2
    · have z : ∀ x, tD D c q h1 m x y = D x y := fun x => tD_ne e
      have l : ∀ b, fi (TKS (ufi SC (t + 6 + c) 13 (Int32.ofNat (fq f q))) t (t + 6 + c) s h1 (decide (h1 = wN q))) (t + 6 + y) b = fi SC (t + 6 + y) b := fun b => by
        rw [TKS_x (Or.inl (by omega)) (Or.inl (by omega)), u13 _ _ (Or.inl (by omega))]
      unfold KC
      rw [z, z, z, z, z, z, z, l, l, l, l, l, l, l, l]
      exact ⟨d1, d2, d3, d4, d5, d6, Bs_cg d7 fun w _ => (hoth w y e).symm, d8⟩
  · obtain ⟨d1, d2, d3, d4, d5, d6, d7⟩ := r3 y hy
    unfold KR
    rw [r58, r59, r60, r61, r62, r63, r64]
    by_cases e : y = c
    · subst e
      rw [tD_0, tD_1, tD_2, tD_3, tD_4, tD_5, tD_6, upf_eq, upf_eq, upf_eq, upf_eq, upf_eq]
      refine ⟨rfl, ?_, fun _ => d3 (Or.inl (by omega)), d4, fun _ => rfl, fun _ => dn_N m, fun _ => ⟨rfl, r65.1⟩⟩
      by_cases e2 : h1 = wN q
      · rw [if_pos e2, if_pos e2]; exact dn_N m
      · rw [if_neg e2, if_neg e2]; exact d2
    · have z : ∀ x, tD D c q h1 m x y = D x y := fun x => tD_ne e
      rw [upf_ne _ _ _ _ e, upf_ne _ _ _ _ e, upf_ne _ _ _ _ e, upf_ne _ _ _ _ e, upf_ne _ _ _ _ e, z, z, z, z, z, z, z]
      refine ⟨d1, by rw [d2]; split <;> rfl, d3, d4, d5, d6, fun h => ⟨(d7 h).1, fun j hj => ?_⟩⟩
      have hw3 : wN (D 1 y) ≤ 3 := by
        rcases (hK y hy).2.1 with h | h
        · rw [h] at hj; have : wN 0 = 0 := rfl; omega
        · exact (WF_b h g3).2.2.2.1
      rw [r65.2 _ (by omega)]
      exact (d7 h).2 j hj
  · rw [r58, upf_ne _ _ _ _ (by omega)]; exact r4 y a1 a2
  · by_cases e : y = c
    · subst e
      unfold KI
      rw [tD_0, tD_1, tD_2, tD_3, tD_4, tD_5, tD_6]
      by_cases e2 : h1 = wN q
      · rw [if_pos e2, if_pos e2]
        exact ⟨by omega, Or.inr hW, by omega, by omega, by omega, by omega, by omega, by omega, by omega, by omega⟩
      · rw [if_neg e2, if_neg e2]
        exact ⟨by omega, Or.inr hW, by omega, fun _ => ⟨by omega, by omega, by omega, by omega, hdue⟩, by omega, fun _ => k6 (by omega), by omega, by omega, by omega, by omega⟩
    · have z : ∀ x, tD D c q h1 m x y = D x y := fun x => tD_ne e
      have hk := hK y hy
      unfold KI at hk ⊢
      rw [z, z, z, z, z, z, z]
      exact hk
  · rw [tD_ne (by omega)]; exact h6s y hy
  · by_cases e : y = c
    · subst e
      rw [tD_0, tD_1, tD_2]
      have hst2 : (if h1 = wN q then 2 else 1) = 1 ∨ (if h1 = wN q then 2 else 1) = 2 := by split; exact Or.inr rfl; exact Or.inl rfl
      rcases (hown w).1 h with h3 | ⟨j, b1, b2, b3⟩
      · obtain ⟨p1, p2, p3, j, p4, p5⟩ := hH1 w y hwn h3
        have : D 0 y = 1 := by omega
        rw [← hq this] at p5
        exact ⟨p1, p2, hst2, j, by omega, p5⟩
      · exact ⟨by rw [← b3]; exact w5 j (by omega), hc, hst2, j, b2, b3⟩
    · have z : ∀ x, tD D c q h1 m x y = D x y := fun x => tD_ne e
      rw [z, z, z]
      exact hH1 w y hwn ((hoth w y e).1 h)
  · by_cases e : y = c
    · subst e
      rw [tD_2] at hj
      rw [tD_1]
      refine (hown _).2 ?_
      by_cases e2 : h0 ≤ j
      · exact Or.inr ⟨j, e2, hj, rfl⟩
      · have : D 0 y = 1 := by
          refine Classical.byContradiction fun hne => ?_
          have := (k3 (Or.inl (by omega))).2
          omega
        rw [hq this]
        exact Or.inl (hH2 y j hy (Or.inl this) (by omega))
    · have z : ∀ x, tD D c q h1 m x y = D x y := fun x => tD_ne e
      rw [z] at hsy hj
      rw [z]
      exact (hoth _ y e).2 (hH2 y j hy hsy hj)
theorem TKS_rw {c : Nat} (h5' : fi SC t 5 = Int32.ofNat nc) (hn : nc ≤ 40) (hc : c < nc) {s v : Int32} {h : Nat} {full : Bool} : RwF t SC (TKS (ufi SC (t + 6 + c) 13 v) t (t + 6 + c) s h full) := by
  have u13 : ∀ a b, (a ≠ t + 6 + c ∨ b ≠ 13) → fi (ufi SC (t + 6 + c) 13 v) a b = fi SC a b := fun a b h => by
    rcases h with h | h
    · exact fi_ufi1 _ _ _ _ _ _ h
    · exact fi_ufi2 _ _ _ _ _ _ h
  obtain ⟨i1, i2, i3, i4⟩ := TKS_id (S := ufi SC (t + 6 + c) 13 v) (t := t) (k := t + 6 + c) (h := h) (s := s) (full := full)
  refine ⟨⟨fun a b h1 h2 => ?_, fun b h1 h2 h3 => ?_, fun d b h1 h2 => ?_, i2, fun a _ => by rw [i1]; rfl, i3, fun k d b h1 h2 h3 h4 h5 => ?_⟩, i4, ?_, fun d hd => ?_⟩
  · rw [TKS_x (Or.inl h1) (Or.inl (by omega)), u13 _ _ (Or.inl (by omega))]
  · rw [TKS_x (Or.inr h2) (Or.inl (by omega)), u13 _ _ (Or.inl (by omega))]
  · rw [TKS_x (Or.inl (by omega)) (Or.inr (by omega)), u13 _ _ (Or.inr (by omega))]
  · rw [h5', ofN_inj (by omega) (by omega)] at h1
    rw [TKS_x (Or.inl (by omega)) (Or.inl (by omega)), u13 _ _ (Or.inl (by omega))]
  · rw [TKS_x (Or.inr (by decide)) (Or.inl (by omega)), u13 _ _ (Or.inl (by omega))]
  · rw [TKS_x (Or.inl (by omega)) (Or.inr (by decide)), u13 _ _ (Or.inr (by decide))]
theorem DD_mx {mx mx' : Nat} (H : DD t f n M nc nR mx E D hd SC SR) (h : mx ≤ mx') : DD t f n M nc nR mx' E D hd SC SR := by
  obtain ⟨g, c, r, hK, h6s, hH⟩ := H
  refine ⟨g, c, r, fun x hx => ?_, h6s, hH⟩
  obtain ⟨k1, k2, k3, k4, k5, k6, k7, k8, k9, k10⟩ := hK x hx
  exact ⟨k1, k2, k3, fun e => by have := k4 e; omega, fun e => by have := k5 e; omega, k6, by omega, k8, k9, by omega⟩
end
