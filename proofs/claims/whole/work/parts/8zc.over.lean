/-! beside: calls taken over and dropped, both sides -/
section
variable {f : Nat → Nat} {n : Nat} {al : Nat → Bool} {A B M : Nat → Nat} {Mr : Nat → Nat} {nc nc' nR m : Nat} {E D : Nat → Nat → Nat} {hd : Nat → Option Nat} {SC SR R R' : Sg}
theorem stR_in {p q : Nat} (h : q ≤ p) (H : DD 80 f n Mr nc' nR m E D hd SC R) : DD 80 f n Mr nc' nR m E D hd SC (stR R p q) := by
  refine DD_cg H rfl rfl (fun _ _ _ _ _ => rfl) rfl fun a l1 l2 => ?_
  obtain ⟨x1, x2, x3, x4, x5, x6, x7⟩ := stR_a R p q
  have : a = 158 ∨ a = 159 ∨ a = 160 ∨ a = 161 ∨ a = 162 ∨ a = 163 ∨ a = 164 ∨ a = 165 ∨ a = 166 := by omega
  rcases this with rfl | rfl | rfl | rfl | rfl | rfl | rfl | rfl | rfl
  · rw [x1, pkd_0 h]
  · rw [x2, pkd_0 h]
  · rw [x3, pkd_0 h]
  · rw [x4, pkd_0 h]
  · rw [x5, pkd_0 h]
  · rw [x6, pkd_0 h]
  · rw [x7, pkd_0 h]
  · rw [stR_x _ _ _ (by decide)]
  · rw [stR_x _ _ _ (by decide)]
theorem stR_out {p q : Nat} (h : q ≤ p) (H : DD 80 f n Mr nc' nR m E D hd SC (stR R p q)) : DD 80 f n Mr nc' nR m E D hd SC R := by
  refine DD_cg H rfl rfl (fun _ _ _ _ _ => rfl) rfl fun a l1 l2 => ?_
  obtain ⟨x1, x2, x3, x4, x5, x6, x7⟩ := stR_a R p q
  have : a = 158 ∨ a = 159 ∨ a = 160 ∨ a = 161 ∨ a = 162 ∨ a = 163 ∨ a = 164 ∨ a = 165 ∨ a = 166 := by omega
  rcases this with rfl | rfl | rfl | rfl | rfl | rfl | rfl | rfl | rfl
  · rw [x1, pkd_0 h]
  · rw [x2, pkd_0 h]
  · rw [x3, pkd_0 h]
  · rw [x4, pkd_0 h]
  · rw [x5, pkd_0 h]
  · rw [x6, pkd_0 h]
  · rw [x7, pkd_0 h]
  · rw [stR_x _ _ _ (by decide)]
  · rw [stR_x _ _ _ (by decide)]
def PO (al : Nat → Bool) (A B M : Nat → Nat) (k : Nat) (E : Nat → Nat → Nat) (S : Sg) : Prop := ∃ u, fi S 2 8 = Int32.ofNat u ∧ IPool al A B M u (ai S 7) (ai S 8) (ai S 9) (ai S 10) ∧ ∀ c, c < k → PairOK al A B M (E 0 c) (E 1 c) u (ai S 7) (ai S 8) (ai S 9) (ai S 10)
theorem R_take {v : Nat → Int32} (hD : DD 80 f n Mr nc nR m E D hd SC SR) (hS80 : SS 80 nc nR E SC SR) (hS29 : SS 29 nR nR E SC SR) (h7 : ∀ c, c < nc → fi SC (80 + 6 + c) 7 = v c) (h7r : ∀ c, c < nR → fi SC (29 + 6 + c) 7 = v c) (h182 : ∀ c, c < nR → ai SR 182 c = v c) (hP : PO al A B M nc E SC) (HL : NetL al A B M (ai SC 3) (ai SC 4) (ai SC 5)) (h6 : fi SC 80 6 = Int32.ofNat m) (hm : m < 480) (hmon : ∀ c d, c ≤ d → d < nR → E 5 c ≤ E 5 d) (hlt : ∀ c, c < nR → (E 5 c < m ↔ c < nc)) (h29 : fi SC 29 5 = Int32.ofNat nR) {Q : Unit → Sg → Unit → Sg → Prop}
    (hQ : ∀ k S R, nc ≤ k → k ≤ nR → (∃ D hd, DD 80 f n Mr k nR m E D hd S R) → SS 80 k nR E S R → (∀ c, c < k → fi S (80 + 6 + c) 7 = v c) → PO al A B M k E S → fi S 80 6 = Int32.ofNat m → (∀ c, c < nR → (E 5 c < m + 1 ↔ c < k)) → AgC spC SC S → AgR [158, 159, 160, 161, 162, 163, 164, 166] [] SR R → (∀ b, b ≠ 5 → b ≠ 12 → fi S 80 b = fi SC 80 b) → (∀ b, b ≠ 8 → fi S 2 b = fi SC 2 b) → fb S = fb SC → Q () S () R) : W2 (Day_takeOver 80 29) SC (lp FU (MO_goBeside_l4 (Int32.ofNat m)) (Int32.ofNat 0)) SR Q := by
  have hR : nR ≤ 40 := hD.1.2.1
  have hcR : nc ≤ nR := hD.1.1
  unfold W2 Day_takeOver
  refine (wp_mb _ _ _ _).2 (wp_take1 (nc := nc) (f := f) (n := n) (Mr := Mr) (hd := hd) ⟨Nat.le_refl _, hcR, ⟨D, stR_in (Nat.le_refl _) hD⟩, hS80, fun c hc => by rw [h7 c hc, h7r c (by omega)], hP, AgC.rf (X := spC), fun _ _ => rfl, rfl, fun _ _ => rfl⟩ HL h29 hS29 h6 hR hm fun k S hTO hall hstop => ?_)
  obtain ⟨t1, t2, ⟨D1, t3⟩, t4, t5, t6, t9, t10, t11, t12⟩ := hTO
  have hS29c : ∀ c, c < nR → fi S (29 + 6 + c) 7 = v c := fun c hc => by
    have hn : 29 + 6 + c ∉ spC := by
      intro h
      have : ∀ a, a ∈ spC → a < 35 ∨ 80 ≤ a := by decide
      have := this _ h
      omega
    rw [(t9 _ hn).1]; exact h7r c hc
  have hE : ∀ c, c < nR → E 5 c < 480 ∧ (E 5 c = m ↔ nc ≤ c ∧ c < k) := fun c hc => by
    refine ⟨(hS29 c hc).2.2.2.2.2.2.1, fun h => ⟨?_, ?_⟩, fun h => hall c h.1 h.2⟩
    · apply Decidable.byContradiction
      intro h2
      have := (hlt c hc).2 (by omega)
      omega
    · apply Decidable.byContradiction
      intro h2
      rcases hstop with e | e
      · omega
      · have h3 := hmon k c (by omega) hc
        have h4 : ¬ E 5 k < m := fun h4 => by have := (hlt k (by omega)).1 h4; omega
        omega
  refine (wp_mb _ _ _ _).2 ((wp_at _ _).2 ((wp_mb _ _ _ _).2 ?_))
  refine WP.mono (R_drops (nc := nc) (nc' := k) (f := f) (n := n) (Mr := Mr) (SC := S) (v := v) (Q := fun _ T1 u2 T2 => Q () T1 u2 T2) hR hm t2 ⟨⟨D1, hd, ?_⟩, ?_, fun c hc => ?_, fun _ _ _ _ _ => rfl, AgC.rf (X := spC), fun _ _ => rfl, fun _ => rfl, rfl, rfl, AgR.rf⟩ hE (fun c hc => (hS29 c hc).2.2.2.2.2.2.2.1.2.2.2.2.2) h182 hD.2.2.1.1 fun T1 T2 hTD => ?_) fun u1 T1 h => (wp_at _ _).2 h
  · have e : max nc 0 = nc := by omega
    rw [e]; exact t3
  · rw [t10 6 (by decide)]; exact h6
  · rw [t5 c hc]; exact hS29c c (by omega)
  · obtain ⟨⟨D2, hd2, y1⟩, y2, y3, y4, y5, y6, y7, y8, y9, y10⟩ := hTD
    refine hQ k T1 T2 t1 t2 ⟨D2, hd2, stR_out (by omega) y1⟩ (fun c hc => ?_) y3 ?_ y2 (fun c hc => ?_) (t9.tr y5) y10 (fun b h1 h2 => by rw [y6 b h2, t10 b h1]) (fun b h => by rw [y7 b, t12 b h]) (y8.trans t11)
    · obtain ⟨v1, v2, v3, v4, v5, v6, v7, v8, v9⟩ := t4 c hc
      have g : ∀ a, a ∈ [150, 151, 152, 153, 154, 155] → ai T2 a = ai SR a := fun a ha => (y10.1 a (by simp at ha ⊢; omega)).1
      rw [g 150 (by decide), g 151 (by decide), g 152 (by decide), g 153 (by decide), g 154 (by decide), g 155 (by decide)]
      refine ⟨v1, v2, v3, v4, v5, v6, v7, v8, fun hck => ?_⟩
      rw [y4 c _ (by omega) (by decide) (by decide), y4 c _ (by omega) (by decide) (by decide), y4 c _ (by omega) (by decide) (by decide), y4 c _ (by omega) (by decide) (by decide), y4 c _ (by omega) (by decide) (by decide), y4 c _ (by omega) (by decide) (by decide)]
      exact v9 hck
    · obtain ⟨u, p1, p2, p3⟩ := t6
      refine ⟨u, by rw [y7]; exact p1, by rw [y9]; exact p2, fun c hc => by rw [y9]; exact p3 c hc⟩
    · obtain ⟨-, q2⟩ := hE c hc
      have q3 := hlt c hc
      omega
end
