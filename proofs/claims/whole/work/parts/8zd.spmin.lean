/-! beside: one minute of the spare day, both sides -/
def bsC : List Nat := 24 :: 25 :: 26 :: 82 :: 83 :: 84 :: spC
def bsY : List Nat := [136, 137, 138, 139, 147, 148, 149, 158, 159, 160, 161, 162, 163, 164, 165, 166, 167, 168, 170, 171, 172, 173]
def bsZ : List Nat := [59, 64, 34, 36, 37, 15, 11]
theorem bsC_c : ∀ a, a < 126 → 86 ≤ a → a ∈ bsC := by decide
theorem MnC80_Ag {S S' : Sg} (h : MnC 80 S S') : AgC bsC S S' := fun a ha => by
  have n : ∀ x, x ∈ bsC → a ≠ x := fun x hx e => ha (by rw [e]; exact hx)
  have n80 := n 80 (by decide)
  have n24 := n 24 (by decide)
  refine ⟨funext fun b => h.1 a b n80 n24 ?_, by rw [h.2.2.2.1], h.2.2.2.2.1 a (n _ (by decide)) (n _ (by decide)) (n _ (by decide)) (n _ (by decide)) (n _ (by decide)), by rw [h.2.2.2.2.2.1]⟩
  apply Decidable.byContradiction
  intro hc
  exact ha (bsC_c a (by omega) (by omega))
section
variable {f : Nat → Nat} {n nw na ks no : Nat} {al : Nat → Bool} {A B M A' B' M' W K F T : Nat → Nat} {mi cl kd hn : Nat → Nat} {nc nR m : Nat} {E : Nat → Nat → Nat} {v : Nat → Int32} {SC0 SR0 SC SR : Sg}
def SPM (f : Nat → Nat) (n : Nat) (al : Nat → Bool) (A' B' M' A B M : Nat → Nat) (no : Nat) (mi cl kd : Nat → Nat) (nc nR m : Nat) (E : Nat → Nat → Nat) (v : Nat → Int32) (SC0 SR0 SC SR : Sg) : Prop := (∃ D hd, DD 80 f n M nc nR m E D hd SC SR) ∧ SS 80 nc nR E SC SR ∧ (∀ c, c < nc → fi SC (80 + 6 + c) 7 = v c) ∧ PO al A' B' M' nc E SC ∧ CIr no mi cl kd (ai SC 21) (ai SC 22) (fi SC 24) (ai SC 25) (ai SC 26) ∧ fi SC 80 6 = Int32.ofNat m ∧ fi SC 80 7 = fi SR 127 59 ∧ (fb SR 127 11 = true → ∃ u, fi SR 127 15 = Int32.ofNat u ∧ Laid n A B M u (ai SR 136) (ai SR 137) (ai SR 138) (ai SR 139)) ∧ (∀ c, c < nR → (E 5 c < m ↔ c < nc)) ∧ AgC bsC SC0 SC ∧ AgR bsY bsZ SR0 SR ∧ (∀ b, b ≠ 5 → b ≠ 6 → b ≠ 7 → b ≠ 11 → b ≠ 12 → b ≠ 17 → fi SC 80 b = fi SC0 80 b) ∧ (∀ b, b ≠ 8 → fi SC 2 b = fi SC0 2 b) ∧ fb SC = fb SC0
/-- what stands still while the spare day runs -/
def SPS (f : Nat → Nat) (n nw na : Nat) (al : Nat → Bool) (A' B' M' A B M : Nat → Nat) (ks : Nat) (W K F T : Nat → Nat) (no : Nat) (mi cl kd hn : Nat → Nat) (nR : Nat) (E : Nat → Nat → Nat) (v : Nat → Int32) (SC0 SR0 : Sg) : Prop := ODs no mi cl kd SC0 SR0 ∧ fi SR0 127 24 = fi SC0 80 13 ∧ Phi f n (fi SC0 80 10) al A' B' M' A B M ∧ NetL al A' B' M' (ai SC0 3) (ai SC0 4) (ai SC0 5) ∧ NetM n A B M (ai SR0 128) (ai SR0 129) (ai SR0 130) ∧ fi SR0 127 0 = Int32.ofNat nw ∧ fi SR0 127 1 = Int32.ofNat na ∧ nw + na = n ∧ nw ≤ 16 ∧ IP nw ks W K F T SC0 SR0 ∧ (∀ m w, w < n → wy W K F T (f w) m ks = wy W K F T w m ks) ∧ (∀ m w, nw ≤ w → w < n → wy W K F T w m ks = none) ∧ ICrew hn (ai SC0 16) (ai SR0 135) ∧ SS 29 nR nR E SC0 SR0 ∧ (∀ c, c < nR → fi SC0 (29 + 6 + c) 7 = v c) ∧ (∀ c, c < nR → ai SR0 182 c = v c) ∧ (∀ c d, c ≤ d → d < nR → E 5 c ≤ E 5 d) ∧ fi SC0 29 5 = Int32.ofNat nR
theorem bs29 : ∀ c, c < 40 → 29 + 6 + c ∉ bsC := by decide
theorem R_spare1 (HS : SPS f n nw na al A' B' M' A B M ks W K F T no mi cl kd hn nR E v SC0 SR0) (H : SPM f n al A' B' M' A B M no mi cl kd nc nR m E v SC0 SR0 SC SR) (hm : m < 480) {Q : (Int32 ⊕ Unit) → Sg → (Int32 ⊕ Unit) → Sg → Prop} (hQ : ∀ nc' S R, SPM f n al A' B' M' A B M no mi cl kd nc' nR (m + 1) E v SC0 SR0 S R → Q (.inl (Int32.ofNat m + 1)) S (.inl (Int32.ofNat m + 1)) R) : W2 (mb (mb (pu 80) fun a16 => mb (pu 29) fun a17 => Day_takeOver a16 a17) fun _ => mb (mb (pu 80) fun a18 => Day_nextMinute a18) fun _ => pu (Sum.inl (Int32.ofNat m + 1) : Int32 ⊕ Unit)) SC (mb (pu (Int32.ofNat 0)) fun c_35 => mb (lp FU (MO_goBeside_l4 (Int32.ofNat m)) c_35) fun _ => mb (mb (pu 127) fun _ => mb (pu (Int32.ofNat m)) fun a59 => MO_doMinute a59) fun _ => pu (Sum.inl (Int32.ofNat m + 1) : Int32 ⊕ Unit)) SR Q := by
  obtain ⟨s1, s2, s3, s4, s5, s6, s7, s8, s9, s10, s11, s12, s13, s14, s15, s16, s17, s18⟩ := HS
  obtain ⟨⟨D, hd, h1⟩, h2, h3, h4, h5, h6, h7, h8, h9, h10, h11, h12, h13, h14⟩ := H
  have hR : nR ≤ 40 := h1.1.2.1
  have hS29 : SS 29 nR nR E SC SR := fun c hc => by
    obtain ⟨v1, v2, v3, v4, v5, v6, v7, v8, v9⟩ := s14 c hc
    have g : ∀ a, a ∈ [150, 151, 152, 153, 154, 155] → ai SR a = ai SR0 a := fun a ha => (h11.1 a (by unfold bsY; simp at ha ⊢; omega)).1
    rw [g 150 (by decide), g 151 (by decide), g 152 (by decide), g 153 (by decide), g 154 (by decide), g 155 (by decide), (h10 _ (bs29 c (by omega))).1]
    exact ⟨v1, v2, v3, v4, v5, v6, v7, v8, v9⟩
  refine W2.r ((wp_at _ _).2 (W2.seq ?_))
  refine W2.l ((wp_at _ _).2 (W2.l ((wp_at _ _).2 ?_)))
  refine R_take (v := v) (al := al) (A := A') (B := B') (M := M') h1 h2 hS29 h3 (fun c hc => by rw [(h10 _ (bs29 c (by omega))).1]; exact s15 c hc) (fun c hc => by rw [(h11.1 182 (by decide)).1]; exact s16 c hc) h4 (by rw [(h10 3 (by decide)).2.2.1, (h10 4 (by decide)).2.2.1, (h10 5 (by decide)).2.2.1]; exact s4) h6 hm s17 h9 (by rw [(h10 29 (by decide)).1]; exact s18) fun k S R k1 k2 k3 k4 k5 k6 k7 k8 k9 k10 k11 k12 k13 => ?_
  have C : AgC bsC SC0 S := h10.tr (k9.mo (by decide))
  have G : AgR bsY bsZ SR0 R := h11.tr (k10.mo (by decide) (by decide))
  obtain ⟨D1, hd1, k3⟩ := k3
  obtain ⟨u, p1, p2, p3⟩ := k6
  have HL : NetL al A' B' M' (ai S 3) (ai S 4) (ai S 5) := by rw [(C 3 (by decide)).2.2.1, (C 4 (by decide)).2.2.1, (C 5 (by decide)).2.2.1]; exact s4
  have f80 : ∀ b, b ≠ 5 → b ≠ 6 → b ≠ 7 → b ≠ 11 → b ≠ 12 → b ≠ 17 → fi S 80 b = fi SC0 80 b := fun b b1 b2 b3 b4 b5 b6 => by rw [k11 b b1 b5]; exact h12 b b1 b2 b3 b4 b5 b6
  have hO : ODs no mi cl kd S R := ODs_cg s1 (by rw [(C 17 (by decide)).1]) (G.2 17 (by decide)).1 (fun a l1 l2 => (C a (by unfold bsC spC; simp; omega)).2.2.1) (fun a l1 l2 => (G.1 a (by unfold bsY; simp; omega)).1)
  have hCI : CIr no mi cl kd (ai S 21) (ai S 22) (fi S 24) (ai S 25) (ai S 26) := by
    rw [(k9 21 (by decide)).2.2.1, (k9 22 (by decide)).2.2.1, (k9 24 (by decide)).1, (k9 25 (by decide)).2.2.1, (k9 26 (by decide)).2.2.1]; exact h5
  refine W2.seq (W2.l ((wp_at _ _).2 (W2.r ((wp_at _ _).2 (W2.r ((wp_at _ _).2 ?_))))))
  refine R_minute (nw := nw) (na := na) (hn := hn) (Or.inr rfl) k3 k4 hO hCI ?_ (by rw [f80 10 (by decide) (by decide) (by decide) (by decide) (by decide) (by decide)]; exact s3) HL (IPool_le HL p2) p3 ?_ ?_ ?_ s8 s9 ?_ (IP_ag C G (by decide) (by decide) (by decide) s10).1 (s11 m) (s12 m) ?_ k7 hm ?_ fun r D' hd' S' R' x1 x2 x3 x4 x5 x6 x7 x8 x9 x10 => ?_
  · rw [f80 13 (by decide) (by decide) (by decide) (by decide) (by decide) (by decide), (G.2 24 (by decide)).1]; exact s2
  · rw [(G.1 128 (by decide)).1, (G.1 129 (by decide)).1, (G.1 130 (by decide)).1]; exact s5
  · rw [(G.2 0 (by decide)).1]; exact s6
  · rw [(G.2 1 (by decide)).1]; exact s7
  · rw [(k10.2 11 (by decide)).2, (k10.2 15 (by decide)).1, (k10.1 136 (by decide)).1, (k10.1 137 (by decide)).1, (k10.1 138 (by decide)).1, (k10.1 139 (by decide)).1]; exact h8
  · rw [(C 16 (by decide)).2.2.1, (G.1 135 (by decide)).1]; exact s13
  · rw [k11 7 (by decide) (by decide), (k10.2 59 (by decide)).1]; exact h7
  · have C2 := MnC80_Ag x2
    have G2 : AgR bsY bsZ R R' := MnR_Ag x3
    refine (wp_at _ _).2 ((wp_at _ _).2 (hQ k S' R' ⟨⟨D', hd', x1⟩, SS_mn hR k4 x2 x3, fun c hc => ?_, ⟨u, ?_, ?_, fun c hc => ?_⟩, ?_, x4, x5, fun _ => x8, k8, C.tr C2, G.tr G2, fun b b1 b2 b3 b4 b5 b6 => ?_, fun b hb => ?_, ?_⟩))
    · rw [x2.2.2.1 c 7 (by omega) (by decide)]; exact k5 c hc
    · rw [x2.1 _ _ (by decide) (by decide) (by decide)]; exact p1
    · rw [x2.2.2.2.2.1 7 (by decide) (by decide) (by decide) (by decide) (by decide), x2.2.2.2.2.1 8 (by decide) (by decide) (by decide) (by decide) (by decide), x2.2.2.2.2.1 9 (by decide) (by decide) (by decide) (by decide) (by decide), x2.2.2.2.2.1 10 (by decide) (by decide) (by decide) (by decide) (by decide)]; exact p2
    · rw [x2.2.2.2.2.1 7 (by decide) (by decide) (by decide) (by decide) (by decide), x2.2.2.2.2.1 8 (by decide) (by decide) (by decide) (by decide) (by decide), x2.2.2.2.2.1 9 (by decide) (by decide) (by decide) (by decide) (by decide), x2.2.2.2.2.1 10 (by decide) (by decide) (by decide) (by decide) (by decide)]; exact p3 c hc
    · rw [(C2 21 (by decide)).2.2.1, (C2 22 (by decide)).2.2.1]; exact x6
    · rw [x2.2.1 b b2 b3 b4 b5 b6]; exact f80 b b1 b2 b3 b4 b5 b6
    · rw [x2.1 _ _ (by decide) (by decide) (by decide), k12 b hb]; exact h13 b hb
    · rw [x2.2.2.2.1, k13]; exact h14
end
