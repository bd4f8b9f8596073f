/-! two runs side by side -/
def W2 {α β : Type} (p : PM α) (S : Sg) (q : PM β) (R : Sg) (Q : α → Sg → β → Sg → Prop) : Prop := WP p S fun v S' => WP q R fun u R' => Q v S' u R'
theorem W2.mono {α β : Type} {p : PM α} {S : Sg} {q : PM β} {R : Sg} {Q Q' : α → Sg → β → Sg → Prop} (h : W2 p S q R Q) (hq : ∀ v S' u R', Q v S' u R' → Q' v S' u R') : W2 p S q R Q' := WP.mono h fun v S' h2 => h2.mono fun u R' => hq v S' u R'
theorem W2.l {α β γ : Type} {p : PM γ} {k : γ → PM α} {S : Sg} {q : PM β} {R : Sg} {Q : α → Sg → β → Sg → Prop} (h : WP p S fun a S1 => W2 (k a) S1 q R Q) : W2 (mb p k) S q R Q := (wp_mb _ _ _ _).2 h
theorem W2.r {α β γ : Type} {p : PM γ} {k : γ → PM β} {S : Sg} {q : PM α} {R : Sg} {Q : α → Sg → β → Sg → Prop} (h : WP p R fun a R1 => W2 q S (k a) R1 Q) : W2 q S (mb p k) R Q := by
  obtain ⟨b, R1, e, v, S', e2, u, R', e3, hq⟩ := h
  exact ⟨v, S', e2, (wp_mb _ _ _ _).2 ⟨b, R1, e, u, R', e3, hq⟩⟩
theorem W2.seq {α β γ δ : Type} {p1 : PM γ} {p2 : γ → PM α} {S : Sg} {q1 : PM δ} {q2 : δ → PM β} {R : Sg} {Q : α → Sg → β → Sg → Prop} (h : W2 p1 S q1 R fun a S1 b R1 => W2 (p2 a) S1 (q2 b) R1 Q) : W2 (mb p1 p2) S (mb q1 q2) R Q := by
  obtain ⟨a, S1, e, b, R1, e2, h⟩ := h
  exact W2.l ⟨a, S1, e, W2.r ⟨b, R1, e2, h⟩⟩
theorem W2.sw {α β : Type} {p : PM α} {S : Sg} {q : PM β} {R : Sg} {Q : α → Sg → β → Sg → Prop} (h : WP q R fun u R' => WP p S fun v S' => Q v S' u R') : W2 p S q R Q := by
  obtain ⟨b, R1, e, v, S', e2, hq⟩ := h
  exact ⟨v, S', e2, b, R1, e, hq⟩
/-! a way of the reference that a call may have -/
def WF (n : Nat) (M : Nat → Nat) (q : Nat) : Prop := ∃ k m x y z, 1 ≤ k ∧ k ≤ 3 ∧ m < 1024 ∧ x < n ∧ (2 ≤ k → y < n ∧ y ≠ x) ∧ (k < 2 → y = 0) ∧ (3 ≤ k → z < n ∧ z ≠ x ∧ z ≠ y) ∧ (k < 3 → z = 0) ∧ q = wc k m x y z ∧ m = M x + (if 2 ≤ k then M y else 0) + (if 3 ≤ k then M z else 0)
section
variable {n n' : Nat} {M M' : Nat → Nat} {q : Nat} {f : Nat → Nat}
theorem WF_b (h : WF n M q) (hn : n ≤ 20) : q ≠ 0 ∧ q < 134217728 ∧ 1 ≤ wN q ∧ wN q ≤ 3 ∧ (∀ j, j < wN q → wP q j < n) ∧ (∀ i j, i < j → j < wN q → wP q i ≠ wP q j) := by
  obtain ⟨k, m, x, y, z, h1, h2, h3, h4, h5, h6, h7, h8, rfl, h9⟩ := h
  have hy : y < 20 := by by_cases e : 2 ≤ k; have := h5 e; omega; have := h6 (by omega); omega
  have hz : z < 20 := by by_cases e : 3 ≤ k; have := h7 e; omega; have := h8 (by omega); omega
  rw [wc_N h3 (by omega) (by omega) (by omega)]
  refine ⟨by unfold wc; omega, by unfold wc; omega, h1, h2, fun j hj => ?_, fun i j hij hj => ?_⟩
  · rcases (by omega : j = 0 ∨ j = 1 ∨ j = 2) with e | e | e <;> subst e
    · rw [wc_0 (by omega) (by omega) (by omega)]; exact h4
    · rw [wc_1 (by omega) (by omega)]; exact (h5 (by omega)).1
    · rw [wc_2 (by omega)]; exact (h7 (by omega)).1
  · rcases (by omega : (i = 0 ∧ j = 1) ∨ (i = 0 ∧ j = 2) ∨ (i = 1 ∧ j = 2)) with ⟨e, e'⟩ | ⟨e, e'⟩ | ⟨e, e'⟩ <;> subst e e'
    · rw [wc_0 (by omega) (by omega) (by omega), wc_1 (by omega) (by omega)]; exact fun e => (h5 (by omega)).2 e.symm
    · rw [wc_0 (by omega) (by omega) (by omega), wc_2 (by omega)]; exact fun e => (h7 (by omega)).2.1 e.symm
    · rw [wc_1 (by omega) (by omega), wc_2 (by omega)]; exact fun e => (h7 (by omega)).2.2 e.symm
theorem WF_f (h : WF n M q) (hn : n ≤ 20) (hf : Inj f n) : fq f q ≠ 0 ∧ fq f q < 134217728 ∧ wN (fq f q) = wN q ∧ wM (fq f q) = wM q ∧ ∀ j, j < wN q → wP (fq f q) j = f (wP q j) := by
  obtain ⟨k, m, x, y, z, h1, h2, h3, h4, h5, h6, h7, h8, rfl, h9⟩ := h
  have fx := hf.1 x h4
  have hy : y < 20 := by by_cases e : 2 ≤ k; have := h5 e; omega; have := h6 (by omega); omega
  have hz : z < 20 := by by_cases e : 3 ≤ k; have := h7 e; omega; have := h8 (by omega); omega
  have fy : (if 2 ≤ k then f y else 0) < 20 := by split; exact hf.1 y (h5 (by omega)).1; omega
  have fz : (if 3 ≤ k then f z else 0) < 20 := by split; exact hf.1 z (h7 (by omega)).1; omega
  have e : fq f (wc k m x y z) = wc k m (f x) (if 2 ≤ k then f y else 0) (if 3 ≤ k then f z else 0) := by
    unfold fq
    rw [wc_N h3 (by omega) (by omega) (by omega), wc_M h3 (by omega) (by omega) (by omega), wc_0 (by omega) (by omega) (by omega), wc_1 (by omega) (by omega), wc_2 (by omega)]
  rw [e, wc_N h3 (by omega) (by omega) (by omega), wc_M h3 (by omega) (by omega) (by omega), wc_N h3 (by omega) (by omega) (by omega), wc_M h3 (by omega) (by omega) (by omega)]
  refine ⟨?_, ?_, rfl, rfl, fun j hj => ?_⟩
  · generalize (if 2 ≤ k then f y else 0) = Y at *
    generalize (if 3 ≤ k then f z else 0) = Z at *
    unfold wc; omega
  · generalize (if 2 ≤ k then f y else 0) = Y at *
    generalize (if 3 ≤ k then f z else 0) = Z at *
    unfold wc; omega
  · rcases (by omega : j = 0 ∨ j = 1 ∨ j = 2) with e | e | e <;> subst e
    · rw [wc_0 (by omega) (by omega) (by omega), wc_0 (by omega) (by omega) (by omega)]
    · rw [wc_1 (by omega) (by omega), wc_1 (by omega) (by omega), if_pos (by omega)]
    · rw [wc_2 (by omega), wc_2 (by omega), if_pos (by omega)]
theorem WF_up (h : WF n M q) (hn : n ≤ n') (hM : ∀ w, w < n → M' w = M w) : WF n' M' q := by
  obtain ⟨k, m, x, y, z, h1, h2, h3, h4, h5, h6, h7, h8, rfl, h9⟩ := h
  refine ⟨k, m, x, y, z, h1, h2, h3, by omega, fun e => ⟨by have := h5 e; omega, (h5 e).2⟩, h6, fun e => ⟨by have := h7 e; omega, (h7 e).2⟩, h8, rfl, ?_⟩
  rw [h9, hM x h4]
  have e1 : (if 2 ≤ k then M' y else 0) = if 2 ≤ k then M y else 0 := by split; exact hM y (h5 (by omega)).1; rfl
  have e2 : (if 3 ≤ k then M' z else 0) = if 3 ≤ k then M z else 0 := by split; exact hM z (h7 (by omega)).1; rfl
  rw [e1, e2]
theorem WF_M (h : WF n M q) (hn : n ≤ 20) : wM q = M (wP q 0) + (if 2 ≤ wN q then M (wP q 1) else 0) + (if 3 ≤ wN q then M (wP q 2) else 0) := by
  obtain ⟨k, m, x, y, z, h1, h2, h3, h4, h5, h6, h7, h8, rfl, h9⟩ := h
  have hy : y < 20 := by by_cases e : 2 ≤ k; have := h5 e; omega; have := h6 (by omega); omega
  have hz : z < 20 := by by_cases e : 3 ≤ k; have := h7 e; omega; have := h8 (by omega); omega
  rw [wc_N h3 (by omega) (by omega) (by omega), wc_M h3 (by omega) (by omega) (by omega), wc_0 (by omega) (by omega) (by omega), wc_1 (by omega) (by omega), wc_2 (by omega)]
  exact h9
theorem seg_WF {A B : Nat → Nat} {c8 c9 c0 : Nat → Int32} (H : NetM n A B M c8 c9 c0) {a b : Nat} (hab : a ≠ b) (h : q ∈ seg (lv n) A B M a b) : WF n M q := by
  have hn := H.1
  have fc : ∀ w t x, fe (lv n) A B w t = some x → w < n ∧ x ≠ t ∧ 1 ≤ M w ∧ M w ≤ 300 ∧ ((A w = t ∧ B w = x) ∨ (B w = t ∧ A w = x)) := by
    intro w t x h
    have l := lvn_lt H h
    have m := H.2 w l.1
    refine ⟨l.1, l.2.2, m.2.2.2.1, m.2.2.2.2.1, ?_⟩
    unfold fe lv at h
    rw [if_pos (decide_eq_true l.1)] at h
    split at h
    · next e => cases h; exact Or.inl ⟨e, rfl⟩
    · split at h
      · next e => cases h; exact Or.inr ⟨e, rfl⟩
      · cases h
  obtain ⟨w, x, hw, hf, h⟩ := mem_l1.1 h
  obtain ⟨w1, w2, w3, w4, w5⟩ := fc w a x hf
  rcases h with ⟨rfl, rfl⟩ | ⟨hxb, v, y, hv, hf2, h⟩
  · exact ⟨1, M w, w, 0, 0, by omega, by omega, by omega, w1, by omega, fun _ => rfl, by omega, fun _ => rfl, rfl, rfl⟩
  · obtain ⟨v1, v2, v3, v4, v5⟩ := fc v x y hf2
    have hvw : y ≠ a → v ≠ w := by
      rintro hya rfl
      rcases w5 with ⟨e1, e2⟩ | ⟨e1, e2⟩ <;> rcases v5 with ⟨e3, e4⟩ | ⟨e3, e4⟩ <;> omega
    rcases h with ⟨rfl, rfl⟩ | ⟨hyb, hya, u, hu, hf3, rfl⟩
    · exact ⟨2, M w + M v, w, v, 0, by omega, by omega, by omega, w1, fun _ => ⟨v1, hvw (by omega)⟩, by omega, by omega, fun _ => rfl, rfl, rfl⟩
    · obtain ⟨u1, u2, u3, u4, u5⟩ := fc u y b hf3
      refine ⟨3, M w + M v + M u, w, v, u, by omega, by omega, by omega, w1, fun _ => ⟨v1, hvw hya⟩, by omega, fun _ => ⟨u1, ?_, ?_⟩, by omega, rfl, rfl⟩
      · rintro rfl
        rcases w5 with ⟨e1, e2⟩ | ⟨e1, e2⟩ <;> rcases u5 with ⟨e3, e4⟩ | ⟨e3, e4⟩ <;> omega
      · rintro rfl
        rcases v5 with ⟨e1, e2⟩ | ⟨e1, e2⟩ <;> rcases u5 with ⟨e3, e4⟩ | ⟨e3, e4⟩ <;> omega
end
/-! the day as both hold it: D x c is a call's field: 0 state (6: none), 1 way, 2 lines taken, 3 began, 4 over, 5 waited, 6 took last (3, 4, 6: one more, 0 for none) -/
def KC (t : Nat) (f : Nat → Nat) (n : Nat) (D : Nat → Nat → Nat) (hd : Nat → Option Nat) (SC : Sg) (c : Nat) : Prop := fi SC (t + 6 + c) 9 = Int32.ofNat (D 0 c) ∧ fi SC (t + 6 + c) 10 = dn (D 3 c) ∧ (D 0 c ≠ 5 ∨ t = 29 → fi SC (t + 6 + c) 11 = dn (D 4 c)) ∧ fi SC (t + 6 + c) 12 = Int32.ofNat (D 5 c) ∧ fi SC (t + 6 + c) 13 = Int32.ofNat (if D 1 c = 0 then 0 else fq f (D 1 c)) ∧ fi SC (t + 6 + c) 14 = Int32.ofNat (D 2 c) ∧ Bs f n (fun w => hd w = some c) (fi SC (t + 6 + c) 15) ∧ (D 0 c = 1 → fi SC (t + 6 + c) 16 = dn (D 6 c))
def KR (t : Nat) (D : Nat → Nat → Nat) (SR : Sg) (c : Nat) : Prop := ai SR 158 c = Int32.ofNat (D 0 c) ∧ ai SR 159 c = dn (D 3 c) ∧ (D 0 c ≠ 5 ∨ t = 29 → ai SR 160 c = dn (D 4 c)) ∧ ai SR 161 c = Int32.ofNat (D 5 c) ∧ (D 0 c ≤ 1 → ai SR 162 c = Int32.ofNat (D 2 c)) ∧ (D 0 c = 1 → ai SR 163 c = dn (D 6 c)) ∧ (D 0 c ≠ 5 ∨ t = 29 → ai SR 164 c = Int32.ofNat (wN (D 1 c)) ∧ ∀ j, j < wN (D 1 c) → ai SR 165 (3 * c + j) = Int32.ofNat (wP (D 1 c) j))
def KI (n : Nat) (M : Nat → Nat) (mx : Nat) (E D : Nat → Nat → Nat) (c : Nat) : Prop := D 0 c ≤ 5 ∧ (D 1 c = 0 ∨ WF n M (D 1 c)) ∧ (D 0 c = 0 ∨ D 0 c = 5 → D 1 c = 0 ∧ D 2 c = 0) ∧ (D 0 c = 1 → D 1 c ≠ 0 ∧ D 2 c < wN (D 1 c) ∧ 1 ≤ D 6 c ∧ D 6 c ≤ mx ∧ (E 3 c = 2 → E 4 c ≤ mx)) ∧ (2 ≤ D 0 c ∧ D 0 c ≤ 4 → D 1 c ≠ 0 ∧ D 2 c = wN (D 1 c) ∧ 1 ≤ D 3 c ∧ D 3 c ≤ mx) ∧ (D 0 c ≤ 1 ∨ D 0 c = 5 → D 3 c = 0) ∧ D 4 c ≤ mx + 1 ∧ (D 0 c = 3 ∨ D 0 c = 4 → D 3 c ≤ D 4 c) ∧ (D 0 c = 4 → D 4 c ≤ D 3 c + E 2 c) ∧ D 5 c ≤ mx
def HI (n nc : Nat) (D : Nat → Nat → Nat) (hd : Nat → Option Nat) : Prop := (∀ w c, w < n → hd w = some c → w < n ∧ c < nc ∧ (D 0 c = 1 ∨ D 0 c = 2) ∧ ∃ j, j < D 2 c ∧ wP (D 1 c) j = w) ∧ (∀ c j, c < nc → (D 0 c = 1 ∨ D 0 c = 2) → j < D 2 c → hd (wP (D 1 c) j) = some c)
def DD (t : Nat) (f : Nat → Nat) (n : Nat) (M : Nat → Nat) (nc nR mx : Nat) (E D : Nat → Nat → Nat) (hd : Nat → Option Nat) (SC SR : Sg) : Prop := (nc ≤ nR ∧ nR ≤ 40 ∧ n ≤ 20 ∧ Inj f n) ∧ (fi SC t 5 = Int32.ofNat nc ∧ Bs f n (fun w => ∃ c, hd w = some c) (fi SC t 12) ∧ ∀ c, c < nc → KC t f n D hd SC c) ∧ (fi SR 127 39 = Int32.ofNat nR ∧ HDR hd (ai SR 166) ∧ (∀ c, c < nc → KR t D SR c) ∧ ∀ c, nc ≤ c → c < nR → ai SR 158 c = nn) ∧ (∀ c, c < nc → KI n M mx E D c) ∧ (∀ c, nc ≤ c → D 0 c = 6) ∧ HI n nc D hd
/-- what a call is: E 0, 1 towns, 2 length, 3 kind, 4 the minute of a fixed one, 5 booked -/
def SS (t nc nR : Nat) (E : Nat → Nat → Nat) (SC SR : Sg) : Prop := ∀ c, c < nR → E 0 c < 8 ∧ E 1 c < 8 ∧ E 0 c ≠ E 1 c ∧ E 2 c ≤ 60 ∧ E 3 c ≤ 2 ∧ (E 3 c = 2 → E 4 c < 480) ∧ E 5 c < 480 ∧ (ai SR 150 c = Int32.ofNat (E 0 c) ∧ ai SR 151 c = Int32.ofNat (E 1 c) ∧ ai SR 152 c = Int32.ofNat (E 2 c) ∧ ai SR 153 c = Int32.ofNat (E 3 c) ∧ ai SR 154 c = (if E 3 c = 2 then Int32.ofNat (E 4 c) else nn) ∧ ai SR 155 c = Int32.ofNat (E 5 c)) ∧ (c < nc → fi SC (t + 6 + c) 0 = Int32.ofNat (E 0 c) ∧ fi SC (t + 6 + c) 1 = Int32.ofNat (E 1 c) ∧ fi SC (t + 6 + c) 2 = Int32.ofNat (E 2 c) ∧ fi SC (t + 6 + c) 3 = Int32.ofNat (E 3 c) ∧ fi SC (t + 6 + c) 4 = (if E 3 c = 2 then Int32.ofNat (E 4 c) else nn) ∧ fi SC (t + 6 + c) 5 = Int32.ofNat (E 5 c))
/-- who was cancelled stays so -/
def P5 (D D' : Nat → Nat → Nat) : Prop := ∀ c, (D' 0 c = 5 ↔ D 0 c = 5) ∧ (D 0 c = 5 → D' 4 c = D 4 c)
theorem P5.rf {D : Nat → Nat → Nat} : P5 D D := fun _ => ⟨Iff.rfl, fun _ => rfl⟩
theorem P5.tr {D D' D2 : Nat → Nat → Nat} (h : P5 D D') (g : P5 D' D2) : P5 D D2 := fun c => ⟨(g c).1.trans (h c).1, fun e => by rw [(g c).2 ((h c).1.2 e), (h c).2 e]⟩
/-! what a minute leaves as it is -/
def KpC (t : Nat) (S S' : Sg) : Prop := (∀ a b, a ≠ t → (a < t + 6 ∨ t + 46 ≤ a) → fi S' a b = fi S a b) ∧ (∀ b, b ≠ 7 → b ≠ 12 → b ≠ 17 → fi S' t b = fi S t b) ∧ (∀ c b, c < 40 → b < 9 → fi S' (t + 6 + c) b = fi S (t + 6 + c) b) ∧ fb S' = fb S ∧ (∀ a, a ≠ t + 4 → ai S' a = ai S a) ∧ ab S' = ab S ∧ ∀ k c b, fi S t 5 = Int32.ofNat k → k ≤ 40 → k ≤ c → c < 40 → b ≠ 18 → fi S' (t + 6 + c) b = fi S (t + 6 + c) b
def KpR (S S' : Sg) : Prop := (∀ a b, (a ≠ 127 ∨ (b ≠ 59 ∧ b ≠ 64)) → fi S' a b = fi S a b) ∧ fb S' = fb S ∧ (∀ a, (a < 158 ∨ (166 < a ∧ a ≠ 170 ∧ a ≠ 171)) → ai S' a = ai S a) ∧ (∀ a, a ≠ 173 → ab S' a = ab S a)
section
variable {t : Nat} {S S1 S2 : Sg}
theorem KpC.rfl' : KpC t S S := ⟨fun _ _ _ _ => rfl, fun _ _ _ _ => rfl, fun _ _ _ _ => rfl, rfl, fun _ _ => rfl, rfl, fun _ _ _ _ _ _ _ _ => rfl⟩
theorem KpC.tr (h : KpC t S S1) (g : KpC t S1 S2) : KpC t S S2 := by
  obtain ⟨a1, a2, a3, a4, a5, a6, a7⟩ := h
  obtain ⟨b1, b2, b3, b4, b5, b6, b7⟩ := g
  exact ⟨fun a b h1 h2 => by rw [b1 a b h1 h2, a1 a b h1 h2], fun b h1 h2 h3 => by rw [b2 b h1 h2 h3, a2 b h1 h2 h3], fun c b h1 h2 => by rw [b3 c b h1 h2, a3 c b h1 h2], by rw [b4, a4], fun a h1 => by rw [b5 a h1, a5 a h1], by rw [b6, a6], fun k c b h1 h2 h3 h4 h5 => by rw [b7 k c b (by rw [a2 _ (by decide) (by decide) (by decide)]; exact h1) h2 h3 h4 h5, a7 k c b h1 h2 h3 h4 h5]⟩
theorem KpR.rfl' : KpR S S := ⟨fun _ _ _ => rfl, rfl, fun _ _ => rfl, fun _ _ => rfl⟩
theorem KpR.tr (h : KpR S S1) (g : KpR S1 S2) : KpR S S2 := by
  obtain ⟨a1, a2, a3, a4⟩ := h
  obtain ⟨b1, b2, b3, b4⟩ := g
  exact ⟨fun a b h1 => by rw [b1 a b h1, a1 a b h1], by rw [b2, a2], fun a h1 => by rw [b3 a h1, a3 a h1], fun a h1 => by rw [b4 a h1, a4 a h1]⟩
theorem SS_kp {nc nR : Nat} {E : Nat → Nat → Nat} {R R1 : Sg} (hn : nR ≤ 40) (h : SS t nc nR E S R) (hC : KpC t S S1) (hR : KpR R R1) : SS t nc nR E S1 R1 := by
  intro c hc
  obtain ⟨a1, a2, a3, a4, a5, a6, a7, ⟨b1, b2, b3, b4, b5, b6⟩, a8⟩ := h c hc
  refine ⟨a1, a2, a3, a4, a5, a6, a7, ⟨?_, ?_, ?_, ?_, ?_, ?_⟩, fun h => ?_⟩
  · rw [hR.2.2.1 _ (Or.inl (by omega))]; exact b1
  · rw [hR.2.2.1 _ (Or.inl (by omega))]; exact b2
  · rw [hR.2.2.1 _ (Or.inl (by omega))]; exact b3
  · rw [hR.2.2.1 _ (Or.inl (by omega))]; exact b4
  · rw [hR.2.2.1 _ (Or.inl (by omega))]; exact b5
  · rw [hR.2.2.1 _ (Or.inl (by omega))]; exact b6
  · obtain ⟨d1, d2, d3, d4, d5, d6⟩ := a8 h
    refine ⟨?_, ?_, ?_, ?_, ?_, ?_⟩
    · rw [hC.2.2.1 _ _ (by omega) (by omega)]; exact d1
    · rw [hC.2.2.1 _ _ (by omega) (by omega)]; exact d2
    · rw [hC.2.2.1 _ _ (by omega) (by omega)]; exact d3
    · rw [hC.2.2.1 _ _ (by omega) (by omega)]; exact d4
    · rw [hC.2.2.1 _ _ (by omega) (by omega)]; exact d5
    · rw [hC.2.2.1 _ _ (by omega) (by omega)]; exact d6
end
