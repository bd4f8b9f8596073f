/-! what both hold at the beginning -/
theorem DD_init {M : Nat → Nat} {E : Nat → Nat → Nat} {SC SR : Sg} (h5 : fi SC 29 5 = Int32.ofNat 0) (h12 : fi SC 29 12 = Int32.ofNat 0) (h39 : fi SR 127 39 = Int32.ofNat 0) (h66 : ∀ w, w < 20 → ai SR 166 w = Int32.ofNat 0) : DD 29 (fun w => w) 0 M 0 0 0 E D0 (fun _ => some 0) SC SR := by
  refine ⟨⟨Nat.le_refl _, Nat.zero_le _, Nat.zero_le _, ⟨fun w hw => absurd hw (Nat.not_lt_zero w), fun w w' hw => absurd hw (Nat.not_lt_zero w)⟩⟩, ⟨h5, fun x hx => ?_, fun c hc => absurd hc (Nat.not_lt_zero c)⟩, ⟨h39, fun w hw => ⟨h66 w hw, fun c h => by cases h; decide⟩, fun c hc => absurd hc (Nat.not_lt_zero c), fun c _ hc => absurd hc (Nat.not_lt_zero c)⟩, fun c hc => absurd hc (Nat.not_lt_zero c), fun c _ => rfl, ⟨fun w c hw => absurd hw (Nat.not_lt_zero w), fun c j hc => absurd hc (Nat.not_lt_zero c)⟩⟩
  rw [h12, bt_ofNat, Nat.zero_testBit, Bool.and_false]
  exact ⟨fun h => Bool.noConfusion h, fun ⟨w, hw, _⟩ => absurd hw (Nat.not_lt_zero w)⟩
section
variable {S R lwC lwM : LW}
theorem chkC_at (h : chkC lwC = true) : lwC.length = 127 ∧ lwC[0]? = some dmy ∧ (∀ a, 1 ≤ a → a < 127 → chkA lwC a (dsc a) = true) ∧ (∀ q, q ∈ fC → fi (SofL lwC) q.1 q.2.1 = q.2.2) ∧ (∀ q, q ∈ aC → ∀ j, j < q.2.1 → ai (SofL lwC) q.1 j = q.2.2) ∧ (∀ c, c < 40 → (∀ q, q ∈ kC9 → fi (SofL lwC) (29 + 6 + c) q.1 = q.2) ∧ fb (SofL lwC) (29 + 6 + c) 8 = false) ∧ fb (SofL lwC) 80 14 = false ∧ fb (SofL lwC) 75 1 = false := by
  unfold chkC at h
  rw [Bool.and_eq_true, Bool.and_eq_true, Bool.and_eq_true, Bool.and_eq_true, Bool.and_eq_true, Bool.and_eq_true, Bool.and_eq_true] at h
  obtain ⟨⟨⟨⟨⟨⟨⟨h1, h2⟩, h3⟩, h4⟩, h5⟩, h6⟩, h7⟩, h8⟩ := h
  refine ⟨of_decide_eq_true h1, isD_at h2, fun a l1 l2 => ?_, fun q hq => of_decide_eq_true (List.all_eq_true.1 h4 q hq), fun q hq j hj => of_decide_eq_true (allN_at (List.all_eq_true.1 h5 q hq) hj), fun c hc => ?_, by rw [Bool.not_eq_true'] at h7; exact h7, by rw [Bool.not_eq_true'] at h8; exact h8⟩
  · have := allN_at h3 (j := a - 1) (by omega)
    rw [show a - 1 + 1 = a by omega] at this
    exact this
  · have := allN_at h6 hc
    rw [Bool.and_eq_true, Bool.not_eq_true'] at this
    exact ⟨fun q hq => of_decide_eq_true (List.all_eq_true.1 this.1 q hq), this.2⟩
theorem chkM_at (h : chkM lwM = true) : lwM.length = 183 ∧ (∀ a, a < 127 → lwM[a]? = some dmy) ∧ (∀ a, 127 ≤ a → a < 183 → chkA lwM a (dsc a) = true) ∧ (∀ q, q ∈ fR → fi (SofL lwM) q.1 q.2.1 = q.2.2) ∧ (∀ q, q ∈ aR → ∀ j, j < q.2.1 → ai (SofL lwM) q.1 j = q.2.2) ∧ fb (SofL lwM) 127 11 = false := by
  unfold chkM at h
  rw [Bool.and_eq_true, Bool.and_eq_true, Bool.and_eq_true, Bool.and_eq_true, Bool.and_eq_true] at h
  obtain ⟨⟨⟨⟨⟨h1, h2⟩, h3⟩, h4⟩, h5⟩, h6⟩ := h
  refine ⟨of_decide_eq_true h1, fun a ha => isD_at (allN_at h2 ha), fun a l1 l2 => ?_, fun q hq => of_decide_eq_true (List.all_eq_true.1 h4 q hq), fun q hq j hj => of_decide_eq_true (allN_at (List.all_eq_true.1 h5 q hq) hj), by rw [Bool.not_eq_true'] at h6; exact h6⟩
  have := allN_at h3 (j := a - 127) (by omega)
  rw [show a - 127 + 127 = a by omega] at this
  exact this
theorem INV_0 (hC : chkC lwC = true) (hM : chkM lwM = true) : INV (SofL lwC) (SofL lwM) := by
  obtain ⟨-, -, -, c1, c2, c3, c4, c5⟩ := chkC_at hC
  obtain ⟨-, -, -, m1, m2, m3⟩ := chkM_at hM
  generalize SofL lwC = S at *
  generalize SofL lwM = R at *
  have z : ∀ {p : Nat → Prop}, ∀ w, w < 0 → p w := fun w hw => absurd hw (Nat.not_lt_zero w)
  refine INV_new (nw := 0) (nof := 0) (no := 0) ⟨fun _ => 0, fun _ => 0, fun _ => 0, fun _ => 0, 0, 0, fun _ _ => 0, D0, fun _ => some 0, 0, fun _ => 0, fun _ => 0, fun _ => 0, fun _ => 0, ?_, ?_, ?_, ?_, ?_, ?_⟩ ⟨c4, c1 (1, 11, 0) (by decide)⟩
  · refine ⟨by decide, by decide, c1 (2, 4, 0) (by decide), m1 (127, 0, 0) (by decide), c1 (2, 5, 0) (by decide), m1 (127, 72, 0) (by decide), m1 (127, 1, 0) (by decide), fun w hw => ⟨fun h => ?_, fun _ => ⟨c2 (3, 20, -1) (by decide) w hw, c2 (4, 20, -1) (by decide) w hw⟩⟩, ⟨by decide, fun w hw => absurd hw (Nat.not_lt_zero w)⟩, fun k hk => absurd hk (Nat.not_lt_zero k), ⟨0, c1 (2, 8, 0) (by decide), IPool_nn fun j hj => c2 (10, 64, -1) (by decide) j hj⟩, fun h => ?_⟩
    · exfalso
      unfold LN at h
      rw [decide_eq_false (Nat.not_lt_zero w), Bool.false_or, Bool.and_eq_true, decide_eq_true_eq, decide_eq_true_eq] at h
      omega
    · rw [m3] at h; exact Bool.noConfusion h
  · refine ⟨DD_init (c1 (29, 5, 0) (by decide)) (c1 (29, 12, 0) (by decide)) (m1 (127, 39, 0) (by decide)) fun w hw => m2 (166, 20, 0) (by decide) w hw, fun c hc => absurd hc (Nat.not_lt_zero c), by decide, c1 (29, 6, 0) (by decide), m1 (127, 38, 0) (by decide), (c1 (29, 7, 0) (by decide)).trans (m1 (127, 59, 0) (by decide)).symm, c1 (29, 10, 0) (by decide), c1 (29, 13, 0) (by decide), ⟨fun c hc => absurd hc (Nat.not_lt_zero c), fun c d _ hd => absurd hd (Nat.not_lt_zero d), fun c _ hc => ?_⟩, fun w hw => ?_⟩
    · obtain ⟨k, kb⟩ := c3 c hc
      exact ⟨k (9, 0) (by decide), k (10, -1) (by decide), k (11, -1) (by decide), k (12, 0) (by decide), k (13, 0) (by decide), k (14, 0) (by decide), k (15, 0) (by decide), k (16, -1) (by decide), k (7, -1) (by decide), kb⟩
    · rw [if_neg (Nat.not_lt_zero w), if_neg (Nat.not_lt_zero w)]
      exact ⟨c2 (31, 20, 0) (by decide) w hw, c2 (32, 20, 0) (by decide) w hw⟩
  · exact ⟨⟨c1 (11, 4, 0) (by decide), m1 (127, 5, 0) (by decide), ⟨by decide, fun i hi => absurd hi (Nat.not_lt_zero i)⟩, ⟨by decide, fun i hi => absurd hi (Nat.not_lt_zero i)⟩⟩, fun i hi => absurd hi (Nat.not_lt_zero i)⟩
  · exact ⟨⟨by decide, c1 (17, 6, 0) (by decide), m1 (127, 17, 0) (by decide), fun k hk => absurd hk (Nat.not_lt_zero k)⟩, Or.inl (c1 (24, 1, -1) (by decide))⟩
  · refine ⟨⟨fun _ => 3, fun t ht => ⟨(by decide : 3 ≤ 9), c2 (16, 8, 3) (by decide) t ht, m2 (135, 8, 3) (by decide) t ht⟩⟩, ⟨fun _ => 0, fun h hh => ⟨(by decide : 0 < 10), c2 (78, 12, 0) (by decide) h hh, m2 (176, 12, 0) (by decide) h hh⟩⟩, ⟨0, _, TX_0 (c1 (27, 1, 0) (by decide)), TX_0 (m1 (127, 26, 0) (by decide))⟩, (c1 (27, 3, -1) (by decide)).trans (m1 (127, 29, -1) (by decide)).symm⟩
  · refine ⟨fun _ _ => none, 0, by decide, c1 (75, 0, 0) (by decide), m1 (127, 66, 0) (by decide), ⟨fun a b _ _ v h => (by cases h), Or.inl ⟨c5, fun _ _ => none, ⟨fun a b _ _ => ole_none _, fun c _ a b _ _ => ole_none _, fun a _ v h => (by cases h), fun E _ h => h⟩, fun a b ha hb => c2 (76, 64, 1000000000) (by decide) _ (by show a * 8 + b < 64; omega)⟩⟩, fun a b ha hb => m2 (174, 81, 1000000) (by decide) _ (by show 9 * a + b < 81; omega), fun i hi => ?_, fun a b _ _ v h => (by cases h)⟩
    rw [m2 (174, 81, 1000000) (by decide) i hi]
    decide
end
