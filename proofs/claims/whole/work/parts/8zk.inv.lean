/-! the whole of what both hold between calls -/
def VA (nw nof no : Nat) (SC SR : Sg) : Prop := ∃ (A B M cn : Nat → Nat) (nc m : Nat) (E D : Nat → Nat → Nat) (hd : Nat → Option Nat) (ks : Nat) (W K F T : Nat → Nat), IN nw nof A B M cn SC SR ∧ ID nw M nc m E D hd SC SR ∧ IP nw ks W K F T SC SR ∧ IO no SC SR ∧ IK SC SR ∧ IClk2 SC SR
def Bes (nw nof no : Nat) (SB SC SR : Sg) : Prop := VB nw nof no SB SR ∧ (fb SC 80 14 = true → ∃ s a, s < 2 ^ nof ∧ fi SC 80 10 = LnS nw s ∧ BI nw nof no SB (fi SC 80 13) s a ∧ CA no SC a) ∧ ∀ s, s < 2 ^ nof → bt (fi SC 1 11) s = true → ∃ a, BI nw nof no SB (Int32.ofNat 0) s a ∧ ai SC 126 s = a 0
def INV (SC SR : Sg) : Prop := ∃ nw nof no SB, VA nw nof no SC SR ∧ Bes nw nof no SB SC SR
section
variable {nw nof no : Nat} {SB SC SR SC' SR' : Sg}
theorem VA_VB (H : VA nw nof no SC SR) : VB nw nof no SC SR := by
  obtain ⟨A, B, M, cn, nc, m, E, D, hd, ks, W, K, F, T, h1, h2, h3, h4, h5, h6⟩ := H
  obtain ⟨⟨hn, h5⟩, -⟩ := h5
  exact ⟨A, B, M, cn, nc, m, E, D, hd, ks, W, K, F, T, hn, h1, h2, h3, h4, h5⟩
/-- behind a change -/
theorem INV_new (H : VA nw nof no SC SR) (hf : Flg SC) : INV SC SR := by
  refine ⟨nw, nof, no, SC, H, VA_VB H, fun h => ?_, fun s hs h => ?_⟩
  · rw [hf.1] at h; exact Bool.noConfusion h
  · rw [hf.2, bt_ofNat, Nat.zero_testBit, Bool.and_false] at h; exact Bool.noConfusion h
theorem VA_nof (H : VA nw nof no SC SR) : nw ≤ 16 ∧ nof ≤ 4 ∧ no ≤ 6 ∧ fi SC 2 4 = Int32.ofNat nw ∧ fi SC 2 5 = Int32.ofNat nof ∧ fi SR 127 72 = Int32.ofNat nof ∧ fi SC 17 6 = Int32.ofNat no ∧ fi SR 127 17 = Int32.ofNat no := by
  obtain ⟨A, B, M, cn, nc, m, E, D, hd, ks, W, K, F, T, h1, h2, h3, h4, h5, h6⟩ := H
  exact ⟨h1.1, h1.2.1, h4.1.1, h1.2.2.1, h1.2.2.2.2.1, h1.2.2.2.2.2.1, h4.1.2.1, h4.1.2.2.1⟩
theorem VA_pb (H : VA nw nof no SC SR) (h : PBk nw SR SR') : VA nw nof no SC SR' := by
  obtain ⟨A, B, M, cn, nc, m, E, D, hd, ks, W, K, F, T, h1, h2, h3, h4, h5, h6⟩ := H
  exact ⟨A, B, M, cn, nc, m, E, D, hd, ks, W, K, F, T, IN_pb h1 h, ID_pb h2 h, IP_pb h3 h, IO_pb h4 h, IK_pb h5 h, IClk2_pb h6 h⟩
theorem Bes_pb (H : Bes nw nof no SB SC SR) (h : PBk nw SR SR') : Bes nw nof no SB SC SR' := ⟨VB_pb H.1 h, H.2.1, H.2.2⟩
theorem VA_ci (H : VA nw nof no SC SR) : CIs no (ctn (ai SC 18)) (ctn (ai SC 19)) (ctn (ai SC 20)) SC := by
  obtain ⟨A, B, M, cn, nc, m, E, D, hd, ks, W, K, F, T, h1, h2, h3, h4, h5, h6⟩ := H
  exact h4.2
/-- the spare day led up to now, by the class and by the reference -/
theorem R_rep (HA : VA nw nof no SC SR) (HB : Bes nw nof no SB SC SR) {s : Nat} (hs : s < 2 ^ nof) (out : Int32) : W2 (Day_replay 80 29 out (LnS nw s)) SC (MO_goBeside out (Int32.ofNat s)) SR fun _ S _ R => ∃ a, CA no S a ∧ A5 R a ∧ BI nw nof no SB out s a ∧ VA nw nof no S R ∧ Bes nw nof no SB S R ∧ fi S 1 = fi SC 1 ∧ ai S 126 = ai SC 126 := by
  obtain ⟨v1, v2, -⟩ := VA_nof HA
  have h16 : ∀ s, s < 2 ^ nof → s < 16 := fun s hs => Nat.lt_of_lt_of_le hs (show 2 ^ nof ≤ 2 ^ 4 from Nat.pow_le_pow_right (by decide) v2)
  by_cases hc : fb SC 80 14 = true ∧ fi SC 80 13 = out ∧ fi SC 80 10 = LnS nw s
  · obtain ⟨k1, k2, k3⟩ := hc
    obtain ⟨s', a, q1, q2, q3, q4⟩ := HB.2.1 k1
    have es : s' = s := LnS_inj v1 (h16 _ q1) (h16 _ hs) (q2.symm.trans k3)
    subst es
    rw [k2] at q3
    refine wp_replay1 k1 k2 k3 ?_
    refine WP.mono (q3 SR HB.1) fun _ R h => ?_
    exact ⟨a, q4, h.2, q3, VA_pb HA h.1, Bes_pb HB h.1, rfl, rfl⟩
  · refine wp_replay2 hc ?_
    obtain ⟨A, B, M, cn, nc, m, E, D, hd, ks, W, K, F, T, h1, h2, h3, h4, h5, h6⟩ := HA
    have h5' := h5
    obtain ⟨⟨hn, h5'⟩, -⟩ := h5'
    refine WP.mono (VB_alike HB.1 h1 h2 h3 h4 h5' hs out) fun _ S h => h.mono fun _ R h => ?_
    obtain ⟨a, q1, q2, q3, q4, q5⟩ := h
    have C := q2.1
    have f1 : fi S 1 = fi SC 1 := (C 1 (by decide)).1
    have f126 : ai S 126 = ai SC 126 := (C 126 (by decide)).2.2.1
    have rf : AgR [] [] SR SR := AgR.rf
    have N : IN nw nof A B M cn S SR := by
      obtain ⟨n1, n2, n3, n4, n5, n6, n7, n8, n9, n10, n11, n12⟩ := h1
      refine ⟨n1, n2, by rw [q2.2.2.2.2.1 4 (by decide)]; exact n3, n4, by rw [q2.2.2.2.2.1 5 (by decide)]; exact n5, n6, n7, ?_, n9, ?_, q2.2.2.2.2.2.1, n12⟩
      · rw [(C 3 (by decide)).2.2.1, (C 4 (by decide)).2.2.1, (C 5 (by decide)).2.2.1]; exact n8
      · rw [(C 6 (by decide)).2.2.1]; exact n10
    have O : IO no S SR := by
      refine ⟨?_, q2.2.2.2.2.2.2⟩
      have := h4.1
      rw [(C 17 (by decide)).1, (C 18 (by decide)).2.2.1, (C 19 (by decide)).2.2.1, (C 20 (by decide)).2.2.1, (C 21 (by decide)).2.2.1, (C 22 (by decide)).2.2.1, (C 23 (by decide)).2.2.1]
      exact this
    refine ⟨a, q1, q4, q5, ⟨A, B, M, cn, nc, m, E, D, hd, ks, W, K, F, T, IN_pb N q3, ID_pb (ID_ag C rf (by decide) (by decide) (by decide) h2) q3, IP_pb (IP_ag C rf (by decide) (by decide) (by decide) h3) q3, IO_pb O q3, IK_pb (IK_ag C rf (by decide) (by decide) (by decide) h5) q3, IClk2_pb (IClk2_ag C rf (by decide) (by decide) (by decide) h6) q3⟩, ⟨VB_pb HB.1 q3, fun _ => ⟨s, a, hs, q2.2.2.1, ?_, q1⟩, fun x hx hb => ?_⟩, f1, f126⟩
    · rw [q2.2.1]; exact q5
    · rw [f1] at hb
      rw [f126]
      exact HB.2.2 x hx hb
end
