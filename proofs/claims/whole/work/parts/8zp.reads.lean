/-! the calls that only read, or change what no minute looks at -/
def STEP (p : PM Int32) (q : PM Int32) (SC SR : Sg) : Prop := W2 p SC q SR fun r S r' R => r = r' ∧ INV S R
section
variable {SC SR : Sg}
theorem S_about (H : INV SC SR) (x y : Int32) : STEP (TR_about x y) (MO_about x y) SC SR := by
  have H0 := H
  obtain ⟨nw, nof, no, SB, ⟨A, B, M, cn, nc, m, E, D, hd, ks, W, K, F, T, h1, h2, h3, h4, h5, h6⟩, HB⟩ := H
  exact R_about h1 h2 h3 x y fun r => ⟨rfl, H0⟩
theorem S_way (H : INV SC SR) (x y : Int32) : STEP (TR_way x y) (MO_way x y) SC SR := by
  have H0 := H
  obtain ⟨nw, nof, no, SB, ⟨A, B, M, cn, nc, m, E, D, hd, ks, W, K, F, T, h1, h2, h3, h4, h5, h6⟩, HB⟩ := H
  exact R_way h2 x y fun r => ⟨rfl, H0⟩
theorem S_wrong (H : INV SC SR) (x : Int32) : STEP (TR_wrong x) (MO_wrong x) SC SR := by
  have H0 := H
  obtain ⟨nw, nof, no, SB, ⟨A, B, M, cn, nc, m, E, D, hd, ks, W, K, F, T, h1, h2, h3, h4, h5, h6⟩, HB⟩ := H
  exact R_wrong h2 x fun r => ⟨rfl, H0⟩
theorem S_fault (H : INV SC SR) : STEP TR_fault MO_fault SC SR := by
  have H0 := H
  obtain ⟨nw, nof, no, SB, ⟨A, B, M, cn, nc, m, E, D, hd, ks, W, K, F, T, h1, h2, h3, h4, h5, h6⟩, HB⟩ := H
  exact R_fault h5.2.2.2 fun r => ⟨rfl, H0⟩
theorem S_told (H : INV SC SR) (x y : Int32) : STEP (TR_told x y) (MO_told x y) SC SR := by
  obtain ⟨nw, nof, no, SB, ⟨A, B, M, cn, nc, m, E, D, hd, ks, W, K, F, T, h1, h2, h3, h4, h5, h6⟩, HB⟩ := H
  exact R_told h1 h2 h4 x y fun r S R C g O => ⟨rfl, INV_rd ⟨A, B, M, cn, nc, m, E, D, hd, ks, W, K, F, T, IN_ag C g (by decide) (by decide) (by decide) h1, ID_ag C g (by decide) (by decide) (by decide) h2, IP_ag C g (by decide) (by decide) (by decide) h3, O, IK_ag C g (by decide) (by decide) (by decide) h5, IClk2_ag C g (by decide) (by decide) (by decide) h6⟩ HB C g (by decide) (by decide) (by decide)⟩
theorem S_count (H : INV SC SR) (x : Int32) : STEP (TR_count x) (MO_count x) SC SR := by
  obtain ⟨nw, nof, no, SB, ⟨A, B, M, cn, nc, m, E, D, hd, ks, W, K, F, T, h1, h2, h3, h4, h5, h6⟩, HB⟩ := H
  exact R_count h1 h2 h4 h5 h6 x fun r S R C g O => ⟨rfl, INV_rd ⟨A, B, M, cn, nc, m, E, D, hd, ks, W, K, F, T, IN_ag C g (by decide) (by decide) (by decide) h1, ID_ag C g (by decide) (by decide) (by decide) h2, IP_ag C g (by decide) (by decide) (by decide) h3, O, IK_ag C g (by decide) (by decide) (by decide) h5, IClk2_ag C g (by decide) (by decide) (by decide) h6⟩ HB C g (by decide) (by decide) (by decide)⟩
theorem S_force (H : INV SC SR) (x y : Int32) : STEP (TR_force x y) (MO_force x y) SC SR := by
  have H0 := H
  obtain ⟨nw, nof, no, SB, ⟨A, B, M, cn, nc, m, E, D, hd, ks, W, K, F, T, h1, h2, h3, h4, h5, h6⟩, HB⟩ := H
  refine R_force (IO_OD h4) h4.2 x y (fun r => ⟨rfl, H0⟩) fun r q c25 c26 b f r9 z1 z2 z3 hci => ⟨rfl, ?_⟩
  have LC := LkC_RC SC q c25 c26
  have LR := LkR_RM (ufi SR 127 24 (Int32.ofNat 0)) b f r9 z1 z2 z3
  have g0 : AgR [] [24] SR (ufi SR 127 24 (Int32.ofNat 0)) := ag24 SR _
  have O0 : IO no SC (ufi SR 127 24 (Int32.ofNat 0)) := IO_ag (AgC.rf (X := [])) g0 (by decide) (by decide) (by decide) h4
  have O : IO no (RC SC q c25 c26) (RM (ufi SR 127 24 (Int32.ofNat 0)) b f r9 z1 z2 z3) := IO_lk O0 LC LR (by
    have : fi (RC SC q c25 c26) 24 = q := funext fun k => RC_f ..
    unfold CIs
    rw [RC_ax _ _ _ _ _ (by decide), RC_ax _ _ _ _ _ (by decide), this, RC_a5, RC_a6]
    exact hci)
  have C := LkC_Ag LC
  have g : AgR [147, 148, 149] [24, 34, 36, 37] SR (RM (ufi SR 127 24 (Int32.ofNat 0)) b f r9 z1 z2 z3) := (g0.mo (by decide) (by decide)).tr ((LkR_Ag LR).mo (fun _ h => h) (by decide))
  exact INV_rd ⟨A, B, M, cn, nc, m, E, D, hd, ks, W, K, F, T, IN_ag C g (by decide) (by decide) (by decide) h1, ID_ag C g (by decide) (by decide) (by decide) h2, IP_ag C g (by decide) (by decide) (by decide) h3, O, IK_ag C g (by decide) (by decide) (by decide) h5, IClk2_ag C g (by decide) (by decide) (by decide) h6⟩ HB C g (by decide) (by decide) (by decide)
theorem S_need (H : INV SC SR) (x y : Int32) : STEP (TR_need x y) (MO_need x y) SC SR := by
  have H0 := H
  obtain ⟨nw, nof, no, SB, ⟨A, B, M, cn, nc, m, E, D, hd, ks, W, K, F, T, h1, h2, h3, h4, h5, h6⟩, HB⟩ := H
  obtain ⟨k1, ⟨nd, k2⟩, k3, k4⟩ := h5
  refine R_need k2 x y (fun r => ⟨rfl, H0⟩) fun r nd' f g hnd => ⟨rfl, ?_⟩
  have C : AgC [78] SC (sa SC 78 f) := AgC.rf.sa (by decide)
  have G : AgR [176] [] SR (sa SR 176 g) := AgR.rf.sa (by decide)
  exact INV_rd ⟨A, B, M, cn, nc, m, E, D, hd, ks, W, K, F, T, IN_ag C G (by decide) (by decide) (by decide) h1, ID_ag C G (by decide) (by decide) (by decide) h2, IP_ag C G (by decide) (by decide) (by decide) h3, IO_ag C G (by decide) (by decide) (by decide) h4, ⟨by rw [ai_sa1 _ _ _ _ (by decide), ai_sa1 _ _ _ _ (by decide)]; exact k1, ⟨nd', by rw [ai_sa, ai_sa]; exact hnd⟩, by rw [ai_sa1 _ _ _ _ (by decide), ai_sa1 _ _ _ _ (by decide)]; exact k3, k4⟩, IClk2_ag C G (by decide) (by decide) (by decide) h6⟩ HB C G (by decide) (by decide) (by decide)
theorem S_shifts (H : INV SC SR) (x : Int32) : STEP (TR_shifts x) (MO_shifts x) SC SR := by
  have H0 := H
  obtain ⟨nw, nof, no, SB, ⟨A, B, M, cn, nc, m, E, D, hd, ks, W, K, F, T, h1, h2, h3, h4, h5, h6⟩, HB⟩ := H
  obtain ⟨k1, ⟨nd, k2⟩, k3, k4⟩ := id h5
  refine R_shifts x k2 (fun r => ⟨rfl, H0⟩) fun r f g => ⟨rfl, ?_⟩
  have C : AgC [79] SC (sa SC 79 f) := AgC.rf.sa (by decide)
  have G : AgR [177] [] SR (sa SR 177 g) := AgR.rf.sa (by decide)
  exact INV_rd ⟨A, B, M, cn, nc, m, E, D, hd, ks, W, K, F, T, IN_ag C G (by decide) (by decide) (by decide) h1, ID_ag C G (by decide) (by decide) (by decide) h2, IP_ag C G (by decide) (by decide) (by decide) h3, IO_ag C G (by decide) (by decide) (by decide) h4, IK_ag C G (by decide) (by decide) (by decide) h5, IClk2_ag C G (by decide) (by decide) (by decide) h6⟩ HB C G (by decide) (by decide) (by decide)
theorem S_ticket (H : INV SC SR) (a b x y : Int32) : STEP (TR_ticket a b x y) (MO_ticket a b x y) SC SR := by
  have H0 := H
  obtain ⟨nw, nof, no, SB, ⟨A, B, M, cn, nc, m, E, D, hd, ks, W, K, F, T, h1, h2, h3, h4, h5, h6⟩, HB⟩ := H
  refine R_ticket a b x y h6 (fun r => ⟨rfl, H0⟩) fun r f q g n hk => ⟨rfl, ?_⟩
  have C : AgC [75, 76] SC (ufb (sa (ufi SC 75 0 n) 76 f) 75 1 q) := ((AgC.rf.ufi (by decide)).sa (by decide)).ufb (by decide)
  have G : AgR [174] [66] SR (sa (ufi SR 127 66 n) 174 g) := (AgR.rf.ufi (by decide)).sa (by decide)
  exact INV_rd ⟨A, B, M, cn, nc, m, E, D, hd, ks, W, K, F, T, IN_ag C G (by decide) (by decide) (by decide) h1, ID_ag C G (by decide) (by decide) (by decide) h2, IP_ag C G (by decide) (by decide) (by decide) h3, IO_ag C G (by decide) (by decide) (by decide) h4, IK_ag C G (by decide) (by decide) (by decide) h5, hk⟩ HB C G (by decide) (by decide) (by decide)
theorem S_clocks (H : INV SC SR) (a b x : Int32) : STEP (TR_clocks a b x) (MO_clocks a b x) SC SR := by
  have H0 := H
  obtain ⟨nw, nof, no, SB, ⟨A, B, M, cn, nc, m, E, D, hd, ks, W, K, F, T, h1, h2, h3, h4, h5, h6⟩, HB⟩ := H
  refine R_clocks a b x h6 (fun r => ⟨rfl, H0⟩) fun r f q => ⟨rfl, ?_⟩
  have C : AgC [] SC SC := AgC.rf
  have G : AgR [175] [68] SR (ufb (sa SR 175 f) 127 68 q) := (AgR.rf.sa (by decide)).ufb (by decide)
  exact INV_rd ⟨A, B, M, cn, nc, m, E, D, hd, ks, W, K, F, T, IN_ag C G (by decide) (by decide) (by decide) h1, ID_ag C G (by decide) (by decide) (by decide) h2, IP_ag C G (by decide) (by decide) (by decide) h3, IO_ag C G (by decide) (by decide) (by decide) h4, IK_ag C G (by decide) (by decide) (by decide) h5, IClk2_ag C G (by decide) (by decide) (by decide) h6⟩ HB C G (by decide) (by decide) (by decide)
theorem S_feed (H : INV SC SR) (n : Int32) (x : Int64) : STEP (TR_feed n x) (MO_feed n x) SC SR := by
  have H0 := H
  obtain ⟨nw, nof, no, SB, ⟨A, B, M, cn, nc, m, E, D, hd, ks, W, K, F, T, h1, h2, h3, h4, h5, h6⟩, HB⟩ := H
  obtain ⟨k1, k2, ⟨len, t, k3, k3'⟩, k4⟩ := h5
  refine R_feed n x k3 k3' (fun r => ⟨rfl, H0⟩) fun r len' t' f g q1 q2 => ⟨rfl, ?_⟩
  have C : AgC [27, 28] SC (sa (ufi SC 27 1 (Int32.ofNat len')) 28 f) := (AgC.rf.ufi (by decide)).sa (by decide)
  have G : AgR [146] [26] SR (sa (ufi SR 127 26 (Int32.ofNat len')) 146 g) := (AgR.rf.ufi (by decide)).sa (by decide)
  refine INV_rd ⟨A, B, M, cn, nc, m, E, D, hd, ks, W, K, F, T, IN_ag C G (by decide) (by decide) (by decide) h1, ID_ag C G (by decide) (by decide) (by decide) h2, IP_ag C G (by decide) (by decide) (by decide) h3, IO_ag C G (by decide) (by decide) (by decide) h4, ⟨?_, ?_, ⟨len', t', ?_, ?_⟩, ?_⟩, IClk2_ag C G (by decide) (by decide) (by decide) h6⟩ HB C G (by decide) (by decide) (by decide)
  · rw [(C 16 (by decide)).2.2.1, (G.1 135 (by decide)).1]; exact k1
  · rw [(C 78 (by decide)).2.2.1, (G.1 176 (by decide)).1]; exact k2
  · rw [ai_sa, fi_sa, fi_ufi]; exact q1
  · rw [ai_sa, fi_sa, fi_ufi]; exact q2
  · rw [fi_sa, fi_sa, fi_ufi2 _ _ _ _ _ _ (by decide), fi_ufi2 _ _ _ _ _ _ (by decide)]; exact k4
/-! ways -/
theorem LQ_Ag (S : Sg) (c6 c7 c8 c9 : Nat → Int32) (u : Nat) : AgR [136, 137, 138, 139] [15, 11] S (LQ S c6 c7 c8 c9 u) := by
  obtain ⟨-, q2, -, q4, q5, q6⟩ := LQ_f S c6 c7 c8 c9 u
  refine ⟨fun a ha => ⟨q6 a ?_, by rw [q5]⟩, fun b hb => ⟨q2 127 b (Or.inr fun e => hb (by rw [e]; decide)), q4 127 b (Or.inr fun e => hb (by rw [e]; decide))⟩⟩
  simp at ha
  omega
theorem IN_ways {nw nof nc m : Nat} {A B M cn : Nat → Nat} {E D : Nat → Nat → Nat} {hd : Nat → Option Nat} (h1 : IN nw nof A B M cn SC SR) (h2 : ID nw M nc m E D hd SC SR) (a b k i j : Int32) : W2 (TR_ways a b k i j) SC (MO_ways a b k i j) SR fun r S r' R => r = r' ∧ IN nw nof A B M cn S R ∧ AgC [2, 7, 8, 9, 10] SC S ∧ AgR [136, 137, 138, 139] [15, 11] SR R ∧ IN nw nof A B M cn SC R := by
  have N0 := h1
  obtain ⟨n1, n2, n3, n4, n5, n6, n7, n8, n9, n10, ⟨uc, u1, u2⟩, n12⟩ := h1
  refine R_ways n8 u1 u2 n9 n4 n7 (by omega) n12 (by rw [h2.2.2.2.2.2.2.1]; exact IN_phi N0) a b k i j (fun r => ⟨rfl, N0, AgC.rf, AgR.rf, N0⟩) fun r c7 c8 c9 c10 uc' d6 d7 d8 d9 u p1 p2 p3 => ?_
  have C := NP_Ag SC c7 c8 c9 c10 uc'
  have G := LQ_Ag SR d6 d7 d8 d9 u
  obtain ⟨a7, a8, a9, a10⟩ := NP_ai SC c7 c8 c9 c10 uc'
  obtain ⟨b6, b7, b8, b9⟩ := LQ_a SR d6 d7 d8 d9 u
  have b15 := (LQ_f SR d6 d7 d8 d9 u).1
  have NR : IN nw nof A B M cn SC (LQ SR d6 d7 d8 d9 u) := by
    refine ⟨n1, n2, n3, by rw [(G.2 0 (by decide)).1]; exact n4, n5, by rw [(G.2 72 (by decide)).1]; exact n6, by rw [(G.2 1 (by decide)).1]; exact n7, n8, ?_, ?_, ⟨uc, u1, u2⟩, fun _ => ⟨u, b15, by rw [b6, b7, b8, b9]; exact p3⟩⟩
    · rw [(G.1 128 (by decide)).1, (G.1 129 (by decide)).1, (G.1 130 (by decide)).1]; exact n9
    · rw [(G.1 178 (by decide)).1, (G.1 179 (by decide)).1, (G.1 180 (by decide)).1, (G.1 181 (by decide)).1]; exact n10
  refine ⟨rfl, ?_, C, G, NR⟩
  obtain ⟨m1, m2, m3, m4, m5, m6, m7, m8, m9, m10, m11, m12⟩ := NR
  refine ⟨m1, m2, by rw [NP_f _ _ _ _ _ _ (Or.inr (by decide))]; exact m3, m4, by rw [NP_f _ _ _ _ _ _ (Or.inr (by decide))]; exact m5, m6, m7, by rw [NP_ax _ _ _ _ _ _ (by decide), NP_ax _ _ _ _ _ _ (by decide), NP_ax _ _ _ _ _ _ (by decide)]; exact m8, m9, by rw [NP_ax _ _ _ _ _ _ (by decide)]; exact m10, ⟨uc', NP_2 _ _ _ _ _ _, by rw [a7, a8, a9, a10]; exact p1⟩, m12⟩
theorem S_ways (H : INV SC SR) (a b k i j : Int32) : STEP (TR_ways a b k i j) (MO_ways a b k i j) SC SR := by
  obtain ⟨nw, nof, no, SB, ⟨A, B, M, cn, nc, m, E, D, hd, ks, W, K, F, T, h1, h2, h3, h4, h5, h6⟩, HB⟩ := H
  have HV := HB.1
  obtain ⟨A', B', M', cn', nc', m', E', D', hd', ks', W', K', F', T', hn', g1, g2, g3, g4, g5⟩ := HV
  obtain ⟨r1, S, e1, r2, R, e2, rfl, q1, C, G, q2⟩ := IN_ways h1 h2 a b k i j
  obtain ⟨r3, S', -, r4, R', e4, -, -, -, -, q3⟩ := IN_ways g1 g2 a b k i j
  rw [e2] at e4
  have eR : R = R' := congrArg Prod.snd (Option.some.inj e4)
  subst eR
  have Cn : AgC [] SB SB := AgC.rf
  have VBn : VB nw nof no SB R := ⟨A', B', M', cn', nc', m', E', D', hd', ks', W', K', F', T', hn', q3, ID_ag Cn G (by decide) (by decide) (by decide) g2, IP_ag Cn G (by decide) (by decide) (by decide) g3, IO_ag Cn G (by decide) (by decide) (by decide) g4, by rw [(G.1 135 (by decide)).1]; exact g5⟩
  have hb := Bes_ag HB C (by decide)
  exact ⟨r1, S, e1, r1, R, e2, rfl, nw, nof, no, SB, ⟨A, B, M, cn, nc, m, E, D, hd, ks, W, K, F, T, q1, ID_ag C G (by decide) (by decide) (by decide) h2, IP_ag C G (by decide) (by decide) (by decide) h3, IO_ag C G (by decide) (by decide) (by decide) h4, IK_ag C G (by decide) (by decide) (by decide) h5, IClk2_ag C G (by decide) (by decide) (by decide) h6⟩, VBn, hb.2.1, hb.2.2⟩
end
