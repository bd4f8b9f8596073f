/-! the calls that change what a minute looks at -/
section
variable {SC SR : Sg}
theorem S_hands (H : INV SC SR) (x y : Int32) : STEP (TR_hands x y) (MO_hands x y) SC SR := by
  have H0 := H
  obtain ⟨nw, nof, no, SB, ⟨A, B, M, cn, nc, m, E, D, hd, ks, W, K, F, T, h1, h2, h3, h4, h5, h6⟩, HB⟩ := H
  obtain ⟨⟨hn, k1⟩, k2, k3, k4⟩ := h5
  refine R_hands k1 x y (fun r => ⟨rfl, H0⟩) fun r hn' f g q => ⟨rfl, ?_⟩
  have C : AgC [1, 80, 16] SC (sa (ufi (ufb SC 80 14 false) 1 11 (Int32.ofNat 0)) 16 f) := ((AgC.rf.ufb (by decide)).ufi (by decide)).sa (by decide)
  have G : AgR [135] [] SR (sa SR 135 g) := AgR.rf.sa (by decide)
  refine INV_new (nw := nw) (nof := nof) (no := no) ⟨A, B, M, cn, nc, m, E, D, hd, ks, W, K, F, T, IN_ag C G (by decide) (by decide) (by decide) h1, ID_ag C G (by decide) (by decide) (by decide) h2, IP_ag C G (by decide) (by decide) (by decide) h3, IO_ag C G (by decide) (by decide) (by decide) h4, ⟨⟨hn', by rw [ai_sa, ai_sa]; exact q⟩, ?_, ?_, ?_⟩, IClk2_ag C G (by decide) (by decide) (by decide) h6⟩ ⟨fb_ufb SC 80 14 false, fi_ufi (ufb SC 80 14 false) 1 11 (Int32.ofNat 0)⟩
  · rw [(C 78 (by decide)).2.2.1, (G.1 176 (by decide)).1]; exact k2
  · rw [(C 27 (by decide)).1, (C 28 (by decide)).2.2.1, (G.1 146 (by decide)).1, (G.2 26 (by decide)).1]; exact k3
  · rw [(C 27 (by decide)).1, (G.2 29 (by decide)).1]; exact k4
theorem S_span (H : INV SC SR) (w y a b : Int32) : STEP (TR_span w y a b) (MO_span w y a b) SC SR := by
  have H0 := H
  obtain ⟨nw, nof, no, SB, ⟨A, B, M, cn, nc, m, E, D, hd, ks, W, K, F, T, h1, h2, h3, h4, h5, h6⟩, HB⟩ := H
  refine R_span h3.1 h1.2.2.1 h1.2.2.2.1 h1.1 h3.2 w y a b (fun r => ⟨rfl, H0⟩) fun r W' K' F' T' f0 f1 f2 f3 g0 g1 g2 g3 q1 q2 q3 => ⟨rfl, ?_⟩
  have C : AgC [1, 80, 11, 12, 13, 14, 15] SC (CS4 (ufi (ufb SC 80 14 false) 1 11 (Int32.ofNat 0)) f0 f1 f2 f3 (ks + 1)) := ((((((AgC.rf.ufb (by decide)).ufi (by decide)).sa (by decide)).sa (by decide)).sa (by decide)).sa (by decide)).ufi (by decide)
  have G : AgR [131, 132, 133, 134] [5] SR (CS5 SR g0 g1 g2 g3 (ks + 1)) := ((((AgR.rf.sa (by decide)).sa (by decide)).sa (by decide)).sa (by decide)).ufi (by decide)
  refine INV_new (nw := nw) (nof := nof) (no := no) ⟨A, B, M, cn, nc, m, E, D, hd, ks + 1, W', K', F', T', IN_ag C G (by decide) (by decide) (by decide) h1, ID_ag C G (by decide) (by decide) (by decide) h2, ⟨⟨?_, ?_, ?_, ?_⟩, q3⟩, IO_ag C G (by decide) (by decide) (by decide) h4, IK_ag C G (by decide) (by decide) (by decide) h5, IClk2_ag C G (by decide) (by decide) (by decide) h6⟩ ⟨?_, ?_⟩
  · exact fi_ufi _ _ _ _
  · exact fi_ufi _ _ _ _
  · unfold CS4
    simp (disch := omega) only [fi_ufi, fi_ufi1, fi_ufi2, fb_ufb, fb_ufb1, fb_ufb2, fl_ufl, fl_ufl1, fl_ufl2, fr_ufr, fr_ufr1, fr_ufr2, ai_sa, ai_sa1, ab_sab, ab_sab1, ar_sar, ar_sar1, upf_eq, upf_ne, fi_ufb, fi_ufl, fi_ufr, fi_sa, fi_sab, fi_sar, fb_ufi, fb_ufl, fb_ufr, fb_sa, fb_sab, fb_sar, fl_ufi, fl_ufb, fl_ufr, fl_sa, fl_sab, fl_sar, fr_ufi, fr_ufb, fr_ufl, fr_sa, fr_sab, fr_sar, ai_ufi, ai_ufb, ai_ufl, ai_ufr, ai_sab, ai_sar, ab_ufi, ab_ufb, ab_ufl, ab_ufr, ab_sa, ab_sar, ar_ufi, ar_ufb, ar_ufl, ar_ufr, ar_sa, ar_sab, sa_sa, sab_sab, sar_sar, upf_upf, ufi_ufi]
    exact q1
  · unfold CS5
    simp (disch := omega) only [fi_ufi, fi_ufi1, fi_ufi2, fb_ufb, fb_ufb1, fb_ufb2, fl_ufl, fl_ufl1, fl_ufl2, fr_ufr, fr_ufr1, fr_ufr2, ai_sa, ai_sa1, ab_sab, ab_sab1, ar_sar, ar_sar1, upf_eq, upf_ne, fi_ufb, fi_ufl, fi_ufr, fi_sa, fi_sab, fi_sar, fb_ufi, fb_ufl, fb_ufr, fb_sa, fb_sab, fb_sar, fl_ufi, fl_ufb, fl_ufr, fl_sa, fl_sab, fl_sar, fr_ufi, fr_ufb, fr_ufl, fr_sa, fr_sab, fr_sar, ai_ufi, ai_ufb, ai_ufl, ai_ufr, ai_sab, ai_sar, ab_ufi, ab_ufb, ab_ufl, ab_ufr, ab_sa, ab_sar, ar_ufi, ar_ufb, ar_ufl, ar_ufr, ar_sa, ar_sab, sa_sa, sab_sab, sar_sar, upf_upf, ufi_ufi]
    exact q2
  · exact fb_ufb SC 80 14 false
  · unfold CS4
    simp (disch := omega) only [fi_ufi, fi_ufi1, fi_ufi2, fb_ufb, fb_ufb1, fb_ufb2, fl_ufl, fl_ufl1, fl_ufl2, fr_ufr, fr_ufr1, fr_ufr2, ai_sa, ai_sa1, ab_sab, ab_sab1, ar_sar, ar_sar1, upf_eq, upf_ne, fi_ufb, fi_ufl, fi_ufr, fi_sa, fi_sab, fi_sar, fb_ufi, fb_ufl, fb_ufr, fb_sa, fb_sab, fb_sar, fl_ufi, fl_ufb, fl_ufr, fl_sa, fl_sab, fl_sar, fr_ufi, fr_ufb, fr_ufl, fr_sa, fr_sab, fr_sar, ai_ufi, ai_ufb, ai_ufl, ai_ufr, ai_sab, ai_sar, ab_ufi, ab_ufb, ab_ufl, ab_ufr, ab_sa, ab_sar, ar_ufi, ar_ufb, ar_ufl, ar_ufr, ar_sa, ar_sab, sa_sa, sab_sab, sar_sar, upf_upf, ufi_ufi]
theorem S_book (H : INV SC SR) (x y l k mm : Int32) : STEP (TR_book x y l k mm) (MO_book x y l k mm) SC SR := by
  have H0 := H
  obtain ⟨nw, nof, no, SB, ⟨A, B, M, cn, nc, m, E, D, hd, ks, W, K, F, T, h1, h2, h3, h4, h5, h6⟩, HB⟩ := H
  exact R_book h1 h2 h4 x y l k mm (fun r => ⟨rfl, H0⟩) fun r S R E' D' N I O C G fl => ⟨rfl, INV_new (nw := nw) (nof := nof) (no := no) ⟨A, B, M, cn, nc + 1, m, E', D', hd, ks, W, K, F, T, N, I, IP_ag C G (by decide) (by decide) (by decide) h3, O, IK_ag C G (by decide) (by decide) (by decide) h5, IClk2_ag C G (by decide) (by decide) (by decide) h6⟩ fl⟩
theorem S_again (H : INV SC SR) (x : Int32) : STEP (TR_again x) (MO_again x) SC SR := by
  have H0 := H
  obtain ⟨nw, nof, no, SB, ⟨A, B, M, cn, nc, m, E, D, hd, ks, W, K, F, T, h1, h2, h3, h4, h5, h6⟩, HB⟩ := H
  exact R_again h1 h2 h4 x (fun r => ⟨rfl, H0⟩) fun r S R E' D' N I O C G fl => ⟨rfl, INV_new (nw := nw) (nof := nof) (no := no) ⟨A, B, M, cn, nc + 1, m, E', D', hd, ks, W, K, F, T, N, I, IP_ag C G (by decide) (by decide) (by decide) h3, O, IK_ag C G (by decide) (by decide) (by decide) h5, IClk2_ag C G (by decide) (by decide) (by decide) h6⟩ fl⟩
theorem S_cancel (H : INV SC SR) (x : Int32) : STEP (TR_cancel x) (MO_cancel x) SC SR := by
  have H0 := H
  obtain ⟨nw, nof, no, SB, ⟨A, B, M, cn, nc, m, E, D, hd, ks, W, K, F, T, h1, h2, h3, h4, h5, h6⟩, HB⟩ := H
  exact R_cancel h2 x (fun r => ⟨rfl, H0⟩) fun r S R D' hd' I C G fl => ⟨rfl, INV_new (nw := nw) (nof := nof) (no := no) ⟨A, B, M, cn, nc, m, E, D', hd', ks, W, K, F, T, IN_ag C G (by decide) (by decide) (by decide) h1, I, IP_ag C G (by decide) (by decide) (by decide) h3, IO_ag C G (by decide) (by decide) (by decide) h4, IK_ag C G (by decide) (by decide) (by decide) h5, IClk2_ag C G (by decide) (by decide) (by decide) h6⟩ fl⟩
theorem S_go (H : INV SC SR) (x : Int32) : STEP (TR_go x) (MO_go x) SC SR := by
  have H0 := H
  obtain ⟨nw, nof, no, SB, ⟨A, B, M, cn, nc, m, E, D, hd, ks, W, K, F, T, h1, h2, h3, h4, h5, h6⟩, HB⟩ := H
  exact R_go h1 h2 h3 h4 h5 x (fun r => ⟨rfl, H0⟩) fun r S R m' D' hd' N I O C G fl => ⟨rfl, INV_new (nw := nw) (nof := nof) (no := no) ⟨A, B, M, cn, nc, m', E, D', hd', ks, W, K, F, T, N, I, IP_ag C G (by decide) (by decide) (by decide) h3, O, IK_ag C G (by decide) (by decide) (by decide) h5, IClk2_ag C G (by decide) (by decide) (by decide) h6⟩ fl⟩
/-! orders -/
theorem IO_cl {no : Nat} {SC SR : Sg} (H : IO no SC SR) : ∀ k, k < no → ctn (ai SC 19) k ≤ 10 := fun k hk => ((IO_OD H).2.2.2 k hk).2.2.2.1
theorem low_OCg {no : Nat} {S : Sg} (H : IO no SC SR) (e18 : ∀ k, k < no → ai S 18 k = ai SC 18 k) (e19 : ∀ k, k < no → ai S 19 k = ai SC 19 k) (hl : lowS (10 * no) (ai S 20) (ai S 21) (ai S 22) (ai S 23) (ai SC 20) (ai SC 21) (ai SC 22) (ai SC 23)) : OCg no (ctn (ai SC 18)) (ctn (ai SC 19)) (ctn (ai SC 20)) (ctn (ai S 18)) (ctn (ai S 19)) (ctn (ai S 20)) (ai SC 21) (ai SC 22) (ai S 21) (ai S 22) := by
  intro k hk
  refine ⟨?_, ?_, fun j hj => ?_⟩
  · unfold ctn; rw [e18 k hk]
  · unfold ctn; rw [e19 k hk]
  · have h10 := IO_cl H k hk
    obtain ⟨a, b, c, -⟩ := hl (10 * k + j) (by omega)
    refine ⟨?_, b, c⟩
    unfold ctn; rw [a]
theorem ODs_low {no : Nat} {S X : Sg} (H : ODs no (ctn (ai SC 18)) (ctn (ai SC 19)) (ctn (ai SC 20)) SC X) (e17 : fi S 17 6 = fi SC 17 6) (e18 : ai S 18 = ai SC 18) (e19 : ai S 19 = ai SC 19) (hl : lowS (10 * no) (ai S 20) (ai S 21) (ai S 22) (ai S 23) (ai SC 20) (ai SC 21) (ai SC 22) (ai SC 23)) : ODs no (ctn (ai S 18)) (ctn (ai S 19)) (ctn (ai S 20)) S X := by
  obtain ⟨h1, h2, h3, h4⟩ := H
  refine ⟨h1, e17.trans h2, h3, fun k hk => ?_⟩
  obtain ⟨k1, k2, k3, k4, k5, k6, k7⟩ := h4 k hk
  rw [e18, e19]
  refine ⟨k1, k2, k3, k4, k5, k6, fun j hj => ?_⟩
  obtain ⟨l1, l2, l3, l4⟩ := k7 j hj
  have hx := hl (10 * k + j) (by omega)
  have e : ctn (ai S 20) (10 * k + j) = ctn (ai SC 20) (10 * k + j) := by unfold ctn; rw [hx.1]
  rw [e]
  exact ⟨l1, hx.1.trans l2, l3, SlotR_cg hx ⟨rfl, rfl, rfl, rfl⟩ l4⟩
theorem CA_ord {no : Nat} {S : Sg} {a : Nat → Int32} {X : List Nat} (h : CA no SC a) (C : AgC X SC S) (hx : ∀ y ∈ kpC, y ∉ [20, 21, 22, 23] → y ∉ X) (hl : lowS (10 * no) (ai S 20) (ai S 21) (ai S 22) (ai S 23) (ai SC 20) (ai SC 21) (ai SC 22) (ai SC 23)) : CA no S a := by
  obtain ⟨f, n, A, B, M, nc, nR, mx, E, D, hd, V, V', h1, h2, h3, h4, h5, h6, h7, h8, h9, h10, h11⟩ := h
  have f80 : fi S 80 = fi SC 80 := (C 80 (hx _ (by decide) (by decide))).1
  have hR := h1.1.2.1
  have hc := h1.1.1
  have fc : ∀ c, c < 40 → fi S (80 + 6 + c) = fi SC (80 + 6 + c) := fun c hc => (C _ (hx _ (kpC_c c hc) (by simp; omega))).1
  refine ⟨f, n, A, B, M, nc, nR, mx, E, D, hd, V, V', DD_cg h1 (by rw [f80]) (by rw [f80]) (fun c b l1 _ _ => by rw [fc c l1]) rfl (fun _ _ _ => rfl), h2, fun c hcn => ?_, h4, ?_, by rw [f80]; exact h6, h7, h8, h9, h10, by rw [f80]; exact h11⟩
  · have := h3 c hcn
    rw [fc c (by omega)]
    exact this
  · exact ODs_low h5 (by rw [(C 17 (hx _ (by decide) (by decide))).1]) (C 18 (hx _ (by decide) (by decide))).2.2.1 (C 19 (hx _ (by decide) (by decide))).2.2.1 hl
theorem TX_0 {n : Int32} {c : Nat → Int32} (h : n = Int32.ofNat 0) : TX 0 (fun _ => 0) n c := ⟨by decide, h, fun j hj => absurd hj (Nat.not_lt_zero j)⟩
theorem S_order (H : INV SC SR) (x : Int32) : STEP (TR_order x) (MO_order x) SC SR := by
  have H0 := H
  obtain ⟨nw, nof, no, SB, ⟨A, B, M, cn, nc, m, E, D, hd, ks, W, K, F, T, h1, h2, h3, h4, h5, h6⟩, HB⟩ := H
  obtain ⟨k1, k2, ⟨len, t, k3, k3'⟩, k4⟩ := h5
  refine R_order x k3 k3' h4.1 (fun r => ⟨rfl, H0⟩) (fun r i i'' f q fr lt g0 g1 g2 g3 j0 j1 j2 j3 hO hl hlr => ⟨rfl, ?_⟩) fun i i'' fr lt c18 c19 g0 g1 g2 g3 r140 r141 j0 j1 j2 j3 hO e18 e19 hl => ⟨rfl, ?_⟩
  · have C : AgC [20, 21, 22, 23, 27] SC (ufi (CS (C4 SC g0 g1 g2 g3) i f q) 27 1 (Int32.ofNat 0)) := (((((((AgC.rf.sa (by decide)).sa (by decide)).sa (by decide)).sa (by decide)).ufi (by decide)).ufi (by decide)).ufi (by decide)).ufi (by decide)
    have G : AgR [142, 143, 144, 145] [26, 27, 28, 29, 30, 31] SR (ufi (RS (R4 SR j0 j1 j2 j3) i'' f q fr lt) 127 26 (Int32.ofNat 0)) := (((((((((AgR.rf.sa (by decide)).sa (by decide)).sa (by decide)).sa (by decide)).ufi (by decide)).ufi (by decide)).ufi (by decide)).ufi (by decide)).ufi (by decide)).ufi (by decide)
    have s20 : ai (ufi (CS (C4 SC g0 g1 g2 g3) i f q) 27 1 (Int32.ofNat 0)) 20 = g0 ∧ ai (ufi (CS (C4 SC g0 g1 g2 g3) i f q) 27 1 (Int32.ofNat 0)) 21 = g1 ∧ ai (ufi (CS (C4 SC g0 g1 g2 g3) i f q) 27 1 (Int32.ofNat 0)) 22 = g2 ∧ ai (ufi (CS (C4 SC g0 g1 g2 g3) i f q) 27 1 (Int32.ofNat 0)) 23 = g3 := by
      unfold CS C4
      refine ⟨?_, ?_, ?_, ?_⟩ <;> simp (disch := omega) only [fi_ufi, fi_ufi1, fi_ufi2, fb_ufb, fb_ufb1, fb_ufb2, fl_ufl, fl_ufl1, fl_ufl2, fr_ufr, fr_ufr1, fr_ufr2, ai_sa, ai_sa1, ab_sab, ab_sab1, ar_sar, ar_sar1, upf_eq, upf_ne, fi_ufb, fi_ufl, fi_ufr, fi_sa, fi_sab, fi_sar, fb_ufi, fb_ufl, fb_ufr, fb_sa, fb_sab, fb_sar, fl_ufi, fl_ufb, fl_ufr, fl_sa, fl_sab, fl_sar, fr_ufi, fr_ufb, fr_ufl, fr_sa, fr_sab, fr_sar, ai_ufi, ai_ufb, ai_ufl, ai_ufr, ai_sab, ai_sar, ab_ufi, ab_ufb, ab_ufl, ab_ufr, ab_sa, ab_sar, ar_ufi, ar_ufb, ar_ufl, ar_ufr, ar_sa, ar_sab, sa_sa, sab_sab, sar_sar, upf_upf, ufi_ufi]
    have r142 : ai (ufi (RS (R4 SR j0 j1 j2 j3) i'' f q fr lt) 127 26 (Int32.ofNat 0)) 142 = j0 ∧ ai (ufi (RS (R4 SR j0 j1 j2 j3) i'' f q fr lt) 127 26 (Int32.ofNat 0)) 143 = j1 ∧ ai (ufi (RS (R4 SR j0 j1 j2 j3) i'' f q fr lt) 127 26 (Int32.ofNat 0)) 144 = j2 ∧ ai (ufi (RS (R4 SR j0 j1 j2 j3) i'' f q fr lt) 127 26 (Int32.ofNat 0)) 145 = j3 := by
      unfold RS R4
      refine ⟨?_, ?_, ?_, ?_⟩ <;> simp (disch := omega) only [fi_ufi, fi_ufi1, fi_ufi2, fb_ufb, fb_ufb1, fb_ufb2, fl_ufl, fl_ufl1, fl_ufl2, fr_ufr, fr_ufr1, fr_ufr2, ai_sa, ai_sa1, ab_sab, ab_sab1, ar_sar, ar_sar1, upf_eq, upf_ne, fi_ufb, fi_ufl, fi_ufr, fi_sa, fi_sab, fi_sar, fb_ufi, fb_ufl, fb_ufr, fb_sa, fb_sab, fb_sar, fl_ufi, fl_ufb, fl_ufr, fl_sa, fl_sab, fl_sar, fr_ufi, fr_ufb, fr_ufl, fr_sa, fr_sab, fr_sar, ai_ufi, ai_ufb, ai_ufl, ai_ufr, ai_sab, ai_sar, ab_ufi, ab_ufb, ab_ufl, ab_ufr, ab_sa, ab_sar, ar_ufi, ar_ufb, ar_ufl, ar_ufr, ar_sa, ar_sab, sa_sa, sab_sab, sar_sar, upf_upf, ufi_ufi]
    have s27 : fi (ufi (CS (C4 SC g0 g1 g2 g3) i f q) 27 1 (Int32.ofNat 0)) 27 1 = Int32.ofNat 0 ∧ fi (ufi (CS (C4 SC g0 g1 g2 g3) i f q) 27 1 (Int32.ofNat 0)) 27 3 = q := by
      unfold CS
      refine ⟨?_, ?_⟩ <;> simp (disch := omega) only [fi_ufi, fi_ufi1, fi_ufi2, fb_ufb, fb_ufb1, fb_ufb2, fl_ufl, fl_ufl1, fl_ufl2, fr_ufr, fr_ufr1, fr_ufr2, ai_sa, ai_sa1, ab_sab, ab_sab1, ar_sar, ar_sar1, upf_eq, upf_ne, fi_ufb, fi_ufl, fi_ufr, fi_sa, fi_sab, fi_sar, fb_ufi, fb_ufl, fb_ufr, fb_sa, fb_sab, fb_sar, fl_ufi, fl_ufb, fl_ufr, fl_sa, fl_sab, fl_sar, fr_ufi, fr_ufb, fr_ufl, fr_sa, fr_sab, fr_sar, ai_ufi, ai_ufb, ai_ufl, ai_ufr, ai_sab, ai_sar, ab_ufi, ab_ufb, ab_ufl, ab_ufr, ab_sa, ab_sar, ar_ufi, ar_ufb, ar_ufl, ar_ufr, ar_sa, ar_sab, sa_sa, sab_sab, sar_sar, upf_upf, ufi_ufi]
    have r26 : fi (ufi (RS (R4 SR j0 j1 j2 j3) i'' f q fr lt) 127 26 (Int32.ofNat 0)) 127 26 = Int32.ofNat 0 ∧ fi (ufi (RS (R4 SR j0 j1 j2 j3) i'' f q fr lt) 127 26 (Int32.ofNat 0)) 127 29 = q := by
      unfold RS
      refine ⟨?_, ?_⟩ <;> simp (disch := omega) only [fi_ufi, fi_ufi1, fi_ufi2, fb_ufb, fb_ufb1, fb_ufb2, fl_ufl, fl_ufl1, fl_ufl2, fr_ufr, fr_ufr1, fr_ufr2, ai_sa, ai_sa1, ab_sab, ab_sab1, ar_sar, ar_sar1, upf_eq, upf_ne, fi_ufb, fi_ufl, fi_ufr, fi_sa, fi_sab, fi_sar, fb_ufi, fb_ufl, fb_ufr, fb_sa, fb_sab, fb_sar, fl_ufi, fl_ufb, fl_ufr, fl_sa, fl_sab, fl_sar, fr_ufi, fr_ufb, fr_ufl, fr_sa, fr_sab, fr_sar, ai_ufi, ai_ufb, ai_ufl, ai_ufr, ai_sab, ai_sar, ab_ufi, ab_ufb, ab_ufl, ab_ufr, ab_sa, ab_sar, ar_ufi, ar_ufb, ar_ufl, ar_ufr, ar_sa, ar_sab, sa_sa, sab_sab, sar_sar, upf_upf, ufi_ufi]
    generalize ufi (CS (C4 SC g0 g1 g2 g3) i f q) 27 1 (Int32.ofNat 0) = S at *
    generalize ufi (RS (R4 SR j0 j1 j2 j3) i'' f q fr lt) 127 26 (Int32.ofNat 0) = R at *
    obtain ⟨a20, a21, a22, a23⟩ := s20
    obtain ⟨b142, b143, b144, b145⟩ := r142
    rw [← a20, ← a21, ← a22, ← a23] at hl
    have e18 : ai S 18 = ai SC 18 := (C 18 (by decide)).2.2.1
    have e19 : ai S 19 = ai SC 19 := (C 19 (by decide)).2.2.1
    have O : IO no S R := by
      refine ⟨?_, ?_⟩
      · rw [(C 17 (by decide)).1, (G.2 17 (by decide)).1, e18, e19, a20, a21, a22, a23, (G.1 140 (by decide)).1, (G.1 141 (by decide)).1, b142, b143, b144, b145]
        exact hO
      · rw [(C 24 (by decide)).1, (C 25 (by decide)).2.2.1, (C 26 (by decide)).2.2.1]
        exact CIr_cg (low_OCg h4 (fun k _ => by rw [e18]) (fun k _ => by rw [e19]) hl) h4.2
    refine ⟨nw, nof, no, SB, ⟨A, B, M, cn, nc, m, E, D, hd, ks, W, K, F, T, IN_ag C G (by decide) (by decide) (by decide) h1, ID_ag C G (by decide) (by decide) (by decide) h2, IP_ag C G (by decide) (by decide) (by decide) h3, O, ⟨?_, ?_, ⟨0, _, TX_0 s27.1, TX_0 r26.1⟩, by rw [s27.2, r26.2]⟩, IClk2_ag C G (by decide) (by decide) (by decide) h6⟩, ?_, fun h => ?_, fun s hs h => ?_⟩
    · rw [(C 16 (by decide)).2.2.1, (G.1 135 (by decide)).1]; exact k1
    · rw [(C 78 (by decide)).2.2.1, (G.1 176 (by decide)).1]; exact k2
    · obtain ⟨A', B', M', cn', nc', m', E', D', hd', ks', W', K', F', T', hn', g1, g2, g3, g4, g5⟩ := HB.1
      have Cn : AgC [] SB SB := AgC.rf
      refine ⟨A', B', M', cn', nc', m', E', D', hd', ks', W', K', F', T', hn', IN_ag Cn G (by decide) (by decide) (by decide) g1, ID_ag Cn G (by decide) (by decide) (by decide) g2, IP_ag Cn G (by decide) (by decide) (by decide) g3, ⟨?_, g4.2⟩, by rw [(G.1 135 (by decide)).1]; exact g5⟩
      rw [(G.2 17 (by decide)).1, (G.1 140 (by decide)).1, (G.1 141 (by decide)).1, b142, b143, b144, b145]
      exact IOrd_low g4.1 (fun x _ => ⟨rfl, rfl, rfl, rfl⟩) hlr
    · rw [(C 80 (by decide)).2.1] at h
      obtain ⟨s, a, q1, q2, q3, q4⟩ := HB.2.1 h
      exact ⟨s, a, q1, by rw [(C 80 (by decide)).1]; exact q2, by rw [(C 80 (by decide)).1]; exact q3, CA_ord q4 C (by decide) hl⟩
    · rw [(C 1 (by decide)).1] at h
      rw [(C 126 (by decide)).2.2.1]
      exact HB.2.2 s hs h
  · generalize hS : ufi (sa (ufi (ufb (sa (ufi (CS (C4 SC g0 g1 g2 g3) i 0 nn) 27 1 (Int32.ofNat 0)) 19 c19) 80 14 false) 1 11 (Int32.ofNat 0)) 18 c18) 17 6 (Int32.ofNat (no + 1)) = S
    generalize hR : ufi (sa (sa (ufi (RS (R4 SR j0 j1 j2 j3) i'' 0 nn fr lt) 127 26 (Int32.ofNat 0)) 141 r141) 140 r140) 127 17 (Int32.ofNat (no + 1)) = R
    have C : AgC [1, 17, 18, 19, 20, 21, 22, 23, 27, 80] SC S := by
      rw [← hS]
      exact ((((((((((((AgC.rf.sa (by decide)).sa (by decide)).sa (by decide)).sa (by decide)).ufi (by decide)).ufi (by decide)).ufi (by decide)).ufi (by decide)).sa (by decide)).ufb (by decide)).ufi (by decide)).sa (by decide)).ufi (by decide)
    have G : AgR [140, 141, 142, 143, 144, 145] [17, 26, 27, 28, 29, 30, 31] SR R := by
      rw [← hR]
      exact ((((((((((((AgR.rf.sa (by decide)).sa (by decide)).sa (by decide)).sa (by decide)).ufi (by decide)).ufi (by decide)).ufi (by decide)).ufi (by decide)).ufi (by decide)).ufi (by decide)).sa (by decide)).sa (by decide)).ufi (by decide)
    have sa' : ai S 18 = c18 ∧ ai S 19 = c19 ∧ ai S 20 = g0 ∧ ai S 21 = g1 ∧ ai S 22 = g2 ∧ ai S 23 = g3 := by
      rw [← hS]
      unfold CS C4
      refine ⟨?_, ?_, ?_, ?_, ?_, ?_⟩ <;> simp (disch := omega) only [fi_ufi, fi_ufi1, fi_ufi2, fb_ufb, fb_ufb1, fb_ufb2, fl_ufl, fl_ufl1, fl_ufl2, fr_ufr, fr_ufr1, fr_ufr2, ai_sa, ai_sa1, ab_sab, ab_sab1, ar_sar, ar_sar1, upf_eq, upf_ne, fi_ufb, fi_ufl, fi_ufr, fi_sa, fi_sab, fi_sar, fb_ufi, fb_ufl, fb_ufr, fb_sa, fb_sab, fb_sar, fl_ufi, fl_ufb, fl_ufr, fl_sa, fl_sab, fl_sar, fr_ufi, fr_ufb, fr_ufl, fr_sa, fr_sab, fr_sar, ai_ufi, ai_ufb, ai_ufl, ai_ufr, ai_sab, ai_sar, ab_ufi, ab_ufb, ab_ufl, ab_ufr, ab_sa, ab_sar, ar_ufi, ar_ufb, ar_ufl, ar_ufr, ar_sa, ar_sab, sa_sa, sab_sab, sar_sar, upf_upf, ufi_ufi]
    have sf : fi S 17 6 = Int32.ofNat (no + 1) ∧ fi S 27 1 = Int32.ofNat 0 ∧ fi S 27 3 = nn ∧ fi S 1 11 = Int32.ofNat 0 ∧ fb S 80 14 = false := by
      rw [← hS]
      unfold CS C4
      refine ⟨?_, ?_, ?_, ?_, ?_⟩ <;> simp (disch := omega) only [fi_ufi, fi_ufi1, fi_ufi2, fb_ufb, fb_ufb1, fb_ufb2, fl_ufl, fl_ufl1, fl_ufl2, fr_ufr, fr_ufr1, fr_ufr2, ai_sa, ai_sa1, ab_sab, ab_sab1, ar_sar, ar_sar1, upf_eq, upf_ne, fi_ufb, fi_ufl, fi_ufr, fi_sa, fi_sab, fi_sar, fb_ufi, fb_ufl, fb_ufr, fb_sa, fb_sab, fb_sar, fl_ufi, fl_ufb, fl_ufr, fl_sa, fl_sab, fl_sar, fr_ufi, fr_ufb, fr_ufl, fr_sa, fr_sab, fr_sar, ai_ufi, ai_ufb, ai_ufl, ai_ufr, ai_sab, ai_sar, ab_ufi, ab_ufb, ab_ufl, ab_ufr, ab_sa, ab_sar, ar_ufi, ar_ufb, ar_ufl, ar_ufr, ar_sa, ar_sab, sa_sa, sab_sab, sar_sar, upf_upf, ufi_ufi]
    have ra : ai R 140 = r140 ∧ ai R 141 = r141 ∧ ai R 142 = j0 ∧ ai R 143 = j1 ∧ ai R 144 = j2 ∧ ai R 145 = j3 := by
      rw [← hR]
      unfold RS R4
      refine ⟨?_, ?_, ?_, ?_, ?_, ?_⟩ <;> simp (disch := omega) only [fi_ufi, fi_ufi1, fi_ufi2, fb_ufb, fb_ufb1, fb_ufb2, fl_ufl, fl_ufl1, fl_ufl2, fr_ufr, fr_ufr1, fr_ufr2, ai_sa, ai_sa1, ab_sab, ab_sab1, ar_sar, ar_sar1, upf_eq, upf_ne, fi_ufb, fi_ufl, fi_ufr, fi_sa, fi_sab, fi_sar, fb_ufi, fb_ufl, fb_ufr, fb_sa, fb_sab, fb_sar, fl_ufi, fl_ufb, fl_ufr, fl_sa, fl_sab, fl_sar, fr_ufi, fr_ufb, fr_ufl, fr_sa, fr_sab, fr_sar, ai_ufi, ai_ufb, ai_ufl, ai_ufr, ai_sab, ai_sar, ab_ufi, ab_ufb, ab_ufl, ab_ufr, ab_sa, ab_sar, ar_ufi, ar_ufb, ar_ufl, ar_ufr, ar_sa, ar_sab, sa_sa, sab_sab, sar_sar, upf_upf, ufi_ufi]
    have rf : fi R 127 17 = Int32.ofNat (no + 1) ∧ fi R 127 26 = Int32.ofNat 0 ∧ fi R 127 29 = nn := by
      rw [← hR]
      unfold RS R4
      refine ⟨?_, ?_, ?_⟩ <;> simp (disch := omega) only [fi_ufi, fi_ufi1, fi_ufi2, fb_ufb, fb_ufb1, fb_ufb2, fl_ufl, fl_ufl1, fl_ufl2, fr_ufr, fr_ufr1, fr_ufr2, ai_sa, ai_sa1, ab_sab, ab_sab1, ar_sar, ar_sar1, upf_eq, upf_ne, fi_ufb, fi_ufl, fi_ufr, fi_sa, fi_sab, fi_sar, fb_ufi, fb_ufl, fb_ufr, fb_sa, fb_sab, fb_sar, fl_ufi, fl_ufb, fl_ufr, fl_sa, fl_sab, fl_sar, fr_ufi, fr_ufb, fr_ufl, fr_sa, fr_sab, fr_sar, ai_ufi, ai_ufb, ai_ufl, ai_ufr, ai_sab, ai_sar, ab_ufi, ab_ufb, ab_ufl, ab_ufr, ab_sa, ab_sar, ar_ufi, ar_ufb, ar_ufl, ar_ufr, ar_sa, ar_sab, sa_sa, sab_sab, sar_sar, upf_upf, ufi_ufi]
    obtain ⟨a18, a19, a20, a21, a22, a23⟩ := sa'
    obtain ⟨b140, b141, b142, b143, b144, b145⟩ := ra
    obtain ⟨s17, s271, s273, s1, s80⟩ := sf
    obtain ⟨r17, r26, r29⟩ := rf
    have hl' : lowS (10 * no) (ai S 20) (ai S 21) (ai S 22) (ai S 23) (ai SC 20) (ai SC 21) (ai SC 22) (ai SC 23) := by
      rw [a20, a21, a22, a23]; exact hl
    have hno : no ≤ 6 := h4.1.1
    have O : IO (no + 1) S R := by
      refine ⟨?_, ?_⟩
      · rw [s17, r17, a18, a19, a20, a21, a22, a23, b140, b141, b142, b143, b144, b145]
        exact hO
      · rw [(C 24 (by decide)).1, (C 25 (by decide)).2.2.1, (C 26 (by decide)).2.2.1]
        exact CIr_up (by omega) (CIr_cg (low_OCg h4 (fun k hk => by rw [a18]; exact e18 k hk) (fun k hk => by rw [a19]; exact e19 k hk) hl') h4.2)
    refine INV_new (nw := nw) (nof := nof) (no := no + 1) ⟨A, B, M, cn, nc, m, E, D, hd, ks, W, K, F, T, IN_ag C G (by decide) (by decide) (by decide) h1, ID_ag C G (by decide) (by decide) (by decide) h2, IP_ag C G (by decide) (by decide) (by decide) h3, O, ⟨?_, ?_, ⟨0, _, TX_0 s271, TX_0 r26⟩, by rw [s273, r29]⟩, IClk2_ag C G (by decide) (by decide) (by decide) h6⟩ ⟨s80, s1⟩
    · rw [(C 16 (by decide)).2.2.1, (G.1 135 (by decide)).1]; exact k1
    · rw [(C 78 (by decide)).2.2.1, (G.1 176 (by decide)).1]; exact k2
end
