/-! beside: what it rests on, and what is kept of it -/
def VB (nw nof no : Nat) (SC SR : Sg) : Prop := ∃ (A B M cn : Nat → Nat) (nc m : Nat) (E D : Nat → Nat → Nat) (hd : Nat → Option Nat) (ks : Nat) (W K F T hn : Nat → Nat), IN nw nof A B M cn SC SR ∧ ID nw M nc m E D hd SC SR ∧ IP nw ks W K F T SC SR ∧ IO no SC SR ∧ ICrew hn (ai SC 16) (ai SR 135)
def A5 (R : Sg) (a : Nat → Int32) : Prop := fi R 127 78 = a 0 ∧ fi R 127 79 = a 1 ∧ fi R 127 80 = a 2 ∧ fi R 127 81 = a 3 ∧ fi R 127 82 = a 4
section
variable {nw nof no : Nat} {SC SR R : Sg}
theorem NetM_v {A B M : Nat → Nat} (H : NetM nw A B M (ai SR 128) (ai SR 129) (ai SR 130)) (h : ∀ w, w < nw → ai R 128 w = ai SR 128 w ∧ ai R 129 w = ai SR 129 w ∧ ai R 130 w = ai SR 130 w) : NetM nw A B M (ai R 128) (ai R 129) (ai R 130) := by
  refine ⟨H.1, fun w hw => ?_⟩
  obtain ⟨h1, h2, h3⟩ := h w hw
  rw [h1, h2, h3]
  exact H.2 w hw
theorem IN_pb {A B M cn : Nat → Nat} (H : IN nw nof A B M cn SC SR) (h : PBk nw SR R) : IN nw nof A B M cn SC R := by
  obtain ⟨b1, b2, b3, b4, b5, g, b6⟩ := h
  obtain ⟨n1, n2, n3, n4, n5, n6, n7, n8, n9, n10, n11, n12⟩ := H
  refine ⟨n1, n2, n3, by rw [(g.2 0 (by decide)).1]; exact n4, n5, by rw [(g.2 72 (by decide)).1]; exact n6, b4, n8, NetM_v n9 b6, ?_, n11, fun e => by rw [b5] at e; exact Bool.noConfusion e⟩
  rw [(g.1 178 (by decide)).1, (g.1 179 (by decide)).1, (g.1 180 (by decide)).1, (g.1 181 (by decide)).1]
  exact n10
theorem ID_pb {M : Nat → Nat} {nc m : Nat} {E D : Nat → Nat → Nat} {hd : Nat → Option Nat} (H : ID nw M nc m E D hd SC SR) (h : PBk nw SR R) : ID nw M nc m E D hd SC R := by
  obtain ⟨b1, b2, b3, b4, b5, g, b6⟩ := h
  exact ID_bk H (g.2 38 (by decide)).1 (g.2 39 (by decide)).1 b3 b1 b2 fun a l1 l2 => g.1 a (by unfold bzY; simp; omega)
theorem IP_pb {ks : Nat} {W K F T : Nat → Nat} (H : IP nw ks W K F T SC SR) (h : PBk nw SR R) : IP nw ks W K F T SC R := IP_ag (AgC.rf (X := [])) h.2.2.2.2.2.1 (by decide) (by decide) (by decide) H
theorem IO_pb (H : IO no SC SR) (h : PBk nw SR R) : IO no SC R := IO_ag (AgC.rf (X := [])) h.2.2.2.2.2.1 (by decide) (by decide) (by decide) H
theorem IK_pb (H : IK SC SR) (h : PBk nw SR R) : IK SC R := IK_ag (AgC.rf (X := [])) h.2.2.2.2.2.1 (by decide) (by decide) (by decide) H
theorem IClk2_pb (H : IClk2 SC SR) (h : PBk nw SR R) : IClk2 SC R := IClk2_ag (AgC.rf (X := [])) h.2.2.2.2.2.1 (by decide) (by decide) (by decide) H
theorem VB_pb (H : VB nw nof no SC SR) (h : PBk nw SR R) : VB nw nof no SC R := by
  obtain ⟨A, B, M, cn, nc, m, E, D, hd, ks, W, K, F, T, hn, h1, h2, h3, h4, h5⟩ := H
  refine ⟨A, B, M, cn, nc, m, E, D, hd, ks, W, K, F, T, hn, IN_pb h1 h, ID_pb h2 h, IP_pb h3 h, IO_pb h4 h, ?_⟩
  rw [(h.2.2.2.2.2.1.1 135 (by decide)).1]
  exact h5
/-- what the spare day answers, one number only -/
theorem CA_run {S : Sg} {a : Nat → Int32} (h : CA no S a) (hc : CIs no (ctn (ai S 18)) (ctn (ai S 19)) (ctn (ai S 20)) S) : (∀ Q, WP (Day_waitedInAll 80) S Q ↔ Q (a 0) S) ∧ (∀ Q, WP (Day_howMany 80 (Int32.ofNat 3)) S Q ↔ Q (a 1) S) ∧ (∀ Q, WP (Day_howMany 80 (Int32.ofNat 4)) S Q ↔ Q (a 2) S) ∧ WP (Day_chargesInAll 80) S (fun v S' => v = a 3 ∧ LkC S S' ∧ CIs no (ctn (ai S 18)) (ctn (ai S 19)) (ctn (ai S 20)) S') ∧ fi S 80 7 = a 4 := by
  obtain ⟨f, n, A, B, M, nc, nR, mx, E, D, hd, X, X', h1, h2, h3, h4, h5, h6, h7, h8, h9, h10, h11⟩ := h
  refine ⟨fun Q => by rw [h7]; exact wp_waitedInAll h1 (by omega) Q, fun Q => by rw [h8]; exact wp_howMany h1 (by decide) Q, fun Q => by rw [h9]; exact wp_howMany h1 (by decide) Q, ?_, h11.symm⟩
  have hw : W2 (Day_chargesInAll 80) S MO_chargesAll X (fun r S' r' R' => r = r' ∧ LkC S S' ∧ CIs no (ctn (ai S 18)) (ctn (ai S 19)) (ctn (ai S 20)) S') := R_charges (Or.inr rfl) h1 h2 h3 h4 h5 hc h6 fun r S' R' q1 q2 q3 => ⟨rfl, q1, q3⟩
  refine WP.mono hw fun v S' h => ?_
  obtain ⟨u, R', e, rfl, q1, q3⟩ := h
  rw [h10] at e
  exact ⟨(congrArg Prod.fst (Option.some.inj e)).symm, q1, q3⟩
theorem CA_one {S : Sg} {a b : Nat → Int32} (h : CA no S a) (g : CA no S b) (hc : CIs no (ctn (ai S 18)) (ctn (ai S 19)) (ctn (ai S 20)) S) : a 0 = b 0 ∧ a 1 = b 1 ∧ a 2 = b 2 ∧ a 3 = b 3 ∧ a 4 = b 4 := by
  obtain ⟨h0, h1, h2, h3, h4⟩ := CA_run h hc
  obtain ⟨g0, g1, g2, g3, g4⟩ := CA_run g hc
  refine ⟨?_, ?_, ?_, ?_, h4.symm.trans g4⟩
  · have e1 := (h0 (fun v _ => v = a 0)).2 rfl
    exact (((g0 _).1 e1)).symm
  · have e1 := (h1 (fun v _ => v = a 1)).2 rfl
    exact (((g1 _).1 e1)).symm
  · have e1 := (h2 (fun v _ => v = a 2)).2 rfl
    exact (((g2 _).1 e1)).symm
  · obtain ⟨v, S', e, e1, -⟩ := h3
    obtain ⟨v', S2, e', e2, -⟩ := g3
    rw [e] at e'
    rw [← e1, ← e2]
    exact congrArg Prod.fst (Option.some.inj e')
/-- the reference's answer is one for all alike -/
def BI (nw nof no : Nat) (SB : Sg) (out : Int32) (s : Nat) (a : Nat → Int32) : Prop := ∀ R, VB nw nof no SB R → WP (MO_goBeside out (Int32.ofNat s)) R fun _ R' => PBk nw R R' ∧ A5 R' a
theorem VB_go (H : VB nw nof no SC SR) {s : Nat} (hs : s < 2 ^ nof) (out : Int32) : W2 (lp FU (Day_replay_l1 80 29) (Int32.ofNat 0)) (RH SC out (LnS nw s)) (MO_goBeside out (Int32.ofNat s)) SR fun _ S _ R => ∃ a, CA no S a ∧ (∃ A B M, PC nw nof A B M no s out SC S) ∧ PBk nw SR R ∧ A5 R a := by
  obtain ⟨A, B, M, cn, nc, m, E, D, hd, ks, W, K, F, T, hn, h1, h2, h3, h4, h5⟩ := H
  exact R_goB h1 h2 h3 h4 h5 hs out fun S R a q1 q2 q3 q4 => ⟨a, q1, ⟨A, B, M, q2⟩, q3, q4⟩
theorem VB_BI (H : VB nw nof no SC SR) {s : Nat} (hs : s < 2 ^ nof) (out : Int32) : ∃ a, BI nw nof no SC out s a := by
  obtain ⟨u, S, e, v, R, e2, a, h1, ⟨A, B, M, h2⟩, -⟩ := VB_go H hs out
  refine ⟨a, fun R' hR => ?_⟩
  obtain ⟨u', S', e', v', R2, e3, b, g1, -, g3, g4⟩ := VB_go hR hs out
  rw [e] at e'
  have eS : S' = S := (congrArg Prod.snd (Option.some.inj e')).symm
  rw [eS] at g1
  obtain ⟨c0, c1, c2, c3, c4⟩ := CA_one h1 g1 h2.2.2.2.2.2.2
  refine ⟨v', R2, e3, g3, ?_⟩
  unfold A5 at g4 ⊢
  rw [c0, c1, c2, c3, c4]
  exact g4
/-- a run of the class answers as the base does -/
theorem VB_alike {A B M cn : Nat → Nat} {nc m : Nat} {E D : Nat → Nat → Nat} {hd : Nat → Option Nat} {ks : Nat} {W K F T hn : Nat → Nat} {SB : Sg} (HB : VB nw nof no SB SR) (h1 : IN nw nof A B M cn SC SR) (h2 : ID nw M nc m E D hd SC SR) (h3 : IP nw ks W K F T SC SR) (h4 : IO no SC SR) (h5 : ICrew hn (ai SC 16) (ai SR 135)) {s : Nat} (hs : s < 2 ^ nof) (out : Int32) : W2 (lp FU (Day_replay_l1 80 29) (Int32.ofNat 0)) (RH SC out (LnS nw s)) (MO_goBeside out (Int32.ofNat s)) SR fun _ S _ R => ∃ a, CA no S a ∧ PC nw nof A B M no s out SC S ∧ PBk nw SR R ∧ A5 R a ∧ BI nw nof no SB out s a := by
  obtain ⟨b, hb⟩ := VB_BI HB hs out
  refine WP.mono (R_goB h1 h2 h3 h4 h5 hs out (Q := fun _ S _ R => ∃ a, CA no S a ∧ PC nw nof A B M no s out SC S ∧ PBk nw SR R ∧ A5 R a) fun S R a q1 q2 q3 q4 => ⟨a, q1, q2, q3, q4⟩) fun _ S h => ?_
  obtain ⟨v, R, e, a, h1, h2, h3, h4⟩ := h
  refine ⟨v, R, e, a, h1, h2, h3, h4, fun R2 hR2 => ?_⟩
  obtain ⟨v', R', e', -, g4⟩ := hb SR HB
  rw [e] at e'
  have eR : R' = R := (congrArg Prod.snd (Option.some.inj e')).symm
  rw [eR] at g4
  refine WP.mono (hb R2 hR2) fun _ T hT => ⟨hT.1, ?_⟩
  obtain ⟨-, t⟩ := hT
  unfold A5 at h4 g4 t ⊢
  rw [← h4.1, ← h4.2.1, ← h4.2.2.1, ← h4.2.2.2.1, ← h4.2.2.2.2, g4.1, g4.2.1, g4.2.2.1, g4.2.2.2.1, g4.2.2.2.2]
  exact t
end
theorem LnS_inj {nw s s' : Nat} (hn : nw ≤ 16) (hs : s < 16) (hs' : s' < 16) (h : LnS nw s = LnS nw s') : s = s' := by
  apply Nat.eq_of_testBit_eq
  intro i
  by_cases hi : i < 4
  · have h1 : bt (LnS nw s) (16 + i) = bt (LnS nw s') (16 + i) := by rw [h]
    unfold LnS at h1
    rw [ln_bt (fun x hx => bt_pow hn hx) (by omega), ln_bt (fun x hx => bt_pow hn hx) (by omega)] at h1
    rw [decide_eq_false (by omega), decide_eq_true (by omega), Bool.false_or, Bool.true_and, Bool.false_or, Bool.true_and, Nat.add_sub_cancel_left] at h1
    exact h1
  · have h2 : ∀ x, x < 16 → x.testBit i = false := fun x hx => Nat.testBit_lt_two_pow (Nat.lt_of_lt_of_le hx (show 2 ^ 4 ≤ 2 ^ i from Nat.pow_le_pow_right (by decide) (by omega)))
    rw [h2 s hs, h2 s' hs']
