/-! beside: the whole of it, on both sides -/
theorem W2.rr {α β γ : Type} {p : PM α} {S : Sg} {q1 : PM γ} {q2 : γ → PM β} {R : Sg} {Q : α → Sg → β → Sg → Prop} (h : W2 p S q1 R fun a S1 b R1 => WP (q2 b) R1 fun u R2 => Q a S1 u R2) : W2 p S (mb q1 q2) R Q := WP.mono h fun _ _ h2 => (wp_mb _ _ _ _).2 h2
theorem wp_gI (a k : Nat) (S : Sg) (Q : Int32 → Sg → Prop) : WP (gI a k) S Q ↔ Q (fi S a k) S := by
  rw [rd_gI, wp_rd]
  exact ⟨fun h => h.2, fun h => ⟨rfl, h⟩⟩
def LnS (nw s : Nat) : Int32 := Int32.ofNat (2 ^ nw - 1) ||| jsh (Int32.ofNat s) (Int32.ofNat 16)
def bzY : List Nat := [128, 129, 130, 136, 137, 138, 139, 147, 148, 149, 158, 159, 160, 161, 162, 163, 164, 165, 166, 167, 168, 169, 170, 171, 172, 173, 182]
def bzZ : List Nat := [1, 11, 15, 24, 34, 36, 37, 59, 64, 78, 79, 80, 81, 82]
/-- what the spare day answers -/
def CA (no : Nat) (S : Sg) (a : Nat → Int32) : Prop := ∃ (f : Nat → Nat) (n : Nat) (A B M : Nat → Nat) (nc nR mx : Nat) (E D : Nat → Nat → Nat) (hd : Nat → Option Nat) (X X' : Sg), DD 80 f n M nc nR mx E D hd S X ∧ mx ≤ 480 ∧ SS 80 nc nR E S X ∧ NetM n A B M (ai X 128) (ai X 129) (ai X 130) ∧ ODs no (ctn (ai S 18)) (ctn (ai S 19)) (ctn (ai S 20)) S X ∧ fi X 127 24 = fi S 80 13 ∧ a 0 = Int32.ofNat (sumN (D 5) nc) ∧ a 1 = Int32.ofNat (cntN (fun c => decide (D 0 c = 3)) nc) ∧ a 2 = Int32.ofNat (cntN (fun c => decide (D 0 c = 4)) nc) ∧ MO_chargesAll X = some (a 3, X') ∧ a 4 = fi S 80 7
/-- the reference is as it was -/
def PBk (nw : Nat) (SR R : Sg) : Prop := (∀ c, c < 40 → BKc SR R c) ∧ (∀ w, w < 20 → BKw SR R w) ∧ fi R 127 59 = fi SR 127 59 ∧ fi R 127 1 = Int32.ofNat 0 ∧ fb R 127 11 = false ∧ AgR bzY bzZ SR R ∧ ∀ w, w < nw → ai R 128 w = ai SR 128 w ∧ ai R 129 w = ai SR 129 w ∧ ai R 130 w = ai SR 130 w
/-- the class has another spare day -/
def PC (nw nof : Nat) (A B M : Nat → Nat) (no s : Nat) (out : Int32) (SC S : Sg) : Prop := AgC bsC SC S ∧ fi S 80 13 = out ∧ fi S 80 10 = LnS nw s ∧ fb S 80 14 = true ∧ (∀ b, b ≠ 8 → fi S 2 b = fi SC 2 b) ∧ (∃ u, fi S 2 8 = Int32.ofNat u ∧ IPool (LN nw nof) A B M u (ai S 7) (ai S 8) (ai S 9) (ai S 10)) ∧ CIs no (ctn (ai S 18)) (ctn (ai S 19)) (ctn (ai S 20)) S
section
variable {nw nof : Nat} {A B M cn : Nat → Nat} {nc m : Nat} {E D : Nat → Nat → Nat} {hd : Nat → Option Nat} {SC SR : Sg} {ks no : Nat} {W K F T : Nat → Nat} {hn : Nat → Nat}
theorem RH_Ag (out lines : Int32) : AgC [80] SC (RH SC out lines) := fun a ha => by
  have h80 : a ≠ 80 := fun e => ha (by rw [e]; decide)
  exact ⟨funext fun b => RH_x (Or.inl h80), funext fun b => RH_a.2.2 a b (Or.inl h80), rfl, rfl⟩
theorem LkR_g {a b : Nat} {S S' : Sg} (h : LkR S S') (hb : b ≠ 34 ∧ b ≠ 36 ∧ b ≠ 37) : fi S' 127 b = fi S 127 b := h.1 127 b (Or.inr hb)
set_option maxHeartbeats 4000000 in
theorem R_goB (HN : IN nw nof A B M cn SC SR) (HD : ID nw M nc m E D hd SC SR) (HP : IP nw ks W K F T SC SR) (HO : IO no SC SR) (HC : ICrew hn (ai SC 16) (ai SR 135)) {s : Nat} (hs : s < 2 ^ nof) (out : Int32) {Q : Unit → Sg → Unit → Sg → Prop} (hQ : ∀ S R a, CA no S a → PC nw nof A B M no s out SC S → PBk nw SR R → (fi R 127 78 = a 0 ∧ fi R 127 79 = a 1 ∧ fi R 127 80 = a 2 ∧ fi R 127 81 = a 3 ∧ fi R 127 82 = a 4) → Q () S () R) : W2 (lp FU (Day_replay_l1 80 29) (Int32.ofNat 0)) (RH SC out (LnS nw s)) (MO_goBeside out (Int32.ofNat s)) SR Q := by
  obtain ⟨n1, n2, n3, n4, n5, n6, n7, n8, n9, n10, ⟨uc, u1, u2⟩, n12⟩ := id HN
  obtain ⟨d1, d2, d3, d4, d5, d6, d7, d8, d9, d10⟩ := id HD
  have hnc : nc ≤ 40 := d1.1.2.1
  have h39 := d1.2.2.1.1
  have h29 := d1.2.1.1
  unfold MO_goBeside
  refine W2.r ((wp_mb _ _ _ _).2 ((wp_at _ _).2 ((wp_mb _ _ _ _).2 ((wp_at _ _).2 (rm_save _ fun g hg => ?_)))))
  refine W2.r ((wp_at _ _).2 ?_)
  refine W2.r (WP.mono (rm_fresh1 (SR := sa SR 169 g) hnc h39) fun _ T1 hT1 => ?_)
  refine W2.r ((wp_at _ _).2 ?_)
  refine W2.r (WP.mono (rm_fresh2 (SR := T1)) fun _ T2 hT2 => ?_)
  have G0 : AgR [169] [] SR (sa SR 169 g) := AgR.rf.sa (by decide)
  have G2 : AgR [158, 159, 160, 162, 163, 164, 165, 166, 167, 168, 169, 182] [1, 59, 24] SR (ufi T2 127 59 (Int32.ofNat 0)) := ((((G0.mo (by decide) (by decide)).tr (hT1.2.mo (by decide) (by decide))).tr (hT2.2.mo (by decide) (by decide)))).ufi (by decide)
  refine W2.r ((wp_mb _ _ _ _).2 ((wp_at _ _).2 ((wp_sI _ _ _ _ _).2 ?_)))
  refine W2.r ((wp_mb _ _ _ _).2 ((wp_at _ _).2 ((wp_mb _ _ _ _).2 ((wp_at _ _).2 (rm_addOffers HN G2 hs fun f j T4 o1 o2 o3 o4 o5 => ?_)))))
  refine W2.r ((wp_mb _ _ _ _).2 ((wp_at _ _).2 ((wp_sI _ _ _ _ _).2 ?_)))
  refine W2.r ((wp_at _ _).2 ?_)
  have hjn : j ≤ nof := o1.2.2.2.2
  have hlt : nw + j ≤ 20 := by omega
  have G3 : AgR [128, 129, 130, 158, 159, 160, 162, 163, 164, 165, 166, 167, 168, 169, 182] [1, 11, 24, 59] SR (ufi T4 127 24 out) := (((G2.mo (by decide) (by decide)).tr (o5.mo (by decide) (by decide)))).ufi (by decide)
  have e1 : fi (ufi T4 127 24 out) 127 1 = Int32.ofNat j := by rw [fi_ufi2 _ _ _ _ _ _ (by decide)]; exact o2
  have e59 : fi (ufi T4 127 24 out) 127 59 = Int32.ofNat 0 := by
    rw [fi_ufi2 _ _ _ _ _ _ (by decide), (o5.2 59 (by decide)).1]; exact fi_ufi _ _ _ _
  have e24 : fi (ufi T4 127 24 out) 127 24 = out := fi_ufi _ _ _ _
  have e11 : fb (ufi T4 127 24 out) 127 11 = false := o3
  have eN : NetM (nw + j) (fun w => A (f w)) (fun w => B (f w)) (fun w => M (f w)) (ai (ufi T4 127 24 out) 128) (ai (ufi T4 127 24 out) 129) (ai (ufi T4 127 24 out) 130) := o4
  have e169 : ai (ufi T4 127 24 out) 169 = g := by
    show ai T4 169 = g
    rw [(o5.1 169 (by decide)).1]
    show ai T2 169 = g
    rw [(hT2.2.1 169 (by decide)).1, (hT1.2.1 169 (by decide)).1]
    exact ai_sa _ _ _
  have e166 : ∀ w, w < 20 → ai (ufi T4 127 24 out) 166 w = nn := fun w hw => by
    show ai T4 166 w = nn
    rw [(o5.1 166 (by decide)).1]
    exact hT2.1 w hw
  have eFR : ∀ c, c < nc → ai (ufi T4 127 24 out) 182 c = (if ai SR 158 c = Int32.ofNat 5 then ai SR 160 c else nn) ∧ ai (ufi T4 127 24 out) 158 c = nn := fun c hc => by
    have h := hT1.1.1 c hc
    have x1 : ai (ufi T4 127 24 out) 182 = ai T1 182 := by
      show ai T4 182 = _
      rw [(o5.1 182 (by decide)).1]
      show ai T2 182 = _
      rw [(hT2.2.1 182 (by decide)).1]
    have x2 : ai (ufi T4 127 24 out) 158 = ai T1 158 := by
      show ai T4 158 = _
      rw [(o5.1 158 (by decide)).1]
      show ai T2 158 = _
      rw [(hT2.2.1 158 (by decide)).1]
    rw [x1, x2]
    exact ⟨h.1, h.2.1⟩
  generalize ufi T4 127 24 out = R0 at *
  have C0 : AgC [80] SC (RH SC out (LnS nw s)) := RH_Ag _ _
  obtain ⟨z1, z2, z3, z4, z5, z6, z7⟩ := RH_v (S := SC) (out := out) (lines := LnS nw s)
  have zb : ∀ a b, (a ≠ 80 ∨ b ≠ 14) → fb (RH SC out (LnS nw s)) a b = fb SC a b := RH_a.2.2
  have z2f : ∀ b, fi (RH SC out (LnS nw s)) 2 b = fi SC 2 b := fun b => RH_x (Or.inl (by decide))
  generalize RH SC out (LnS nw s) = S0 at *
  have ca : ∀ a, a ≠ 80 → ai S0 a = ai SC a := fun a h => (C0 a (by simp; exact h)).2.2.1
  have cf : ∀ a, a ≠ 80 → fi S0 a = fi SC a := fun a h => (C0 a (by simp; exact h)).1
  have hv : ∀ c, c < nc → ai R0 182 c = fi SC (29 + 6 + c) 7 := fun c hc => by
    rw [(eFR c hc).1, (d9.1 c hc).2.2.1]
    obtain ⟨k0, -, k2, -⟩ := d1.2.2.1.2.2.1 c hc
    have k5 : D 0 c ≤ 5 := (d1.2.2.2.1 c hc).1
    rw [k0]
    by_cases e : D 0 c = 5
    · rw [if_pos e, if_pos (by rw [e])]; exact k2 (Or.inr rfl)
    · rw [if_neg e, if_neg (fun h => e ((ofN_inj (by omega) (by omega)).1 h))]
  have hph : Phi f (nw + j) (fi S0 80 10) (LN nw nof) A B M (fun w => A (f w)) (fun w => B (f w)) (fun w => M (f w)) := by
    refine OF_phi n1 n2 o1 hs fun x hx => ?_
    rw [z2]
    exact ln_bt (fun x hx => bt_pow n1 hx) hx
  have hinj : Inj f (nw + j) := by
    refine ⟨fun w hw => (hph.2.1 w hw).1, fun w w' hw hw' he => ?_⟩
    apply Decidable.byContradiction
    intro hne
    rcases Nat.lt_or_gt_of_ne hne with h | h
    · have := o1.2.2.2.1 w w' h hw'; omega
    · have := o1.2.2.2.1 w' w h hw; omega
  have HSS : SS 29 nc nc E S0 R0 := fun c hc => by
    obtain ⟨v1, v2, v3, v4, v5, v6, v7, v8, v9⟩ := d2 c hc
    have gg : ∀ a, a ∈ [150, 151, 152, 153, 154, 155] → ai R0 a = ai SR a := fun a ha => (G3.1 a (by simp at ha ⊢; omega)).1
    rw [gg 150 (by decide), gg 151 (by decide), gg 152 (by decide), gg 153 (by decide), gg 154 (by decide), gg 155 (by decide), cf _ (by omega)]
    exact ⟨v1, v2, v3, v4, v5, v6, v7, v8, v9⟩
  have hO0 : ODs no (ctn (ai SC 18)) (ctn (ai SC 19)) (ctn (ai SC 20)) S0 R0 := ODs_cg (IO_OD HO) (by rw [cf 17 (by decide)]) (G3.2 17 (by decide)).1 (fun a l1 l2 => ca a (by omega)) (fun a l1 l2 => (G3.1 a (by simp; omega)).1)
  have HS : SPS f (nw + j) nw j (LN nw nof) A B M (fun w => A (f w)) (fun w => B (f w)) (fun w => M (f w)) ks W K F T no (ctn (ai SC 18)) (ctn (ai SC 19)) (ctn (ai SC 20)) hn nc E (fun c => fi SC (29 + 6 + c) 7) S0 R0 := by
    refine ⟨hO0, by rw [e24, z1], hph, ?_, eN, by rw [(G3.2 0 (by decide)).1]; exact n4, e1, rfl, n1, IP_ag (C0.mo (X' := [80]) (fun _ h => h)) G3 (by decide) (by decide) (by decide) HP, fun mm w hw => OF_wy n1 HP.2 o1 mm w hw, fun mm w h1 h2 => wy_off HP.2 h1, ?_, HSS, fun c hc => by rw [cf _ (by omega)], hv, d9.2.1, by rw [cf 29 (by decide)]; exact h29⟩
    · rw [ca 3 (by decide), ca 4 (by decide), ca 5 (by decide)]; exact n8
    · rw [ca 16 (by decide), (G3.1 135 (by decide)).1]; exact HC
  have HM : SPM f (nw + j) (LN nw nof) A B M (fun w => A (f w)) (fun w => B (f w)) (fun w => M (f w)) no (ctn (ai SC 18)) (ctn (ai SC 19)) (ctn (ai SC 20)) 0 nc 0 E (fun c => fi SC (29 + 6 + c) 7) S0 R0 S0 R0 := by
    refine ⟨⟨D0, fun _ => none, DD_new hnc hlt hinj z3 z6 (by rw [(G3.2 39 (by decide)).1]; exact h39) e166 fun c hc => (eFR c hc).2⟩, fun c hc => ?_, fun c hc => absurd hc (Nat.not_lt_zero c), ⟨uc, by rw [z2f]; exact u1, ?_, fun c hc => absurd hc (Nat.not_lt_zero c)⟩, ?_, z4, by rw [z5, e59], fun h => ?_, fun c hc => ⟨fun h => absurd h (Nat.not_lt_zero _), fun h => absurd h (Nat.not_lt_zero _)⟩, AgC.rf, AgR.rf, fun _ _ _ _ _ _ _ => rfl, fun _ _ => rfl, rfl⟩
    · obtain ⟨v1, v2, v3, v4, v5, v6, v7, v8, v9⟩ := HSS c hc
      exact ⟨v1, v2, v3, v4, v5, v6, v7, v8, fun h => absurd h (Nat.not_lt_zero c)⟩
    · rw [ca 7 (by decide), ca 8 (by decide), ca 9 (by decide), ca 10 (by decide)]; exact u2
    · rw [ca 21 (by decide), ca 22 (by decide), ca 25 (by decide), ca 26 (by decide), cf 24 (by decide)]; exact HO.2
    · rw [e11] at h; exact Bool.noConfusion h
  refine W2.rr (R_spare HS HM d3 (by rw [cf 29 (by decide)]; exact d4) (by rw [(G3.2 38 (by decide)).1]; exact d5) fun nc' S R hF => ?_)
  obtain ⟨⟨D', hd', f1⟩, f2, f3, ⟨u', p1, p2, p3⟩, f5, f6, f7, f8, f9, f10, f11, f12, f13, f14⟩ := hF
  have hDD : ∀ R', AgR [] [78, 79, 80, 81, 82] R R' → DD 80 f (nw + j) (fun w => M (f w)) nc' nc m E D' hd' S R' := fun R' g => DD_cg f1 rfl rfl (fun _ _ _ _ _ => rfl) (g.2 39 (by decide)).1 (fun a _ _ => (g.1 a (by simp)).1)
  refine (wp_mb _ _ _ _).2 ((wp_mb _ _ _ _).2 ((wp_mb _ _ _ _).2 ((wp_at _ _).2 ((rm_waitedAll f1 _).2 ((wp_sI _ _ _ _ _).2 ?_)))))
  have A1 : AgR [] [78, 79, 80, 81, 82] R (ufi R 127 78 (Int32.ofNat (sumN (D' 5) nc'))) := AgR.rf.ufi (by decide)
  refine (wp_mb _ _ _ _).2 ((wp_mb _ _ _ _).2 ((wp_mb _ _ _ _).2 ((wp_at _ _).2 ((wp_mb _ _ _ _).2 ((wp_at _ _).2 ((rm_callsIn (s := 3) (hDD _ A1) (by decide) _).2 ((wp_sI _ _ _ _ _).2 ?_)))))))
  have A2 := A1.ufi (k := 79) (v := Int32.ofNat (cntN (fun c => decide (D' 0 c = 3)) nc')) (by decide)
  refine (wp_mb _ _ _ _).2 ((wp_mb _ _ _ _).2 ((wp_mb _ _ _ _).2 ((wp_at _ _).2 ((wp_mb _ _ _ _).2 ((wp_at _ _).2 ((rm_callsIn (s := 4) (hDD _ A2) (by decide) _).2 ((wp_sI _ _ _ _ _).2 ?_)))))))
  have A3 := A2.ufi (k := 80) (v := Int32.ofNat (cntN (fun c => decide (D' 0 c = 4)) nc')) (by decide)
  have r78 : fi (ufi (ufi (ufi R 127 78 (Int32.ofNat (sumN (D' 5) nc'))) 127 79 (Int32.ofNat (cntN (fun c => decide (D' 0 c = 3)) nc'))) 127 80 (Int32.ofNat (cntN (fun c => decide (D' 0 c = 4)) nc'))) 127 78 = Int32.ofNat (sumN (D' 5) nc') := by simp (disch := omega) only [fi_ufi, fi_ufi1, fi_ufi2, fb_ufb, fb_ufb1, fb_ufb2, fl_ufl, fl_ufl1, fl_ufl2, fr_ufr, fr_ufr1, fr_ufr2, ai_sa, ai_sa1, ab_sab, ab_sab1, ar_sar, ar_sar1, upf_eq, upf_ne, fi_ufb, fi_ufl, fi_ufr, fi_sa, fi_sab, fi_sar, fb_ufi, fb_ufl, fb_ufr, fb_sa, fb_sab, fb_sar, fl_ufi, fl_ufb, fl_ufr, fl_sa, fl_sab, fl_sar, fr_ufi, fr_ufb, fr_ufl, fr_sa, fr_sab, fr_sar, ai_ufi, ai_ufb, ai_ufl, ai_ufr, ai_sab, ai_sar, ab_ufi, ab_ufb, ab_ufl, ab_ufr, ab_sa, ab_sar, ar_ufi, ar_ufb, ar_ufl, ar_ufr, ar_sa, ar_sab, sa_sa, sab_sab, sar_sar, upf_upf, ufi_ufi]
  have r79 : fi (ufi (ufi (ufi R 127 78 (Int32.ofNat (sumN (D' 5) nc'))) 127 79 (Int32.ofNat (cntN (fun c => decide (D' 0 c = 3)) nc'))) 127 80 (Int32.ofNat (cntN (fun c => decide (D' 0 c = 4)) nc'))) 127 79 = Int32.ofNat (cntN (fun c => decide (D' 0 c = 3)) nc') := by simp (disch := omega) only [fi_ufi, fi_ufi1, fi_ufi2, fb_ufb, fb_ufb1, fb_ufb2, fl_ufl, fl_ufl1, fl_ufl2, fr_ufr, fr_ufr1, fr_ufr2, ai_sa, ai_sa1, ab_sab, ab_sab1, ar_sar, ar_sar1, upf_eq, upf_ne, fi_ufb, fi_ufl, fi_ufr, fi_sa, fi_sab, fi_sar, fb_ufi, fb_ufl, fb_ufr, fb_sa, fb_sab, fb_sar, fl_ufi, fl_ufb, fl_ufr, fl_sa, fl_sab, fl_sar, fr_ufi, fr_ufb, fr_ufl, fr_sa, fr_sab, fr_sar, ai_ufi, ai_ufb, ai_ufl, ai_ufr, ai_sab, ai_sar, ab_ufi, ab_ufb, ab_ufl, ab_ufr, ab_sa, ab_sar, ar_ufi, ar_ufb, ar_ufl, ar_ufr, ar_sa, ar_sab, sa_sa, sab_sab, sar_sar, upf_upf, ufi_ufi]
  have r80 : fi (ufi (ufi (ufi R 127 78 (Int32.ofNat (sumN (D' 5) nc'))) 127 79 (Int32.ofNat (cntN (fun c => decide (D' 0 c = 3)) nc'))) 127 80 (Int32.ofNat (cntN (fun c => decide (D' 0 c = 4)) nc'))) 127 80 = Int32.ofNat (cntN (fun c => decide (D' 0 c = 4)) nc') := by simp (disch := omega) only [fi_ufi, fi_ufi1, fi_ufi2, fb_ufb, fb_ufb1, fb_ufb2, fl_ufl, fl_ufl1, fl_ufl2, fr_ufr, fr_ufr1, fr_ufr2, ai_sa, ai_sa1, ab_sab, ab_sab1, ar_sar, ar_sar1, upf_eq, upf_ne, fi_ufb, fi_ufl, fi_ufr, fi_sa, fi_sab, fi_sar, fb_ufi, fb_ufl, fb_ufr, fb_sa, fb_sab, fb_sar, fl_ufi, fl_ufb, fl_ufr, fl_sa, fl_sab, fl_sar, fr_ufi, fr_ufb, fr_ufl, fr_sa, fr_sab, fr_sar, ai_ufi, ai_ufb, ai_ufl, ai_ufr, ai_sab, ai_sar, ab_ufi, ab_ufb, ab_ufl, ab_ufr, ab_sa, ab_sar, ar_ufi, ar_ufb, ar_ufl, ar_ufr, ar_sa, ar_sab, sa_sa, sab_sab, sar_sar, upf_upf, ufi_ufi]
  generalize ufi (ufi (ufi R 127 78 (Int32.ofNat (sumN (D' 5) nc'))) 127 79 (Int32.ofNat (cntN (fun c => decide (D' 0 c = 3)) nc'))) 127 80 (Int32.ofNat (cntN (fun c => decide (D' 0 c = 4)) nc')) = R3 at *
  have CS : AgC bsC SC S := (C0.mo (by decide)).tr f10
  have G4 : AgR bzY [1, 11, 15, 24, 34, 36, 37, 59, 64, 78, 79, 80, 81, 82] R0 R3 := (f11.mo (by decide) (by decide)).tr (A3.mo (by decide) (by decide))
  have G4' : AgR bsY bzZ R0 R3 := (f11.mo (fun _ h => h) (by decide)).tr (A3.mo (by decide) (by decide))
  have k18 : ∀ a, 18 ≤ a → a ≤ 23 → ai S a = ai SC a := fun a l1 l2 => (CS a (by unfold bsC spC; simp; omega)).2.2.1
  have hNM : NetM (nw + j) (fun w => A (f w)) (fun w => B (f w)) (fun w => M (f w)) (ai R3 128) (ai R3 129) (ai R3 130) := by
    rw [(G4'.1 128 (by decide)).1, (G4'.1 129 (by decide)).1, (G4'.1 130 (by decide)).1]; exact eN
  have hOD : ODs no (ctn (ai SC 18)) (ctn (ai SC 19)) (ctn (ai SC 20)) S R3 := ODs_cg hO0 (by rw [(f10 17 (by decide)).1]) (G4'.2 17 (by decide)).1 (fun a l1 l2 => (f10 a (by unfold bsC spC; simp; omega)).2.2.1) (fun a l1 l2 => (G4'.1 a (by unfold bsY; simp; omega)).1)
  have e13 : fi S 80 13 = out := by rw [f12 13 (by decide) (by decide) (by decide) (by decide) (by decide) (by decide)]; exact z1
  have hwo : fi R3 127 24 = fi S 80 13 := by rw [e13, (A3.2 24 (by decide)).1, (f11.2 24 (by decide)).1]; exact e24
  have hSS3 : SS 80 nc' nc E S R3 := fun c hc => by
    obtain ⟨v1, v2, v3, v4, v5, v6, v7, v8, v9⟩ := f2 c hc
    have gg : ∀ a, a ∈ [150, 151, 152, 153, 154, 155] → ai R3 a = ai R a := fun a ha => (A3.1 a (by simp)).1
    rw [gg 150 (by decide), gg 151 (by decide), gg 152 (by decide), gg 153 (by decide), gg 154 (by decide), gg 155 (by decide)]
    exact ⟨v1, v2, v3, v4, v5, v6, v7, v8, v9⟩
  have hcw : W2 (Day_chargesInAll 80) S MO_chargesAll R3 (fun _ _ _ R4 => LkR R3 R4) := R_charges (Or.inr rfl) (hDD R3 A3) d3 hSS3 hNM hOD f5 hwo fun r S' R' h1 h2 h3 => h2
  obtain ⟨v, S', -, r, R4, e2, hL⟩ := hcw
  refine (wp_mb _ _ _ _).2 ((wp_mb _ _ _ _).2 ((wp_mb _ _ _ _).2 ((wp_at _ _).2 ⟨r, R4, e2, (wp_sI _ _ _ _ _).2 ?_⟩)))
  refine (wp_mb _ _ _ _).2 ((wp_mb _ _ _ _).2 ((wp_gI _ _ _ _).2 ((wp_sI _ _ _ _ _).2 ?_)))
  have GL := LkR_Ag hL
  have e5 : fi (ufi R4 127 81 r) 127 59 = fi S 80 7 := by
    rw [fi_ufi2 _ _ _ _ _ _ (by decide), (GL.2 59 (by decide)).1, (A3.2 59 (by decide)).1]; exact f7.symm
  rw [e5]
  have G6 : AgR bsY bzZ R0 (ufi (ufi R4 127 81 r) 127 82 (fi S 80 7)) := ((G4'.tr (GL.mo (by decide) (by decide))).ufi (by decide)).ufi (by decide)
  have q78 : fi (ufi (ufi R4 127 81 r) 127 82 (fi S 80 7)) 127 78 = Int32.ofNat (sumN (D' 5) nc') := by
    rw [fi_ufi2 _ _ _ _ _ _ (by decide), fi_ufi2 _ _ _ _ _ _ (by decide), (GL.2 78 (by decide)).1]; exact r78
  have q79 : fi (ufi (ufi R4 127 81 r) 127 82 (fi S 80 7)) 127 79 = Int32.ofNat (cntN (fun c => decide (D' 0 c = 3)) nc') := by
    rw [fi_ufi2 _ _ _ _ _ _ (by decide), fi_ufi2 _ _ _ _ _ _ (by decide), (GL.2 79 (by decide)).1]; exact r79
  have q80 : fi (ufi (ufi R4 127 81 r) 127 82 (fi S 80 7)) 127 80 = Int32.ofNat (cntN (fun c => decide (D' 0 c = 4)) nc') := by
    rw [fi_ufi2 _ _ _ _ _ _ (by decide), fi_ufi2 _ _ _ _ _ _ (by decide), (GL.2 80 (by decide)).1]; exact r80
  have q81 : fi (ufi (ufi R4 127 81 r) 127 82 (fi S 80 7)) 127 81 = r := by
    rw [fi_ufi2 _ _ _ _ _ _ (by decide), fi_ufi]
  have q82 : fi (ufi (ufi R4 127 81 r) 127 82 (fi S 80 7)) 127 82 = fi S 80 7 := fi_ufi _ _ _ _
  generalize ufi (ufi R4 127 81 r) 127 82 (fi S 80 7) = R6 at *
  refine (wp_mb _ _ _ _).2 ((wp_mb _ _ _ _).2 ((wp_at _ _).2 ((wp_mb _ _ _ _).2 ((wp_at _ _).2 (rm_back hg (by rw [(G6.1 169 (by decide)).1]; exact e169) _ fun S2 b1 b2 b3 b4 => ?_)))))
  refine (wp_mb _ _ _ _).2 ((wp_mb _ _ _ _).2 ((wp_at _ _).2 ((wp_sI _ _ _ _ _).2 ?_)))
  refine (wp_mb _ _ _ _).2 ((wp_mb _ _ _ _).2 ((wp_at _ _).2 ((wp_sB _ _ _ _ _).2 ?_)))
  refine (wp_mb _ _ _ _).2 ((wp_mb _ _ _ _).2 ((wp_at _ _).2 ((wp_sI _ _ _ _ _).2 ((wp_at _ _).2 ?_))))
  have G7 : AgR bsY bzZ R0 (ufi (ufb (ufi S2 127 1 (Int32.ofNat 0)) 127 11 false) 127 24 (Int32.ofNat 0)) := (((G6.tr (b4.mo (by decide) (by decide))).ufi (by decide)).ufb (by decide)).ufi (by decide)
  have x : ∀ b, b ≠ 1 → b ≠ 24 → fi (ufi (ufb (ufi S2 127 1 (Int32.ofNat 0)) 127 11 false) 127 24 (Int32.ofNat 0)) 127 b = fi S2 127 b := fun b h1 h2 => by
    rw [fi_ufi2 _ _ _ _ _ _ h2]
    show fi (ufi S2 127 1 (Int32.ofNat 0)) 127 b = _
    rw [fi_ufi2 _ _ _ _ _ _ h1]
  have x1 : fi (ufi (ufb (ufi S2 127 1 (Int32.ofNat 0)) 127 11 false) 127 24 (Int32.ofNat 0)) 127 1 = Int32.ofNat 0 := by
    rw [fi_ufi2 _ _ _ _ _ _ (by decide)]
    exact fi_ufi S2 127 1 (Int32.ofNat 0)
  have x11 : fb (ufi (ufb (ufi S2 127 1 (Int32.ofNat 0)) 127 11 false) 127 24 (Int32.ofNat 0)) 127 11 = false := fb_ufb _ _ _ _
  have xa : ai (ufi (ufb (ufi S2 127 1 (Int32.ofNat 0)) 127 11 false) 127 24 (Int32.ofNat 0)) = ai S2 := rfl
  have y : ∀ b, b ≠ 59 → fi S2 127 b = fi R6 127 b := fun b h => (b4.2 b (by simp; exact h)).1
  generalize ufi (ufb (ufi S2 127 1 (Int32.ofNat 0)) 127 11 false) 127 24 (Int32.ofNat 0) = RF at *
  refine hQ S RF (fun k => if k = 0 then Int32.ofNat (sumN (D' 5) nc') else if k = 1 then Int32.ofNat (cntN (fun c => decide (D' 0 c = 3)) nc') else if k = 2 then Int32.ofNat (cntN (fun c => decide (D' 0 c = 4)) nc') else if k = 3 then r else fi S 80 7) ⟨f, nw + j, _, _, _, nc', nc, m, E, D', hd', R3, R4, hDD R3 A3, d3, hSS3, hNM, ?_, hwo, rfl, rfl, rfl, e2, rfl⟩ ⟨CS, e13, ?_, ?_, fun b hb => ?_, ⟨u', p1, p2⟩, ?_⟩ ⟨fun c hc => ?_, fun w hw => ?_, ?_, x1, x11, (G3.mo (by decide) (by decide)).tr (G7.mo (by decide) (by decide)), ?_⟩ ⟨?_, ?_, ?_, ?_, ?_⟩
  · rw [k18 18 (by decide) (by decide), k18 19 (by decide) (by decide), k18 20 (by decide) (by decide)]; exact hOD
  · rw [f12 10 (by decide) (by decide) (by decide) (by decide) (by decide) (by decide)]; exact z2
  · rw [f14]; exact z7
  · rw [f13 b hb]; exact z2f b
  · rw [k18 18 (by decide) (by decide), k18 19 (by decide) (by decide), k18 20 (by decide) (by decide)]; exact f5
  · have := b1 c hc
    unfold BKc at this ⊢
    rw [xa]; exact this
  · have := b2 w hw
    unfold BKw at this ⊢
    rw [xa]; exact this
  · rw [x 59 (by decide) (by decide)]; exact b3
  · intro w hw
    have h := eN.2 w (by omega)
    simp only [o1.1 w hw] at h
    have h' := n9.2 w hw
    rw [(G7.1 128 (by decide)).1, (G7.1 129 (by decide)).1, (G7.1 130 (by decide)).1, h.2.2.2.2.2.1, h.2.2.2.2.2.2.1, h.2.2.2.2.2.2.2, h'.2.2.2.2.2.1, h'.2.2.2.2.2.2.1, h'.2.2.2.2.2.2.2]
    exact ⟨rfl, rfl, rfl⟩
  · rw [x 78 (by decide) (by decide), y 78 (by decide)]; exact q78
  · rw [x 79 (by decide) (by decide), y 79 (by decide)]; exact q79
  · rw [x 80 (by decide) (by decide), y 80 (by decide)]; exact q80
  · rw [x 81 (by decide) (by decide), y 81 (by decide)]; exact q81
  · rw [x 82 (by decide) (by decide), y 82 (by decide)]; exact q82
end
