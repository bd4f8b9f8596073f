/-! a wire more, an offer more -/
section
variable {SC SR : Sg}
def ifA (w a : Nat) (A : Nat → Nat) : Nat → Nat := fun i => if i = w then a else A i
theorem ifA_eq (w a : Nat) (A : Nat → Nat) : ifA w a A w = a := if_pos rfl
theorem ifA_ne {w i : Nat} (a : Nat) (A : Nat → Nat) (h : i ≠ w) : ifA w a A i = A i := if_neg h
theorem LN_w {nw nof : Nat} : (fun i => if i = nw then true else LN nw nof i) = LN (nw + 1) nof := by
  funext i
  unfold LN
  by_cases e : i = nw
  · rw [if_pos e, decide_eq_true (show i < nw + 1 by omega)]; rfl
  · rw [if_neg e]
    congr 1
    exact decide_eq_decide.2 (by omega)
theorem LN_o {nw nof : Nat} : (fun i => if i = 16 + nof then true else LN nw nof i) = LN nw (nof + 1) := by
  funext i
  unfold LN
  by_cases e : i = 16 + nof
  · rw [if_pos e, decide_eq_true (show 16 ≤ i by omega), decide_eq_true (show i < 16 + (nof + 1) by omega)]
    cases decide (i < nw) <;> rfl
  · rw [if_neg e]
    congr 2
    exact decide_eq_decide.2 (by omega)
theorem Bs_w {f : Nat → Nat} {n : Nat} {P P' : Nat → Prop} {x : Int32} (h : Bs f n P x) (hP : ∀ w, w < n → (P' w ↔ P w)) (hn : ¬ P' n) : Bs f (n + 1) P' x := by
  intro y hy
  rw [h y hy]
  constructor
  · rintro ⟨w, a, b, c⟩
    exact ⟨w, by omega, b, (hP w a).2 c⟩
  · rintro ⟨w, a, b, c⟩
    have hw : w < n := by
      apply Decidable.byContradiction
      intro hc
      have e : w = n := by omega
      subst e
      exact hn c
    exact ⟨w, hw, b, (hP w hw).1 c⟩
def hdN (hd : Nat → Option Nat) (n : Nat) : Nat → Option Nat := fun w => if w = n then none else hd w
theorem hdN_eq (hd : Nat → Option Nat) (n : Nat) : hdN hd n n = none := if_pos rfl
theorem hdN_ne {hd : Nat → Option Nat} {n w : Nat} (h : w ≠ n) : hdN hd n w = hd w := if_neg h
theorem DD_M {n nc nR mx : Nat} {f : Nat → Nat} {M M' : Nat → Nat} {t : Nat} {E D : Nat → Nat → Nat} {hd : Nat → Option Nat} (H : DD t f n M nc nR mx E D hd SC SR) (hM : ∀ w, w < n → M' w = M w) : DD t f n M' nc nR mx E D hd SC SR := by
  obtain ⟨g, c, r, hK, h6, hh⟩ := H
  refine ⟨g, c, r, fun c hc => ?_, h6, hh⟩
  obtain ⟨k1, k2, k3⟩ := hK c hc
  refine ⟨k1, ?_, k3⟩
  rcases k2 with e | e
  · exact Or.inl e
  · exact Or.inr (WF_up e (Nat.le_refl n) hM)
theorem DD_w {n nc nR mx : Nat} {M M' : Nat → Nat} {E D : Nat → Nat → Nat} {hd : Nat → Option Nat} {S R : Sg} (H : DD 29 (fun w => w) n M nc nR mx E D hd SC SR) (hn : n < 16) (hM : ∀ w, w < n → M' w = M w) (f5 : fi S 29 5 = fi SC 29 5) (f12 : fi S 29 12 = fi SC 29 12) (fc : ∀ c, c < 40 → fi S (29 + 6 + c) = fi SC (29 + 6 + c)) (r39 : fi R 127 39 = fi SR 127 39) (ra : ∀ a, 158 ≤ a → a ≤ 165 → ai R a = ai SR a) (r166 : ai R 166 = upf (ai SR 166) n nn) : DD 29 (fun w => w) (n + 1) M' nc nR mx E D (hdN hd n) S R := by
  obtain ⟨⟨g1, g2, g3, g4⟩, ⟨c1, c2, c3⟩, ⟨r1, r2, r3, r4⟩, hK, h6, hH1, hH2⟩ := H
  refine ⟨⟨g1, g2, by omega, ⟨fun w hw => by show w < 20; omega, fun w w' _ _ h => h⟩⟩, ⟨by rw [f5]; exact c1, ?_, fun c hc => ?_⟩, ⟨by rw [r39]; exact r1, fun w hw => ?_, fun c hc => ?_, fun c l1 l2 => by rw [ra 158 (by decide) (by decide)]; exact r4 c l1 l2⟩, fun c hc => ?_, h6, fun w c hw h => ?_, fun c j hc hs hj => ?_⟩
  · rw [f12]
    exact Bs_w c2 (fun w hw => by rw [hdN_ne (by omega)]) fun h => by obtain ⟨c, h⟩ := h; rw [hdN_eq] at h; cases h
  · obtain ⟨k1, k2, k3, k4, k5, k6, k7, k8⟩ := c3 c hc
    unfold KC
    rw [fc c (by omega)]
    exact ⟨k1, k2, k3, k4, k5, k6, Bs_w k7 (fun w hw => by rw [hdN_ne (by omega)]) (fun h => by rw [hdN_eq] at h; cases h), k8⟩
  · rw [r166]
    by_cases e : w = n
    · subst e
      rw [upf_eq, hdN_eq]
      exact ⟨rfl, fun c h => by cases h⟩
    · rw [upf_ne _ _ _ _ e, hdN_ne e]
      exact r2 w hw
  · have := r3 c hc
    unfold KR at this ⊢
    rw [ra 158 (by decide) (by decide), ra 159 (by decide) (by decide), ra 160 (by decide) (by decide), ra 161 (by decide) (by decide), ra 162 (by decide) (by decide), ra 163 (by decide) (by decide), ra 164 (by decide) (by decide), ra 165 (by decide) (by decide)]
    exact this
  · obtain ⟨k1, k2, k3⟩ := hK c hc
    refine ⟨k1, ?_, k3⟩
    rcases k2 with e | e
    · exact Or.inl e
    · exact Or.inr (WF_up e (by omega) hM)
  · by_cases e : w = n
    · subst e; rw [hdN_eq] at h; cases h
    · rw [hdN_ne e] at h
      obtain ⟨a, b⟩ := hH1 w c (by omega) h
      exact ⟨by omega, b⟩
  · obtain ⟨k1, k2, k3, k4, k5, -⟩ := hK c hc
    have hWF : WF n M (D 1 c) := by
      rcases k2 with e | e
      · rcases hs with h | h
        · exact absurd e (k4 h).1
        · exact absurd e (k5 (by omega)).1
      · exact e
    have hj2 : j < wN (D 1 c) := by
      rcases hs with h | h
      · have := (k4 h).2.1; omega
      · have := (k5 (by omega)).2.1; omega
    have hlt := (WF_b hWF g3).2.2.2.2.1 j hj2
    rw [hdN_ne (by omega)]
    exact hH2 c j hc hs hj
section
variable {n : Nat} {A B M A' B' M' : Nat → Nat}
theorem fe_cg (h : ∀ w, w < n → A' w = A w ∧ B' w = B w) : fe (lv n) A' B' = fe (lv n) A B := by
  funext w t
  unfold fe lv
  by_cases e : w < n
  · rw [(h w e).1, (h w e).2]
  · simp [e]
theorem g1_cg (h : ∀ w, w < n → A' w = A w ∧ B' w = B w) (hM : ∀ w, w < n → M' w = M w) {a q : Nat} : q ∈ g1 n A' B' M' a n → q ∈ g1 n A B M a n := by
  rw [mem_g1, mem_g1, fe_cg h]
  rintro ⟨w, x, h1, h2, h3⟩
  refine ⟨w, x, h1, h2, ?_⟩
  rw [hM w h1] at h3
  rcases h3 with h3 | ⟨v, y, k1, k2, k3, h3⟩
  · exact Or.inl h3
  · refine Or.inr ⟨v, y, k1, k2, k3, ?_⟩
    rw [hM v k1] at h3
    rcases h3 with h3 | ⟨u, z, j1, j2, j3, j4, h3⟩
    · exact Or.inl h3
    · rw [hM u j1] at h3
      exact Or.inr ⟨u, z, j1, j2, j3, j4, h3⟩
theorem g0_cg (h : ∀ w, w < n → A' w = A w ∧ B' w = B w) (hM : ∀ w, w < n → M' w = M w) {q : Nat} : q ∈ g0 n A' B' M' 8 → q ∈ g0 n A B M 8 := by
  unfold g0
  rw [List.mem_flatMap, List.mem_flatMap]
  rintro ⟨a, ha, hq⟩
  exact ⟨a, ha, g1_cg h hM hq⟩
theorem Laid_cg {u : Nat} {c6 c7 c8 c9 : Nat → Int32} (h : ∀ w, w < n → A' w = A w ∧ B' w = B w) (hM : ∀ w, w < n → M' w = M w) (H : Laid n A B M u c6 c7 c8 c9) : Laid n A' B' M' u c6 c7 c8 c9 := by
  obtain ⟨h1, v, h2, ⟨b1, b2, b3⟩, h4, h5⟩ := H
  refine ⟨h1, v, h2, ⟨fun i hi => g0_cg (fun w hw => ⟨(h w hw).1.symm, (h w hw).2.symm⟩) (fun w hw => (hM w hw).symm) (b1 i hi), fun q hq => b2 q (g0_cg h hM hq), b3⟩, h4, h5⟩
end
theorem S_wire (H : INV SC SR) (x y z : Int32) : STEP (TR_wire x y z) (MO_wire x y z) SC SR := by
  have H0 := H
  obtain ⟨nw, nof, no, SB, ⟨A, B, M, cn, nc, m, E, D, hd, ks, W, K, F, T, h1, h2, h3, h4, h5, h6⟩, HB⟩ := H
  obtain ⟨n1, n2, n3, n4, n5, n6, n7, n8, n9, n10, -, -⟩ := h1
  refine R_wire n3 n4 n1 x y z (fun r => ⟨rfl, H0⟩) fun r a b mm g ha hb hab hm1 hm2 hnw hg => ⟨rfl, ?_⟩
  have C : AgC [1, 80, 2, 3, 4, 5, 10, 29] SC (SCw SC nw a b mm g) := (((((((((AgC.rf.ufb (by decide)).ufi (by decide)).sa (by decide)).sa (by decide)).sa (by decide)).sa (by decide)).ufi (by decide)).ufi (by decide)).ufi (by decide))
  have G : AgR [128, 129, 130, 166, 167, 168] [0, 11] SR (SRw SR nw a b mm) := ((((((((AgR.rf.sa (by decide)).sa (by decide)).sa (by decide)).sa (by decide)).sa (by decide)).sa (by decide)).ufi (by decide)).ufb (by decide))
  have s2 : fi (SCw SC nw a b mm g) 2 4 = Int32.ofNat (nw + 1) ∧ fi (SCw SC nw a b mm g) 2 5 = fi SC 2 5 ∧ fi (SCw SC nw a b mm g) 2 8 = Int32.ofNat 0 ∧ fi (SCw SC nw a b mm g) 29 10 = Int32.ofNat (2 ^ (nw + 1) - 1) ∧ (∀ k, k ≠ 10 → fi (SCw SC nw a b mm g) 29 k = fi SC 29 k) ∧ fi (SCw SC nw a b mm g) 1 11 = Int32.ofNat 0 := by
    unfold SCw JS
    refine ⟨?_, ?_, ?_, ?_, fun k hk => ?_, ?_⟩ <;> simp (disch := omega) only [fi_ufi, fi_ufi1, fi_ufi2, fb_ufb, fb_ufb1, fb_ufb2, fl_ufl, fl_ufl1, fl_ufl2, fr_ufr, fr_ufr1, fr_ufr2, ai_sa, ai_sa1, ab_sab, ab_sab1, ar_sar, ar_sar1, upf_eq, upf_ne, fi_ufb, fi_ufl, fi_ufr, fi_sa, fi_sab, fi_sar, fb_ufi, fb_ufl, fb_ufr, fb_sa, fb_sab, fb_sar, fl_ufi, fl_ufb, fl_ufr, fl_sa, fl_sab, fl_sar, fr_ufi, fr_ufb, fr_ufl, fr_sa, fr_sab, fr_sar, ai_ufi, ai_ufb, ai_ufl, ai_ufr, ai_sab, ai_sar, ab_ufi, ab_ufb, ab_ufl, ab_ufr, ab_sa, ab_sar, ar_ufi, ar_ufb, ar_ufl, ar_ufr, ar_sa, ar_sab, sa_sa, sab_sab, sar_sar, upf_upf, ufi_ufi]
  have sa' : ai (SCw SC nw a b mm g) 3 = upf (ai SC 3) nw (Int32.ofNat a) ∧ ai (SCw SC nw a b mm g) 4 = upf (ai SC 4) nw (Int32.ofNat b) ∧ ai (SCw SC nw a b mm g) 5 = upf (ai SC 5) nw (Int32.ofNat mm) ∧ ai (SCw SC nw a b mm g) 10 = g := by
    unfold SCw JS
    refine ⟨?_, ?_, ?_, ?_⟩ <;> simp (disch := omega) only [fi_ufi, fi_ufi1, fi_ufi2, fb_ufb, fb_ufb1, fb_ufb2, fl_ufl, fl_ufl1, fl_ufl2, fr_ufr, fr_ufr1, fr_ufr2, ai_sa, ai_sa1, ab_sab, ab_sab1, ar_sar, ar_sar1, upf_eq, upf_ne, fi_ufb, fi_ufl, fi_ufr, fi_sa, fi_sab, fi_sar, fb_ufi, fb_ufl, fb_ufr, fb_sa, fb_sab, fb_sar, fl_ufi, fl_ufb, fl_ufr, fl_sa, fl_sab, fl_sar, fr_ufi, fr_ufb, fr_ufl, fr_sa, fr_sab, fr_sar, ai_ufi, ai_ufb, ai_ufl, ai_ufr, ai_sab, ai_sar, ab_ufi, ab_ufb, ab_ufl, ab_ufr, ab_sa, ab_sar, ar_ufi, ar_ufb, ar_ufl, ar_ufr, ar_sa, ar_sab, sa_sa, sab_sab, sar_sar, upf_upf, ufi_ufi]
  have sb : fb (SCw SC nw a b mm g) 80 14 = false := fb_ufb SC 80 14 false
  have ra : ai (SRw SR nw a b mm) 128 = upf (ai SR 128) nw (Int32.ofNat a) ∧ ai (SRw SR nw a b mm) 129 = upf (ai SR 129) nw (Int32.ofNat b) ∧ ai (SRw SR nw a b mm) 130 = upf (ai SR 130) nw (Int32.ofNat mm) ∧ ai (SRw SR nw a b mm) 166 = upf (ai SR 166) nw nn ∧ ai (SRw SR nw a b mm) 167 = upf (ai SR 167) nw (Int32.ofNat 0) ∧ ai (SRw SR nw a b mm) 168 = upf (ai SR 168) nw (Int32.ofNat 0) := by
    unfold SRw
    refine ⟨?_, ?_, ?_, ?_, ?_, ?_⟩ <;> simp (disch := omega) only [fi_ufi, fi_ufi1, fi_ufi2, fb_ufb, fb_ufb1, fb_ufb2, fl_ufl, fl_ufl1, fl_ufl2, fr_ufr, fr_ufr1, fr_ufr2, ai_sa, ai_sa1, ab_sab, ab_sab1, ar_sar, ar_sar1, upf_eq, upf_ne, fi_ufb, fi_ufl, fi_ufr, fi_sa, fi_sab, fi_sar, fb_ufi, fb_ufl, fb_ufr, fb_sa, fb_sab, fb_sar, fl_ufi, fl_ufb, fl_ufr, fl_sa, fl_sab, fl_sar, fr_ufi, fr_ufb, fr_ufl, fr_sa, fr_sab, fr_sar, ai_ufi, ai_ufb, ai_ufl, ai_ufr, ai_sab, ai_sar, ab_ufi, ab_ufb, ab_ufl, ab_ufr, ab_sa, ab_sar, ar_ufi, ar_ufb, ar_ufl, ar_ufr, ar_sa, ar_sab, sa_sa, sab_sab, sar_sar, upf_upf, ufi_ufi]
  have rf : fi (SRw SR nw a b mm) 127 0 = Int32.ofNat (nw + 1) ∧ fb (SRw SR nw a b mm) 127 11 = false := ⟨fi_ufi (sa (sa (sa (sa (sa (sa SR 128 (upf (ai SR 128) nw (Int32.ofNat a))) 129 (upf (ai SR 129) nw (Int32.ofNat b))) 130 (upf (ai SR 130) nw (Int32.ofNat mm))) 166 (upf (ai SR 166) nw nn)) 167 (upf (ai SR 167) nw (Int32.ofNat 0))) 168 (upf (ai SR 168) nw (Int32.ofNat 0))) 127 0 (Int32.ofNat (nw + 1)), fb_ufb _ _ _ _⟩
  generalize SCw SC nw a b mm g = S at *
  generalize SRw SR nw a b mm = R at *
  obtain ⟨f4, f5, f8, f10, f29, f1⟩ := s2
  obtain ⟨a3, a4, a5, a10⟩ := sa'
  obtain ⟨b128, b129, b130, b166, b167, b168⟩ := ra
  have hM : ∀ w, w < nw → ifA nw mm M w = M w := fun w hw => ifA_ne _ _ (by omega)
  have HN : IN (nw + 1) nof (ifA nw a A) (ifA nw b B) (ifA nw mm M) cn S R := by
    refine ⟨by omega, n2, f4, rf.1, by rw [f5]; exact n5, by rw [(G.2 72 (by decide)).1]; exact n6, by rw [(G.2 1 (by decide)).1]; exact n7, ?_, ⟨by omega, fun w hw => ?_⟩, fun k hk => ?_, ⟨0, f8, ?_⟩, fun h => by rw [rf.2] at h; exact Bool.noConfusion h⟩
    · rw [a3, a4, a5, ← LN_w]
      exact NetL_add n8 ha hb hab hm1 hm2
    · rw [b128, b129, b130]
      by_cases e : w = nw
      · subst e
        rw [ifA_eq, ifA_eq, ifA_eq, upf_eq, upf_eq, upf_eq]
        exact ⟨ha, hb, hab, hm1, hm2, rfl, rfl, rfl⟩
      · rw [ifA_ne _ _ e, ifA_ne _ _ e, ifA_ne _ _ e, upf_ne _ _ _ _ e, upf_ne _ _ _ _ e, upf_ne _ _ _ _ e]
        exact n9.2 w (by omega)
    · rw [(C 6 (by decide)).2.2.1, (G.1 178 (by decide)).1, (G.1 179 (by decide)).1, (G.1 180 (by decide)).1, (G.1 181 (by decide)).1, ifA_ne _ _ (show 16 + k ≠ nw by omega), ifA_ne _ _ (show 16 + k ≠ nw by omega), ifA_ne _ _ (show 16 + k ≠ nw by omega)]
      exact n10 k hk
    · rw [a10]
      exact IPool_nn hg
  obtain ⟨d1, d2, d3, d4, d5, d6, d7, d8, d9, d10⟩ := h2
  have hc40 : nc ≤ 40 := d1.1.2.1
  have fc : ∀ c, c < 40 → fi S (29 + 6 + c) = fi SC (29 + 6 + c) ∧ fb S (29 + 6 + c) = fb SC (29 + 6 + c) := fun c hc => ⟨(C _ (by simp; omega)).1, (C _ (by simp; omega)).2.1⟩
  have rx : ∀ q, 150 ≤ q → q ≤ 165 → ai R q = ai SR q ∧ ab R q = ab SR q := fun q l1 l2 => G.1 q (by simp; omega)
  have HD : ID (nw + 1) (ifA nw mm M) nc m E D (hdN hd nw) S R := by
    refine ⟨DD_w d1 hnw hM (f29 5 (by decide)) (f29 12 (by decide)) (fun c hc => (fc c hc).1) (G.2 39 (by decide)).1 (fun q l1 l2 => (rx q (by omega) l2).1) b166, fun c hc => ?_, d3, by rw [f29 6 (by decide)]; exact d4, by rw [(G.2 38 (by decide)).1]; exact d5, by rw [f29 7 (by decide), (G.2 59 (by decide)).1]; exact d6, f10, by rw [f29 13 (by decide)]; exact d8, ⟨fun c hc => ?_, d9.2.1, fun c l1 l2 => ?_⟩, fun w hw => ?_⟩
    · have := d2 c hc
      rw [(rx 150 (by decide) (by decide)).1, (rx 151 (by decide) (by decide)).1, (rx 152 (by decide) (by decide)).1, (rx 153 (by decide) (by decide)).1, (rx 154 (by decide) (by decide)).1, (rx 155 (by decide) (by decide)).1, (fc c (by omega)).1]
      exact this
    · have := d9.1 c hc
      rw [(rx 156 (by decide) (by decide)).1, (rx 157 (by decide) (by decide)).2, (fc c (by omega)).1, (fc c (by omega)).2]
      exact this
    · have := d9.2.2 c l1 l2
      rw [(fc c l2).1, (fc c l2).2]
      exact this
    · have := d10 w hw
      rw [(C 31 (by decide)).2.2.1, (C 32 (by decide)).2.2.1, b167, b168]
      by_cases e : w = nw
      · subst e
        rw [if_neg (Nat.lt_irrefl w), if_neg (Nat.lt_irrefl w)] at this
        rw [if_pos (by omega), if_pos (by omega), upf_eq, upf_eq]
        exact this
      · rw [upf_ne _ _ _ _ e, upf_ne _ _ _ _ e]
        by_cases e2 : w < nw
        · rw [if_pos e2, if_pos e2] at this
          rw [if_pos (by omega), if_pos (by omega)]
          exact this
        · rw [if_neg e2, if_neg e2] at this
          rw [if_neg (by omega), if_neg (by omega)]
          exact this
  have HP : IP (nw + 1) ks W K F T S R := by
    have := IP_ag C G (by decide) (by decide) (by decide) h3
    exact ⟨this.1, fun i hi => Nat.lt_succ_of_lt (this.2 i hi)⟩
  exact INV_new (nw := nw + 1) (nof := nof) (no := no) ⟨_, _, _, cn, nc, m, E, D, _, ks, W, K, F, T, HN, HD, HP, IO_ag C G (by decide) (by decide) (by decide) h4, IK_ag C G (by decide) (by decide) (by decide) h5, IClk2_ag C G (by decide) (by decide) (by decide) h6⟩ ⟨sb, f1⟩
theorem S_offer (H : INV SC SR) (x y z u : Int32) : STEP (TR_offer x y z u) (MO_offer x y z u) SC SR := by
  have H0 := H
  obtain ⟨nw, nof, no, SB, ⟨A, B, M, cn, nc, m, E, D, hd, ks, W, K, F, T, h1, h2, h3, h4, h5, h6⟩, HB⟩ := H
  obtain ⟨n1, n2, n3, n4, n5, n6, n7, n8, n9, n10, -, n12⟩ := h1
  refine R_offer n5 n6 n2 x y z u (fun r => ⟨rfl, H0⟩) fun r a b mm c g ha hb hab hm1 hm2 hc9 hof hg => ⟨rfl, ?_⟩
  have C : AgC [1, 80, 2, 3, 4, 5, 6, 10] SC (SCo SC nof a b mm c g) := (((((((((AgC.rf.ufb (by decide)).ufi (by decide)).sa (by decide)).sa (by decide)).sa (by decide)).sa (by decide)).ufi (by decide)).sa (by decide)).ufi (by decide))
  have G : AgR [178, 179, 180, 181] [72] SR (SRo SR nof a b mm c) := (((((AgR.rf.sa (by decide)).sa (by decide)).sa (by decide)).sa (by decide)).ufi (by decide))
  have s2 : fi (SCo SC nof a b mm c g) 2 5 = Int32.ofNat (nof + 1) ∧ fi (SCo SC nof a b mm c g) 2 4 = fi SC 2 4 ∧ fi (SCo SC nof a b mm c g) 2 8 = Int32.ofNat 0 ∧ fi (SCo SC nof a b mm c g) 1 11 = Int32.ofNat 0 := by
    unfold SCo JS
    refine ⟨?_, ?_, ?_, ?_⟩ <;> simp (disch := omega) only [fi_ufi, fi_ufi1, fi_ufi2, fb_ufb, fb_ufb1, fb_ufb2, fl_ufl, fl_ufl1, fl_ufl2, fr_ufr, fr_ufr1, fr_ufr2, ai_sa, ai_sa1, ab_sab, ab_sab1, ar_sar, ar_sar1, upf_eq, upf_ne, fi_ufb, fi_ufl, fi_ufr, fi_sa, fi_sab, fi_sar, fb_ufi, fb_ufl, fb_ufr, fb_sa, fb_sab, fb_sar, fl_ufi, fl_ufb, fl_ufr, fl_sa, fl_sab, fl_sar, fr_ufi, fr_ufb, fr_ufl, fr_sa, fr_sab, fr_sar, ai_ufi, ai_ufb, ai_ufl, ai_ufr, ai_sab, ai_sar, ab_ufi, ab_ufb, ab_ufl, ab_ufr, ab_sa, ab_sar, ar_ufi, ar_ufb, ar_ufl, ar_ufr, ar_sa, ar_sab, sa_sa, sab_sab, sar_sar, upf_upf, ufi_ufi]
  have sa' : ai (SCo SC nof a b mm c g) 3 = upf (ai SC 3) (16 + nof) (Int32.ofNat a) ∧ ai (SCo SC nof a b mm c g) 4 = upf (ai SC 4) (16 + nof) (Int32.ofNat b) ∧ ai (SCo SC nof a b mm c g) 5 = upf (ai SC 5) (16 + nof) (Int32.ofNat mm) ∧ ai (SCo SC nof a b mm c g) 10 = g ∧ ai (SCo SC nof a b mm c g) 6 = upf (ai SC 6) nof (Int32.ofNat c) := by
    unfold SCo JS
    refine ⟨?_, ?_, ?_, ?_, ?_⟩ <;> simp (disch := omega) only [fi_ufi, fi_ufi1, fi_ufi2, fb_ufb, fb_ufb1, fb_ufb2, fl_ufl, fl_ufl1, fl_ufl2, fr_ufr, fr_ufr1, fr_ufr2, ai_sa, ai_sa1, ab_sab, ab_sab1, ar_sar, ar_sar1, upf_eq, upf_ne, fi_ufb, fi_ufl, fi_ufr, fi_sa, fi_sab, fi_sar, fb_ufi, fb_ufl, fb_ufr, fb_sa, fb_sab, fb_sar, fl_ufi, fl_ufb, fl_ufr, fl_sa, fl_sab, fl_sar, fr_ufi, fr_ufb, fr_ufl, fr_sa, fr_sab, fr_sar, ai_ufi, ai_ufb, ai_ufl, ai_ufr, ai_sab, ai_sar, ab_ufi, ab_ufb, ab_ufl, ab_ufr, ab_sa, ab_sar, ar_ufi, ar_ufb, ar_ufl, ar_ufr, ar_sa, ar_sab, sa_sa, sab_sab, sar_sar, upf_upf, ufi_ufi]
  have sb : fb (SCo SC nof a b mm c g) 80 14 = false := fb_ufb SC 80 14 false
  have ra : ai (SRo SR nof a b mm c) 178 = upf (ai SR 178) nof (Int32.ofNat a) ∧ ai (SRo SR nof a b mm c) 179 = upf (ai SR 179) nof (Int32.ofNat b) ∧ ai (SRo SR nof a b mm c) 180 = upf (ai SR 180) nof (Int32.ofNat mm) ∧ ai (SRo SR nof a b mm c) 181 = upf (ai SR 181) nof (Int32.ofNat c) := by
    unfold SRo
    refine ⟨?_, ?_, ?_, ?_⟩ <;> simp (disch := omega) only [fi_ufi, fi_ufi1, fi_ufi2, fb_ufb, fb_ufb1, fb_ufb2, fl_ufl, fl_ufl1, fl_ufl2, fr_ufr, fr_ufr1, fr_ufr2, ai_sa, ai_sa1, ab_sab, ab_sab1, ar_sar, ar_sar1, upf_eq, upf_ne, fi_ufb, fi_ufl, fi_ufr, fi_sa, fi_sab, fi_sar, fb_ufi, fb_ufl, fb_ufr, fb_sa, fb_sab, fb_sar, fl_ufi, fl_ufb, fl_ufr, fl_sa, fl_sab, fl_sar, fr_ufi, fr_ufb, fr_ufl, fr_sa, fr_sab, fr_sar, ai_ufi, ai_ufb, ai_ufl, ai_ufr, ai_sab, ai_sar, ab_ufi, ab_ufb, ab_ufl, ab_ufr, ab_sa, ab_sar, ar_ufi, ar_ufb, ar_ufl, ar_ufr, ar_sa, ar_sab, sa_sa, sab_sab, sar_sar, upf_upf, ufi_ufi]
  have rf : fi (SRo SR nof a b mm c) 127 72 = Int32.ofNat (nof + 1) := fi_ufi _ _ _ _
  generalize SCo SC nof a b mm c g = S at *
  generalize SRo SR nof a b mm c = R at *
  obtain ⟨f5, f4, f8, f1⟩ := s2
  obtain ⟨a3, a4, a5, a10, a6⟩ := sa'
  obtain ⟨b178, b179, b180, b181⟩ := ra
  have hlow : ∀ (v : Nat) (P : Nat → Nat) (w : Nat), w < nw → ifA (16 + nof) v P w = P w := fun v P w hw => ifA_ne _ _ (by omega)
  have eN : ∀ q, ifA (16 + nof) q = fun P i => if i = 16 + nof then q else P i := fun q => rfl
  have HN : IN nw (nof + 1) (ifA (16 + nof) a A) (ifA (16 + nof) b B) (ifA (16 + nof) mm M) (ifA nof c cn) S R := by
    refine ⟨n1, by omega, by rw [f4]; exact n3, by rw [(G.2 0 (by decide)).1]; exact n4, f5, rf, by rw [(G.2 1 (by decide)).1]; exact n7, ?_, ⟨by omega, fun w hw => ?_⟩, fun k hk => ?_, ⟨0, f8, ?_⟩, fun h => ?_⟩
    · rw [a3, a4, a5, ← LN_o]
      exact NetL_add n8 ha hb hab hm1 hm2
    · rw [(G.1 128 (by decide)).1, (G.1 129 (by decide)).1, (G.1 130 (by decide)).1, hlow _ _ w hw, hlow _ _ w hw, hlow _ _ w hw]
      exact n9.2 w hw
    · rw [a6, b178, b179, b180, b181]
      by_cases e : k = nof
      · subst e
        rw [ifA_eq, ifA_eq, ifA_eq, ifA_eq, upf_eq, upf_eq, upf_eq, upf_eq, upf_eq]
        exact ⟨hc9, rfl, rfl, rfl, rfl, rfl⟩
      · rw [ifA_ne _ _ e, ifA_ne _ _ (show 16 + k ≠ 16 + nof by omega), ifA_ne _ _ (show 16 + k ≠ 16 + nof by omega), ifA_ne _ _ (show 16 + k ≠ 16 + nof by omega), upf_ne _ _ _ _ e, upf_ne _ _ _ _ e, upf_ne _ _ _ _ e, upf_ne _ _ _ _ e, upf_ne _ _ _ _ e]
        exact n10 k (by omega)
    · rw [a10]
      exact IPool_nn hg
    · rw [(G.2 11 (by decide)).2] at h
      obtain ⟨p, p1, p2⟩ := n12 h
      refine ⟨p, by rw [(G.2 15 (by decide)).1]; exact p1, ?_⟩
      rw [(G.1 136 (by decide)).1, (G.1 137 (by decide)).1, (G.1 138 (by decide)).1, (G.1 139 (by decide)).1]
      exact Laid_cg (fun w hw => ⟨hlow _ _ w hw, hlow _ _ w hw⟩) (fun w hw => hlow _ _ w hw) p2
  have HD : ID nw (ifA (16 + nof) mm M) nc m E D hd S R := by
    have := ID_ag C G (by decide) (by decide) (by decide) h2
    exact ⟨DD_M this.1 fun w hw => hlow _ _ w hw, this.2⟩
  exact INV_new (nw := nw) (nof := nof + 1) (no := no) ⟨_, _, _, _, nc, m, E, D, hd, ks, W, K, F, T, HN, HD, IP_ag C G (by decide) (by decide) (by decide) h3, IO_ag C G (by decide) (by decide) (by decide) h4, IK_ag C G (by decide) (by decide) (by decide) h5, IClk2_ag C G (by decide) (by decide) (by decide) h6⟩ ⟨sb, f1⟩
end
