/-! what both hold between calls: its parts, and what leaves them as they are -/
def AgC (X : List Nat) (S S' : Sg) : Prop := ∀ a, a ∉ X → fi S' a = fi S a ∧ fb S' a = fb S a ∧ ai S' a = ai S a ∧ ab S' a = ab S a
def AgR (Y Z : List Nat) (S S' : Sg) : Prop := (∀ a, a ∉ Y → ai S' a = ai S a ∧ ab S' a = ab S a) ∧ ∀ b, b ∉ Z → fi S' 127 b = fi S 127 b ∧ fb S' 127 b = fb S 127 b
section
variable {X Y Z : List Nat} {S S' S2 : Sg}
theorem AgC.rf : AgC X S S := fun _ _ => ⟨rfl, rfl, rfl, rfl⟩
theorem AgR.rf : AgR Y Z S S := ⟨fun _ _ => ⟨rfl, rfl⟩, fun _ _ => ⟨rfl, rfl⟩⟩
theorem AgC.tr (h : AgC X S S') (g : AgC X S' S2) : AgC X S S2 := fun a ha => by
  obtain ⟨a1, a2, a3, a4⟩ := h a ha
  obtain ⟨b1, b2, b3, b4⟩ := g a ha
  exact ⟨b1.trans a1, b2.trans a2, b3.trans a3, b4.trans a4⟩
theorem AgR.tr (h : AgR Y Z S S') (g : AgR Y Z S' S2) : AgR Y Z S S2 := ⟨fun a ha => ⟨(g.1 a ha).1.trans (h.1 a ha).1, (g.1 a ha).2.trans (h.1 a ha).2⟩, fun a ha => ⟨(g.2 a ha).1.trans (h.2 a ha).1, (g.2 a ha).2.trans (h.2 a ha).2⟩⟩
theorem AgC.ufi (h : AgC X S S') {a k : Nat} {v : Int32} (ha : a ∈ X) : AgC X S (ufi S' a k v) := fun b hb => by
  obtain ⟨a1, a2, a3, a4⟩ := h b hb
  refine ⟨?_, a2, a3, a4⟩
  rw [← a1]
  funext j
  exact fi_ufi1 _ _ _ _ _ _ fun e => hb (by rw [e]; exact ha)
theorem AgC.ufb (h : AgC X S S') {a k : Nat} {v : Bool} (ha : a ∈ X) : AgC X S (ufb S' a k v) := fun b hb => by
  obtain ⟨a1, a2, a3, a4⟩ := h b hb
  refine ⟨a1, ?_, a3, a4⟩
  rw [← a2]
  funext j
  exact fb_ufb1 _ _ _ _ _ _ fun e => hb (by rw [e]; exact ha)
theorem AgC.sa (h : AgC X S S') {a : Nat} {f : Nat → Int32} (ha : a ∈ X) : AgC X S (sa S' a f) := fun b hb => by
  obtain ⟨a1, a2, a3, a4⟩ := h b hb
  refine ⟨a1, a2, ?_, a4⟩
  rw [← a3]
  exact ai_sa1 _ _ _ _ fun e => hb (by rw [e]; exact ha)
theorem AgR.ufi (h : AgR Y Z S S') {k : Nat} {v : Int32} (hk : k ∈ Z) : AgR Y Z S (ufi S' 127 k v) := ⟨h.1, fun b hb => by
  refine ⟨?_, (h.2 b hb).2⟩
  rw [← (h.2 b hb).1]
  exact fi_ufi2 _ _ _ _ _ _ fun e => hb (by rw [e]; exact hk)⟩
theorem AgR.ufb (h : AgR Y Z S S') {k : Nat} {v : Bool} (hk : k ∈ Z) : AgR Y Z S (ufb S' 127 k v) := ⟨h.1, fun b hb => by
  refine ⟨(h.2 b hb).1, ?_⟩
  rw [← (h.2 b hb).2]
  exact fb_ufb2 _ _ _ _ _ _ fun e => hb (by rw [e]; exact hk)⟩
theorem AgR.sa (h : AgR Y Z S S') {a : Nat} {f : Nat → Int32} (ha : a ∈ Y) : AgR Y Z S (sa S' a f) := ⟨fun b hb => by
  refine ⟨?_, (h.1 b hb).2⟩
  rw [← (h.1 b hb).1]
  exact ai_sa1 _ _ _ _ fun e => hb (by rw [e]; exact ha), h.2⟩
theorem AgR.sab (h : AgR Y Z S S') {a : Nat} {f : Nat → Bool} (ha : a ∈ Y) : AgR Y Z S (sab S' a f) := ⟨fun b hb => by
  refine ⟨(h.1 b hb).1, ?_⟩
  rw [← (h.1 b hb).2]
  exact ab_sab1 _ _ _ _ fun e => hb (by rw [e]; exact ha), h.2⟩
theorem AgC.mo {X' : List Nat} (h : AgC X S S') (hs : ∀ a, a ∈ X → a ∈ X') : AgC X' S S' := fun a ha => h a fun h2 => ha (hs a h2)
theorem AgR.mo {Y' Z' : List Nat} (h : AgR Y Z S S') (hs : ∀ a, a ∈ Y → a ∈ Y') (hz : ∀ a, a ∈ Z → a ∈ Z') : AgR Y' Z' S S' := ⟨fun a ha => h.1 a fun h2 => ha (hs a h2), fun a ha => h.2 a fun h2 => ha (hz a h2)⟩
end
/-- nothing is kept of what a spare day led to -/
def Flg (S : Sg) : Prop := fb S 80 14 = false ∧ fi S 1 11 = Int32.ofNat 0
theorem Flg_ag {X : List Nat} {S S' : Sg} (h : AgC X S S') (h1 : 80 ∉ X) (h2 : 1 ∉ X) (H : Flg S) : Flg S' := ⟨by rw [(h 80 h1).2.1]; exact H.1, by rw [(h 1 h2).1]; exact H.2⟩
/-! the wires and the offers -/
def LN (nw nof : Nat) : Nat → Bool := fun w => decide (w < nw) || (decide (16 ≤ w) && decide (w < 16 + nof))
def IN (nw nof : Nat) (A B M cn : Nat → Nat) (SC SR : Sg) : Prop := nw ≤ 16 ∧ nof ≤ 4 ∧ fi SC 2 4 = Int32.ofNat nw ∧ fi SR 127 0 = Int32.ofNat nw ∧ fi SC 2 5 = Int32.ofNat nof ∧ fi SR 127 72 = Int32.ofNat nof ∧ fi SR 127 1 = Int32.ofNat 0 ∧ NetL (LN nw nof) A B M (ai SC 3) (ai SC 4) (ai SC 5) ∧ NetM nw A B M (ai SR 128) (ai SR 129) (ai SR 130) ∧ (∀ k, k < nof → cn k ≤ 9999 ∧ ai SC 6 k = Int32.ofNat (cn k) ∧ ai SR 178 k = Int32.ofNat (A (16 + k)) ∧ ai SR 179 k = Int32.ofNat (B (16 + k)) ∧ ai SR 180 k = Int32.ofNat (M (16 + k)) ∧ ai SR 181 k = Int32.ofNat (cn k)) ∧ (∃ uc, fi SC 2 8 = Int32.ofNat uc ∧ IPool (LN nw nof) A B M uc (ai SC 7) (ai SC 8) (ai SC 9) (ai SC 10)) ∧ (fb SR 127 11 = true → ∃ u, fi SR 127 15 = Int32.ofNat u ∧ Laid nw A B M u (ai SR 136) (ai SR 137) (ai SR 138) (ai SR 139))
theorem IN_ag {nw nof : Nat} {A B M cn : Nat → Nat} {SC SR SC' SR' : Sg} {X Y Z : List Nat} (h : AgC X SC SC') (g : AgR Y Z SR SR') (hx : ∀ a ∈ [2, 3, 4, 5, 6, 7, 8, 9, 10], a ∉ X) (hy : ∀ a ∈ [128, 129, 130, 136, 137, 138, 139, 178, 179, 180, 181], a ∉ Y) (hz : ∀ a ∈ [0, 1, 72, 15, 11], a ∉ Z) (H : IN nw nof A B M cn SC SR) : IN nw nof A B M cn SC' SR' := by
  unfold IN at H ⊢
  rw [(h 2 (hx _ (by decide))).1, (h 3 (hx _ (by decide))).2.2.1, (h 4 (hx _ (by decide))).2.2.1, (h 5 (hx _ (by decide))).2.2.1, (h 6 (hx _ (by decide))).2.2.1, (h 7 (hx _ (by decide))).2.2.1, (h 8 (hx _ (by decide))).2.2.1, (h 9 (hx _ (by decide))).2.2.1, (h 10 (hx _ (by decide))).2.2.1, (g.1 128 (hy _ (by decide))).1, (g.1 129 (hy _ (by decide))).1, (g.1 130 (hy _ (by decide))).1, (g.1 136 (hy _ (by decide))).1, (g.1 137 (hy _ (by decide))).1, (g.1 138 (hy _ (by decide))).1, (g.1 139 (hy _ (by decide))).1, (g.1 178 (hy _ (by decide))).1, (g.1 179 (hy _ (by decide))).1, (g.1 180 (hy _ (by decide))).1, (g.1 181 (hy _ (by decide))).1, (g.2 0 (hz _ (by decide))).1, (g.2 1 (hz _ (by decide))).1, (g.2 72 (hz _ (by decide))).1, (g.2 15 (hz _ (by decide))).1, (g.2 11 (hz _ (by decide))).2]
  exact H
theorem bt_pow {n x : Nat} (hn : n ≤ 16) (hx : x < 32) : bt (Int32.ofNat (2 ^ n - 1)) x = decide (x < n) := by
  rw [bt_ofNat, Nat.testBit_two_pow_sub_one, decide_eq_true hx, Bool.true_and]
theorem IN_phi {nw nof : Nat} {A B M cn : Nat → Nat} {SC SR : Sg} (H : IN nw nof A B M cn SC SR) : Phi (fun w => w) nw (Int32.ofNat (2 ^ nw - 1)) (LN nw nof) A B M A B M := by
  have hn := H.1
  refine ⟨by omega, fun w hw => ⟨by show w < 20; omega, ?_, ?_, rfl, rfl, rfl⟩, fun x hx _ hb => ?_, fun w w' h _ => h⟩
  · unfold LN; rw [decide_eq_true hw]; rfl
  · show bt _ w = true
    rw [bt_pow hn (by omega)]; exact decide_eq_true hw
  · rw [bt_pow hn (by omega)] at hb
    exact ⟨x, of_decide_eq_true hb, rfl⟩
/-! the day -/
def XT (nc m : Nat) (E D : Nat → Nat → Nat) (SC SR : Sg) : Prop := (∀ c, c < nc → (∃ v, v < 1000000 ∧ fi SC (29 + 6 + c) 6 = Int32.ofNat v ∧ ai SR 156 c = Int32.ofNat v) ∧ fb SC (29 + 6 + c) 8 = ab SR 157 c ∧ fi SC (29 + 6 + c) 7 = (if D 0 c = 5 then dn (D 4 c) else nn) ∧ (D 0 c = 5 → 1 ≤ D 4 c) ∧ E 5 c ≤ m) ∧ (∀ c d, c ≤ d → d < nc → E 5 c ≤ E 5 d) ∧ ∀ c, nc ≤ c → c < 40 → fi SC (29 + 6 + c) 9 = Int32.ofNat 0 ∧ fi SC (29 + 6 + c) 10 = nn ∧ fi SC (29 + 6 + c) 11 = nn ∧ fi SC (29 + 6 + c) 12 = Int32.ofNat 0 ∧ fi SC (29 + 6 + c) 13 = Int32.ofNat 0 ∧ fi SC (29 + 6 + c) 14 = Int32.ofNat 0 ∧ fi SC (29 + 6 + c) 15 = Int32.ofNat 0 ∧ fi SC (29 + 6 + c) 16 = nn ∧ fi SC (29 + 6 + c) 7 = nn ∧ fb SC (29 + 6 + c) 8 = false
def ID (nw : Nat) (M : Nat → Nat) (nc m : Nat) (E D : Nat → Nat → Nat) (hd : Nat → Option Nat) (SC SR : Sg) : Prop := DD 29 (fun w => w) nw M nc nc m E D hd SC SR ∧ SS 29 nc nc E SC SR ∧ m ≤ 480 ∧ fi SC 29 6 = Int32.ofNat m ∧ fi SR 127 38 = Int32.ofNat m ∧ fi SC 29 7 = fi SR 127 59 ∧ fi SC 29 10 = Int32.ofNat (2 ^ nw - 1) ∧ fi SC 29 13 = Int32.ofNat 0 ∧ XT nc m E D SC SR ∧ ∀ w, w < 20 → ai SC 31 w = (if w < nw then ai SR 167 w else Int32.ofNat 0) ∧ ai SC 32 w = (if w < nw then ai SR 168 w else Int32.ofNat 0)
def dayC : List Nat := [29, 31, 32, 35, 36, 37, 38, 39, 40, 41, 42, 43, 44, 45, 46, 47, 48, 49, 50, 51, 52, 53, 54, 55, 56, 57, 58, 59, 60, 61, 62, 63, 64, 65, 66, 67, 68, 69, 70, 71, 72, 73, 74]
theorem dayC_c : ∀ c, c < 40 → 29 + 6 + c ∈ dayC := by decide
theorem ID_ag {nw : Nat} {M : Nat → Nat} {nc m : Nat} {E D : Nat → Nat → Nat} {hd : Nat → Option Nat} {SC SR SC' SR' : Sg} {X Y Z : List Nat} (h : AgC X SC SC') (g : AgR Y Z SR SR') (hx : ∀ a ∈ dayC, a ∉ X) (hy : ∀ a ∈ [150, 151, 152, 153, 154, 155, 156, 157, 158, 159, 160, 161, 162, 163, 164, 165, 166, 167, 168], a ∉ Y) (hz : ∀ a ∈ [38, 39, 59], a ∉ Z) (H : ID nw M nc m E D hd SC SR) : ID nw M nc m E D hd SC' SR' := by
  obtain ⟨h1, h2, h3, h4, h5, h6, h7, h8, h9, h10⟩ := H
  have hc : ∀ c, c < 40 → fi SC' (29 + 6 + c) = fi SC (29 + 6 + c) ∧ fb SC' (29 + 6 + c) = fb SC (29 + 6 + c) := fun c hc => ⟨(h _ (hx _ (dayC_c c hc))).1, (h _ (hx _ (dayC_c c hc))).2.1⟩
  have h29 := (h 29 (hx _ (by decide))).1
  have hn40 : nc ≤ 40 := h1.1.2.1
  have ga : ∀ a, a ∈ [150, 151, 152, 153, 154, 155, 156, 157, 158, 159, 160, 161, 162, 163, 164, 165, 166, 167, 168] → ai SR' a = ai SR a := fun a ha => (g.1 a (hy a ha)).1
  refine ⟨DD_cg h1 (by rw [h29]) (by rw [h29]) (fun c b hcc _ _ => by rw [(hc c hcc).1]) (g.2 39 (hz _ (by decide))).1 (fun a l1 l2 => ga a (by simp; omega)), fun c hcn => ?_, h3, by rw [h29]; exact h4, by rw [(g.2 38 (hz _ (by decide))).1]; exact h5, by rw [h29, (g.2 59 (hz _ (by decide))).1]; exact h6, by rw [h29]; exact h7, by rw [h29]; exact h8, ⟨fun c hcn => ?_, h9.2.1, fun c l1 l2 => ?_⟩, fun w hw => ?_⟩
  · have := h2 c hcn
    rw [ga 150 (by decide), ga 151 (by decide), ga 152 (by decide), ga 153 (by decide), ga 154 (by decide), ga 155 (by decide), (hc c (by omega)).1]
    exact this
  · have := h9.1 c hcn
    rw [ga 156 (by decide), (g.1 157 (hy _ (by decide))).2, (hc c (by omega)).1, (hc c (by omega)).2]
    exact this
  · have := h9.2.2 c l1 l2
    rw [(hc c (by omega)).1, (hc c (by omega)).2]
    exact this
  · have := h10 w hw
    rw [(h 31 (hx _ (by decide))).2.2.1, (h 32 (hx _ (by decide))).2.2.1, ga 167 (by decide), ga 168 (by decide)]
    exact this
/-! spans, hands, clocks, hours, the text -/
def IP (nw ks : Nat) (W K F T : Nat → Nat) (SC SR : Sg) : Prop := ISp ks W K F T SC SR ∧ ∀ i, i < ks → W i < nw
theorem IP_ag {nw ks : Nat} {W K F T : Nat → Nat} {SC SR SC' SR' : Sg} {X Y Z : List Nat} (h : AgC X SC SC') (g : AgR Y Z SR SR') (hx : ∀ a ∈ [11, 12, 13, 14, 15], a ∉ X) (hy : ∀ a ∈ [131, 132, 133, 134], a ∉ Y) (hz : ∀ a ∈ [5], a ∉ Z) (H : IP nw ks W K F T SC SR) : IP nw ks W K F T SC' SR' := by
  unfold IP ISp at H ⊢
  rw [(h 11 (hx _ (by decide))).1, (h 12 (hx _ (by decide))).2.2.1, (h 13 (hx _ (by decide))).2.2.1, (h 14 (hx _ (by decide))).2.2.1, (h 15 (hx _ (by decide))).2.2.1, (g.1 131 (hy _ (by decide))).1, (g.1 132 (hy _ (by decide))).1, (g.1 133 (hy _ (by decide))).1, (g.1 134 (hy _ (by decide))).1, (g.2 5 (hz _ (by decide))).1]
  exact H
def IK (SC SR : Sg) : Prop := (∃ hn, ICrew hn (ai SC 16) (ai SR 135)) ∧ (∃ nd, INeed nd (ai SC 78) (ai SR 176)) ∧ (∃ len t, TX len t (fi SC 27 1) (ai SC 28) ∧ TX len t (fi SR 127 26) (ai SR 146)) ∧ fi SC 27 3 = fi SR 127 29
theorem IK_ag {SC SR SC' SR' : Sg} {X Y Z : List Nat} (h : AgC X SC SC') (g : AgR Y Z SR SR') (hx : ∀ a ∈ [16, 78, 27, 28], a ∉ X) (hy : ∀ a ∈ [135, 176, 146], a ∉ Y) (hz : ∀ a ∈ [26, 29], a ∉ Z) (H : IK SC SR) : IK SC' SR' := by
  unfold IK at H ⊢
  rw [(h 16 (hx _ (by decide))).2.2.1, (h 78 (hx _ (by decide))).2.2.1, (h 27 (hx _ (by decide))).1, (h 28 (hx _ (by decide))).2.2.1, (g.1 135 (hy _ (by decide))).1, (g.1 176 (hy _ (by decide))).1, (g.1 146 (hy _ (by decide))).1, (g.2 26 (hz _ (by decide))).1, (g.2 29 (hz _ (by decide))).1]
  exact H
theorem IClk2_ag {SC SR SC' SR' : Sg} {X Y Z : List Nat} (h : AgC X SC SC') (g : AgR Y Z SR SR') (hx : ∀ a ∈ [75, 76], a ∉ X) (hy : ∀ a ∈ [174], a ∉ Y) (hz : ∀ a ∈ [66], a ∉ Z) (H : IClk2 SC SR) : IClk2 SC' SR' := by
  unfold IClk2 at H ⊢
  rw [(h 75 (hx _ (by decide))).1, (h 75 (hx _ (by decide))).2.1, (h 76 (hx _ (by decide))).2.2.1, (g.1 174 (hy _ (by decide))).1, (g.2 66 (hz _ (by decide))).1]
  exact H
/-! orders -/
def ctn (f : Nat → Int32) : Nat → Nat := fun k => (f k).toNatClampNeg
def IO (no : Nat) (SC SR : Sg) : Prop := IOrd no (fi SC 17 6) (fi SR 127 17) (ai SC 18) (ai SC 19) (ai SC 20) (ai SC 21) (ai SC 22) (ai SC 23) (ai SR 140) (ai SR 141) (ai SR 142) (ai SR 143) (ai SR 144) (ai SR 145) ∧ CIr no (ctn (ai SC 18)) (ctn (ai SC 19)) (ctn (ai SC 20)) (ai SC 21) (ai SC 22) (fi SC 24) (ai SC 25) (ai SC 26)
theorem IO_ag {no : Nat} {SC SR SC' SR' : Sg} {X Y Z : List Nat} (h : AgC X SC SC') (g : AgR Y Z SR SR') (hx : ∀ a ∈ [17, 18, 19, 20, 21, 22, 23, 24, 25, 26], a ∉ X) (hy : ∀ a ∈ [140, 141, 142, 143, 144, 145], a ∉ Y) (hz : ∀ a ∈ [17], a ∉ Z) (H : IO no SC SR) : IO no SC' SR' := by
  unfold IO at H ⊢
  rw [(h 17 (hx _ (by decide))).1, (h 18 (hx _ (by decide))).2.2.1, (h 19 (hx _ (by decide))).2.2.1, (h 20 (hx _ (by decide))).2.2.1, (h 21 (hx _ (by decide))).2.2.1, (h 22 (hx _ (by decide))).2.2.1, (h 23 (hx _ (by decide))).2.2.1, (h 24 (hx _ (by decide))).1, (h 25 (hx _ (by decide))).2.2.1, (h 26 (hx _ (by decide))).2.2.1, (g.1 140 (hy _ (by decide))).1, (g.1 141 (hy _ (by decide))).1, (g.1 142 (hy _ (by decide))).1, (g.1 143 (hy _ (by decide))).1, (g.1 144 (hy _ (by decide))).1, (g.1 145 (hy _ (by decide))).1, (g.2 17 (hz _ (by decide))).1]
  exact H
theorem IO_OD {no : Nat} {SC SR : Sg} (H : IO no SC SR) : ODs no (ctn (ai SC 18)) (ctn (ai SC 19)) (ctn (ai SC 20)) SC SR := IOrd_OD H.1
/-! a switch on both sides -/
theorem W2_tsw {α β : Type} {hi : Nat} (hhi : hi < 1000) {ps : List (PM α)} {q : PM α} {ps' : List (PM β)} {q' : PM β} {x : Int32} {S R : Sg} {Q : α → Sg → β → Sg → Prop} (h : ∀ k, k ≤ hi → x = Int32.ofNat k → W2 (ps.getD k (fun _ => none)) S (ps'.getD k (fun _ => none)) R Q) (h0 : inN x (hi + 1) = false → W2 q S q' R Q) : W2 (tsw 0 hi ps q x) S (tsw 0 hi ps' q' x) R Q := by
  cases hx : inN x (hi + 1)
  · have e : x.toInt < 0 ∨ (hi : Int) < x.toInt := by
      unfold inN at hx
      rw [Bool.and_eq_false_iff] at hx
      rcases hx with h | h
      · have := of_decide_eq_false h; omega
      · have := of_decide_eq_false h; omega
    unfold tsw
    rw [if_pos e, if_pos e]
    exact h0 hx
  · obtain ⟨k, hk, rfl⟩ := inN_e hx
    rw [tsw_0 (by omega) (by omega), tsw_0 (by omega) (by omega), if_neg (by omega), if_neg (by omega)]
    exact h k (by omega) rfl
