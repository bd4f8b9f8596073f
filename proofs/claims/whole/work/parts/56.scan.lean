/-! the order's text: the class's reader -/
def scn (P : Nat → Bool) (len : Nat) : Nat → Nat → Nat
  | 0, i => i
  | n + 1, i => if i < len ∧ P i = true then scn P len n (i + 1) else i
def scw (P : Nat → Bool) (len i : Nat) : Nat := scn P len (len - i) i
theorem scw_step (P : Nat → Bool) (len i : Nat) : scw P len i = if i < len ∧ P i = true then scw P len (i + 1) else i := by
  unfold scw
  by_cases h : i < len
  · obtain ⟨n, hn⟩ : ∃ n, len - i = n + 1 := ⟨len - i - 1, by omega⟩
    have e : len - (i + 1) = n := by omega
    rw [hn, e]
    rfl
  · have e : len - i = 0 := by omega
    rw [e, if_neg (by omega)]
    rfl
theorem scw_spec (P : Nat → Bool) (len : Nat) : ∀ (n i : Nat), len - i = n → i ≤ scw P len i ∧ (i ≤ len → scw P len i ≤ len) ∧ (∀ j, i ≤ j → j < scw P len i → j < len ∧ P j = true) ∧ ¬ (scw P len i < len ∧ P (scw P len i) = true) := by
  intro n
  induction n with
  | zero =>
    intro i h
    have e : scw P len i = i := by unfold scw; rw [h]; rfl
    rw [e]
    exact ⟨Nat.le_refl _, fun h => h, fun j h1 h2 => by omega, by omega⟩
  | succ n ih =>
    intro i h
    rw [scw_step]
    split
    · next hc =>
      obtain ⟨h1, h2, h3, h4⟩ := ih (i + 1) (by omega)
      refine ⟨by omega, fun _ => h2 (by omega), fun j hj1 hj2 => ?_, h4⟩
      by_cases hji : j = i
      · subst hji; exact hc
      · exact h3 j (by omega) hj2
    · next hc => exact ⟨Nat.le_refl _, fun h => h, fun j h1 h2 => by omega, hc⟩
theorem scw_ge (P : Nat → Bool) (len i : Nat) : i ≤ scw P len i := (scw_spec P len _ i rfl).1
theorem scw_le (P : Nat → Bool) {len i : Nat} (h : i ≤ len) : scw P len i ≤ len := (scw_spec P len _ i rfl).2.1 h
theorem wp_scan {f : Unit → PM (Unit ⊕ Unit)} (P : Nat → Bool) (len : Nat) (hl : len < 1000) (St : Nat → Sg) (h : ∀ j, j ≤ len → WP (f ()) (St j) (fun q S' => if j < len ∧ P j = true then q = .inl () ∧ S' = St (j + 1) else q = .inr () ∧ S' = St j)) {i : Nat} (hi : i ≤ len) (Q : Unit → Sg → Prop) : WP (lp FU f ()) (St i) Q ↔ Q () (St (scw P len i)) := by
  refine WP.fix ?_
  refine wp_lpm (len - i) (by unfold FU; omega) (fun m _ S' => ∃ j, i ≤ j ∧ j ≤ len ∧ len - j = m ∧ S' = St j ∧ scw P len j = scw P len i) ?_ ⟨i, Nat.le_refl _, hi, rfl, rfl, rfl⟩
  rintro m _ S' ⟨j, h1, h2, h3, rfl, h4⟩
  refine (h j h2).mono fun q S' hq => ?_
  rw [scw_step] at h4
  split at hq
  · next hc =>
    obtain ⟨rfl, rfl⟩ := hq
    rw [if_pos hc] at h4
    exact ⟨m - 1, by omega, j + 1, by omega, by omega, by omega, rfl, h4⟩
  · next hc =>
    obtain ⟨rfl, rfl⟩ := hq
    rw [if_neg hc] at h4
    rw [← h4]
    exact ⟨rfl, rfl⟩
def isBl (t : Nat → Nat) (j : Nat) : Bool := decide (t j = 32)
def isLt (t : Nat → Nat) (j : Nat) : Bool := decide (97 ≤ t j) && decide (t j ≤ 122)
def isDg (t : Nat → Nat) (j : Nat) : Bool := decide (48 ≤ t j) && decide (t j ≤ 57)
/-- the text -/
def TX (len : Nat) (t : Nat → Nat) (n : Int32) (c : Nat → Int32) : Prop := len ≤ 160 ∧ n = Int32.ofNat len ∧ ∀ j, j < len → t j < 256 ∧ c j = Int32.ofNat (t j)
/-- the reader's state: where it is, the fault, the place -/
def CS (S : Sg) (i f : Nat) (p : Int32) : Sg := ufi (ufi (ufi S 27 4 (Int32.ofNat i)) 27 2 (Int32.ofNat f)) 27 3 p
theorem CS_at (S : Sg) (i f : Nat) (p : Int32) : fi (CS S i f p) 27 4 = Int32.ofNat i := by unfold CS; simp (disch := omega) only [fi_ufi, fi_ufi1, fi_ufi2, fb_ufb, fb_ufb1, fb_ufb2, fl_ufl, fl_ufl1, fl_ufl2, fr_ufr, fr_ufr1, fr_ufr2, ai_sa, ai_sa1, ab_sab, ab_sab1, ar_sar, ar_sar1, upf_eq, upf_ne, fi_ufb, fi_ufl, fi_ufr, fi_sa, fi_sab, fi_sar, fb_ufi, fb_ufl, fb_ufr, fb_sa, fb_sab, fb_sar, fl_ufi, fl_ufb, fl_ufr, fl_sa, fl_sab, fl_sar, fr_ufi, fr_ufb, fr_ufl, fr_sa, fr_sab, fr_sar, ai_ufi, ai_ufb, ai_ufl, ai_ufr, ai_sab, ai_sar, ab_ufi, ab_ufb, ab_ufl, ab_ufr, ab_sa, ab_sar, ar_ufi, ar_ufb, ar_ufl, ar_ufr, ar_sa, ar_sab, sa_sa, sab_sab, sar_sar, upf_upf, ufi_ufi]
theorem CS_f (S : Sg) (i f : Nat) (p : Int32) : fi (CS S i f p) 27 2 = Int32.ofNat f := by unfold CS; simp (disch := omega) only [fi_ufi, fi_ufi1, fi_ufi2, fb_ufb, fb_ufb1, fb_ufb2, fl_ufl, fl_ufl1, fl_ufl2, fr_ufr, fr_ufr1, fr_ufr2, ai_sa, ai_sa1, ab_sab, ab_sab1, ar_sar, ar_sar1, upf_eq, upf_ne, fi_ufb, fi_ufl, fi_ufr, fi_sa, fi_sab, fi_sar, fb_ufi, fb_ufl, fb_ufr, fb_sa, fb_sab, fb_sar, fl_ufi, fl_ufb, fl_ufr, fl_sa, fl_sab, fl_sar, fr_ufi, fr_ufb, fr_ufl, fr_sa, fr_sab, fr_sar, ai_ufi, ai_ufb, ai_ufl, ai_ufr, ai_sab, ai_sar, ab_ufi, ab_ufb, ab_ufl, ab_ufr, ab_sa, ab_sar, ar_ufi, ar_ufb, ar_ufl, ar_ufr, ar_sa, ar_sab, sa_sa, sab_sab, sar_sar, upf_upf, ufi_ufi]
theorem CS_p (S : Sg) (i f : Nat) (p : Int32) : fi (CS S i f p) 27 3 = p := by unfold CS; simp (disch := omega) only [fi_ufi, fi_ufi1, fi_ufi2, fb_ufb, fb_ufb1, fb_ufb2, fl_ufl, fl_ufl1, fl_ufl2, fr_ufr, fr_ufr1, fr_ufr2, ai_sa, ai_sa1, ab_sab, ab_sab1, ar_sar, ar_sar1, upf_eq, upf_ne, fi_ufb, fi_ufl, fi_ufr, fi_sa, fi_sab, fi_sar, fb_ufi, fb_ufl, fb_ufr, fb_sa, fb_sab, fb_sar, fl_ufi, fl_ufb, fl_ufr, fl_sa, fl_sab, fl_sar, fr_ufi, fr_ufb, fr_ufl, fr_sa, fr_sab, fr_sar, ai_ufi, ai_ufb, ai_ufl, ai_ufr, ai_sab, ai_sar, ab_ufi, ab_ufb, ab_ufl, ab_ufr, ab_sa, ab_sar, ar_ufi, ar_ufb, ar_ufl, ar_ufr, ar_sa, ar_sab, sa_sa, sab_sab, sar_sar, upf_upf, ufi_ufi]
theorem CS_n (S : Sg) (i f : Nat) (p : Int32) : fi (CS S i f p) 27 1 = fi S 27 1 := by unfold CS; simp (disch := omega) only [fi_ufi, fi_ufi1, fi_ufi2, fb_ufb, fb_ufb1, fb_ufb2, fl_ufl, fl_ufl1, fl_ufl2, fr_ufr, fr_ufr1, fr_ufr2, ai_sa, ai_sa1, ab_sab, ab_sab1, ar_sar, ar_sar1, upf_eq, upf_ne, fi_ufb, fi_ufl, fi_ufr, fi_sa, fi_sab, fi_sar, fb_ufi, fb_ufl, fb_ufr, fb_sa, fb_sab, fb_sar, fl_ufi, fl_ufb, fl_ufr, fl_sa, fl_sab, fl_sar, fr_ufi, fr_ufb, fr_ufl, fr_sa, fr_sab, fr_sar, ai_ufi, ai_ufb, ai_ufl, ai_ufr, ai_sab, ai_sar, ab_ufi, ab_ufb, ab_ufl, ab_ufr, ab_sa, ab_sar, ar_ufi, ar_ufb, ar_ufl, ar_ufr, ar_sa, ar_sab, sa_sa, sab_sab, sar_sar, upf_upf, ufi_ufi]
theorem CS_o (S : Sg) (i f : Nat) (p : Int32) (a k : Nat) (h : a ≠ 27) : fi (CS S i f p) a k = fi S a k := by unfold CS; simp (disch := omega) only [fi_ufi, fi_ufi1, fi_ufi2, fb_ufb, fb_ufb1, fb_ufb2, fl_ufl, fl_ufl1, fl_ufl2, fr_ufr, fr_ufr1, fr_ufr2, ai_sa, ai_sa1, ab_sab, ab_sab1, ar_sar, ar_sar1, upf_eq, upf_ne, fi_ufb, fi_ufl, fi_ufr, fi_sa, fi_sab, fi_sar, fb_ufi, fb_ufl, fb_ufr, fb_sa, fb_sab, fb_sar, fl_ufi, fl_ufb, fl_ufr, fl_sa, fl_sab, fl_sar, fr_ufi, fr_ufb, fr_ufl, fr_sa, fr_sab, fr_sar, ai_ufi, ai_ufb, ai_ufl, ai_ufr, ai_sab, ai_sar, ab_ufi, ab_ufb, ab_ufl, ab_ufr, ab_sa, ab_sar, ar_ufi, ar_ufb, ar_ufl, ar_ufr, ar_sa, ar_sab, sa_sa, sab_sab, sar_sar, upf_upf, ufi_ufi]
theorem CS_ai (S : Sg) (i f : Nat) (p : Int32) : ai (CS S i f p) = ai S := rfl
theorem CS_sa (S : Sg) (i f : Nat) (p : Int32) (t : Nat) (g : Nat → Int32) : sa (CS S i f p) t g = CS (sa S t g) i f p := rfl
theorem ufi_cm (S : Sg) {a k k' : Nat} (v v' : Int32) (h : k ≠ k') : ufi (ufi S a k v) a k' v' = ufi (ufi S a k' v') a k v := by
  unfold ufi up2
  congr 1
  funext x y
  by_cases h1 : x = a
  · by_cases h2 : y = k
    · simp [h1, h2, h]
    · simp [h1, h2]
  · simp [h1]
theorem CS_i (S : Sg) (i f i' : Nat) (p : Int32) : ufi (CS S i f p) 27 4 (Int32.ofNat i') = CS S i' f p := by
  unfold CS
  rw [ufi_cm _ p _ (by decide), ufi_cm _ (Int32.ofNat f) _ (by decide), ufi_ufi]
theorem CS_fl (S : Sg) (i f f' : Nat) (p p' : Int32) : ufi (ufi (CS S i f p) 27 2 (Int32.ofNat f')) 27 3 p' = CS S i f' p' := by
  unfold CS
  rw [ufi_cm _ p _ (by decide), ufi_ufi, ufi_ufi]
