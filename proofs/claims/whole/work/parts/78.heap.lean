/-! the reference's order of all paths: a heap -/
def ch (i c : Nat) : Prop := c = 2 * i + 1 ∨ c = 2 * i + 2
def Hp (v : Nat → Nat) (lo n : Nat) : Prop := ∀ i c, lo ≤ i → ch i c → c < n → v c ≤ v i
def Hq (v : Nat → Nat) (lo n p : Nat) : Prop := (∀ i c, lo ≤ i → i ≠ p → ch i c → c < n → v c ≤ v i) ∧ (∀ g c, lo ≤ g → ch g p → ch p c → c < n → v c ≤ v g)
theorem Hq_start {v : Nat → Nat} {t n : Nat} (h : Hp v (t + 1) n) : Hq v t n t := by
  unfold Hq ch
  refine ⟨fun i c hi hp hc hn => h i c (by omega) hc hn, fun g c hg hc => ?_⟩
  omega
theorem Hq_done {v : Nat → Nat} {lo n p : Nat} (h : Hq v lo n p) (h2 : ∀ c, ch p c → c < n → v c ≤ v p) : Hp v lo n := by
  intro i c hi hc hn
  by_cases e : i = p
  · subst e; exact h2 c hc hn
  · exact h.1 i c hi e hc hn
theorem swp_l {v : Nat → Nat} {p l : Nat} : swp v p l p = v l := by unfold swp; rw [if_pos rfl]
theorem swp_r {v : Nat → Nat} {p l : Nat} : swp v p l l = v p := by
  unfold swp
  by_cases h : l = p
  · rw [if_pos h, h]
  · rw [if_neg h, if_pos rfl]
theorem swp_o {v : Nat → Nat} {p l i : Nat} (h1 : i ≠ p) (h2 : i ≠ l) : swp v p l i = v i := by unfold swp; rw [if_neg h1, if_neg h2]
theorem Hq_step {v : Nat → Nat} {lo n p l : Nat} (h : Hq v lo n p) (hp : lo ≤ p) (hl : ch p l) (hln : l < n) (hm : ∀ c, ch p c → c < n → v c ≤ v l) (hpl : v p ≤ v l) : Hq (swp v p l) lo n l := by
  obtain ⟨h1, h2⟩ := h
  have hlp : l ≠ p := by unfold ch at hl; omega
  constructor
  · intro i c hi hil hc hn
    by_cases e : i = p
    · subst e
      rw [swp_l]
      by_cases e2 : c = l
      · subst e2; rw [swp_r]; exact hpl
      · rw [swp_o (by unfold ch at hc; omega) e2]
        exact hm c hc hn
    · have hcl : c ≠ l := by unfold ch at hc hl; omega
      rw [swp_o e hil]
      by_cases e2 : c = p
      · subst e2
        rw [swp_l]
        exact h2 i l hi hc hl hln
      · rw [swp_o e2 hcl]
        exact h1 i c hi e hc hn
  · intro g c hg hgl hc hn
    have hgp : g = p := by unfold ch at hgl hl; omega
    subst hgp
    rw [swp_l, swp_o (by unfold ch at hc hl; omega) (by unfold ch at hc; omega)]
    exact h1 l c (by unfold ch at hl; omega) hlp hc hn
theorem Hp_top {v : Nat → Nat} {n : Nat} (h : Hp v 0 n) : ∀ i, i < n → v i ≤ v 0 := by
  intro i
  induction i using Nat.strongRecOn with
  | ind i ih =>
    intro hi
    by_cases e : i = 0
    · subst e; exact Nat.le_refl _
    · exact Nat.le_trans (h ((i - 1) / 2) i (Nat.zero_le _) (by unfold ch; omega) hi) (ih ((i - 1) / 2) (by omega) (by omega))
/-- the part from k on is in order, and above the rest -/
def Srt (v : Nat → Nat) (k n : Nat) : Prop := ∀ i j, i < j → k ≤ j → j < n → v i < v j
theorem Srt_n (v : Nat → Nat) (n : Nat) : Srt v n n := fun i j _ h1 h2 => by omega
theorem Srt_swp {v : Nat → Nat} {k n p l : Nat} (h : Srt v k n) (hp : p < k) (hl : l < k) : Srt (swp v p l) k n := by
  intro i j hij hk hn
  rw [swp_o (i := j) (by omega) (by omega)]
  unfold swp
  split
  · exact h l j (by omega) hk hn
  · split
    · exact h p j (by omega) hk hn
    · exact h i j hij hk hn
theorem Srt_next {v : Nat → Nat} {k n : Nat} {X : Nat → Prop} (h : Srt v (k + 1) n) (hk : k < n) (hB : Bij v n X) (hH : Hp v 0 (k + 1)) : Srt (swp v 0 k) k n := by
  intro i j hij hkj hn
  by_cases e : j = k
  · subst e
    rw [swp_r]
    have hi0 : ∃ x, x < j + 1 ∧ swp v 0 j i = v x ∧ x ≠ 0 := by
      unfold swp
      by_cases e : i = 0
      · exact ⟨j, by omega, by rw [if_pos e], by omega⟩
      · exact ⟨i, by omega, by rw [if_neg e, if_neg (by omega)], e⟩
    obtain ⟨x, hx, ex, hx0⟩ := hi0
    rw [ex]
    refine Nat.lt_of_le_of_ne (Hp_top hH x hx) fun he => hx0 (hB.2.2 x 0 (by omega) (by omega) he)
  · exact Srt_swp h (by omega) (by omega) i j hij (by omega) hn
/-! a path's number -/
def pk (t n m f s u : Nat) : Nat := t * 134217728 + wc n m f s u
def cd (n f s u : Nat) : Nat := if n = 1 then f + 1 else if n = 2 then 32 * (f + 1) + s + 1 else 32 * (32 * (f + 1) + s + 1) + u + 1
def KV (q : Nat) : Prop := ∃ t n m f s u, t < 64 ∧ 1 ≤ n ∧ n ≤ 3 ∧ m < 1024 ∧ f < 20 ∧ s < 20 ∧ u < 20 ∧ (n < 3 → u = 0) ∧ (n < 2 → s = 0) ∧ q = pk t n m f s u
def kT (q : Nat) : Nat := q / 134217728
def kN (q : Nat) : Nat := wN (q % 134217728)
def kC (q : Nat) : Nat := cd (kN q) (wP q 0) (wP q 1) (wP q 2)
theorem pk_T {t n m f s u : Nat} (hn : n < 4) (hm : m < 1024) (hf : f < 32) (hs : s < 32) (hu : u < 32) : kT (pk t n m f s u) = t := by unfold kT pk wc; omega
theorem pk_N {t n m f s u : Nat} (hn : n < 4) (hm : m < 1024) (hf : f < 32) (hs : s < 32) (hu : u < 32) : kN (pk t n m f s u) = n := by unfold kN wN pk wc; omega
theorem pk_M {t n m f s u : Nat} (hm : m < 1024) (hf : f < 32) (hs : s < 32) (hu : u < 32) : wM (pk t n m f s u) = m := by unfold wM pk wc; omega
theorem pk_0 {t n m f s u : Nat} (hf : f < 32) (hs : s < 32) (hu : u < 32) : wP (pk t n m f s u) 0 = f := by unfold wP pk wc; simp only [Nat.sub_zero, Nat.reduceMul, Nat.reducePow]; omega
theorem pk_1 {t n m f s u : Nat} (hs : s < 32) (hu : u < 32) : wP (pk t n m f s u) 1 = s := by unfold wP pk wc; simp only [Nat.reduceSub, Nat.reduceMul, Nat.reducePow]; omega
theorem pk_2 {t n m f s u : Nat} (hu : u < 32) : wP (pk t n m f s u) 2 = u := by unfold wP pk wc; simp only [Nat.reduceSub, Nat.zero_mul, Nat.pow_zero, Nat.div_one]; omega
theorem kM_lt (q : Nat) : wM q < 1024 := Nat.mod_lt _ (by omega)
theorem KV_b {q : Nat} (h : KV q) : kT q < 64 ∧ 1 ≤ kN q ∧ kN q ≤ 3 ∧ kC q < 32768 ∧ 1 ≤ kC q ∧ (kN q = 1 ↔ kC q < 32) ∧ (kN q = 3 ↔ 1024 ≤ kC q) := by
  obtain ⟨t, n, m, f, s, u, h1, h2, h3, h4, h5, h6, h7, h8, h9, rfl⟩ := h
  unfold kC
  rw [pk_T (by omega) h4 (by omega) (by omega) (by omega), pk_N (by omega) h4 (by omega) (by omega) (by omega), pk_0 (by omega) (by omega) (by omega), pk_1 (by omega) (by omega), pk_2 (by omega)]
  unfold cd
  refine ⟨h1, h2, h3, ?_, ?_, ?_, ?_⟩ <;> split <;> (try split) <;> omega
theorem kless {p q : Nat} (hp : KV p) (hq : KV q) : (if kT p ≠ kT q then kT p < kT q else if kN p ≠ kN q then kN p < kN q else if wM p ≠ wM q then wM p < wM q else kC p < kC q) ↔ p < q := by
  obtain ⟨t, n, m, f, s, u, h1, h2, h3, h4, h5, h6, h7, h8, h9, rfl⟩ := hp
  obtain ⟨t', n', m', f', s', u', g1, g2, g3, g4, g5, g6, g7, g8, g9, rfl⟩ := hq
  unfold kC
  rw [pk_T (by omega) h4 (by omega) (by omega) (by omega), pk_N (by omega) h4 (by omega) (by omega) (by omega), pk_0 (by omega) (by omega) (by omega), pk_1 (by omega) (by omega), pk_2 (by omega), pk_M h4 (by omega) (by omega) (by omega), pk_T (by omega) g4 (by omega) (by omega) (by omega), pk_N (by omega) g4 (by omega) (by omega) (by omega), pk_0 (by omega) (by omega) (by omega), pk_1 (by omega) (by omega), pk_2 (by omega), pk_M g4 (by omega) (by omega) (by omega)]
  unfold pk wc
  split
  · constructor <;> intro _ <;> omega
  · split
    · constructor <;> intro _ <;> omega
    · split
      · constructor <;> intro _ <;> omega
      · have en : n' = n := by omega
        subst en
        unfold cd
        rcases (by omega : n' = 1 ∨ n' = 2 ∨ n' = 3) with e | e | e
        · rw [if_pos e, if_pos e]
          constructor <;> intro _ <;> omega
        · rw [if_neg (by omega), if_pos e, if_neg (by omega), if_pos e]
          constructor <;> intro _ <;> omega
        · rw [if_neg (by omega), if_neg (by omega), if_neg (by omega), if_neg (by omega)]
          constructor <;> intro _ <;> omega
