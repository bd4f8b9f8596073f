/-! the reference's paths: all of them -/
def lv (n w : Nat) : Bool := decide (w < n)
def NetM (n : Nat) (A B M : Nat → Nat) (c8 c9 c0 : Nat → Int32) : Prop := n ≤ 20 ∧ ∀ w, w < n → A w < 8 ∧ B w < 8 ∧ A w ≠ B w ∧ 1 ≤ M w ∧ M w ≤ 300 ∧ c8 w = Int32.ofNat (A w) ∧ c9 w = Int32.ofNat (B w) ∧ c0 w = Int32.ofNat (M w)
theorem NetM_L {n : Nat} {A B M : Nat → Nat} {c8 c9 c0 : Nat → Int32} (H : NetM n A B M c8 c9 c0) : NetL (lv n) A B M (fun w => if w < n then Int32.ofNat (A w) else nn) (fun w => if w < n then Int32.ofNat (B w) else nn) (fun w => Int32.ofNat (M w)) := by
  intro w hw
  unfold lv
  by_cases h : w < n
  · obtain ⟨h1, h2, h3, h4, h5, h6, h7, h8⟩ := H.2 w h
    simp only [h, decide_true, if_true]
    exact ⟨fun _ => ⟨h1, h2, h3, h4, h5, trivial, trivial, trivial⟩, fun h => by cases h⟩
  · simp only [h, decide_false, if_false]
    exact ⟨fun h => (by cases h), fun _ => ⟨trivial, trivial⟩⟩
section
variable {n : Nat} {A B M : Nat → Nat} {c8 c9 c0 : Nat → Int32}
theorem lvn_lt (H : NetM n A B M c8 c9 c0) {w t x : Nat} (h : fe (lv n) A B w t = some x) : w < n ∧ x < 8 ∧ x ≠ t := by
  have hw : w < n := by
    unfold fe lv at h
    by_cases e : w < n
    · exact e
    · simp [e] at h
  have := fe_lt (NetM_L H) (show w < 20 by have := H.1; omega) h
  exact ⟨hw, this.1, this.2.2.1⟩
variable (n A B M)
def g3 (a w x v y k : Nat) : List Nat := (List.range k).flatMap fun u => match fe (lv n) A B u y with
  | none => []
  | some z => if z ≠ a ∧ z ≠ x then [pk (8 * a + z) 3 (M w + M v + M u) w v u] else []
def g2 (a w x k : Nat) : List Nat := (List.range k).flatMap fun v => match fe (lv n) A B v x with
  | none => []
  | some y => if y ≠ a then pk (8 * a + y) 2 (M w + M v) w v 0 :: g3 n A B M a w x v y n else []
def g1 (a k : Nat) : List Nat := (List.range k).flatMap fun w => match fe (lv n) A B w a with
  | none => []
  | some x => pk (8 * a + x) 1 (M w) w 0 0 :: g2 n A B M a w x n
def g0 (k : Nat) : List Nat := (List.range k).flatMap fun a => g1 n A B M a n
variable {n A B M}
theorem mem_g3 {a w x v y k q : Nat} : q ∈ g3 n A B M a w x v y k ↔ ∃ u z, u < k ∧ fe (lv n) A B u y = some z ∧ z ≠ a ∧ z ≠ x ∧ q = pk (8 * a + z) 3 (M w + M v + M u) w v u := by
  unfold g3
  rw [List.mem_flatMap]
  constructor
  · rintro ⟨u, hu, hq⟩
    cases hf : fe (lv n) A B u y with
    | none => rw [hf] at hq; simp at hq
    | some z =>
      rw [hf] at hq
      simp only at hq
      split at hq
      · next h => exact ⟨u, z, List.mem_range.1 hu, hf, h.1, h.2, by simpa using hq⟩
      · simp at hq
  · rintro ⟨u, z, hu, hf, h1, h2, rfl⟩
    refine ⟨u, List.mem_range.2 hu, ?_⟩
    rw [hf]
    simp [h1, h2]
theorem mem_g2 {a w x k q : Nat} : q ∈ g2 n A B M a w x k ↔ ∃ v y, v < k ∧ fe (lv n) A B v x = some y ∧ y ≠ a ∧ (q = pk (8 * a + y) 2 (M w + M v) w v 0 ∨ ∃ u z, u < n ∧ fe (lv n) A B u y = some z ∧ z ≠ a ∧ z ≠ x ∧ q = pk (8 * a + z) 3 (M w + M v + M u) w v u) := by
  unfold g2
  rw [List.mem_flatMap]
  constructor
  · rintro ⟨v, hv, hq⟩
    cases hf : fe (lv n) A B v x with
    | none => rw [hf] at hq; simp at hq
    | some y =>
      rw [hf] at hq
      simp only at hq
      split at hq
      · next h =>
        refine ⟨v, y, List.mem_range.1 hv, hf, h, ?_⟩
        rcases List.mem_cons.1 hq with h | h
        · exact Or.inl h
        · exact Or.inr (mem_g3.1 h)
      · simp at hq
  · rintro ⟨v, y, hv, hf, h1, h2⟩
    refine ⟨v, List.mem_range.2 hv, ?_⟩
    rw [hf]
    simp only
    rw [if_pos h1]
    rcases h2 with h | h
    · exact List.mem_cons.2 (Or.inl h)
    · exact List.mem_cons.2 (Or.inr (mem_g3.2 h))
theorem mem_g1 {a k q : Nat} : q ∈ g1 n A B M a k ↔ ∃ w x, w < k ∧ fe (lv n) A B w a = some x ∧ (q = pk (8 * a + x) 1 (M w) w 0 0 ∨ ∃ v y, v < n ∧ fe (lv n) A B v x = some y ∧ y ≠ a ∧ (q = pk (8 * a + y) 2 (M w + M v) w v 0 ∨ ∃ u z, u < n ∧ fe (lv n) A B u y = some z ∧ z ≠ a ∧ z ≠ x ∧ q = pk (8 * a + z) 3 (M w + M v + M u) w v u)) := by
  unfold g1
  rw [List.mem_flatMap]
  constructor
  · rintro ⟨w, hw, hq⟩
    cases hf : fe (lv n) A B w a with
    | none => rw [hf] at hq; simp at hq
    | some x =>
      rw [hf] at hq
      refine ⟨w, x, List.mem_range.1 hw, hf, ?_⟩
      rcases List.mem_cons.1 hq with h | h
      · exact Or.inl h
      · exact Or.inr (mem_g2.1 h)
  · rintro ⟨w, x, hw, hf, h2⟩
    refine ⟨w, List.mem_range.2 hw, ?_⟩
    rw [hf]
    rcases h2 with h | h
    · exact List.mem_cons.2 (Or.inl h)
    · exact List.mem_cons.2 (Or.inr (mem_g2.2 h))
/-- the same ways, pair by pair -/
theorem g1_seg (H : NetM n A B M c8 c9 c0) {a q : Nat} (ha : a < 8) : q ∈ g1 n A B M a n ↔ ∃ b q', b < 8 ∧ a ≠ b ∧ q' ∈ seg (lv n) A B M a b ∧ q = (8 * a + b) * 134217728 + q' := by
  have hn := H.1
  rw [mem_g1]
  constructor
  · rintro ⟨w, x, hw, hf, h⟩
    have l1 := lvn_lt H hf
    rcases h with rfl | ⟨v, y, hv, hf2, hya, h⟩
    · exact ⟨x, _, l1.2.1, by omega, mem_l1.2 ⟨w, x, by omega, hf, Or.inl ⟨rfl, rfl⟩⟩, rfl⟩
    · have l2 := lvn_lt H hf2
      rcases h with rfl | ⟨u, z, hu, hf3, hza, hzx, rfl⟩
      · exact ⟨y, _, l2.2.1, by omega, mem_l1.2 ⟨w, x, by omega, hf, Or.inr ⟨by omega, v, y, by omega, hf2, Or.inl ⟨rfl, rfl⟩⟩⟩, rfl⟩
      · have l3 := lvn_lt H hf3
        exact ⟨z, _, l3.2.1, by omega, mem_l1.2 ⟨w, x, by omega, hf, Or.inr ⟨by omega, v, y, by omega, hf2, Or.inr ⟨by omega, hya, u, by omega, hf3, rfl⟩⟩⟩, rfl⟩
  · rintro ⟨b, q', hb, hab, hm, rfl⟩
    obtain ⟨w, x, hw, hf, h⟩ := mem_l1.1 hm
    have l1 := lvn_lt H hf
    refine ⟨w, x, l1.1, hf, ?_⟩
    rcases h with ⟨rfl, rfl⟩ | ⟨hxb, v, y, hv, hf2, h⟩
    · exact Or.inl rfl
    · have l2 := lvn_lt H hf2
      rcases h with ⟨rfl, rfl⟩ | ⟨hyb, hya, u, hu, hf3, rfl⟩
      · exact Or.inr ⟨v, y, l2.1, hf2, by omega, Or.inl rfl⟩
      · have l3 := lvn_lt H hf3
        exact Or.inr ⟨v, y, l2.1, hf2, hya, Or.inr ⟨u, b, l3.1, hf3, by omega, by omega, rfl⟩⟩
theorem g0_seg (H : NetM n A B M c8 c9 c0) {q : Nat} : q ∈ g0 n A B M 8 ↔ ∃ a b q', a < 8 ∧ b < 8 ∧ a ≠ b ∧ q' ∈ seg (lv n) A B M a b ∧ q = (8 * a + b) * 134217728 + q' := by
  unfold g0
  rw [List.mem_flatMap]
  constructor
  · rintro ⟨a, ha, hq⟩
    have ha := List.mem_range.1 ha
    obtain ⟨b, q', h⟩ := (g1_seg H ha).1 hq
    exact ⟨a, b, q', ha, h⟩
  · rintro ⟨a, b, q', ha, h⟩
    exact ⟨a, List.mem_range.2 ha, (g1_seg H ha).2 ⟨b, q', h⟩⟩
theorem g0_KV (H : NetM n A B M c8 c9 c0) {a q : Nat} (ha : a < 8) (h : q ∈ g1 n A B M a n) : KV q ∧ kT q / 8 = a := by
  have hn := H.1
  obtain ⟨w, x, hw, hf, h⟩ := mem_g1.1 h
  have l1 := lvn_lt H hf
  have m1 := (H.2 w hw).2.2.2
  rcases h with rfl | ⟨v, y, hv, hf2, hya, h⟩
  · refine ⟨⟨8 * a + x, 1, M w, w, 0, 0, by omega, by omega, by omega, by omega, by omega, by omega, by omega, fun _ => rfl, fun _ => rfl, rfl⟩, ?_⟩
    rw [pk_T (by omega) (by omega) (by omega) (by omega) (by omega)]; omega
  · have l2 := lvn_lt H hf2
    have m2 := (H.2 v hv).2.2.2
    rcases h with rfl | ⟨u, z, hu, hf3, hza, hzx, rfl⟩
    · refine ⟨⟨8 * a + y, 2, M w + M v, w, v, 0, by omega, by omega, by omega, by omega, by omega, by omega, by omega, fun _ => rfl, fun _ => by omega, rfl⟩, ?_⟩
      rw [pk_T (by omega) (by omega) (by omega) (by omega) (by omega)]; omega
    · have l3 := lvn_lt H hf3
      have m3 := (H.2 u hu).2.2.2
      refine ⟨⟨8 * a + z, 3, M w + M v + M u, w, v, u, by omega, by omega, by omega, by omega, by omega, by omega, by omega, fun _ => by omega, fun _ => by omega, rfl⟩, ?_⟩
      rw [pk_T (by omega) (by omega) (by omega) (by omega) (by omega)]; omega
theorem g0_nd (H : NetM n A B M c8 c9 c0) : (g0 n A B M 8).Nodup := by
  have hn := H.1
  unfold g0
  refine nd_fm (fun q => kT q / 8) (fun a ha => ?_) (fun a ha q hq => (g0_KV H ha hq).2)
  unfold g1
  refine nd_fm (fun q => wP q 0) (fun w hw => ?_) (fun w hw q hq => ?_)
  · cases hf : fe (lv n) A B w a with
    | none => simp
    | some x =>
      simp only
      refine List.nodup_cons.2 ⟨fun h => ?_, ?_⟩
      · obtain ⟨v, y, hv, hf2, hya, h⟩ := mem_g2.1 h
        have e := congrArg kN (show pk (8 * a + x) 1 (M w) w 0 0 = pk (8 * a + x) 1 (M w) w 0 0 from rfl)
        have m1 := (H.2 w hw).2.2.2
        have m2 := (H.2 v hv).2.2.2
        rcases h with h | ⟨u, z, hu, hf3, hza, hzx, h⟩
        · have e := congrArg kN h
          rw [pk_N (by omega) (by omega) (by omega) (by omega) (by omega), pk_N (by omega) (by omega) (by omega) (by omega) (by omega)] at e
          omega
        · have m3 := (H.2 u hu).2.2.2
          have e := congrArg kN h
          rw [pk_N (by omega) (by omega) (by omega) (by omega) (by omega), pk_N (by omega) (by omega) (by omega) (by omega) (by omega)] at e
          omega
      · unfold g2
        refine nd_fm (fun q => wP q 1) (fun v hv => ?_) (fun v hv q hq => ?_)
        · cases hf2 : fe (lv n) A B v x with
          | none => simp
          | some y =>
            simp only
            split
            · refine List.nodup_cons.2 ⟨fun h => ?_, ?_⟩
              · obtain ⟨u, z, hu, hf3, hza, hzx, h⟩ := mem_g3.1 h
                have m1 := (H.2 w hw).2.2.2
                have m2 := (H.2 v hv).2.2.2
                have m3 := (H.2 u hu).2.2.2
                have e := congrArg kN h
                rw [pk_N (by omega) (by omega) (by omega) (by omega) (by omega), pk_N (by omega) (by omega) (by omega) (by omega) (by omega)] at e
                omega
              · unfold g3
                refine nd_fm (fun q => wP q 2) (fun u hu => ?_) (fun u hu q hq => ?_)
                · cases fe (lv n) A B u y with
                  | none => simp
                  | some z => simp only; split <;> simp
                · cases hf3 : fe (lv n) A B u y with
                  | none => rw [hf3] at hq; simp at hq
                  | some z =>
                    rw [hf3] at hq
                    simp only at hq
                    split at hq
                    · have : q = pk (8 * a + z) 3 (M w + M v + M u) w v u := by simpa using hq
                      rw [this, pk_2 (by omega)]
                    · simp at hq
            · simp
        · cases hf2 : fe (lv n) A B v x with
          | none => rw [hf2] at hq; simp at hq
          | some y =>
            rw [hf2] at hq
            simp only at hq
            split at hq
            · rcases List.mem_cons.1 hq with rfl | h
              · rw [pk_1 (by omega) (by omega)]
              · obtain ⟨u, z, hu, hf3, hza, hzx, rfl⟩ := mem_g3.1 h
                rw [pk_1 (by omega) (by omega)]
            · simp at hq
  · cases hf : fe (lv n) A B w a with
    | none => rw [hf] at hq; simp at hq
    | some x =>
      rw [hf] at hq
      rcases List.mem_cons.1 hq with rfl | h
      · rw [pk_0 (by omega) (by omega) (by omega)]
      · obtain ⟨v, y, hv, hf2, hya, h⟩ := mem_g2.1 h
        rcases h with rfl | ⟨u, z, hu, hf3, hza, hzx, rfl⟩
        · rw [pk_0 (by omega) (by omega) (by omega)]
        · rw [pk_0 (by omega) (by omega) (by omega)]
theorem nd_le : ∀ {l l' : List Nat}, l.Nodup → (∀ x, x ∈ l → x ∈ l') → l.length ≤ l'.length := by
  intro l
  induction l with
  | nil => intro l' _ _; exact Nat.zero_le _
  | cons x l ih =>
    intro l' hn hs
    obtain ⟨h1, h2⟩ := List.nodup_cons.1 hn
    have hx := hs x (List.mem_cons.2 (Or.inl rfl))
    have := ih (l' := l'.erase x) h2 fun y hy => (List.mem_erase_of_ne (fun e => h1 (by rw [← e]; exact hy))).2 (hs y (List.mem_cons.2 (Or.inr hy)))
    rw [List.length_erase_of_mem hx] at this
    have : 0 < l'.length := List.length_pos_of_mem hx
    simp only [List.length_cons]
    omega
theorem fmn_len (f : Nat → List Nat) (k : Nat) : ((List.range k).flatMap f).length = sm k fun i => (f i).length := by
  induction k with
  | zero => rfl
  | succ k ih => rw [fm_succ, List.length_append, ih]; rfl
theorem fm_le (f : Nat → List Nat) {k m : Nat} (h : k ≤ m) : ((List.range k).flatMap f).length ≤ ((List.range m).flatMap f).length := by
  induction m with
  | zero => rw [show k = 0 by omega]; exact Nat.le_refl _
  | succ m ih =>
    by_cases e : k = m + 1
    · rw [e]; exact Nat.le_refl _
    · rw [fm_succ, List.length_append]
      have := ih (by omega)
      omega
theorem g0_len (H : NetM n A B M c8 c9 c0) : (g0 n A B M 8).length ≤ 4020 := by
  refine Nat.le_trans (nd_le (l' := (List.range 8).flatMap fun a => (List.range 8).flatMap fun b => if a = b then [] else (seg (lv n) A B M a b).map fun q => (8 * a + b) * 134217728 + q) (g0_nd H) fun q hq => ?_) ?_
  · obtain ⟨a, b, q', ha, hb, hab, hm, rfl⟩ := (g0_seg H).1 hq
    refine List.mem_flatMap.2 ⟨a, List.mem_range.2 ha, List.mem_flatMap.2 ⟨b, List.mem_range.2 hb, ?_⟩⟩
    rw [if_neg hab]
    exact List.mem_map.2 ⟨q', hm, rfl⟩
  · refine Nat.le_trans (Nat.le_of_eq ?_) (seg_all (NetM_L H))
    rw [fmn_len]
    unfold sab2
    refine sm_cg fun a _ => ?_
    rw [fmn_len]
    refine sm_cg fun b _ => ?_
    by_cases e : a = b
    · simp [e]
    · simp [e]
end
