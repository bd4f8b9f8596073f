/-! what the plain machine's cells, values and locals are on the machine -/
abbrev GX : Type := Nat × Nat × (Nat → Nat) × va_G
def sg (G : GX) (a : Nat) : Nat := if a = 0 then G.1 else if a < EXT then G.2.1 + (a - 1) else G.2.2.1 (a - EXT)
def vmp (G : GX) : Value → Value
  | .ref a => .ref (sg G a)
  | v => v
def LR (G : GX) (nL : Nat) (L : Lcl) (ls : Array Slot) : Prop := L.length = nL ∧ ls.size = nL ∧ lv_wf ls ∧ ∀ (k : Nat) (v : Value), L[k]? = some (some v) → ls[k]? = some (.val (vmp G v))
def caA (G : GX) (a : vp_A) : vp_A := match a with
  | (n, .inr (.inr (.inr (.inr f)))) => (n, .inr (.inr (.inr (.inr (fun j => (f j).map (sg G))))))
  | a => a
def tyT : Nat → FieldType
  | 0 => .int
  | 1 => .boolean
  | _ => .object "TrunkRoom$Call"
def xat (G : GX) (s : State) (k : Nat) (e : va_E) (H : Heap) : Prop := match e with
  | .inl (t, a) => if k = 0 then t = 0 → ∃ f, a.2 = .inl f ∧ va_X (sg G 0) a.1 f s H else ∃ cid, H[sg G k]? = some (vp_cell cid (caA G a)) ∧ ArrOfT s cid (tyT t) ∧ va_RA s cid (tyT t)
  | .inr (ci, fs) => k ≠ 0 ∧ ci < 11 ∧ fs.length = fN ci ∧ t_OB (sg G k) (G.2.2.2.1 ci) (fN ci) (G.2.2.2.2 ci) H (vp_V (fs.map (vmp G)))
def Aof (G : GX) : Nat → Prop := fun q => G.2.1 ≤ q
def SX (G : GX) (s : State) (H : Heap) : Prop := (∀ c i a, lk stab c i = some a → vk_R (cN.getD c "") i (strL.getD a "") (G.2.2.1 a) s) ∧ ∃ adV, vk_S 4 (strB.map List.length) strB G.2.2.1 adV (Aof G) s H ∧ va_Z "java/lang/String" "COMPACT_STRINGS" "Z" (.int 1) (Aof G) s H ∧ va_AO "TrunkRoom$Call" s ∧ (∀ C i y, Cond.methodLinkNest C i y "TrunkRoom" ∈ lw_tbl → va_Nw (.methodLinkNest C i y "TrunkRoom") s) ∧ va_Zq "jdk/internal/util/Preconditions" "SIOOBE_FORMATTER" "Ljava/util/function/BiFunction;" (Aof G) s H
def Rep (G : GX) (s : State) (lw : LW) (H : Heap) : Prop := H.size + 1 = G.2.1 + lw.length ∧ G.1 < G.2.1 ∧ lw.length ≤ EXT ∧ (∀ (k : Nat) (e : va_E), lw[k]? = some e → xat G s k e H) ∧ va_K G.2.2.2 clL [] s ∧ SX G s H
theorem vmp_cat (G : GX) (v : Value) : (vmp G v).category = v.category := by cases v <;> rfl
theorem vmp_rf (G : GX) (r : Option Nat) : vmp G (va_rf r) = va_rf (r.map (sg G)) := by cases r <;> rfl
theorem map_cat (G : GX) (st : List Value) : (st.map (vmp G)).map (fun v => v.category) = st.map (fun v => v.category) := by
  rw [List.map_map]
  exact List.map_congr_left fun v _ => vmp_cat G v
theorem sg_lt {G : GX} {a : Nat} (h0 : a ≠ 0) (h : a < EXT) : sg G a = G.2.1 + (a - 1) := by
  unfold sg
  rw [if_neg h0, if_pos h]
theorem sg_inj {G : GX} {a b : Nat} (ha : a < EXT) (hb : b < EXT) (hG : G.1 < G.2.1) (h : sg G a = sg G b) : a = b := by
  unfold sg at h
  by_cases h1 : a = 0 <;> by_cases h2 : b = 0 <;> simp only [h1, h2, ha, hb, if_true, if_false] at h <;> first | omega | (split at h <;> omega) | (split at h <;> split at h <;> omega)
theorem ldv_inv {L : Lcl} {k : Nat} {v : Value} (h : ldv L k = some v) : L[k]? = some (some v) := by
  unfold ldv at h
  split at h
  · next e => cases h; exact e
  · cases h
theorem LR.ld {G : GX} {nL : Nat} {L : Lcl} {ls : Array Slot} {k : Nat} {v : Value} (h : LR G nL L ls) (hk : ldv L k = some v) : ls[k]? = some (.val (vmp G v)) := h.2.2.2 k v (ldv_inv hk)
/-- the locals as the kit's list -/
def pairs (G : GX) (L : Lcl) : List (Nat × Value) := (List.range L.length).filterMap fun k => match L[k]? with
  | some (some v) => some (k, vmp G v)
  | _ => none
theorem mem_pairs {G : GX} {L : Lcl} {q : Nat × Value} : q ∈ pairs G L ↔ ∃ v, L[q.1]? = some (some v) ∧ q.2 = vmp G v := by
  unfold pairs
  rw [List.mem_filterMap]
  constructor
  · rintro ⟨k, -, h⟩
    split at h
    · next v e => cases h; exact ⟨v, e, rfl⟩
    · cases h
  · rintro ⟨v, h1, h2⟩
    refine ⟨q.1, List.mem_range.mpr (List.getElem?_eq_some_iff.mp h1).1, ?_⟩
    rw [h1]
    simp only [Option.some.injEq]
    rw [← h2]
theorem LR.has {G : GX} {nL : Nat} {L : Lcl} {ls : Array Slot} (h : LR G nL L ls) : lv_has ls nL (pairs G L) := by
  refine ⟨h.2.1, h.2.2.1, fun q hq => ?_⟩
  obtain ⟨v, h1, h2⟩ := mem_pairs.mp hq
  rw [h2]
  exact h.2.2.2 _ _ h1
theorem killL_len (L : Lcl) (i : Nat) : (killL L i).length = L.length := by
  cases i with
  | zero => rfl
  | succ j =>
    show (bif cat2 L[j]? then L.set j none else L).length = L.length
    cases cat2 L[j]? <;> simp
theorem killL_at {L : Lcl} {i k : Nat} {v : Value} (h : (killL L i)[k]? = some (some v)) : L[k]? = some (some v) ∧ ¬ (k + 1 = i ∧ v.category = 2) := by
  cases i with
  | zero => exact ⟨h, fun q => by omega⟩
  | succ j =>
    change (bif cat2 L[j]? then L.set j none else L)[k]? = _ at h
    cases hc : cat2 L[j]? with
    | true =>
      rw [hc, cond_true] at h
      by_cases hk : j = k
      · subst hk
        rw [List.getElem?_set] at h
        simp at h
      · rw [List.getElem?_set_ne hk] at h
        exact ⟨h, fun q => hk (by omega)⟩
    | false =>
      rw [hc, cond_false] at h
      refine ⟨h, fun q => ?_⟩
      have : k = j := by omega
      subst this
      rw [h] at hc
      have q2 := q.2
      simp [cat2, q2] at hc
theorem st1_inv {L L' : Lcl} {i : Nat} {v : Value} (h : st1 L i v = some L') : i < L.length ∧ L' = (killL L i).set i (some v) := by
  unfold st1 at h
  split at h
  · next q => cases h; exact ⟨q, rfl⟩
  · cases h
theorem st2_inv {L L' : Lcl} {i : Nat} {v : Value} (h : st2 L i v = some L') : i + 1 < L.length ∧ L' = ((killL L i).set i (some v)).set (i + 1) none := by
  unfold st2 at h
  split at h
  · next q => cases h; exact ⟨q, rfl⟩
  · cases h
theorem LR.st1 {G : GX} {nL : Nat} {L L' : Lcl} {ls ls' : Array Slot} {i : Nat} {v : Value} (h : LR G nL L ls) (hs : st1 L i v = some L')
    (h' : lv_has ls' nL ((i, vmp G v) :: (pairs G L).filter (fun q => !(q.1 == i) && !(q.1 + 1 == i && q.2.category == 2)))) : LR G nL L' ls' := by
  obtain ⟨hi, rfl⟩ := st1_inv hs
  refine ⟨by rw [List.length_set, killL_len]; exact h.1, h'.1, h'.2.1, fun k w hk => ?_⟩
  by_cases hki : i = k
  · subst hki
    rw [List.getElem?_set_self (by rw [killL_len]; exact hi)] at hk
    cases hk
    exact h'.2.2 _ List.mem_cons_self
  · rw [List.getElem?_set_ne hki] at hk
    obtain ⟨a, b⟩ := killL_at hk
    refine h'.2.2 (k, vmp G w) (List.mem_cons_of_mem _ (List.mem_filter.mpr ⟨mem_pairs.mpr ⟨w, a, rfl⟩, ?_⟩))
    rw [vmp_cat]
    have e1 : (k == i) = false := by simpa using fun q : k = i => hki q.symm
    simp only [e1, Bool.not_false, Bool.true_and, Bool.not_eq_true', Bool.and_eq_false_iff, beq_eq_false_iff_ne, ne_eq]
    by_cases q1 : k + 1 = i
    · exact Or.inr fun q2 => b ⟨q1, q2⟩
    · exact Or.inl q1
theorem LR.st2 {G : GX} {nL : Nat} {L L' : Lcl} {ls ls' : Array Slot} {i : Nat} {v : Value} (h : LR G nL L ls) (hs : st2 L i v = some L')
    (h' : lv_has ls' nL ((i, vmp G v) :: (pairs G L).filter (fun q => !(q.1 == i) && (!(q.1 == i + 1) && !(q.1 + 1 == i && q.2.category == 2))))) : LR G nL L' ls' := by
  obtain ⟨hi, rfl⟩ := st2_inv hs
  refine ⟨by rw [List.length_set, List.length_set, killL_len]; exact h.1, h'.1, h'.2.1, fun k w hk => ?_⟩
  by_cases hk1 : i + 1 = k
  · subst hk1
    rw [List.getElem?_set] at hk
    simp at hk
  rw [List.getElem?_set_ne hk1] at hk
  by_cases hki : i = k
  · subst hki
    rw [List.getElem?_set_self (by rw [killL_len]; omega)] at hk
    cases hk
    exact h'.2.2 _ List.mem_cons_self
  · rw [List.getElem?_set_ne hki] at hk
    obtain ⟨a, b⟩ := killL_at hk
    refine h'.2.2 (k, vmp G w) (List.mem_cons_of_mem _ (List.mem_filter.mpr ⟨mem_pairs.mpr ⟨w, a, rfl⟩, ?_⟩))
    rw [vmp_cat]
    have e1 : (k == i) = false := by simpa using fun q : k = i => hki q.symm
    have e2 : (k == i + 1) = false := by simpa using fun q : k = i + 1 => hk1 q.symm
    simp only [e1, e2, Bool.not_false, Bool.true_and, Bool.not_eq_true', Bool.and_eq_false_iff, beq_eq_false_iff_ne, ne_eq]
    by_cases q1 : k + 1 = i
    · exact Or.inr fun q2 => b ⟨q1, q2⟩
    · exact Or.inl q1
theorem argL_sl (G : GX) (vs : List Value) : (argL vs).length = (lg_sl (vs.map (vmp G))).length := by
  induction vs with
  | nil => rfl
  | cons v vs ih =>
    unfold argL
    simp only [lg_sl, List.map_cons, List.flatMap_cons, List.length_append] at ih ⊢
    rw [vmp_cat]
    by_cases h : v.category = 2
    · simp only [h, if_true, List.length_cons, List.length_nil, ih]; omega
    · simp only [h, if_false, List.length_cons, List.length_nil, ih]; omega
theorem argL_at (G : GX) (vs : List Value) : ∀ (i k : Nat) (v : Value), (argL vs)[k]? = some (some v) → (i + k, vmp G v) ∈ lv_args i (vs.map (vmp G)) := by
  induction vs with
  | nil => intro i k v h; simp [argL] at h
  | cons w vs ih =>
    intro i k v h
    unfold argL at h
    simp only [List.map_cons, lv_args, vmp_cat]
    by_cases hc : w.category = 2
    · simp only [hc, if_true] at h ⊢
      match k with
      | 0 =>
        simp at h; subst h; exact List.mem_cons_self
      | 1 => simp at h
      | k + 2 =>
        simp only [List.getElem?_cons_succ] at h
        have := ih (i + 2) k v h
        rw [show i + 2 + k = i + (k + 2) by omega] at this
        exact List.mem_cons_of_mem _ this
    · simp only [hc, if_false] at h ⊢
      match k with
      | 0 =>
        simp at h; subst h; exact List.mem_cons_self
      | k + 1 =>
        simp only [List.getElem?_cons_succ] at h
        have := ih (i + 1) k v h
        rw [show i + 1 + k = i + (k + 1) by omega] at this
        exact List.mem_cons_of_mem _ this
theorem LR.entry {G : GX} {vs : List Value} {n : Nat} (h : (argL vs).length ≤ n) : LR G n (entL n vs) ((lg_sl (vs.map (vmp G)) ++ List.replicate (n - (lg_sl (vs.map (vmp G))).length) Slot.unset).toArray) := by
  have hl := lv_entry (vs.map (vmp G)) (n := n) (by rw [← argL_sl]; exact h)
  refine ⟨by unfold entL; rw [List.length_append, List.length_replicate]; omega, hl.1, hl.2.1, fun k v hk => ?_⟩
  unfold entL at hk
  by_cases hlt : k < (argL vs).length
  · rw [List.getElem?_append_left hlt] at hk
    have := hl.2.2 _ (argL_at G vs 0 k v hk)
    rwa [Nat.zero_add] at this
  · rw [List.getElem?_append_right (by omega)] at hk
    have := List.eq_of_mem_replicate (List.mem_of_getElem? hk)
    cases this
theorem xat_cell {G : GX} {s : State} {k : Nat} {e : va_E} {H H1 : Heap} (h : xat G s k e H) (hq : H1[sg G k]? = H[sg G k]?) : xat G s k e H1 := by
  unfold xat at h ⊢
  split at h
  · by_cases hk : k = 0
    · subst hk
      simp only [if_true] at h ⊢
      intro ht
      obtain ⟨f, h2, h3⟩ := h ht
      exact ⟨f, h2, h3.kept hq⟩
    · rw [if_neg hk] at h ⊢
      obtain ⟨cid, h1, h2⟩ := h
      exact ⟨cid, by rw [hq]; exact h1, h2⟩
  · exact ⟨h.1, h.2.1, h.2.2.1, h.2.2.2.kept hq⟩
theorem xat_moved {G : GX} {u U : State} {k : Nat} {e : va_E} {H : Heap} (hvm : u.vm.Alike U.vm) (h : xat G u k e H) : xat G U k e H := by
  unfold xat at h ⊢
  split at h
  · by_cases hk : k = 0
    · subst hk
      simp only [if_true] at h ⊢
      intro ht
      obtain ⟨f, h2, h3⟩ := h ht
      exact ⟨f, h2, h3.moved hvm⟩
    · rw [if_neg hk] at h ⊢
      obtain ⟨cid, h1, h2, h3⟩ := h
      exact ⟨cid, h1, arrOfT_moved hvm h2, h3.moved hvm⟩
  · exact h
theorem SX.kept {G : GX} {s : State} {H H1 : Heap} (h : SX G s H) (hq : ∀ a : Nat, a < H.size → ¬ Aof G a → H1[a]? = H[a]?) : SX G s H1 := by
  obtain ⟨h1, adV, h2, h3⟩ := h
  exact ⟨h1, adV, h2.kept hq, h3.1.kept hq, h3.2.1, h3.2.2.1, h3.2.2.2.kept hq⟩
theorem SX.moved {G : GX} {u U : State} {H : Heap} (hW : u.WarmedH U.vm) (h : SX G u H) : SX G U H := by
  obtain ⟨h1, adV, h2, h3⟩ := h
  exact ⟨fun c i a q => (h1 c i a q).warm hW, adV, h2.moved hW.alike, h3.1.moved hW.alike, h3.2.1.moved hW.alike, fun C i y q => va_Nw.warmM hW (h3.2.2.1 C i y q), h3.2.2.2.moved hW.alike⟩
theorem Rep.moved {G : GX} {u U : State} {lw : LW} {H : Heap} (hW : u.WarmedH U.vm) (h : Rep G u lw H) : Rep G U lw H :=
  ⟨h.1, h.2.1, h.2.2.1, fun k e hk => xat_moved hW.alike (h.2.2.2.1 k e hk), va_K.moved hW.alike h.2.2.2.2.1, h.2.2.2.2.2.moved hW⟩
theorem Rep.idx {G : GX} {s : State} {lw : LW} {H : Heap} (h : Rep G s lw H) {k : Nat} {e : va_E} (hk : lw[k]? = some e) : k < EXT := Nat.lt_of_lt_of_le (List.getElem?_eq_some_iff.mp hk).1 h.2.2.1
/-- one cell changed -/
theorem Rep.set {G : GX} {s : State} {lw : LW} {H H1 : Heap} (h : Rep G s lw H) {a : Nat} (ha : a ≠ 0) {e0 e : va_E} (hk : lw[a]? = some e0) (z : H1.size = H.size) (oq : ∀ q, q ≠ sg G a → H1[q]? = H[q]?) (he : xat G s a e H1) : Rep G s (lw.set a e) H1 := by
  have hla := (List.getElem?_eq_some_iff.mp hk).1
  refine ⟨by rw [z, List.length_set]; exact h.1, h.2.1, by rw [List.length_set]; exact h.2.2.1, fun k x hx => ?_, h.2.2.2.2.1, h.2.2.2.2.2.kept fun q _ hq => oq q fun e => hq ?_⟩
  · by_cases hka : a = k
    · subst hka
      rw [List.getElem?_set_self hla] at hx
      cases hx
      exact he
    · rw [List.getElem?_set_ne hka] at hx
      exact xat_cell (h.2.2.2.1 k x hx) (oq _ fun q => hka (sg_inj (h.idx hk) (h.idx hx) h.2.1 q.symm))
  · rw [e, sg_lt ha (h.idx hk)]
    exact Nat.le_add_right _ _
/-- one cell more -/
theorem Rep.push {G : GX} {s : State} {lw : LW} {H H1 : Heap} (h : Rep G s lw H) (hl : lw.length < EXT) {e : va_E} (z : H1.size = H.size + 1) (oq : ∀ q, q < H.size → H1[q]? = H[q]?) (hn : 0 < lw.length) (he : xat G s lw.length e H1) : Rep G s (lw ++ [e]) H1 := by
  refine ⟨by rw [z, List.length_append]; have := h.1; simp only [List.length_singleton]; omega, h.2.1, by rw [List.length_append]; simp only [List.length_singleton]; omega, fun k x hx => ?_, h.2.2.2.2.1, h.2.2.2.2.2.kept fun q hq _ => oq q hq⟩
  by_cases hk : k < lw.length
  · rw [List.getElem?_append_left hk] at hx
    refine xat_cell (h.2.2.2.1 k x hx) (oq _ ?_)
    have h1 := h.1
    by_cases h0 : k = 0
    · subst h0
      have : sg G 0 = G.1 := rfl
      have := h.2.1
      omega
    · rw [sg_lt h0 (by omega)]
      omega
  · rw [List.getElem?_append_right (by omega)] at hx
    have hz : k - lw.length < 1 := (List.getElem?_eq_some_iff.mp hx).1
    have hk0 : k = lw.length := by omega
    subst hk0
    rw [Nat.sub_self] at hx
    cases hx
    exact he
theorem Rep.new_at {G : GX} {s : State} {lw : LW} {H : Heap} (h : Rep G s lw H) (hl : lw.length < EXT) (hn : 0 < lw.length) : sg G lw.length = H.size := by
  have h1 := h.1
  rw [sg_lt (by omega) hl]
  omega
theorem clL_at {c : Nat} (h : c < 11) : clL[c]? = some (cN.getD c "", TT c, fN c) := by
  unfold clL
  rw [List.getElem?_map, List.getElem?_range h]
  rfl
