/-! a run doesn't mind locals that it doesn't know -/
def Le (L L' : Lcl) : Prop := L.length = L'.length ∧ ∀ (k : Nat) (v : Value), L[k]? = some (some v) → L'[k]? = some (some v)
def rpl (L' : Lcl) (y : St ⊕ ((Nat × List Value × List Value) ⊕ Option Value)) : St ⊕ ((Nat × List Value × List Value) ⊕ Option Value) := match y with
  | .inl x => .inl (x.1, L', x.2.2)
  | .inr z => .inr z
section weak
variable {mi pc idx : Nat} {L L' : Lcl} {st : List Value} {lw : LW} {cs : Nat × Nat}
theorem bind_r {α : Type} {q : Option α} {f' f : α → SR} (h : ∀ a, f' a = (f a).map (rpl L')) : q.bind f' = (q.bind f).map (rpl L') := by
  cases q with
  | none => rfl
  | some a => exact h a
theorem ite_r {c : Prop} [Decidable c] {a' a b' b : SR} (ha : a' = a.map (rpl L')) (hb : b' = b.map (rpl L')) : (if c then a' else b') = (if c then a else b).map (rpl L') := by
  split
  · exact ha
  · exact hb
theorem nx_r : nx pc L' st lw cs = (nx pc L st lw cs).map (rpl L') := rfl
theorem go_r {off : Int} : go pc off L' st lw cs = (go pc off L st lw cs).map (rpl L') := bind_r fun _ => rfl
theorem ckl_r {a b : Nat} {r' r : SR} (h : r' = r.map (rpl L')) : ckl a b r' = (ckl a b r).map (rpl L') := ite_r h rfl
theorem bi2_r {g : Int32 → Int32 → Int32} : bi2 g pc L' st lw cs = (bi2 g pc L st lw cs).map (rpl L') := by
  rcases st with _ | ⟨v, _ | ⟨w, r⟩⟩
  · rfl
  · cases v <;> rfl
  · cases v <;> cases w <;> rfl
theorem bl2_r {g : Int64 → Int64 → Int64} : bl2 g pc L' st lw cs = (bl2 g pc L st lw cs).map (rpl L') := by
  rcases st with _ | ⟨v, _ | ⟨w, r⟩⟩
  · rfl
  · cases v <;> rfl
  · cases v <;> cases w <;> rfl
theorem bls_r {g : Int64 → Int32 → Int64} : bls g pc L' st lw cs = (bls g pc L st lw cs).map (rpl L') := by
  rcases st with _ | ⟨v, _ | ⟨w, r⟩⟩
  · rfl
  · cases v <;> rfl
  · cases v <;> cases w <;> rfl
theorem dv2_r {g : Int32 → Int32 → Int32} : dv2 g pc L' st lw cs = (dv2 g pc L st lw cs).map (rpl L') := by
  rcases st with _ | ⟨v, _ | ⟨w, r⟩⟩
  · rfl
  · cases v <;> rfl
  · cases v <;> cases w <;> first | rfl | exact ite_r rfl rfl
theorem iLd_r {t : Nat} : iLd t pc L' st lw cs = (iLd t pc L st lw cs).map (rpl L') := by
  rcases st with _ | ⟨v, _ | ⟨w, r⟩⟩
  · rfl
  · cases v <;> rfl
  · cases v <;> cases w <;> first | rfl | exact ite_r rfl (bind_r fun _ => ite_r rfl rfl)
theorem rLd_r : rLd pc L' st lw cs = (rLd pc L st lw cs).map (rpl L') := by
  rcases st with _ | ⟨v, _ | ⟨w, r⟩⟩
  · rfl
  · cases v <;> rfl
  · cases v <;> cases w <;> first | rfl | exact ite_r rfl (bind_r fun _ => ite_r rfl rfl)
theorem iSt_r {t : Nat} : iSt t pc L' st lw cs = (iSt t pc L st lw cs).map (rpl L') := by
  rcases st with _ | ⟨v, _ | ⟨w, _ | ⟨z, r⟩⟩⟩
  · rfl
  · cases v <;> rfl
  · cases v <;> cases w <;> rfl
  · cases v <;> cases w <;> cases z <;> first | rfl | exact ite_r rfl (bind_r fun _ => ite_r rfl rfl)
theorem rSt_r : rSt pc L' st lw cs = (rSt pc L st lw cs).map (rpl L') := by
  rcases st with _ | ⟨v, _ | ⟨w, _ | ⟨z, r⟩⟩⟩
  · rfl
  · cases v <;> rfl
  · cases v <;> cases w <;> rfl
  · cases w <;> cases z <;> first | rfl | (refine ite_r rfl ?_; cases v <;> first | rfl | exact bind_r fun _ => ite_r rfl rfl | exact bind_r fun _ => bind_r fun _ => ite_r (ite_r rfl rfl) rfl)
theorem gtF_r : gtF mi idx pc L' st lw cs = (gtF mi idx pc L st lw cs).map (rpl L') := by
  rcases st with _ | ⟨v, r⟩
  · rfl
  · cases v <;> first | rfl | exact bind_r fun _ => bind_r fun _ => ite_r (bind_r fun _ => rfl) rfl
theorem ptF_r : ptF mi idx pc L' st lw cs = (ptF mi idx pc L st lw cs).map (rpl L') := by
  rcases st with _ | ⟨v, _ | ⟨w, r⟩⟩
  · rfl
  · rfl
  · cases w <;> first | rfl | exact bind_r fun _ => bind_r fun _ => ite_r rfl rfl
theorem nwA_r {t w : Nat} {e : Nat → vp_A} : nwA mi pc t w e L' st lw cs = (nwA mi pc t w e L st lw cs).map (rpl L') := by
  rcases st with _ | ⟨v, r⟩
  · rfl
  · cases v <;> first | rfl | exact ite_r rfl rfl
theorem nwO_r : nwO mi idx pc L' st lw cs = (nwO mi idx pc L st lw cs).map (rpl L') := bind_r fun _ => ite_r rfl rfl
theorem cal_r {j n : Nat} : cal mi j n st cs = (cal mi j n st cs).map (rpl L') := by
  unfold cal
  exact ite_r rfl rfl
theorem inv_r {ks : List Nat} : inv mi idx pc ks L' st lw cs = (inv mi idx pc ks L st lw cs).map (rpl L') := by
  refine bind_r fun q => ite_r rfl ?_
  obtain ⟨kd, j⟩ := q
  match kd with
  | 0 => exact ite_r cal_r rfl
  | 1 => exact cal_r
  | 2 => exact ite_r cal_r rfl
  | 3 => exact cal_r
  | 4 => exact ite_r cal_r rfl
  | 5 =>
    rcases st with _ | ⟨v, r⟩
    · rfl
    · cases v <;> first | rfl | exact ite_r rfl rfl
  | 6 =>
    rcases st with _ | ⟨v1, _ | ⟨v2, _ | ⟨v3, _ | ⟨v4, _ | ⟨v5, r⟩⟩⟩⟩⟩
    · rfl
    · cases v1 <;> rfl
    · cases v1 <;> cases v2 <;> rfl
    · cases v1 <;> cases v2 <;> cases v3 <;> rfl
    · cases v1 <;> cases v2 <;> cases v3 <;> cases v4 <;> rfl
    · cases v1 <;> try rfl
      cases v2 <;> try rfl
      cases v3 <;> try rfl
      cases v4 <;> try rfl
      cases v5 <;> try rfl
      exact ite_r rfl (bind_r fun _ => bind_r fun _ => ite_r rfl rfl)
  | 7 =>
    rcases st with _ | ⟨v, r⟩
    · rfl
    · cases v <;> first | rfl | exact ite_r rfl rfl
  | 8 =>
    rcases st with _ | ⟨v, _ | ⟨w, r⟩⟩
    · rfl
    · cases v <;> rfl
    · cases v <;> cases w <;> first | rfl | exact ite_r rfl rfl
  | 9 =>
    rcases st with _ | ⟨v, r⟩
    · rfl
    · cases v <;> first | rfl | exact ite_r rfl rfl
  | 10 =>
    rcases st with _ | ⟨v, _ | ⟨w, r⟩⟩
    · rfl
    · cases v <;> rfl
    · cases v <;> cases w <;> first | rfl | exact ite_r rfl rfl
  | n + 11 =>
    rcases st with _ | ⟨v, _ | ⟨w, r⟩⟩
    · rfl
    · cases v <;> rfl
    · cases v <;> cases w <;> first | rfl | exact ite_r rfl rfl
/-- with locals that know more the same comes, and the locals behind know more -/
def SRle (r r' : SR) : Prop := ∀ y, r = some y → ∃ y', r' = some y' ∧ ((∃ x x', y = .inl x ∧ y' = .inl x' ∧ x'.1 = x.1 ∧ Le x.2.1 x'.2.1 ∧ x'.2.2 = x.2.2) ∨ (∃ z, y = .inr z ∧ y' = .inr z))
/-- the locals are as they were -/
def keeps (L : Lcl) (r : SR) : Prop := ∀ x, r = some (.inl x) → x.2.1 = L
theorem SRle_r {r r' : SR} (hL : Le L L') (hk : keeps L r) (h : r' = r.map (rpl L')) : SRle r r' := by
  intro y hy
  subst hy
  refine ⟨_, h, ?_⟩
  rcases y with x | z
  · exact Or.inl ⟨x, _, rfl, rfl, rfl, by rw [hk x rfl]; exact hL, rfl⟩
  · exact Or.inr ⟨z, rfl, rfl⟩
theorem SRle_ckl {a b : Nat} {r r' : SR} (h : SRle r r') : SRle (ckl a b r) (ckl a b r') := by
  unfold ckl
  split
  · exact h
  · intro y hy; cases hy
theorem Le.ld (h : Le L L') {k : Nat} {v : Value} (hv : ldv L k = some v) : ldv L' k = some v := by
  have := h.2 k v (ldv_inv hv)
  unfold ldv
  rw [this]
theorem Le_nx {p1 : Nat} (h : Le L L') : SRle (nx p1 L st lw cs) (nx p1 L' st lw cs) := by
  intro y hy
  cases hy
  exact ⟨_, rfl, Or.inl ⟨_, _, rfl, rfl, rfl, h, rfl⟩⟩
theorem Le.kill (h : Le L L') (i : Nat) : Le (killL L i) (killL L' i) := by
  refine ⟨by rw [killL_len, killL_len]; exact h.1, fun k v hk => ?_⟩
  obtain ⟨h1, h2⟩ := killL_at hk
  have h3 := h.2 k v h1
  cases i with
  | zero => exact h3
  | succ j =>
    show (bif cat2 L'[j]? then L'.set j none else L')[k]? = some (some v)
    cases hc : cat2 L'[j]? with
    | false => exact h3
    | true =>
      rw [cond_true]
      have hjk : j ≠ k := by
        intro e
        subst e
        refine h2 ⟨rfl, ?_⟩
        rw [h3] at hc
        simpa [cat2] using hc
      rw [List.getElem?_set_ne hjk]
      exact h3
theorem Le.set (h : Le L L') (i : Nat) (v : Option Value) : Le (L.set i v) (L'.set i v) := by
  refine ⟨by rw [List.length_set, List.length_set]; exact h.1, fun k w hk => ?_⟩
  by_cases hik : i = k
  · subst hik
    by_cases hl : i < L.length
    · rw [List.getElem?_set_self hl] at hk
      rw [List.getElem?_set_self (by rw [← h.1]; exact hl)]
      exact hk
    · rw [List.getElem?_eq_none (by rw [List.length_set]; omega)] at hk
      cases hk
  · rw [List.getElem?_set_ne hik] at hk
    rw [List.getElem?_set_ne hik]
    exact h.2 k w hk
theorem Le_st1 (h : Le L L') {i p1 : Nat} {v : Value} : SRle ((st1 L i v).bind fun M => nx p1 M st lw cs) ((st1 L' i v).bind fun M => nx p1 M st lw cs) := by
  unfold st1
  rw [← h.1]
  split
  · exact Le_nx ((h.kill i).set i (some v))
  · intro y hy; cases hy
theorem Le_st2 (h : Le L L') {i p1 : Nat} {v : Value} : SRle ((st2 L i v).bind fun M => nx p1 M st lw cs) ((st2 L' i v).bind fun M => nx p1 M st lw cs) := by
  unfold st2
  rw [← h.1]
  split
  · exact Le_nx (((h.kill i).set i (some v)).set (i + 1) none)
  · intro y hy; cases hy
theorem none_le {r : SR} : SRle none r := fun y hy => by cases hy
theorem ldI_le (h : Le L L') {i p1 : Nat} : SRle (ldI L i p1 st lw cs) (ldI L' i p1 st lw cs) := by
  unfold ldI
  cases hv : ldv L i with
  | none => exact none_le
  | some v => rw [h.ld hv]; cases v <;> first | exact none_le | exact Le_nx h
theorem ldJ_le (h : Le L L') {i p1 : Nat} : SRle (ldJ L i p1 st lw cs) (ldJ L' i p1 st lw cs) := by
  unfold ldJ
  cases hv : ldv L i with
  | none => exact none_le
  | some v => rw [h.ld hv]; cases v <;> first | exact none_le | exact Le_nx h
theorem ldA_le (h : Le L L') {i p1 : Nat} : SRle (ldA L i p1 st lw cs) (ldA L' i p1 st lw cs) := by
  unfold ldA
  cases hv : ldv L i with
  | none => exact none_le
  | some v => rw [h.ld hv]; cases v <;> first | exact none_le | exact Le_nx h
theorem stI_le (h : Le L L') {i p1 : Nat} : SRle (stI L i p1 st lw cs) (stI L' i p1 st lw cs) := by
  rcases st with _ | ⟨v, r⟩
  · exact none_le
  · cases v <;> first | exact none_le | exact Le_st1 h
theorem stA_le (h : Le L L') {i p1 : Nat} : SRle (stA L i p1 st lw cs) (stA L' i p1 st lw cs) := by
  rcases st with _ | ⟨v, r⟩
  · exact none_le
  · cases v <;> first | exact none_le | exact Le_st1 h
theorem stJ_le (h : Le L L') {i p1 : Nat} : SRle (stJ L i p1 st lw cs) (stJ L' i p1 st lw cs) := by
  rcases st with _ | ⟨v, r⟩
  · exact none_le
  · cases v <;> first | exact none_le | exact Le_st2 h
theorem map_le {r r' : SR} (hL : Le L L') (h : r' = r.map (rpl L')) (hk : r = r.map (rpl L)) : SRle r r' := by
  refine SRle_r hL (fun x hx => ?_) h
  rw [hx] at hk
  have hk : x = (x.1, L, x.2.2) := by injection hk with hk; injection hk
  rw [hk]
set_option maxHeartbeats 2000000 in
theorem stp_le (h : Le L L') {i : Instr} {len : Nat} : SRle (stp mi pc i len L st lw cs) (stp mi pc i len L' st lw cs) := by
  cases i
  case newarray t => cases t <;> simp only [stp] <;> first | exact none_le | exact SRle_ckl (map_le h nwA_r nwA_r)
  all_goals simp only [stp]
  all_goals try (exact none_le)
  all_goals try (refine SRle_ckl ?_)
  all_goals try (first | exact ldA_le h | exact ldI_le h | exact ldJ_le h | exact stA_le h | exact stI_le h | exact stJ_le h | exact Le_nx h)
  all_goals try (first | exact map_le h bi2_r bi2_r | exact map_le h bl2_r bl2_r | exact map_le h bls_r bls_r | exact map_le h dv2_r dv2_r | exact map_le h iLd_r iLd_r | exact map_le h iSt_r iSt_r | exact map_le h rLd_r rLd_r | exact map_le h rSt_r rSt_r | exact map_le h gtF_r gtF_r | exact map_le h ptF_r ptF_r | exact map_le h nwO_r nwO_r | exact map_le h inv_r inv_r | exact map_le h go_r go_r)
  case anewarray k => exact map_le h (ite_r nwA_r rfl) (ite_r nwA_r rfl)
  case iinc k n =>
    cases hv : ldv L k with
    | none => exact none_le
    | some v => rw [h.ld hv]; cases v <;> first | exact none_le | exact Le_st1 h
  case ldc k =>
    cases lk ktab (mC mi) k with
    | none => exact map_le h (bind_r fun _ => ite_r rfl rfl) (bind_r fun _ => ite_r rfl rfl)
    | some x => exact Le_nx h
  case ldc_w k => exact map_le h (bind_r fun _ => rfl) (bind_r fun _ => rfl)
  case ldc2_w k => exact map_le h (bind_r fun _ => rfl) (bind_r fun _ => rfl)
  all_goals refine map_le h ?_ ?_
  case arraylength =>
    rcases st with _ | ⟨v, r⟩
    · rfl
    · cases v
      case ref a => generalize hq : lw[a]? = q; simp only [hq]; rcases q with _ | (⟨t, n, y⟩ | o') <;> first | rfl | exact ite_r rfl rfl
      all_goals rfl
  case arraylength =>
    rcases st with _ | ⟨v, r⟩
    · rfl
    · cases v
      case ref a => generalize hq : lw[a]? = q; simp only [hq]; rcases q with _ | (⟨t, n, y⟩ | o') <;> first | rfl | exact ite_r rfl rfl
      all_goals rfl
  case areturn => rcases st with _ | ⟨v, _ | ⟨w, r⟩⟩ <;> first | rfl | (cases mR mi with | none => cases v <;> rfl | some ty => cases ty <;> cases v <;> rfl)
  case areturn => rcases st with _ | ⟨v, _ | ⟨w, r⟩⟩ <;> first | rfl | (cases mR mi with | none => cases v <;> rfl | some ty => cases ty <;> cases v <;> rfl)
  all_goals (rcases st with _ | ⟨v, _ | ⟨w, r⟩⟩)
  all_goals try rfl
  all_goals try (exact ite_r rfl rfl)
  all_goals try (exact bind_r fun _ => bind_r fun _ => ite_r (bind_r fun _ => rfl) rfl)
  all_goals cases v
  all_goals try rfl
  all_goals try (exact ite_r rfl rfl)
  all_goals try (exact bind_r fun _ => go_r)
  all_goals try (exact bind_r fun _ => rfl)
  all_goals try (exact ite_r go_r rfl)
  all_goals try (exact go_r)
  all_goals try (exact bind_r fun _ => ite_r rfl rfl)
  all_goals try (cases w)
  all_goals try rfl
  all_goals try (exact bind_r fun _ => rfl)
theorem exec_le_L : ∀ (n : Nat) {mi pc : Nat} {L L' : Lcl} {st : List Value} {lw : LW} {cs : Nat × Nat} {y}, Le L L' → exec n mi (pc, L, st, lw, cs) = some y → exec n mi (pc, L', st, lw, cs) = some y := by
  intro n
  induction n with
  | zero => intro mi pc L L' st lw cs y _ h; cases h
  | succ n ih =>
    intro mi pc L L' st lw cs y hL h
    simp only [exec] at h ⊢
    cases hd : decode (mB mi) pc with
    | error z => rw [hd] at h; cases h
    | ok q =>
      rw [hd] at h
      simp only at h ⊢
      cases hs : stp mi pc q.1 q.2 L st lw cs with
      | none => rw [hs] at h; cases h
      | some w =>
        obtain ⟨w', hw', hx⟩ := stp_le (mi := mi) (pc := pc) (st := st) (lw := lw) (cs := cs) hL (i := q.1) (len := q.2) w hs
        rw [hs] at h
        rw [hw']
        rcases hx with ⟨x, x', rfl, rfl, e1, e2, e3⟩ | ⟨z, rfl, rfl⟩
        · obtain ⟨p1, M, s1⟩ := x
          obtain ⟨p1', M', s1'⟩ := x'
          simp only at e1 e2 e3 h ⊢
          subst e1
          subst e3
          obtain ⟨a, b, c⟩ := s1'
          exact ih e2 h
        · rcases z with c | v
          · simp only at h ⊢
            cases hr : exec n c.1 (0, entL (mL c.1) c.2.1, [], lw, (0, 0)) with
            | none => rw [hr] at h; cases h
            | some r =>
              rw [hr] at h
              exact ih hL h
          · exact h
theorem Rn.weak {r : RT} (hL : Le L L') (h : Rn mi (pc, L, st, lw, cs) r) : Rn mi (pc, L', st, lw, cs) r := by
  obtain ⟨n, cs', hn⟩ := h
  exact ⟨n, cs', exec_le_L n hL hn⟩
theorem Le.refl : Le L L := ⟨rfl, fun _ _ h => h⟩
theorem Le_n : Le [] [] := Le.refl
theorem Le_k {v : Option Value} (h : Le L L') : Le (v :: L) (v :: L') := ⟨by rw [List.length_cons, List.length_cons, h.1], fun k w hk => by
  cases k with
  | zero => exact hk
  | succ k => exact h.2 k w hk⟩
theorem Le_s {v : Option Value} (h : Le L L') : Le (none :: L) (v :: L') := ⟨by rw [List.length_cons, List.length_cons, h.1], fun k w hk => by
  cases k with
  | zero => cases hk
  | succ k => exact h.2 k w hk⟩
theorem G_weak {T : Sg → LW} {α : Type} {K : α → Sg → RT → Prop} {p : PM α} {i : Nat} (hL : Le L L') (h : GS mi T i L K p) : GS mi T i L' K p := fun S v S' r h1 kk => (h S v S' r h1 kk).weak hL
theorem G_atW {T : Sg → LW} {α : Type} {j : Nat} {M : α → Lcl} {a : α} (hL : Le (M a) L) : GS mi T j L (Kat mi T j M) (pu a) := by
  intro S v S' r h kk
  obtain ⟨rfl, rfl⟩ := pu_inv h
  exact Rn.weak hL kk
end weak
