theorem lk_lt {α : Type} {l : List (List (Nat × α))} {c i : Nat} {a : α} (h : lk l c i = some a) : c < l.length := by
  rcases Nat.lt_or_ge c l.length with q | q
  · exact q
  · have hm := lk_mem h
    rw [List.getD_eq_getElem?_getD, List.getElem?_eq_none q] at hm
    cases hm
set_option maxRecDepth 100000 in
theorem pD_all : ((List.range 11).all fun c => (List.range (fN c)).all fun k => decide (parseFieldDescriptor (TT c k).2.2.1 = some (tyF c k))) = true := by decide +kernel
theorem pD_ok {c : Nat} (hc : c < 11) : ∀ k, k < fN c → parseFieldDescriptor (TT c k).2.2.1 = some (tyF c k) := fun k hk => by
  have h := List.all_eq_true.mp (List.all_eq_true.mp pD_all c (List.mem_range.mpr hc)) k (List.mem_range.mpr hk)
  simpa using h
def nmU : List String → Bool
  | [] => true
  | a :: l => !(l.elem a) && nmU l
theorem nmU_inj : ∀ (l : List String), nmU l = true → ∀ (i j : Nat) (a : String), l[i]? = some a → l[j]? = some a → i = j
  | [], _, i, j, a, h, _ => by simp at h
  | b :: l, hn, i, j, a, h1, h2 => by
    simp only [nmU, Bool.and_eq_true, Bool.not_eq_true', List.elem_eq_mem, decide_eq_false_iff_not] at hn
    cases i with
    | zero =>
      cases j with
      | zero => rfl
      | succ j =>
        rw [List.getElem?_cons_zero] at h1
        rw [List.getElem?_cons_succ] at h2
        cases h1
        exact absurd (List.mem_of_getElem? h2) hn.1
    | succ i =>
      rw [List.getElem?_cons_succ] at h1
      cases j with
      | zero =>
        rw [List.getElem?_cons_zero] at h2
        cases h2
        exact absurd (List.mem_of_getElem? h1) hn.1
      | succ j =>
        rw [List.getElem?_cons_succ] at h2
        rw [nmU_inj l hn.2 i j a h1 h2]
set_option maxRecDepth 100000 in
theorem nmU_all : ((List.range 11).all fun c => nmU ((List.range (fN c)).map fun k => (TT c k).2.1)) = true := by decide +kernel
theorem nm_ok {c : Nat} (hc : c < 11) : ∀ a, a < fN c → ∀ b, b < fN c → a ≠ b → (TT c a).2.1 ≠ (TT c b).2.1 := fun a ha b hb hab he => by
  have h := List.all_eq_true.mp nmU_all c (List.mem_range.mpr hc)
  refine hab (nmU_inj _ h a b (TT c a).2.1 ?_ ?_)
  · rw [List.getElem?_map, List.getElem?_range ha]; rfl
  · rw [List.getElem?_map, List.getElem?_range hb, he]; rfl
theorem wU_in {c : Nat} (hc : c < 11) : ∀ w ∈ u_ws (cN.getD c "") (TT c) (fN c), w ∈ lwG := fun w hw => by
  obtain ⟨k, hk, rfl⟩ := List.mem_map.mp hw
  exact inG (wU_all c hc k (List.mem_range.mp hk)) (u_lay_good _ _ _)
theorem fit_ok {G : GX} {ty : FieldType} {v : Value} (h : fitV ty v = true) : narrow ty (vmp G v) = vmp G v ∧ fits ty (vmp G v) = true := by
  unfold fitV at h
  split at h
  · exact ⟨rfl, rfl⟩
  · next x =>
    simp only [Bool.or_eq_true, decide_eq_true_eq] at h
    rcases h with rfl | rfl <;> exact ⟨rfl, rfl⟩
  · exact ⟨rfl, rfl⟩
  · exact ⟨rfl, rfl⟩
  · exact ⟨rfl, rfl⟩
  · exact ⟨rfl, rfl⟩
  · cases h
theorem tt_0 : ∀ k, k < fN 0 → (TT 0 k).1 = cN.getD 0 "" := fun k hk => match k, hk with
  | 0, _ => rfl
  | 1, _ => rfl
  | 2, _ => rfl
  | 3, _ => rfl
  | 4, _ => rfl
  | 5, _ => rfl
  | 6, _ => rfl
  | 7, _ => rfl
  | 8, _ => rfl
  | 9, _ => rfl
  | 10, _ => rfl
  | 11, _ => rfl
  | 12, _ => rfl
  | 13, _ => rfl
  | 14, _ => rfl
  | 15, _ => rfl
  | 16, _ => rfl
  | 17, _ => rfl
  | 18, _ => rfl
  | 19, _ => rfl
  | n + 20, h => absurd (show n + 20 < 20 from h) (by omega)
theorem tt_1 : ∀ k, k < fN 1 → (TT 1 k).1 = cN.getD 1 "" := fun k hk => match k, hk with
  | 0, _ => rfl
  | 1, _ => rfl
  | 2, _ => rfl
  | n + 3, h => absurd (show n + 3 < 3 from h) (by omega)
theorem tt_2 : ∀ k, k < fN 2 → (TT 2 k).1 = cN.getD 2 "" := fun k hk => match k, hk with
  | 0, _ => rfl
  | 1, _ => rfl
  | 2, _ => rfl
  | 3, _ => rfl
  | 4, _ => rfl
  | 5, _ => rfl
  | 6, _ => rfl
  | 7, _ => rfl
  | 8, _ => rfl
  | 9, _ => rfl
  | 10, _ => rfl
  | 11, _ => rfl
  | 12, _ => rfl
  | 13, _ => rfl
  | 14, _ => rfl
  | 15, _ => rfl
  | 16, _ => rfl
  | 17, _ => rfl
  | n + 18, h => absurd (show n + 18 < 18 from h) (by omega)
theorem tt_3 : ∀ k, k < fN 3 → (TT 3 k).1 = cN.getD 3 "" := fun k hk => match k, hk with
  | 0, _ => rfl
  | 1, _ => rfl
  | n + 2, h => absurd (show n + 2 < 2 from h) (by omega)
theorem tt_4 : ∀ k, k < fN 4 → (TT 4 k).1 = cN.getD 4 "" := fun k hk => match k, hk with
  | 0, _ => rfl
  | 1, _ => rfl
  | 2, _ => rfl
  | 3, _ => rfl
  | 4, _ => rfl
  | 5, _ => rfl
  | 6, _ => rfl
  | 7, _ => rfl
  | 8, _ => rfl
  | 9, _ => rfl
  | 10, _ => rfl
  | n + 11, h => absurd (show n + 11 < 11 from h) (by omega)
theorem tt_5 : ∀ k, k < fN 5 → (TT 5 k).1 = cN.getD 5 "" := fun k hk => match k, hk with
  | 0, _ => rfl
  | 1, _ => rfl
  | 2, _ => rfl
  | 3, _ => rfl
  | 4, _ => rfl
  | 5, _ => rfl
  | 6, _ => rfl
  | n + 7, h => absurd (show n + 7 < 7 from h) (by omega)
theorem tt_6 : ∀ k, k < fN 6 → (TT 6 k).1 = cN.getD 6 "" := fun k hk => match k, hk with
  | 0, _ => rfl
  | 1, _ => rfl
  | 2, _ => rfl
  | 3, _ => rfl
  | 4, _ => rfl
  | n + 5, h => absurd (show n + 5 < 5 from h) (by omega)
theorem tt_7 : ∀ k, k < fN 7 → (TT 7 k).1 = cN.getD 7 "" := fun k hk => match k, hk with
  | 0, _ => rfl
  | 1, _ => rfl
  | 2, _ => rfl
  | 3, _ => rfl
  | 4, _ => rfl
  | 5, _ => rfl
  | 6, _ => rfl
  | 7, _ => rfl
  | 8, _ => rfl
  | 9, _ => rfl
  | 10, _ => rfl
  | n + 11, h => absurd (show n + 11 < 11 from h) (by omega)
theorem tt_8 : ∀ k, k < fN 8 → (TT 8 k).1 = cN.getD 8 "" := fun k hk => match k, hk with
  | 0, _ => rfl
  | 1, _ => rfl
  | 2, _ => rfl
  | 3, _ => rfl
  | 4, _ => rfl
  | n + 5, h => absurd (show n + 5 < 5 from h) (by omega)
theorem tt_9 : ∀ k, k < fN 9 → (TT 9 k).1 = cN.getD 9 "" := fun k hk => match k, hk with
  | 0, _ => rfl
  | 1, _ => rfl
  | 2, _ => rfl
  | 3, _ => rfl
  | 4, _ => rfl
  | 5, _ => rfl
  | 6, _ => rfl
  | 7, _ => rfl
  | 8, _ => rfl
  | 9, _ => rfl
  | 10, _ => rfl
  | 11, _ => rfl
  | n + 12, h => absurd (show n + 12 < 12 from h) (by omega)
theorem tt_10 : ∀ k, k < fN 10 → (TT 10 k).1 = cN.getD 10 "" := fun k hk => match k, hk with
  | 0, _ => rfl
  | 1, _ => rfl
  | 2, _ => rfl
  | 3, _ => rfl
  | 4, _ => rfl
  | 5, _ => rfl
  | 6, _ => rfl
  | 7, _ => rfl
  | 8, _ => rfl
  | 9, _ => rfl
  | 10, _ => rfl
  | 11, _ => rfl
  | 12, _ => rfl
  | 13, _ => rfl
  | 14, _ => rfl
  | 15, _ => rfl
  | 16, _ => rfl
  | 17, _ => rfl
  | 18, _ => rfl
  | 19, _ => rfl
  | 20, _ => rfl
  | 21, _ => rfl
  | 22, _ => rfl
  | 23, _ => rfl
  | 24, _ => rfl
  | 25, _ => rfl
  | 26, _ => rfl
  | 27, _ => rfl
  | 28, _ => rfl
  | 29, _ => rfl
  | 30, _ => rfl
  | 31, _ => rfl
  | 32, _ => rfl
  | 33, _ => rfl
  | 34, _ => rfl
  | 35, _ => rfl
  | 36, _ => rfl
  | 37, _ => rfl
  | 38, _ => rfl
  | 39, _ => rfl
  | 40, _ => rfl
  | 41, _ => rfl
  | 42, _ => rfl
  | 43, _ => rfl
  | 44, _ => rfl
  | 45, _ => rfl
  | 46, _ => rfl
  | 47, _ => rfl
  | 48, _ => rfl
  | 49, _ => rfl
  | 50, _ => rfl
  | 51, _ => rfl
  | 52, _ => rfl
  | 53, _ => rfl
  | 54, _ => rfl
  | 55, _ => rfl
  | 56, _ => rfl
  | 57, _ => rfl
  | 58, _ => rfl
  | 59, _ => rfl
  | 60, _ => rfl
  | 61, _ => rfl
  | 62, _ => rfl
  | 63, _ => rfl
  | 64, _ => rfl
  | 65, _ => rfl
  | 66, _ => rfl
  | 67, _ => rfl
  | 68, _ => rfl
  | 69, _ => rfl
  | 70, _ => rfl
  | 71, _ => rfl
  | 72, _ => rfl
  | 73, _ => rfl
  | 74, _ => rfl
  | 75, _ => rfl
  | 76, _ => rfl
  | 77, _ => rfl
  | 78, _ => rfl
  | 79, _ => rfl
  | 80, _ => rfl
  | 81, _ => rfl
  | 82, _ => rfl
  | n + 83, h => absurd (show n + 83 < 83 from h) (by omega)
set_option maxRecDepth 100000 in
theorem tt_all : ∀ c, c < 11 → ∀ k, k < fN c → (TT c k).1 = cN.getD c "" := fun c hc k hk => by
  match c, hc with
  | 0, _ => exact tt_0 k hk
  | 1, _ => exact tt_1 k hk
  | 2, _ => exact tt_2 k hk
  | 3, _ => exact tt_3 k hk
  | 4, _ => exact tt_4 k hk
  | 5, _ => exact tt_5 k hk
  | 6, _ => exact tt_6 k hk
  | 7, _ => exact tt_7 k hk
  | 8, _ => exact tt_8 k hk
  | 9, _ => exact tt_9 k hk
  | 10, _ => exact tt_10 k hk
  | n + 11, h => exact absurd h (by omega)
theorem tt_own {c k : Nat} (hc : c < 11) (hk : k < fN c) : (TT c k).1 = cN.getD c "" := tt_all c hc k hk
section step2
variable {p : Program} {l : Launch} {e : Env} {s : State} {m : MethodId} {args : Array Value} {below : List Frame} {meth : Method} {c : Code} {H : Heap} {locs : List Loc} {Q : State → Prop} {G : GX} {mi : Nat}
theorem gtF_ok (C : Cx p s m args meth c G mi) {pc idx : Nat} {L : Lcl} {st : List Value} {lw : LW} {cs : Nat × Nat} {x : St} {ls : Array Slot} (hL : LR G (mL mi) L ls) (hR : Rep G s lw H) (hS : va_S (Aof G) s.heap H locs)
    (kk : ∀ (ls' : Array Slot) (H' : Heap) (locs' : List Loc), LR G (mL mi) x.2.1 ls' → Rep G s x.2.2.2.1 H' → va_S (Aof G) s.heap H' locs' → W p l e (mRm mi) s m args below meth c H' locs' x.2.2.2.2.1 x.2.2.2.2.2 Q (F0 m x.1 ls' (x.2.2.1.map (vmp G))))
    (h : gtF mi idx pc L st lw cs = some (.inl x)) (hd : decode (mB mi) pc = .ok (.getfield idx, 3)) : W p l e (mRm mi) s m args below meth c H locs cs.1 cs.2 Q (F0 m pc ls (st.map (vmp G))) := by
  obtain ⟨hx, hb, hml, hown, hts, hin, hbs⟩ := C
  unfold gtF at h
  split at h
  · next a r =>
    obtain ⟨f, hf, h⟩ := Option.bind_eq_some_iff.mp h
    obtain ⟨o, ho, h⟩ := Option.bind_eq_some_iff.mp h
    split at h
    · next hc =>
      obtain ⟨v, hv, h⟩ := Option.bind_eq_some_iff.mp h
      cases h
      have hxa := hR.2.2.2.1 a _ (obj_inv ho)
      unfold xat at hxa
      obtain ⟨ha, hci, hlen, hob⟩ := hxa
      have hk : f.2 < fN o.1 := by rw [← hlen]; exact (List.getElem?_eq_some_iff.mp hv).1
      have hP : va_P G.2.2.2 clL [(sg G a, .inr (o.1, o.2.map (vmp G)))] H := fun k q hq => by
        have hz : k < 1 := (List.getElem?_eq_some_iff.mp hq).1
        rw [show k = 0 by omega] at hq
        cases hq
        exact ⟨_, clL_at hci, hob⟩
      have hw := wF_all _ (lk_lt hf) _ (lk_mem hf)
      unfold pF at hw
      refine va_get (C := cN.getD o.1 "") (T := TT o.1) (N := fN o.1) (ref := (TT o.1 f.2).1) (v := vmp G v) hx hb hts (wU_in hci) hown hR.2.2.2.2.1 hP 0 rfl (clL_at hci) f.2 hk ?_ (fun _ h9 => h9) (by rw [List.getElem?_map, hv]; rfl) hd (kk ls H locs hL hR hS)
      rw [hc]
      exact hts _ (inG hw rfl)
    · cases h
  · cases h
theorem ptF_ok (C : Cx p s m args meth c G mi) {pc idx : Nat} {L : Lcl} {st : List Value} {lw : LW} {cs : Nat × Nat} {x : St} {ls : Array Slot} (hL : LR G (mL mi) L ls) (hR : Rep G s lw H) (hS : va_S (Aof G) s.heap H locs)
    (kk : ∀ (ls' : Array Slot) (H' : Heap) (locs' : List Loc), LR G (mL mi) x.2.1 ls' → Rep G s x.2.2.2.1 H' → va_S (Aof G) s.heap H' locs' → W p l e (mRm mi) s m args below meth c H' locs' x.2.2.2.2.1 x.2.2.2.2.2 Q (F0 m x.1 ls' (x.2.2.1.map (vmp G))))
    (h : ptF mi idx pc L st lw cs = some (.inl x)) (hd : decode (mB mi) pc = .ok (.putfield idx, 3)) : W p l e (mRm mi) s m args below meth c H locs cs.1 cs.2 Q (F0 m pc ls (st.map (vmp G))) := by
  obtain ⟨hx, hb, hml, hown, hts, hin, hbs⟩ := C
  unfold ptF at h
  split at h
  · next v a r =>
    obtain ⟨f, hf, h⟩ := Option.bind_eq_some_iff.mp h
    obtain ⟨o, ho, h⟩ := Option.bind_eq_some_iff.mp h
    split at h
    · next hc =>
      obtain ⟨hc, ha0, hk, hfit, hfin⟩ := hc
      cases h
      have hko := obj_inv ho
      have hxa := hR.2.2.2.1 a _ hko
      unfold xat at hxa
      obtain ⟨ha, hci, hlen, cell, q1, q2, q3, q4⟩ := hxa
      have hkN : f.2 < fN o.1 := by rw [← hlen]; exact hk
      have hap := va_apart (own := cN.getD (mC mi) "") hts (wU_in hci) (tyF o.1) (pD_ok hci) (nm_ok hci) hR.2.2.2.2.1 (clL_at hci)
      obtain ⟨hSl, hfc, kC, hkC, hkind⟩ := hR.2.2.2.2.1.1 o.1 _ (clL_at hci)
      obtain ⟨cf, kf, fi, fd, hi, hsl⟩ := hSl f.2 hkN
      have hlay := hts _ (inG (wU_all o.1 hci f.2 hkN) (u_lay_good _ _ _))
      have hw := wF_all _ (lk_lt hf) _ (lk_mem hf)
      unfold pF at hw
      rw [← hc] at hw hfit hfin
      have hst := (u_facts hfc hkC (u_lays hts (wU_in hci) hkN) hi).1
      obtain ⟨hn, hft⟩ := fit_ok (G := G) hfit
      have fin : ∀ H' : Heap, H'[sg G a]? = some (cell.setSlot fd.slot (vmp G v)) → H'.size = H.size → (∀ y, y ≠ sg G a → H'[y]? = H[y]?) →
          W p l e (mRm mi) s m args below meth c H' (locs ++ [⟨sg G a, fd.slot⟩]) cs.1 cs.2 Q (F0 m (pc + 3) ls (r.map (vmp G))) := by
        intro H' e1 z oq
        refine kk ls H' _ hL (hR.set ha hko z oq ?_) (hS.put z oq (Aof_sg ha (hR.idx hko)))
        unfold xat
        refine ⟨ha, hci, by rw [List.length_set]; exact hlen, ?_⟩
        rw [hsl] at e1
        rw [List.map_set]
        exact t_OB.to (V := updV (vp_V (o.2.map (vmp G))) f.2 (vmp G v)) ⟨_, e1, q2, q3, t_set q4 hap hkN (vmp G v)⟩ (fun j _ => vp_updV_set (by rw [List.length_map]; exact hk) (vmp G v) j)
      have hlt : fd.slot < cell.slots.size := by rw [hsl]; exact k2_hasslot (q4 f.2 hkN)
      by_cases hF : (TT o.1 f.2).2.2.2 = true
      · obtain ⟨hmk, hmc⟩ := hfin hF
        unfold u_lay at hlay
        rw [if_pos hF] at hlay
        have hcf : m.cls = cf := by
          obtain ⟨_, _, c', _, _, _, -, -, hf', -, -, -, hown2, -⟩ := Cond.laysFinal_spec hlay
          have e1 : c' = cf := by have := hi.symm.trans hf'; simp at this; exact this.1.symm
          rw [hmc] at hown
          have e2 : (TT o.1 f.2).1 = cN.getD o.1 "" := tt_own hci hkN
          rw [e2] at hown2
          rw [← e1]; exact Option.some.inj (hown.symm.trans hown2)
        have h6 := u_fits hfc hkC hkind (Or.inr hlay) hi (pD_ok hci f.2 hkN) hn hft
        exact W.putFinK hx hb hown (hts _ (inG hw rfl)) hi hst hcf (hin hmk) (by rw [q2]; exact h6) q1 q3 hlt rfl rfl hd fin
      · unfold u_lay at hlay
        rw [if_neg hF] at hlay
        have h6 := u_store hfc hkC hkind hlay hi (pD_ok hci f.2 hkN) hn hft
        exact W.putK hx hb (f := fd) ⟨hown, hts _ (inG hw rfl), ⟨_, _, _, hi⟩, hst⟩ (by rw [q2]; exact h6) q1 q3 hlt rfl rfl hd fin
    · cases h
  · cases h
end step2
