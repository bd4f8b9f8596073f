theorem dflt_ok {c : Nat} (j : Nat) (hj : j < fN c) : defaultValue (tyF c j) = vp_V (dflt c) j := by
  have h : j < (fD.getD c []).length := hj
  unfold dflt vp_V tyF fQ
  generalize fD.getD c [] = F at h ⊢
  simp [List.getD_eq_getElem?_getD, h]
theorem dv_plain (G : GX) (ty : FieldType) : vmp G (defaultValue ty) = defaultValue ty := by cases ty <;> rfl
theorem dflt_map (G : GX) (c : Nat) : (dflt c).map (vmp G) = dflt c := by
  unfold dflt
  rw [List.map_map]
  exact List.map_congr_left fun q _ => dv_plain G _
theorem dflt_len (c : Nat) : (dflt c).length = fN c := by
  unfold dflt fN
  rw [List.length_map]
section step3
variable {p : Program} {l : Launch} {e : Env} {s : State} {m : MethodId} {args : Array Value} {below : List Frame} {meth : Method} {c : Code} {H : Heap} {locs : List Loc} {Q : State → Prop} {G : GX} {mi : Nat}
theorem nwO_ok (C : Cx p s m args meth c G mi) {pc idx : Nat} {L : Lcl} {st : List Value} {lw : LW} {cs : Nat × Nat} {x : St} {ls : Array Slot} (hL : LR G (mL mi) L ls) (hR : Rep G s lw H) (hS : va_S (Aof G) s.heap H locs)
    (kk : ∀ (ls' : Array Slot) (H' : Heap) (locs' : List Loc), LR G (mL mi) x.2.1 ls' → Rep G s x.2.2.2.1 H' → va_S (Aof G) s.heap H' locs' → W p l e (mRm mi) s m args below meth c H' locs' x.2.2.2.2.1 x.2.2.2.2.2 Q (F0 m x.1 ls' (x.2.2.1.map (vmp G))))
    (h : nwO mi idx pc L st lw cs = some (.inl x)) (hd : decode (mB mi) pc = .ok (.new idx, 3)) : W p l e (mRm mi) s m args below meth c H locs cs.1 cs.2 Q (F0 m pc ls (st.map (vmp G))) := by
  obtain ⟨hx, hb, hml, hown, hts, hin, hbs⟩ := C
  unfold nwO at h
  obtain ⟨ci, hc, h⟩ := Option.bind_eq_some_iff.mp h
  split at h
  · cases h
  next hb2 =>
  simp only [not_or, Nat.not_le, Nat.not_lt] at hb2
  obtain ⟨hci, hc1, hc2, hle, hn⟩ := hb2
  have hn : 0 < lw.length := Nat.pos_of_ne_zero hn
  cases h
  have hw := wN_all _ (lk_lt hc) _ (lk_mem hc)
  unfold pN at hw
  have hKn := hR.2.2.2.2.1.1 ci _ (clL_at hci)
  refine W.newcK hx hb (n := fN ci) hown (hts _ (inG hw rfl)) (hts _ (inG (wI_all ci hci).1 rfl)) (hts _ (inG (wI_all ci hci).2 rfl)) rfl hd hc1 hc2 hKn.2.1 rfl fun H1 kC hkC e1 z1 o1 => ?_
  have e0 := hR.new_at hle hn
  have hv : vmp G (.ref lw.length) = .ref H.size := congrArg Value.ref e0
  have hk := kk ls H1 locs hL (hR.push hle z1 o1 hn (by
    unfold xat
    refine ⟨by omega, hci, dflt_len ci, ?_⟩
    rw [e0, dflt_map]
    exact (u_born (tyF ci) hts (wU_in hci) hKn hkC e1 (pD_ok hci)).to (fun j hj => dflt_ok j hj))) ⟨Nat.le_trans hS.1 (by omega), fun y h1 h2 => (o1 y (Nat.lt_of_lt_of_le h1 hS.1)).trans (hS.2.1 y h1 h2), hS.2.2⟩
  rw [show ((Value.ref lw.length :: st).map (vmp G)) = .ref H.size :: st.map (vmp G) by rw [List.map_cons, hv]] at hk
  exact hk
theorem nwI_ok (C : Cx p s m args meth c G mi) {pc : Nat} {L : Lcl} {st : List Value} {lw : LW} {cs : Nat × Nat} {x : St} {ls : Array Slot} (hL : LR G (mL mi) L ls) (hR : Rep G s lw H) (hS : va_S (Aof G) s.heap H locs)
    (kk : ∀ (ls' : Array Slot) (H' : Heap) (locs' : List Loc), LR G (mL mi) x.2.1 ls' → Rep G s x.2.2.2.1 H' → va_S (Aof G) s.heap H' locs' → W p l e (mRm mi) s m args below meth c H' locs' x.2.2.2.2.1 x.2.2.2.2.2 Q (F0 m x.1 ls' (x.2.2.1.map (vmp G))))
    {t : Nat} {aty : ArrayType} (hta : (t = 0 ∧ aty = .int) ∨ (t = 1 ∧ aty = .boolean)) (h : nwA mi pc t 2 (fun n => (n, .inl (fun _ => 0))) L st lw cs = some (.inl x)) (hd : decode (mB mi) pc = .ok (.newarray aty, 2)) : W p l e (mRm mi) s m args below meth c H locs cs.1 cs.2 Q (F0 m pc ls (st.map (vmp G))) := by
  obtain ⟨hx, hb, hml, hown, hts, hin, hbs⟩ := C
  unfold nwA at h
  split at h
  · next n r =>
    split at h
    · cases h
    next hb2 =>
    simp only [not_or, Nat.not_le, Nat.not_lt] at hb2
    obtain ⟨hn0, hn1, hc1, hc2, hle, hn⟩ := hb2
    have hn : 0 < lw.length := Nat.pos_of_ne_zero hn
    cases h
    have e0 := hR.new_at hle hn
    have hv : vmp G (.ref lw.length) = .ref H.size := congrArg Value.ref e0
    have aux : (Cond.arrayClass (newarray.typeOf aty)).before args s = true ∧ newarray.typeOf aty = tyT t ∧ componentBytes (newarray.typeOf aty) ≤ 4 ∧ defaultValue (newarray.typeOf aty) = .int 0 := by
      rcases hta with ⟨rfl, rfl⟩ | ⟨rfl, rfl⟩
      · exact ⟨hts _ (inG wA_int rfl), rfl, by decide, rfl⟩
      · exact ⟨hts _ (inG wA_bool rfl), rfl, by decide, rfl⟩
    obtain ⟨a1, a2, a3, a4⟩ := aux
    refine va_newaK hx hb a1 rfl hd rfl hn0 rfl (Nat.le_trans (Nat.mul_le_mul hn1 a3) (by decide)) hc1 hc2 rfl fun H1 cA e1 z1 o1 hAr hNm => ?_
    have hk := kk ls H1 locs hL (hR.push hle z1 o1 hn (by
      unfold xat
      simp only [show ¬ lw.length = 0 by omega, if_false]
      refine ⟨cA, ?_, by rw [← a2]; exact hAr, ?_⟩
      · rw [e0, e1, a4]; rfl
      · rw [a2] at hNm
        rcases hta with ⟨rfl, rfl⟩ | ⟨rfl, rfl⟩ <;> exact hNm)) ⟨Nat.le_trans hS.1 (by omega), fun y h1 h2 => (o1 y (Nat.lt_of_lt_of_le h1 hS.1)).trans (hS.2.1 y h1 h2), hS.2.2⟩
    rw [show ((Value.ref lw.length :: r).map (vmp G)) = .ref H.size :: r.map (vmp G) by rw [List.map_cons, hv]] at hk
    exact hk
  · cases h
theorem nwR_ok (C : Cx p s m args meth c G mi) {pc idx : Nat} {L : Lcl} {st : List Value} {lw : LW} {cs : Nat × Nat} {x : St} {ls : Array Slot} (hL : LR G (mL mi) L ls) (hR : Rep G s lw H) (hS : va_S (Aof G) s.heap H locs)
    (kk : ∀ (ls' : Array Slot) (H' : Heap) (locs' : List Loc), LR G (mL mi) x.2.1 ls' → Rep G s x.2.2.2.1 H' → va_S (Aof G) s.heap H' locs' → W p l e (mRm mi) s m args below meth c H' locs' x.2.2.2.2.1 x.2.2.2.2.2 Q (F0 m x.1 ls' (x.2.2.1.map (vmp G))))
    (hidx : lk cltab (mC mi) idx = some 0) (h : nwA mi pc 2 3 (fun n => (n, .inr (.inr (.inr (.inr (fun _ => none)))))) L st lw cs = some (.inl x)) (hd : decode (mB mi) pc = .ok (.anewarray idx, 3)) : W p l e (mRm mi) s m args below meth c H locs cs.1 cs.2 Q (F0 m pc ls (st.map (vmp G))) := by
  obtain ⟨hx, hb, hml, hown, hts, hin, hbs⟩ := C
  unfold nwA at h
  split at h
  · next n r =>
    split at h
    · cases h
    next hb2 =>
    simp only [not_or, Nat.not_le, Nat.not_lt] at hb2
    obtain ⟨hn0, hn1, hc1, hc2, hle, hn⟩ := hb2
    have hn : 0 < lw.length := Nat.pos_of_ne_zero hn
    cases h
    have e0 := hR.new_at hle hn
    have hv : vmp G (.ref lw.length) = .ref H.size := congrArg Value.ref e0
    have hw := wN_all _ (lk_lt hidx) _ (lk_mem hidx)
    unfold pN at hw
    refine W.anew (C := "TrunkRoom$Call") hx hb hown (hts _ (inG hw rfl)) hR.2.2.2.2.2.2.choose_spec.2.2.1.use rfl hd rfl hn0 (Nat.le_trans (Nat.mul_le_mul_right 4 hn1) (by decide)) hc1 hc2 fun cA kA comp f1 f2 f3 f4 => ?_
    generalize hH1 : H.push ({ cls := cA, slots := Array.replicate n.toNatClampNeg .null, vm := .none } : Cell) = H1
    have z1 : H1.size = H.size + 1 := by rw [← hH1, Array.size_push]
    have e1 : H1[H.size]? = some (arrV cA n.toNatClampNeg (fun _ => .null)) := by rw [← hH1, Array.getElem?_push_size, ← arrV_new]
    have o1 : ∀ q : Nat, q < H.size → H1[q]? = H[q]? := fun q hq => by rw [← hH1, Array.getElem?_push, if_neg (Nat.ne_of_lt hq)]
    have hk := kk ls H1 locs hL (hR.push hle z1 o1 hn (by
      unfold xat
      simp only [show ¬ lw.length = 0 by omega, if_false]
      refine ⟨cA, ?_, fun N z => ⟨(fun k h => by cases h), kA, f2, comp, f3⟩, ⟨kA, comp, f2, f3, f4, f1⟩⟩
      rw [e0, e1]; rfl)) ⟨Nat.le_trans hS.1 (by omega), fun y h1 h2 => (o1 y (Nat.lt_of_lt_of_le h1 hS.1)).trans (hS.2.1 y h1 h2), hS.2.2⟩
    rw [show ((Value.ref lw.length :: r).map (vmp G)) = .ref H.size :: r.map (vmp G) by rw [List.map_cons, hv]] at hk
    exact hk
  · cases h
theorem acp_ok (C : Cx p s m args meth c G mi) {pc idx : Nat} {L : Lcl} {r : List Value} {lw : LW} {cs : Nat × Nat} {ls : Array Slot} {n dp sp : Int32} {a a0 j : Nat} {q0 q1 : Nat × (Nat → Int32)} (hL : LR G (mL mi) L ls) (hR : Rep G s lw H) (hS : va_S (Aof G) s.heap H locs)
    (kk : ∀ (ls' : Array Slot) (H' : Heap) (locs' : List Loc), LR G (mL mi) L ls' → Rep G s (lw.set a (.inl (0, q1.1, .inl (va_cpy q0.2 q1.2 sp.toNatClampNeg dp.toNatClampNeg n.toNatClampNeg)))) H' → va_S (Aof G) s.heap H' locs' → W p l e (mRm mi) s m args below meth c H' locs' cs.1 cs.2 Q (F0 m (pc + 3) ls' (r.map (vmp G))))
    (hl : lk ctab (mC mi) idx = some (6, j)) (ha : a ≠ 0) (ha0 : a0 ≠ 0) (h1 : ¬ sp < 0) (h2 : ¬ dp < 0) (h3 : ¬ n < 0) (hf : 1 ≤ mF mi) (ho : (r.map (fun v => v.category)).sum + (nativeFrameWords "java/lang/System" "arraycopy" 5 + 11) ≤ mO mi)
    (hq0 : arI lw 0 a0 = some q0) (hq1 : arI lw 0 a = some q1) (h4 : sp.toNatClampNeg + n.toNatClampNeg ≤ q0.1) (h5 : dp.toNatClampNeg + n.toNatClampNeg ≤ q1.1) (hd : decode (mB mi) pc = .ok (.invokestatic idx, 3)) :
    W p l e (mRm mi) s m args below meth c H locs cs.1 cs.2 Q (F0 m pc ls (.int n :: .int dp :: .ref (sg G a) :: .int sp :: .ref (sg G a0) :: r.map (vmp G))) := by
  obtain ⟨hx, hb, hml, hown, hts, hin, hbs⟩ := C
  have nn : ∀ z : Int32, ¬ z < 0 → z.toInt = (z.toNatClampNeg : Int) := by
    intro z hz
    have hz0 : (0 : Int) ≤ z.toInt := by
      have := Int32.not_lt.mp hz
      simpa using Int32.le_iff_toInt_le.mp this
    show z.toInt = ((z.toInt.toNat : Nat) : Int)
    omega
  have hw := wC_all _ (lk_lt hl) _ (lk_mem hl)
  obtain ⟨w1, w2, w3, w4⟩ := hw
  obtain ⟨n0, f⟩ := q0
  obtain ⟨n1, g⟩ := q1
  have k0 := arI_inv hq0
  have k1 := arI_inv hq1
  have x0 := hR.2.2.2.1 a0 _ k0
  have x1 := hR.2.2.2.1 a _ k1
  unfold xat at x0 x1
  simp only [ha, ha0, if_false] at x0 x1
  obtain ⟨c0, hc0, r0, s0⟩ := x0
  obtain ⟨c1, hc1, r1, s1⟩ := x1
  intro T hT X
  obtain ⟨-, kk0, hk0, cm0, hkk0⟩ := r0 n0 (fun j => .int (f j))
  obtain ⟨-, kk1, hk1, cm1, hkk1⟩ := r1 n1 (fun j => .int (g j))
  have hc0 : H[sg G a0]? = some (vp_cell c0 (n0, .inl f)) := hc0
  have hc1 : H[sg G a]? = some (vp_cell c1 (n1, .inl g)) := hc1
  obtain ⟨vm', X', step⟩ := X.arraycopy hx hown (hts _ (inG w1 rfl)) (hts _ (inG w2 rfl)) (hts _ (inG w3 rfl)) (hts _ (inG w4 rfl)) (src := sg G a0) (dst := sg G a) (cs := vp_cell c0 (n0, .inl f)) (cd := vp_cell c1 (n1, .inl g)) (srcPos := sp) (destPos := dp) (n := n) (by rw [hT]; exact hc0) (by rw [hT]; exact hc1)
    (fun _ h => by cases h) (fun _ h => by cases h) (fun h => by cases h) (fun h => by cases h) hk0 hk1 hkk0 hkk1 (by simp [tyT, refKind]) h1 h2 h3
    (by rw [nn sp h1, nn n h3]; show ¬ _ > ((arrV c0 n0 (fun j => .int (f j))).slots.size : Int); rw [arrV_size]; have : sp.toNatClampNeg + n.toNatClampNeg ≤ n0 := h4; omega)
    (by rw [nn dp h2, nn n h3]; show ¬ _ > ((arrV c1 n1 (fun j => .int (g j))).slots.size : Int); rw [arrV_size]; have : dp.toNatClampNeg + n.toNatClampNeg ≤ n1 := h5; omega)
    (fun vm₁ _ i hi => by
      have h4 : sp.toNatClampNeg + n.toNatClampNeg ≤ n0 := h4
      have e : (vp_cell c0 (n0, .inl f)).slots.getD (sp.toNatClampNeg + i) .null = .int (f (sp.toNatClampNeg + i)) := by
        show (arrV c0 n0 (fun j => .int (f j))).slots.getD _ _ = _
        rw [Array.getD_eq_getD_getElem?, arrV_read _ _ (by omega)]
        rfl
      refine ⟨?_, ?_⟩
      · rw [e]
        rfl
      · rw [e]
        exact trivial)
    (g := F0 m pc ls (.int n :: .int dp :: .ref (sg G a) :: .int sp :: .ref (sg G a0) :: r.map (vmp G))) rfl (by rw [hml]; exact hL.2.1) (rest := r.map (vmp G)) rfl (by rw [hb]; exact hd) hf (by show 2 * 0 + _ + _ ≤ _; rw [map_cat]; have := ho; show _ ≤ mO mi; omega)
  have e1 : copied (vp_cell c0 (n0, .inl f)) (vp_cell c1 (n1, .inl g)) sp dp n = vp_cell c1 (n1, .inl (va_cpy f g sp.toNatClampNeg dp.toNatClampNeg n.toNatClampNeg)) := va_copied (fun z => .int z) c0 c1 f g h4
  rw [e1] at X' step
  have hla : sg G a < H.size := (Array.getElem?_eq_some_iff.mp hc1).1
  have hheap : ((T.setVm vm').setCell (sg G a) (vp_cell c1 (n1, .inl (va_cpy f g sp.toNatClampNeg dp.toNatClampNeg n.toNatClampNeg)))).heap = H.setIfInBounds (sg G a) (vp_cell c1 (n1, .inl (va_cpy f g sp.toNatClampNeg dp.toNatClampNeg n.toNatClampNeg))) := by rw [← hT]; rfl
  have oq : ∀ q : Nat, q ≠ sg G a → (H.setIfInBounds (sg G a) (vp_cell c1 (n1, .inl (va_cpy f g sp.toNatClampNeg dp.toNatClampNeg n.toNatClampNeg))))[q]? = H[q]? := fun q hq => by simp [Array.getElem?_setIfInBounds, Ne.symm hq]
  have hAa : Aof G (sg G a) := Aof_sg ha (hR.idx k1)
  obtain ⟨t, a1, b1⟩ := kk ls _ _ hL (hR.set ha k1 (by simp) oq (by
      unfold xat
      simp only [ha, if_false]
      exact ⟨c1, show (H.setIfInBounds (sg G a) _)[sg G a]? = some _ by simp [Array.getElem?_setIfInBounds, hla, caA], r1, s1⟩)) ⟨by simp; exact hS.1, fun q g1 g2 => by
      rw [oq q (fun e => g2 (by rw [e]; exact hAa))]
      exact hS.2.1 q g1 g2, fun q hq => by
      rcases List.mem_append.mp hq with h | h
      · exact hS.2.2 q h
      · obtain ⟨z, -, hz⟩ := List.mem_map.mp h
        rw [← hz]
        exact hAa⟩ _ hheap X'
  exact ⟨t, step t a1, b1⟩
end step3
