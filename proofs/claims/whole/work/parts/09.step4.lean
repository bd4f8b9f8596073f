theorem nx_inv {pc : Nat} {L : Lcl} {st : List Value} {lw : LW} {cs : Nat × Nat} {x : St} (h : nx pc L st lw cs = some (.inl x)) : x = (pc, L, st, lw, cs) := by
  unfold nx at h
  cases h
  rfl
theorem go_inv {pc : Nat} {off : Int} {L : Lcl} {st : List Value} {lw : LW} {cs : Nat × Nat} {x : St} (h : go pc off L st lw cs = some (.inl x)) : ∃ t : Nat, (pc : Int) + off = (t : Int) ∧ x = (t, L, st, lw, cs) := by
  unfold go at h
  obtain ⟨t, ht, h⟩ := Option.bind_eq_some_iff.mp h
  exact ⟨t, jmp_inv ht, nx_inv h⟩
theorem rfO_inv {v : Value} {r : Option Nat} (h : rfO v = some r) : v = va_rf r := by
  unfold rfO at h
  split at h
  · cases h; rfl
  · cases h; rfl
  · cases h
theorem rf_inj {G : GX} {s : State} {lw : LW} {H : Heap} (hR : Rep G s lw H) {rx ry : Option Nat} (h1 : rfB rx lw = true) (h2 : rfB ry lw = true) : rx.map (sg G) = ry.map (sg G) ↔ rx = ry := by
  refine ⟨fun h => ?_, fun h => by rw [h]⟩
  cases rx with
  | none => cases ry with
    | none => rfl
    | some b => cases h
  | some a => cases ry with
    | none => cases h
    | some b =>
      simp only [rfB, decide_eq_true_eq] at h1 h2
      simp only [Option.map_some, Option.some.injEq] at h
      have hz := hR.2.2.1
      rw [sg_inj (by omega) (by omega) hR.2.1 h]
theorem cal_not {mi j n : Nat} {st : List Value} {cs : Nat × Nat} {x : St} (h : cal mi j n st cs = some (.inl x)) : False := by
  unfold cal at h
  split at h <;> cases h
section step4
variable {p : Program} {l : Launch} {e : Env} {s : State} {m : MethodId} {args : Array Value} {below : List Frame} {meth : Method} {c : Code} {H : Heap} {locs : List Loc} {Q : State → Prop} {G : GX} {mi : Nat}
theorem invI_ok (C : Cx p s m args meth c G mi) {pc idx : Nat} {L : Lcl} {st : List Value} {lw : LW} {cs : Nat × Nat} {x : St} {ls : Array Slot} (hL : LR G (mL mi) L ls) (hR : Rep G s lw H) (hS : va_S (Aof G) s.heap H locs)
    (kk : ∀ (ls' : Array Slot) (H' : Heap) (locs' : List Loc), LR G (mL mi) x.2.1 ls' → Rep G s x.2.2.2.1 H' → va_S (Aof G) s.heap H' locs' → W p l e (mRm mi) s m args below meth c H' locs' x.2.2.2.2.1 x.2.2.2.2.2 Q (F0 m x.1 ls' (x.2.2.1.map (vmp G))))
    (h : inv mi idx pc [2, 4, 5] L st lw cs = some (.inl x)) (hd : decode (mB mi) pc = .ok (.invokespecial idx, 3)) : W p l e (mRm mi) s m args below meth c H locs cs.1 cs.2 Q (F0 m pc ls (st.map (vmp G))) := by
  obtain ⟨hx, hb, hml, hown, hts, hin, hbs⟩ := C
  unfold inv at h
  obtain ⟨q, hq, h⟩ := Option.bind_eq_some_iff.mp h
  obtain ⟨kd, j⟩ := q
  split at h
  · cases h
  next hm =>
  rw [not_or] at hm
  have hm := hm.1
  simp only [Decidable.not_not, List.mem_cons, List.not_mem_nil, or_false] at hm
  rcases hm with rfl | rfl | rfl
  · simp only at h
    split at h
    · exact (cal_not h).elim
    · cases h
  · simp only at h
    split at h
    · exact (cal_not h).elim
    · cases h
  · simp only at h
    split at h
    · next a r hq5 =>
      split at h
      · next hc =>
        cases nx_inv h
        obtain ⟨w1, w2, w3⟩ := wC_all _ (lk_lt hq) _ (lk_mem hq)
        exact W.objInit hx hb hown (hts _ (inG w1 rfl)) (hts _ (inG w2 rfl)) (hts _ (inG w3 rfl)) rfl (by rw [hml]; exact hL.2.1) rfl hd hc.2 (by show 2 * 0 + ((r.map (vmp G)).map fun v => v.category).sum + 12 ≤ _; rw [map_cat]; have := hc.1; show _ ≤ mO mi; omega) (kk ls H locs hL hR hS)
      · cases h
    · cases h
theorem invS_ok (C : Cx p s m args meth c G mi) {pc idx : Nat} {L : Lcl} {st : List Value} {lw : LW} {cs : Nat × Nat} {x : St} {ls : Array Slot} (hL : LR G (mL mi) L ls) (hR : Rep G s lw H) (hS : va_S (Aof G) s.heap H locs)
    (kk : ∀ (ls' : Array Slot) (H' : Heap) (locs' : List Loc), LR G (mL mi) x.2.1 ls' → Rep G s x.2.2.2.1 H' → va_S (Aof G) s.heap H' locs' → W p l e (mRm mi) s m args below meth c H' locs' x.2.2.2.2.1 x.2.2.2.2.2 Q (F0 m x.1 ls' (x.2.2.1.map (vmp G))))
    (h : inv mi idx pc [1, 3, 6, 9, 10, 11] L st lw cs = some (.inl x)) (hd : decode (mB mi) pc = .ok (.invokestatic idx, 3)) : W p l e (mRm mi) s m args below meth c H locs cs.1 cs.2 Q (F0 m pc ls (st.map (vmp G))) := by
  have C' := C
  obtain ⟨hx, hb, hml, hown, hts, hin, hbs⟩ := C
  unfold inv at h
  obtain ⟨q, hq, h⟩ := Option.bind_eq_some_iff.mp h
  obtain ⟨kd, j⟩ := q
  split at h
  · cases h
  next hm =>
  rw [not_or] at hm
  have hm := hm.1
  simp only [Decidable.not_not, List.mem_cons, List.not_mem_nil, or_false] at hm
  rcases hm with rfl | rfl | rfl | rfl | rfl | rfl
  · simp only at h
    exact (cal_not h).elim
  · simp only at h
    exact (cal_not h).elim
  · simp only at h
    split at h
    · split at h
      · cases h
      next hc =>
      simp only [not_or, Nat.not_lt] at hc
      obtain ⟨c1, c2, c3, c4, c5, c6, c7⟩ := hc
      obtain ⟨q0, hq0, h⟩ := Option.bind_eq_some_iff.mp h
      obtain ⟨q1, hq1, h⟩ := Option.bind_eq_some_iff.mp h
      split at h
      · cases h
      next hc2 =>
      simp only [not_or, Nat.not_lt] at hc2
      cases nx_inv h
      exact acp_ok C' hL hR hS kk hq c1 c2 c3 c4 c5 c6 c7 hq0 hq1 hc2.1 hc2.2 hd
    · cases h
  · simp only at h
    split at h
    · split at h
      · cases h
      next hc =>
      simp only [not_or, Nat.not_lt] at hc
      cases nx_inv h
      obtain ⟨w1, w2, w3, w4⟩ := wC_all _ (lk_lt hq) _ (lk_mem hq)
      exact va_mabs hx hb (by rw [hml]; exact hL.2.1.symm) hown (hts _ (inG w1 rfl)) (hts _ (inG w2 rfl)) (hts _ (inG w3 rfl)) (hts _ (inG w4 rfl)) hc.1 (by rw [map_cat]; exact hc.2.1) hc.2.2.1 hc.2.2.2 hd (kk ls H locs hL hR hS)
    · cases h
  · simp only at h
    split at h
    · split at h
      · cases h
      next hc =>
      simp only [not_or, Nat.not_lt] at hc
      cases nx_inv h
      obtain ⟨w1, w2, w3, w4⟩ := wC_all _ (lk_lt hq) _ (lk_mem hq)
      exact va_mmax hx hb (by rw [hml]; exact hL.2.1.symm) hown (hts _ (inG w1 rfl)) (hts _ (inG w2 rfl)) (hts _ (inG w3 rfl)) (hts _ (inG w4 rfl)) hc.1 (by rw [map_cat]; exact hc.2.1) hc.2.2.1 hc.2.2.2 hd (kk ls H locs hL hR hS)
    · cases h
  · simp only at h
    split at h
    · split at h
      · cases h
      next hc =>
      simp only [not_or, Nat.not_lt] at hc
      cases nx_inv h
      obtain ⟨w1, w2, w3, w4⟩ := wC_all _ (lk_lt hq) _ (lk_mem hq)
      exact va_mmin hx hb (by rw [hml]; exact hL.2.1.symm) hown (hts _ (inG w1 rfl)) (hts _ (inG w2 rfl)) (hts _ (inG w3 rfl)) (hts _ (inG w4 rfl)) hc.1 (by rw [map_cat]; exact hc.2.1) hc.2.2.1 hc.2.2.2 hd (kk ls H locs hL hR hS)
    · cases h
set_option maxHeartbeats 4000000 in
theorem stp_ok (C : Cx p s m args meth c G mi) {pc len : Nat} {i : Instr} {L : Lcl} {st : List Value} {lw : LW} {cs : Nat × Nat} {x : St} {ls : Array Slot} (hL : LR G (mL mi) L ls) (hR : Rep G s lw H) (hS : va_S (Aof G) s.heap H locs)
    (kk : ∀ (ls' : Array Slot) (H' : Heap) (locs' : List Loc), LR G (mL mi) x.2.1 ls' → Rep G s x.2.2.2.1 H' → va_S (Aof G) s.heap H' locs' → W p l e (mRm mi) s m args below meth c H' locs' x.2.2.2.2.1 x.2.2.2.2.2 Q (F0 m x.1 ls' (x.2.2.1.map (vmp G))))
    (hstr : ∀ {idx : Nat} {ks : List Nat}, ks = [0, 7, 8] → inv mi idx pc ks L st lw cs = some (.inl x) → decode (mB mi) pc = .ok (.invokevirtual idx, 3) → W p l e (mRm mi) s m args below meth c H locs cs.1 cs.2 Q (F0 m pc ls (st.map (vmp G))))
    (h : stp mi pc i len L st lw cs = some (.inl x)) (hd : decode (mB mi) pc = .ok (i, len)) : W p l e (mRm mi) s m args below meth c H locs cs.1 cs.2 Q (F0 m pc ls (st.map (vmp G))) := by
  have C' := C
  obtain ⟨hx, hb, hml, hown, hts, hin, hbs⟩ := C
  have hls := hL.has
  have hll := hL.1
  cases i <;> simp only [stp] at h <;> try (cases h; done)
  case aload_n k =>
    obtain ⟨rfl, h⟩ := ckl_inv h
    unfold ldA at h
    split at h
    · next v hv => cases nx_inv h; exact lv_aload_n hx hb hd rfl (hL.ld hv) (kk ls H locs hL hR hS)
    · next hv => cases nx_inv h; exact lv_aload_nN hx hb hd rfl (hL.ld hv) (kk ls H locs hL hR hS)
    · cases h
  case aload k =>
    obtain ⟨rfl, h⟩ := ckl_inv h
    unfold ldA at h
    split at h
    · next v hv => cases nx_inv h; exact lv_aload hx hb hd (hL.ld hv) (kk ls H locs hL hR hS)
    · next hv => cases nx_inv h; exact lv_aloadN hx hb hd (hL.ld hv) (kk ls H locs hL hR hS)
    · cases h
  case iload_n k =>
    obtain ⟨rfl, h⟩ := ckl_inv h
    unfold ldI at h
    split at h
    · next v hv => cases nx_inv h; exact lv_iload_n hx hb hd rfl (hL.ld hv) (kk ls H locs hL hR hS)
    · cases h
  case iload k =>
    obtain ⟨rfl, h⟩ := ckl_inv h
    unfold ldI at h
    split at h
    · next v hv => cases nx_inv h; exact lv_iload hx hb hd (hL.ld hv) (kk ls H locs hL hR hS)
    · cases h
  case lload_n k =>
    obtain ⟨rfl, h⟩ := ckl_inv h
    unfold ldJ at h
    split at h
    · next v hv => cases nx_inv h; exact lv_lload_n hx hb hd rfl (hL.ld hv) (kk ls H locs hL hR hS)
    · cases h
  case lload k =>
    obtain ⟨rfl, h⟩ := ckl_inv h
    unfold ldJ at h
    split at h
    · next v hv => cases nx_inv h; exact lv_lload hx hb hd (hL.ld hv) (kk ls H locs hL hR hS)
    · cases h
  case astore_n k =>
    obtain ⟨rfl, h⟩ := ckl_inv h
    unfold stA at h
    split at h
    · obtain ⟨L', h1, h⟩ := Option.bind_eq_some_iff.mp h
      cases nx_inv h
      exact lv_astore_n hx hb hd rfl hls (by rw [← hll]; exact (st1_inv h1).1) rfl (fun ls' hl' => kk ls' H locs (hL.st1 h1 hl') hR hS)
    · obtain ⟨L', h1, h⟩ := Option.bind_eq_some_iff.mp h
      cases nx_inv h
      exact lv_astore_nN hx hb hd rfl hls (by rw [← hll]; exact (st1_inv h1).1) rfl (fun ls' hl' => kk ls' H locs (hL.st1 h1 hl') hR hS)
    · cases h
  case astore k =>
    obtain ⟨rfl, h⟩ := ckl_inv h
    unfold stA at h
    split at h
    · obtain ⟨L', h1, h⟩ := Option.bind_eq_some_iff.mp h
      cases nx_inv h
      exact lv_astore hx hb hd hls (by rw [← hll]; exact (st1_inv h1).1) rfl (fun ls' hl' => kk ls' H locs (hL.st1 h1 hl') hR hS)
    · obtain ⟨L', h1, h⟩ := Option.bind_eq_some_iff.mp h
      cases nx_inv h
      exact lv_astoreN hx hb hd hls (by rw [← hll]; exact (st1_inv h1).1) rfl (fun ls' hl' => kk ls' H locs (hL.st1 h1 hl') hR hS)
    · cases h
  case istore_n k =>
    obtain ⟨rfl, h⟩ := ckl_inv h
    unfold stI at h
    split at h
    · obtain ⟨L', h1, h⟩ := Option.bind_eq_some_iff.mp h
      cases nx_inv h
      exact lv_istore_n hx hb hd rfl hls (by rw [← hll]; exact (st1_inv h1).1) rfl (fun ls' hl' => kk ls' H locs (hL.st1 h1 hl') hR hS)
    · cases h
  case istore k =>
    obtain ⟨rfl, h⟩ := ckl_inv h
    unfold stI at h
    split at h
    · obtain ⟨L', h1, h⟩ := Option.bind_eq_some_iff.mp h
      cases nx_inv h
      exact lv_istore hx hb hd hls (by rw [← hll]; exact (st1_inv h1).1) rfl (fun ls' hl' => kk ls' H locs (hL.st1 h1 hl') hR hS)
    · cases h
  case lstore_n k =>
    obtain ⟨rfl, h⟩ := ckl_inv h
    unfold stJ at h
    split at h
    · obtain ⟨L', h1, h⟩ := Option.bind_eq_some_iff.mp h
      cases nx_inv h
      exact lv_lstore_n hx hb hd rfl hls (by rw [← hll]; exact (st2_inv h1).1) rfl (fun ls' hl' => kk ls' H locs (hL.st2 h1 hl') hR hS)
    · cases h
  case lstore k =>
    obtain ⟨rfl, h⟩ := ckl_inv h
    unfold stJ at h
    split at h
    · obtain ⟨L', h1, h⟩ := Option.bind_eq_some_iff.mp h
      cases nx_inv h
      exact lv_lstore hx hb hd hls (by rw [← hll]; exact (st2_inv h1).1) rfl (fun ls' hl' => kk ls' H locs (hL.st2 h1 hl') hR hS)
    · cases h
  case iinc k n =>
    obtain ⟨rfl, h⟩ := ckl_inv h
    split at h
    · next v hv =>
      obtain ⟨L', h1, h⟩ := Option.bind_eq_some_iff.mp h
      cases nx_inv h
      obtain ⟨j, hj⟩ := List.getElem?_of_mem (mem_pairs (G := G).mpr ⟨_, ldv_inv hv, rfl⟩ : ((k, vmp G (.int v)) : Nat × Value) ∈ pairs G L)
      exact lv_iinc hx hb hd hls (k := j) hj rfl (by rw [← hll]; exact (st1_inv h1).1) rfl (fun ls' hl' => kk ls' H locs (hL.st1 h1 hl') hR hS)
    · cases h
  case iconst n =>
    obtain ⟨rfl, h⟩ := ckl_inv h
    cases nx_inv h
    exact lv_iconst hx hb hd rfl (kk ls H locs hL hR hS)
  case bipush n =>
    obtain ⟨rfl, h⟩ := ckl_inv h
    cases nx_inv h
    exact lv_bipush hx hb hd rfl (kk ls H locs hL hR hS)
  case sipush n =>
    obtain ⟨rfl, h⟩ := ckl_inv h
    cases nx_inv h
    exact lv_sipush hx hb hd rfl (kk ls H locs hL hR hS)
  case lconst n =>
    obtain ⟨rfl, h⟩ := ckl_inv h
    cases nx_inv h
    exact lv_lconst hx hb hd rfl (kk ls H locs hL hR hS)
  case aconst_null =>
    obtain ⟨rfl, h⟩ := ckl_inv h
    cases nx_inv h
    exact lv_null hx hb hd (kk ls H locs hL hR hS)
  case ldc k =>
    obtain ⟨rfl, h⟩ := ckl_inv h
    split at h
    · next v hv =>
      cases nx_inv h
      exact lv_ldc hx hb hown (hts _ (inG (wK_all _ (lk_lt hv) _ (lk_mem hv)) rfl)) hd (kk ls H locs hL hR hS)
    · obtain ⟨a, ha, h⟩ := Option.bind_eq_some_iff.mp h
      split at h
      · next ha4 =>
        cases nx_inv h
        have hk := kk ls H locs hL hR hS
        have hv : vmp G (.ref (EXT + a)) = .ref (G.2.2.1 a) := by
          show Value.ref (sg G (EXT + a)) = _
          unfold sg
          rw [if_neg (by unfold EXT; omega), if_neg (by omega), Nat.add_sub_cancel_left]
        rw [show ((Value.ref (EXT + a) :: st).map (vmp G)) = .ref (G.2.2.1 a) :: st.map (vmp G) by rw [List.map_cons, hv]] at hk
        exact va_ldcS hx hb hown (hR.2.2.2.2.2.1 _ _ _ ha) hd hk
      · cases h
  case ldc_w k =>
    obtain ⟨rfl, h⟩ := ckl_inv h
    obtain ⟨v, hv, h⟩ := Option.bind_eq_some_iff.mp h
    cases nx_inv h
    exact lv_ldcw hx hb hown (hts _ (inG (wK_all _ (lk_lt hv) _ (lk_mem hv)) rfl)) hd (kk ls H locs hL hR hS)
  case ldc2_w k =>
    obtain ⟨rfl, h⟩ := ckl_inv h
    obtain ⟨v, hv, h⟩ := Option.bind_eq_some_iff.mp h
    cases nx_inv h
    exact lv_ldc2 hx hb hown (hts _ (inG (wL_all _ (lk_lt hv) _ (lk_mem hv)) rfl)) hd (kk ls H locs hL hR hS)
  case iadd =>
    obtain ⟨rfl, h⟩ := ckl_inv h
    unfold bi2 at h
    split at h
    · cases nx_inv h; exact lv_iadd hx hb hd (kk ls H locs hL hR hS)
    · cases h
  case isub =>
    obtain ⟨rfl, h⟩ := ckl_inv h
    unfold bi2 at h
    split at h
    · cases nx_inv h; exact lv_isub hx hb hd (kk ls H locs hL hR hS)
    · cases h
  case imul =>
    obtain ⟨rfl, h⟩ := ckl_inv h
    unfold bi2 at h
    split at h
    · cases nx_inv h; exact lv_imul hx hb hd (kk ls H locs hL hR hS)
    · cases h
  case iand =>
    obtain ⟨rfl, h⟩ := ckl_inv h
    unfold bi2 at h
    split at h
    · cases nx_inv h; exact lv_iand hx hb hd (kk ls H locs hL hR hS)
    · cases h
  case ior =>
    obtain ⟨rfl, h⟩ := ckl_inv h
    unfold bi2 at h
    split at h
    · cases nx_inv h; exact lv_ior hx hb hd (kk ls H locs hL hR hS)
    · cases h
  case ixor =>
    obtain ⟨rfl, h⟩ := ckl_inv h
    unfold bi2 at h
    split at h
    · cases nx_inv h; exact lv_ixor hx hb hd (kk ls H locs hL hR hS)
    · cases h
  case ishl =>
    obtain ⟨rfl, h⟩ := ckl_inv h
    unfold bi2 at h
    split at h
    · cases nx_inv h; exact lv_ishl hx hb hd (kk ls H locs hL hR hS)
    · cases h
  case ishr =>
    obtain ⟨rfl, h⟩ := ckl_inv h
    unfold bi2 at h
    split at h
    · cases nx_inv h; exact lv_ishr hx hb hd (kk ls H locs hL hR hS)
    · cases h
  case iushr =>
    obtain ⟨rfl, h⟩ := ckl_inv h
    unfold bi2 at h
    split at h
    · cases nx_inv h; exact lv_iushr hx hb hd rfl (kk ls H locs hL hR hS)
    · cases h
  case idiv =>
    obtain ⟨rfl, h⟩ := ckl_inv h
    unfold dv2 at h
    split at h
    · split at h
      · cases h
      · next hz => cases nx_inv h; exact lv_idiv hx hb hd hz (kk ls H locs hL hR hS)
    · cases h
  case irem =>
    obtain ⟨rfl, h⟩ := ckl_inv h
    unfold dv2 at h
    split at h
    · split at h
      · cases h
      · next hz => cases nx_inv h; exact lv_irem hx hb hd hz (kk ls H locs hL hR hS)
    · cases h
  case ineg =>
    obtain ⟨rfl, h⟩ := ckl_inv h
    split at h
    · cases nx_inv h; exact lv_ineg hx hb hd (kk ls H locs hL hR hS)
    · cases h
  case ladd =>
    obtain ⟨rfl, h⟩ := ckl_inv h
    unfold bl2 at h
    split at h
    · cases nx_inv h; exact lv_ladd hx hb hd (kk ls H locs hL hR hS)
    · cases h
  case lsub =>
    obtain ⟨rfl, h⟩ := ckl_inv h
    unfold bl2 at h
    split at h
    · cases nx_inv h; exact lv_lsub hx hb hd (kk ls H locs hL hR hS)
    · cases h
  case lmul =>
    obtain ⟨rfl, h⟩ := ckl_inv h
    unfold bl2 at h
    split at h
    · cases nx_inv h; exact lv_lmul hx hb hd (kk ls H locs hL hR hS)
    · cases h
  case land =>
    obtain ⟨rfl, h⟩ := ckl_inv h
    unfold bl2 at h
    split at h
    · cases nx_inv h; exact lv_land hx hb hd (kk ls H locs hL hR hS)
    · cases h
  case lor =>
    obtain ⟨rfl, h⟩ := ckl_inv h
    unfold bl2 at h
    split at h
    · cases nx_inv h; exact lv_lor hx hb hd (kk ls H locs hL hR hS)
    · cases h
  case lshl =>
    obtain ⟨rfl, h⟩ := ckl_inv h
    unfold bls at h
    split at h
    · cases nx_inv h; exact lv_lshl hx hb hd rfl (kk ls H locs hL hR hS)
    · cases h
  case lshr =>
    obtain ⟨rfl, h⟩ := ckl_inv h
    unfold bls at h
    split at h
    · cases nx_inv h; exact lv_lshr hx hb hd rfl (kk ls H locs hL hR hS)
    · cases h
  case lushr =>
    obtain ⟨rfl, h⟩ := ckl_inv h
    unfold bls at h
    split at h
    · cases nx_inv h; exact lv_lushr hx hb hd rfl (kk ls H locs hL hR hS)
    · cases h
  case lcmp =>
    obtain ⟨rfl, h⟩ := ckl_inv h
    split at h
    · cases nx_inv h; exact W.lcmp hx hb hd (kk ls H locs hL hR hS)
    · cases h
  case i2l =>
    obtain ⟨rfl, h⟩ := ckl_inv h
    split at h
    · cases nx_inv h; exact lv_i2l hx hb hd rfl (kk ls H locs hL hR hS)
    · cases h
  case l2i =>
    obtain ⟨rfl, h⟩ := ckl_inv h
    split at h
    · cases nx_inv h; exact lv_l2i hx hb hd rfl (kk ls H locs hL hR hS)
    · cases h
  case dup =>
    obtain ⟨rfl, h⟩ := ckl_inv h
    split at h
    · split at h
      · next hv => cases nx_inv h; exact lv_dup hx hb hd (by rw [vmp_cat]; exact hv) (kk ls H locs hL hR hS)
      · cases h
    · cases h
  case dup2 =>
    obtain ⟨rfl, h⟩ := ckl_inv h
    split at h
    · split at h
      · next hv => cases nx_inv h; exact lv_dup2_11 hx hb hd (by rw [vmp_cat]; exact hv.1) (by rw [vmp_cat]; exact hv.2) (kk ls H locs hL hR hS)
      · cases h
    · cases h
  case pop =>
    obtain ⟨rfl, h⟩ := ckl_inv h
    split at h
    · split at h
      · next hv => cases nx_inv h; exact lv_pop hx hb hd (by rw [vmp_cat]; exact hv) (kk ls H locs hL hR hS)
      · cases h
    · cases h
  case ifCond cd off =>
    obtain ⟨rfl, h⟩ := ckl_inv h
    split at h
    · obtain ⟨t, ht, h⟩ := Option.bind_eq_some_iff.mp h
      have ht := jmp_inv ht
      cases nx_inv h
      have kw := kk ls H locs hL hR hS
      clear kk
      cases cd <;> simp only [cmp0] at kw
      · exact lv_if_eq hx hb hd ht (fun q => by rw [decide_eq_true q, cond_true] at kw; exact kw) (fun q => by rw [decide_eq_false q, cond_false] at kw; exact kw)
      · exact lv_if_ne hx hb hd ht (fun q => by rw [decide_eq_false q, Bool.not_false, cond_true] at kw; exact kw) (fun q => by rw [decide_eq_true q, Bool.not_true, cond_false] at kw; exact kw)
      · exact lv_if_lt hx hb hd ht (fun q => by rw [decide_eq_true q, cond_true] at kw; exact kw) (fun q => by rw [decide_eq_false q, cond_false] at kw; exact kw)
      · exact lv_if_ge hx hb hd ht (fun q => by rw [decide_eq_true q, cond_true] at kw; exact kw) (fun q => by rw [decide_eq_false q, cond_false] at kw; exact kw)
      · exact lv_if_gt hx hb hd ht (fun q => by rw [decide_eq_true q, cond_true] at kw; exact kw) (fun q => by rw [decide_eq_false q, cond_false] at kw; exact kw)
      · exact lv_if_le hx hb hd ht (fun q => by rw [decide_eq_true q, cond_true] at kw; exact kw) (fun q => by rw [decide_eq_false q, cond_false] at kw; exact kw)
    · cases h
  case if_icmp cd off =>
    obtain ⟨rfl, h⟩ := ckl_inv h
    split at h
    · obtain ⟨t, ht, h⟩ := Option.bind_eq_some_iff.mp h
      have ht := jmp_inv ht
      cases nx_inv h
      have kw := kk ls H locs hL hR hS
      clear kk
      cases cd <;> simp only [cmp2] at kw
      · exact lv_icmp_eq hx hb hd ht (fun q => by rw [decide_eq_true q, cond_true] at kw; exact kw) (fun q => by rw [decide_eq_false q, cond_false] at kw; exact kw)
      · exact lv_icmp_ne hx hb hd ht (fun q => by rw [decide_eq_false q, Bool.not_false, cond_true] at kw; exact kw) (fun q => by rw [decide_eq_true q, Bool.not_true, cond_false] at kw; exact kw)
      · exact lv_icmp_lt hx hb hd ht (fun q => by rw [decide_eq_true q, cond_true] at kw; exact kw) (fun q => by rw [decide_eq_false q, cond_false] at kw; exact kw)
      · exact lv_icmp_ge hx hb hd ht (fun q => by rw [decide_eq_true q, cond_true] at kw; exact kw) (fun q => by rw [decide_eq_false q, cond_false] at kw; exact kw)
      · exact lv_icmp_gt hx hb hd ht (fun q => by rw [decide_eq_true q, cond_true] at kw; exact kw) (fun q => by rw [decide_eq_false q, cond_false] at kw; exact kw)
      · exact lv_icmp_le hx hb hd ht (fun q => by rw [decide_eq_true q, cond_true] at kw; exact kw) (fun q => by rw [decide_eq_false q, cond_false] at kw; exact kw)
    · cases h
  case if_acmp cd off =>
    obtain ⟨rfl, h⟩ := ckl_inv h
    split at h
    · obtain ⟨ry, hry, h⟩ := Option.bind_eq_some_iff.mp h
      obtain ⟨rx, hrx, h⟩ := Option.bind_eq_some_iff.mp h
      split at h
      · next hbb =>
        obtain ⟨t, ht, h⟩ := Option.bind_eq_some_iff.mp h
        have ht := jmp_inv ht
        cases nx_inv h
        have kw := kk ls H locs hL hR hS
        clear kk
        have e1 := rfO_inv hry
        have e2 := rfO_inv hrx
        subst e1; subst e2
        rw [Bool.and_eq_true] at hbb
        have hiff : rx.map (sg G) = ry.map (sg G) ↔ rx = ry := rf_inj hR hbb.1 hbb.2
        rw [List.map_cons, List.map_cons, vmp_rf, vmp_rf]
        cases cd <;> simp only [cmpR] at kw
        · exact lv_acmp_eq hx hb hd ht (fun q => by rw [decide_eq_true (hiff.mp q), cond_true] at kw; exact kw) (fun q => by rw [decide_eq_false (fun z => q (hiff.mpr z)), cond_false] at kw; exact kw)
        · exact lv_acmp_ne hx hb hd ht (fun q => by rw [decide_eq_false (fun z => q (hiff.mpr z)), Bool.not_false, cond_true] at kw; exact kw) (fun q => by rw [decide_eq_true (hiff.mp q), Bool.not_true, cond_false] at kw; exact kw)
      · cases h
    · cases h
  case ifnull off =>
    obtain ⟨rfl, h⟩ := ckl_inv h
    split at h
    · obtain ⟨t, ht, hxx⟩ := go_inv h
      cases hxx
      exact lv_ifnullN hx hb hd ht (kk ls H locs hL hR hS)
    · cases nx_inv h
      exact lv_ifnull hx hb hd (kk ls H locs hL hR hS)
    · cases h
  case ifnonnull off =>
    obtain ⟨rfl, h⟩ := ckl_inv h
    split at h
    · cases nx_inv h
      exact lv_ifnonnullN hx hb hd (kk ls H locs hL hR hS)
    · obtain ⟨t, ht, hxx⟩ := go_inv h
      cases hxx
      exact lv_ifnonnull hx hb hd ht (kk ls H locs hL hR hS)
    · cases h
  case goto off =>
    obtain ⟨rfl, h⟩ := ckl_inv h
    obtain ⟨t, ht, hxx⟩ := go_inv h
    cases hxx
    exact lv_goto hx hb hd ht (kk ls H locs hL hR hS)
  case tableswitch df lo hi offs =>
    split at h
    · obtain ⟨off, ho, h⟩ := Option.bind_eq_some_iff.mp h
      obtain ⟨t, ht, hxx⟩ := go_inv h
      cases hxx
      unfold swT at ho
      split at ho
      · next hq => cases ho; exact lv_tableOut hx hb hd hq ht (kk ls H locs hL hR hS)
      · next hq => exact lv_tableIn hx hb hd (fun z => hq (Or.inl z)) (fun z => hq (Or.inr z)) ho ht (kk ls H locs hL hR hS)
    · cases h
  case lookupswitch df ps =>
    split at h
    · split at h
      · next hq =>
        obtain ⟨t, ht, hxx⟩ := go_inv h
        cases hxx
        exact lv_lookup hx hb hd hq rfl ht (kk ls H locs hL hR hS)
      · cases h
    · cases h
  case getfield k =>
    obtain ⟨rfl, h⟩ := ckl_inv h
    exact gtF_ok C' hL hR hS kk h hd
  case putfield k =>
    obtain ⟨rfl, h⟩ := ckl_inv h
    exact ptF_ok C' hL hR hS kk h hd
  case iaload =>
    obtain ⟨rfl, h⟩ := ckl_inv h
    exact iLd_ok C' hL hR hS kk h (Or.inl ⟨rfl, hd⟩)
  case baload =>
    obtain ⟨rfl, h⟩ := ckl_inv h
    exact iLd_ok C' hL hR hS kk h (Or.inr ⟨rfl, hd⟩)
  case iastore =>
    obtain ⟨rfl, h⟩ := ckl_inv h
    exact iSt_ok C' hL hR hS kk h (Or.inl ⟨rfl, hd⟩)
  case bastore =>
    obtain ⟨rfl, h⟩ := ckl_inv h
    exact iSt_ok C' hL hR hS kk h (Or.inr ⟨rfl, hd⟩)
  case aaload =>
    obtain ⟨rfl, h⟩ := ckl_inv h
    exact rLd_ok C' hL hR hS kk h hd
  case aastore =>
    obtain ⟨rfl, h⟩ := ckl_inv h
    exact rSt_ok C' hL hR hS kk h hd
  case arraylength =>
    obtain ⟨rfl, h⟩ := ckl_inv h
    split at h
    · split at h
      · next hk =>
        split at h
        · cases h
        next h00 =>
        cases nx_inv h
        obtain ⟨cell, h1, h2, h3⟩ := alen_read hR hk h00
        exact W.alen hx hb h1 h2 (by rw [h3]) rfl rfl hd (kk ls H locs hL hR hS)
      · cases h
    · cases h
  case new k =>
    obtain ⟨rfl, h⟩ := ckl_inv h
    exact nwO_ok C' hL hR hS kk h hd
  case newarray aty =>
    cases aty <;> simp only [stp] at h <;> try (cases h; done)
    · obtain ⟨rfl, h⟩ := ckl_inv h
      exact nwI_ok C' hL hR hS kk (Or.inr ⟨rfl, rfl⟩) h hd
    · obtain ⟨rfl, h⟩ := ckl_inv h
      exact nwI_ok C' hL hR hS kk (Or.inl ⟨rfl, rfl⟩) h hd
  case anewarray k =>
    obtain ⟨rfl, h⟩ := ckl_inv h
    split at h
    · next hk => exact nwR_ok C' hL hR hS kk hk h hd
    · cases h
  case invokevirtual k =>
    obtain ⟨rfl, h⟩ := ckl_inv h
    exact hstr rfl h hd
  case invokestatic k =>
    obtain ⟨rfl, h⟩ := ckl_inv h
    exact invS_ok C' hL hR hS kk h hd
  case invokespecial k =>
    obtain ⟨rfl, h⟩ := ckl_inv h
    exact invI_ok C' hL hR hS kk h hd
  case ireturn =>
    obtain ⟨rfl, h⟩ := ckl_inv h
    split at h
    · obtain ⟨ty, -, h⟩ := Option.bind_eq_some_iff.mp h
      split at h <;> cases h
    · cases h
  case lreturn =>
    obtain ⟨rfl, h⟩ := ckl_inv h
    split at h
    · split at h <;> cases h
    · cases h
  case areturn =>
    obtain ⟨rfl, h⟩ := ckl_inv h
    split at h
    · split at h <;> cases h
    · cases h
  case return_ =>
    obtain ⟨rfl, h⟩ := ckl_inv h
    split at h
    · split at h <;> cases h
    · cases h
end step4
