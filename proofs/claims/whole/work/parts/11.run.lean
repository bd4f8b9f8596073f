/-! a whole run of the plain machine is one of the machine -/
def StrOK : Prop := ∀ {p : Program} {l : Launch} {e : Env} {s : State} {m : MethodId} {args : Array Value} {below : List Frame} {meth : Method} {c : Code} {H : Heap} {locs : List Loc} {Q : State → Prop} {G : GX} {mi : Nat},
  Cx p s m args meth c G mi → ∀ {pc : Nat} {L : Lcl} {st : List Value} {lw : LW} {cs : Nat × Nat} {x : St} {ls : Array Slot}, LR G (mL mi) L ls → Rep G s lw H → va_S (Aof G) s.heap H locs →
    (∀ (ls' : Array Slot) (H' : Heap) (locs' : List Loc), LR G (mL mi) x.2.1 ls' → Rep G s x.2.2.2.1 H' → va_S (Aof G) s.heap H' locs' → W p l e (mRm mi) s m args below meth c H' locs' x.2.2.2.2.1 x.2.2.2.2.2 Q (F0 m x.1 ls' (x.2.2.1.map (vmp G)))) →
    ∀ {idx kd j : Nat}, kd = 7 ∨ kd = 8 → lk ctab (mC mi) idx = some (kd, j) → inv mi idx pc [7, 8] L st lw cs = some (.inl x) → decode (mB mi) pc = .ok (.invokevirtual idx, 3) → W p l e (mRm mi) s m args below meth c H locs cs.1 cs.2 Q (F0 m pc ls (st.map (vmp G)))
theorem Rep.same {G : GX} {u U : State} {lw : LW} {H : Heap} (hv : U.vm = u.vm) (h : Rep G u lw H) : Rep G U lw H := by
  have ha : u.vm.Alike U.vm := by rw [hv]; exact Vm.Alike.refl _
  obtain ⟨h1, h2, h3, h4, h5, h6, adV, h7, h8, h9, h10, h11⟩ := h
  exact ⟨h1, h2, h3, fun k e hk => xat_moved ha (h4 k e hk), va_K.moved ha h5, fun c i a q => (h6 c i a q).same hv, adV, h7.moved ha, h8.moved ha, h9.moved ha, fun C i y q => (h10 C i y q).same rfl hv.symm, h11.moved ha⟩
def Pm (G : GX) (as : List Value) (lw : LW) : Array Value → State → Prop := va_Pc (as.map (vmp G)) (fun U => Rep G U lw U.heap ∧ 0 < lw.length)
def Qm (G : GX) (rv : Option Value) (lw' : LW) : Array Value → State → Outcome → State → Prop := fun _ st o t => o = .returned (rv.map (vmp G)) ∧ Rep G t lw' t.heap ∧ va_F (Aof G) st t
def MetX (l : Launch) (G : GX) (j : Nat) (as : List Value) (lw : LW) (rv : Option Value) (lw' : LW) : Prop := Met l (mY j) (wAll j) (mRm j) (Pm G as lw) (Qm G rv lw') (mMc j) (mMs j) (Aof G)
theorem Pm_blind {G : GX} {as : List Value} {lw : LW} : FrameBlind (Pm G as lw) := fun a U g mk q => by
  obtain ⟨q0, q1, q2⟩ := q
  exact ⟨q0, Rep.same (u := U) (U := U.calling g mk a) rfl q1, q2⟩
section run
variable {p : Program} {l : Launch} {e : Env} {s : State} {m : MethodId} {args : Array Value} {below : List Frame} {meth : Method} {c : Code} {H : Heap} {locs : List Loc} {Q : State → Prop} {G : GX} {mi : Nat} {R : Room}
theorem run_ok {cells slots mc ms pc : Nat} {ls : Array Slot} {st0 rest : List Value} {rv : Option Value} {lw lw' : LW} {a : Array Value} (hR : Rep G s lw H) (hr : va_Run p l e R s m args below meth c H locs cells slots mc ms (F0 m pc ls st0) rest (Qm G rv lw' a) (Aof G)) (hS : va_S (Aof G) s.heap H locs)
    (kk : ∀ (H1 : Heap) (locs1 : List Loc), Rep G s lw' H1 → va_S (Aof G) s.heap H1 locs1 → W p l e R s m args below meth c H1 locs1 (cells + mc) (slots + ms) Q (F0 m (pc + 3) ls ((rv.map (vmp G)).toList ++ rest))) : W p l e R s m args below meth c H locs cells slots Q (F0 m pc ls st0) := by
  intro T hT X
  obtain ⟨v, st₀, t, T', L, h0, X', hL, e1, e2, ⟨hv, hRt, hz, hk⟩, st⟩ := hr T hT X
  cases hv
  rw [h0] at hz hk
  have hal : s.vm.Alike t.vm := by rw [← e2]; exact X'.warmed.alike
  have hsx : SX G s t.heap := hR.2.2.2.2.2.kept hk
  have hR1 : Rep G s lw' T'.heap := by
    rw [e1]
    exact ⟨hRt.1, hRt.2.1, hRt.2.2.1, fun k y hy => xat_moved hal.symm (hRt.2.2.2.1 k y hy), hR.2.2.2.2.1, hsx⟩
  obtain ⟨t2, a1, b1⟩ := kk T'.heap (locs ++ L) hR1
    ⟨Nat.le_trans hS.1 (by rw [e1]; exact hz), fun q h1 h2 => by rw [e1, hk q (Nat.lt_of_lt_of_le h1 hS.1) h2]; exact hS.2.1 q h1 h2, fun q hq => by
      rcases List.mem_append.mp hq with h | h
      · exact hS.2.2 q h
      · exact hL q h⟩ T' rfl X'
  exact ⟨t2, st t2 a1, b1⟩
theorem cal_inv {j n : Nat} {st : List Value} {cs : Nat × Nat} {x : Nat × List Value × List Value} (h : cal mi j n st cs = some (.inr (.inl x))) :
    (n ≤ st.length ∧ (argL (st.take n).reverse).length ≤ mL j ∧ ((st.drop n).map (fun v => v.category)).sum ≤ 8 ∧ mF j + 1 ≤ mF mi ∧ 8 + (mL j + 11) + mO j ≤ mO mi ∧ cs.1 + mMc j ≤ mMc mi ∧ cs.2 + mMs j ≤ mMs mi ∧ j < iLaw) ∧ x = (j, (st.take n).reverse, st.drop n) := by
  unfold cal at h
  split at h
  · next hc => cases h; exact ⟨hc, rfl⟩
  · cases h
theorem recv_inv {st : List Value} {lw : LW} {n j : Nat} (h : recv st lw n j = true) : ∃ b o, st[n]? = some (.ref b) ∧ lw[b]? = some (.inr o) ∧ o.1 = mC j ∧ o.1 < 11 := by
  unfold recv at h
  split at h
  · next b hb =>
    split at h
    · next o ho =>
      simp only [Bool.and_eq_true, decide_eq_true_eq] at h
      exact ⟨b, o, hb, obj_inv ho, h.1, h.2⟩
    · cases h
  · cases h
theorem stack_V {st : List Value} {n : Nat} {b : Nat} (h : st[n]? = some (.ref b)) : (st.take (n + 1)).reverse = .ref b :: (st.take n).reverse ∧ st = (st.take n).reverse.reverse ++ .ref b :: st.drop (n + 1) := by
  have hlt := (List.getElem?_eq_some_iff.mp h).1
  have he := (List.getElem?_eq_some_iff.mp h).2
  constructor
  · rw [List.take_succ_eq_append_getElem hlt, List.reverse_append, he]; rfl
  · rw [List.reverse_reverse]
    have : st.drop n = .ref b :: st.drop (n + 1) := by rw [List.drop_eq_getElem_cons hlt, he]
    rw [← this, List.take_append_drop]
theorem recv_cell {lw : LW} {b : Nat} {o : Nat × List Value} (hR : Rep G s lw H) (h : lw[b]? = some (.inr o)) : ∃ cell : Cell, H[sg G b]? = some cell ∧ cell.vm.isStatics = false ∧ s.vm.findClass (cN.getD o.1 "") = some cell.cls := by
  have hx := hR.2.2.2.1 b _ h
  unfold xat at hx
  obtain ⟨-, hci, -, cell, g1, g2, g3, -⟩ := hx
  have hcls := (hR.2.2.2.2.1.1 o.1 _ (clL_at hci)).2
  exact ⟨cell, g1, by rw [g3]; rfl, by rw [g2]; exact hcls.1⟩
/-- a call of a method with code -/
theorem call_ok (C : Cx p s m args meth c G mi) {pc idx : Nat} {ins : Instr} {L : Lcl} {st : List Value} {lw lw' : LW} {cs : Nat × Nat} {x : Nat × List Value × List Value} {ls : Array Slot} {ks : List Nat} {rv : Option Value} (hL : LR G (mL mi) L ls) (hR : Rep G s lw H) (hS : va_S (Aof G) s.heap H locs)
    (h : inv mi idx pc ks L st lw cs = some (.inr (.inl x))) (hks : (ks = [0, 7, 8] ∧ ins = .invokevirtual idx) ∨ (ks = [1, 3, 6, 9, 10, 11] ∧ ins = .invokestatic idx) ∨ (ks = [2, 4, 5] ∧ ins = .invokespecial idx)) (hd : decode (mB mi) pc = .ok (ins, 3))
    (hM : MetX l G x.1 x.2.1 lw rv lw')
    (kk : ∀ (H1 : Heap) (locs1 : List Loc), Rep G s lw' H1 → va_S (Aof G) s.heap H1 locs1 → W p l e (mRm mi) s m args below meth c H1 locs1 (cs.1 + mMc x.1) (cs.2 + mMs x.1) Q (F0 m (pc + 3) ls ((rv.map (vmp G)).toList ++ x.2.2.map (vmp G)))) : W p l e (mRm mi) s m args below meth c H locs cs.1 cs.2 Q (F0 m pc ls (st.map (vmp G))) := by
  obtain ⟨hx, hb, hml, hown, hts, hin, hbs⟩ := C
  unfold inv at h
  obtain ⟨q, hq, h⟩ := Option.bind_eq_some_iff.mp h
  obtain ⟨kd, j⟩ := q
  split at h
  · cases h
  next hm =>
  rw [not_or] at hm
  obtain ⟨hm, hlen⟩ := hm
  have hlen : 0 < lw.length := Nat.pos_of_ne_zero hlen
  have hw := wC_all _ (lk_lt hq) _ (lk_mem hq)
  have fix : CallFix p m c (mB mi) (mL mi) s args lwG (cN.getD (mC mi) "") := ⟨hx, hb, hml, hown, hts⟩
  have hPm : ∀ (as : List Value) (U : State), U.heap = H → s.WarmedH U.vm → Pm G as lw (as.map (vmp G)).toArray U := fun as U hU hW => ⟨rfl, by rw [hU]; exact Rep.moved hW hR, hlen⟩
  have room : ∀ {n : Nat}, ((st.drop n).map (fun v => v.category)).sum ≤ 8 → 2 * (F0 m pc ls (st.map (vmp G))).monitorRoom + (((st.drop n).map (vmp G)).map fun v => v.category).sum ≤ 8 := fun h => by
    rw [map_cat]
    exact lv_room h
  match kd, hm, h, hw with
  | 0, hm, h, hw =>
    simp only at h
    split at h
    · next hrc =>
      obtain ⟨⟨c1, c2, c3, c4, c5, c6, c7, hj⟩, rfl⟩ := cal_inv h
      obtain ⟨b, o, hst, ho, hoc, ho11⟩ := recv_inv hrc
      obtain ⟨e1, e2⟩ := stack_V hst
      obtain ⟨w1, w2, w3⟩ := hw
      obtain ⟨y1, y2, y3⟩ := mY_own j hj
      obtain ⟨m1, m2, m3⟩ := chM_ok hj
      have hks' : ins = .invokevirtual idx := by rcases hks with ⟨rfl, rfl⟩ | ⟨rfl, rfl⟩ | ⟨rfl, rfl⟩ <;> first | rfl | (exact absurd hm (by simp))
      subst hks'
      have hM : MetX l G j (.ref b :: (st.take (mA j)).reverse) lw rv lw' := by rw [← e1]; exact hM
      have cw : CallW (mRm mi) s args (cN.getD (mC mi) "") (mY j).cls idx (mY j) (mB j) (mL j) (mR j) (wAll j) (mRm j) (mMc j) (mMs j) (mA j) :=
        cwV (mA j) hts (fun w hw => by
          rcases List.mem_append.mp hw with h | h
          · simp only [List.mem_cons, List.not_mem_nil, or_false] at h
            rcases h with rfl | rfl | rfl | rfl
            · exact lwG_good _ (inG w1 rfl)
            · exact lwG_good _ (inG w2 rfl)
            · exact lwG_good _ (inG w3 rfl)
            · exact lwG_good _ (inG (wM_all j hj).2 rfl)
          · exact wAll_good hj w h) rfl rfl rfl ⟨rfl, y2, y3, m2⟩ ⟨c4, c5⟩
      refine run_ok hR (va_runV (As := (st.take (mA j)).reverse.map (vmp G)) (rest := (st.drop (mA j + 1)).map (vmp G)) (b := sg G b) (C := (mY j).cls) fix hM cw ⟨Pm_blind, ?_, fun U hU hW => hPm (.ref b :: (st.take (mA j)).reverse) U hU hW⟩ rfl ?_ hL.2.1 ?_ (room c3) hd ⟨c6, c7⟩) hS kk
      · rw [y1, ← hoc]; exact recv_cell hR ho
      · rw [List.length_map, List.length_reverse, List.length_take]; omega
      · show st.map (vmp G) = _
        conv => lhs; rw [e2]
        rw [List.map_append, List.map_reverse]
        rfl
    · cases h
  | 1, hm, h, hw =>
    simp only at h
    obtain ⟨⟨c1, c2, c3, c4, c5, c6, c7, hj⟩, rfl⟩ := cal_inv h
    obtain ⟨w1, w2⟩ := hw
    obtain ⟨y1, y2, y3⟩ := mY_own j hj
    obtain ⟨m1, m2, m3⟩ := chM_ok hj
    have hks' : ins = .invokestatic idx := by rcases hks with ⟨rfl, rfl⟩ | ⟨rfl, rfl⟩ | ⟨rfl, rfl⟩ <;> first | rfl | (exact absurd hm (by simp))
    subst hks'
    have hws : ∀ w ∈ wAll j, w ∈ lwG ∧ _ := wAll_good hj
    have cw : CallB (mRm mi) s args (cN.getD (mC mi) "") idx (mY j) (mB j) (mL j) (mR j) (wAll j) (mRm j) (mMc j) (mMs j) (mA j) ∧ (Cond.static (mY j)).before args s = true :=
      ⟨callB_of (mA j) hts (wAll_good hj) rfl rfl rfl (hts _ (inG (wM_all j hj).2 rfl)) (hts _ (inG w1 rfl)) ⟨y2, y3, m2⟩ ⟨c4, c5⟩, hts _ (inG w2 rfl)⟩
    refine run_ok hR (va_runS (As := (st.take (mA j)).reverse.map (vmp G)) (rest := (st.drop (mA j)).map (vmp G)) fix hM cw ⟨Pm_blind, fun U hU hW => hPm (st.take (mA j)).reverse U hU hW⟩ rfl ?_ hL.2.1 ?_ (room c3) hd ⟨c6, c7⟩) hS kk
    · rw [List.length_map, List.length_reverse, List.length_take]; omega
    · show st.map (vmp G) = _
      rw [List.map_reverse, List.reverse_reverse, ← List.map_append, List.take_append_drop]
  | 2, hm, h, hw =>
    simp only at h
    split at h
    · next hrc =>
      obtain ⟨hrc, hmk⟩ := hrc
      obtain ⟨⟨c1, c2, c3, c4, c5, c6, c7, hj⟩, rfl⟩ := cal_inv h
      obtain ⟨b, o, hst, ho, hoc, ho11⟩ := recv_inv hrc
      obtain ⟨e1, e2⟩ := stack_V hst
      obtain ⟨w1, w2⟩ := hw
      obtain ⟨y1, y2, y3⟩ := mY_own j hj
      obtain ⟨m1, m2, m3⟩ := chM_ok hj
      have hks' : ins = .invokespecial idx := by rcases hks with ⟨rfl, rfl⟩ | ⟨rfl, rfl⟩ | ⟨rfl, rfl⟩ <;> first | rfl | (exact absurd hm (by simp))
      subst hks'
      have hret : mR j = none := mK_ret j hj hmk
      have hM : MetX l G j (.ref b :: (st.take (mA j)).reverse) lw rv lw' := by rw [← e1]; exact hM
      have cw : CallB (mRm mi) s args (cN.getD (mC mi) "") idx (mY j) (mB j) (mL j) none (wAll j) (mRm j) (mMc j) (mMs j) (mA j) ∧ (mY j).name = "<init>" ∧ (Cond.instanceMethod (mY j)).before args s = true :=
        ⟨by rw [← hret]; exact callB_of (mA j) hts (wAll_good hj) rfl rfl rfl (hts _ (inG (wM_all j hj).2 rfl)) (hts _ (inG w1 rfl)) ⟨y2, y3, m2⟩ ⟨c4, c5⟩, m3 hmk, hts _ (inG w2 rfl)⟩
      refine run_ok hR (va_runI (As := (st.take (mA j)).reverse.map (vmp G)) (rest := (st.drop (mA j + 1)).map (vmp G)) (b := sg G b) fix hM cw ⟨Pm_blind, fun U hU hW => hPm (.ref b :: (st.take (mA j)).reverse) U hU hW⟩ rfl ?_ hL.2.1 ?_ (room c3) hd ⟨c6, c7⟩) hS kk
      · rw [List.length_map, List.length_reverse, List.length_take]; omega
      · show st.map (vmp G) = _
        conv => lhs; rw [e2]
        rw [List.map_append, List.map_reverse]
        rfl
    · cases h
  | 3, hm, h, hw =>
    simp only at h
    obtain ⟨⟨c1, c2, c3, c4, c5, c6, c7, hj⟩, rfl⟩ := cal_inv h
    obtain ⟨w1, w2⟩ := hw
    obtain ⟨y1, y2, y3⟩ := mY_own j hj
    obtain ⟨m1, m2, m3⟩ := chM_ok hj
    have hks' : ins = .invokestatic idx := by rcases hks with ⟨rfl, rfl⟩ | ⟨rfl, rfl⟩ | ⟨rfl, rfl⟩ <;> first | rfl | (exact absurd hm (by simp))
    subst hks'
    have cw : va_CN (mRm mi) s args (cN.getD (mC mi) "") idx (mY j) "TrunkRoom" (mB j) (mL j) (mR j) (wAll j) (mRm j) (mMc j) (mMs j) (mA j) ∧ (Cond.static (mY j)).before args s = true ∧ True :=
      ⟨va_cnB (mA j) hts (wAll_good hj) rfl rfl rfl (hR.2.2.2.2.2.2.choose_spec.2.2.2.1 _ _ _ w1) (hts _ (inG (wM_all j hj).2 rfl)) ⟨y2, y3, m2⟩ ⟨c4, c5⟩, hts _ (inG w2 rfl), trivial⟩
    refine run_ok hR (va_runSN (As := (st.take (mA j)).reverse.map (vmp G)) (rest := (st.drop (mA j)).map (vmp G)) fix hM cw ⟨Pm_blind, fun U hU hW => hPm (st.take (mA j)).reverse U hU hW⟩ rfl ?_ hL.2.1 ?_ (room c3) hd ⟨c6, c7⟩) hS kk
    · rw [List.length_map, List.length_reverse, List.length_take]; omega
    · show st.map (vmp G) = _
      rw [List.map_reverse, List.reverse_reverse, ← List.map_append, List.take_append_drop]
  | 4, hm, h, hw =>
    simp only at h
    split at h
    · next hrc =>
      obtain ⟨hrc, hmk⟩ := hrc
      obtain ⟨⟨c1, c2, c3, c4, c5, c6, c7, hj⟩, rfl⟩ := cal_inv h
      obtain ⟨b, o, hst, ho, hoc, ho11⟩ := recv_inv hrc
      obtain ⟨e1, e2⟩ := stack_V hst
      obtain ⟨w1, w2⟩ := hw
      obtain ⟨y1, y2, y3⟩ := mY_own j hj
      obtain ⟨m1, m2, m3⟩ := chM_ok hj
      have hks' : ins = .invokespecial idx := by rcases hks with ⟨rfl, rfl⟩ | ⟨rfl, rfl⟩ | ⟨rfl, rfl⟩ <;> first | rfl | (exact absurd hm (by simp))
      subst hks'
      have hret : mR j = none := mK_ret j hj hmk
      have hM : MetX l G j (.ref b :: (st.take (mA j)).reverse) lw rv lw' := by rw [← e1]; exact hM
      have cw : va_CN (mRm mi) s args (cN.getD (mC mi) "") idx (mY j) "TrunkRoom" (mB j) (mL j) none (wAll j) (mRm j) (mMc j) (mMs j) (mA j) ∧ (mY j).name = "<init>" ∧ (Cond.instanceMethod (mY j)).before args s = true :=
        ⟨by rw [← hret]; exact va_cnB (mA j) hts (wAll_good hj) rfl rfl rfl (hR.2.2.2.2.2.2.choose_spec.2.2.2.1 _ _ _ w1) (hts _ (inG (wM_all j hj).2 rfl)) ⟨y2, y3, m2⟩ ⟨c4, c5⟩, m3 hmk, hts _ (inG w2 rfl)⟩
      refine run_ok hR (va_runIN (As := (st.take (mA j)).reverse.map (vmp G)) (rest := (st.drop (mA j + 1)).map (vmp G)) (b := sg G b) fix hM cw ⟨Pm_blind, fun U hU hW => hPm (.ref b :: (st.take (mA j)).reverse) U hU hW⟩ rfl ?_ hL.2.1 ?_ (room c3) hd ⟨c6, c7⟩) hS kk
      · rw [List.length_map, List.length_reverse, List.length_take]; omega
      · show st.map (vmp G) = _
        conv => lhs; rw [e2]
        rw [List.map_append, List.map_reverse]
        rfl
    · cases h
  | 5, hm, h, hw =>
    simp only [nx] at h
    split at h <;> (try split at h) <;> cases h
  | 6, hm, h, hw =>
    simp only [nx] at h
    split at h
    · split at h
      · cases h
      · obtain ⟨q0, hq0, h⟩ := Option.bind_eq_some_iff.mp h
        obtain ⟨q1, hq1, h⟩ := Option.bind_eq_some_iff.mp h
        split at h <;> cases h
    · cases h
  | 7, hm, h, hw =>
    simp only [nx] at h
    split at h <;> (try split at h) <;> cases h
  | 8, hm, h, hw =>
    simp only [nx] at h
    split at h <;> (try split at h) <;> cases h
  | 9, hm, h, hw =>
    simp only [nx] at h
    split at h <;> (try split at h) <;> cases h
  | 10, hm, h, hw =>
    simp only [nx] at h
    split at h <;> (try split at h) <;> cases h
  | n + 11, hm, h, hw =>
    simp only [nx] at h
    split at h <;> (try split at h) <;> cases h
/-- results that go on in the frame -/
def noR (r : SR) : Prop := ∀ y, r ≠ some (.inr y)
theorem noR_nx {pc : Nat} {L : Lcl} {st : List Value} {lw : LW} {cs : Nat × Nat} : noR (nx pc L st lw cs) := fun y h => by unfold nx at h; cases h
theorem noR_none : noR none := fun y h => by cases h
theorem noR_bind {α : Type} {o : Option α} {f : α → SR} (h : ∀ a, noR (f a)) : noR (o.bind f) := fun y q => by
  obtain ⟨a, -, q⟩ := Option.bind_eq_some_iff.mp q
  exact h a y q
theorem noR_ite {c : Prop} [Decidable c] {a b : SR} (ha : noR a) (hb : noR b) : noR (if c then a else b) := by
  split
  · exact ha
  · exact hb
theorem noR_ckl {a b : Nat} {r : SR} (h : noR r) : noR (ckl a b r) := noR_ite h noR_none
theorem noR_go {pc : Nat} {off : Int} {L : Lcl} {st : List Value} {lw : LW} {cs : Nat × Nat} : noR (go pc off L st lw cs) := noR_bind fun _ => noR_nx
theorem noR_call {pc len : Nat} {i : Instr} {L : Lcl} {st : List Value} {lw : LW} {cs : Nat × Nat} : (∃ k, i = .invokevirtual k) ∨ (∃ k, i = .invokestatic k) ∨ (∃ k, i = .invokespecial k) ∨ i = .ireturn ∨ i = .lreturn ∨ i = .areturn ∨ i = .return_ ∨ noR (stp mi pc i len L st lw cs) := by
  cases i
  case invokevirtual k => exact Or.inl ⟨k, rfl⟩
  case invokestatic k => exact Or.inr (Or.inl ⟨k, rfl⟩)
  case invokespecial k => exact Or.inr (Or.inr (Or.inl ⟨k, rfl⟩))
  case ireturn => exact Or.inr (Or.inr (Or.inr (Or.inl rfl)))
  case lreturn => exact Or.inr (Or.inr (Or.inr (Or.inr (Or.inl rfl))))
  case areturn => exact Or.inr (Or.inr (Or.inr (Or.inr (Or.inr (Or.inl rfl)))))
  case return_ => exact Or.inr (Or.inr (Or.inr (Or.inr (Or.inr (Or.inr (Or.inl rfl))))))
  all_goals refine Or.inr (Or.inr (Or.inr (Or.inr (Or.inr (Or.inr (Or.inr ?_))))))
  case newarray t => cases t <;> simp only [stp] <;> first | exact noR_none | (refine noR_ckl ?_; unfold nwA; split <;> first | exact noR_none | exact noR_ite noR_none noR_nx)
  all_goals simp only [stp]
  all_goals try (exact noR_none)
  all_goals try (refine noR_ckl ?_)
  all_goals try (exact noR_nx)
  all_goals try (exact noR_go)
  all_goals try (first | unfold ldA | unfold ldI | unfold ldJ | unfold stA | unfold stI | unfold stJ | unfold bi2 | unfold bl2 | unfold bls | unfold dv2 | unfold iLd | unfold iSt | unfold rLd | unfold rSt | unfold gtF | unfold ptF | unfold nwO)
  case anewarray k => refine noR_ite ?_ noR_none; unfold nwA; split <;> first | exact noR_none | exact noR_ite noR_none noR_nx
  case aastore =>
    split
    · refine noR_ite noR_none ?_
      split
      · exact noR_bind fun _ => noR_ite noR_nx noR_none
      · exact noR_bind fun _ => noR_bind fun _ => noR_ite (noR_ite noR_nx noR_none) noR_none
      · exact noR_none
    · exact noR_none
  case arraylength =>
    split
    · split
      · exact noR_ite noR_none noR_nx
      · exact noR_none
    · exact noR_none
  all_goals try (split <;> first | exact noR_none | exact noR_nx | exact noR_go | exact noR_bind fun _ => noR_nx | exact noR_ite noR_nx noR_none | exact noR_ite noR_none noR_nx | exact noR_bind fun _ => noR_go | exact noR_ite noR_go noR_none | exact noR_bind fun _ => noR_ite noR_nx noR_none | exact noR_ite noR_none (noR_bind fun _ => noR_ite noR_nx noR_none) | exact noR_ite noR_none (noR_bind fun _ => noR_ite noR_nx noR_none) | exact noR_bind fun _ => noR_bind fun _ => noR_ite (noR_bind fun _ => noR_nx) noR_none | exact noR_bind fun _ => noR_bind fun _ => noR_ite noR_nx noR_none)
  all_goals first | exact noR_bind fun _ => noR_nx | exact noR_bind fun _ => noR_ite noR_none noR_nx
/-- which instruction a call comes from -/
theorem stp_call {pc len : Nat} {i : Instr} {L : Lcl} {st : List Value} {lw : LW} {cs : Nat × Nat} {x : Nat × List Value × List Value} (h : stp mi pc i len L st lw cs = some (.inr (.inl x))) :
    len = 3 ∧ ∃ idx ks, inv mi idx pc ks L st lw cs = some (.inr (.inl x)) ∧ ((ks = [0, 7, 8] ∧ i = .invokevirtual idx) ∨ (ks = [1, 3, 6, 9, 10, 11] ∧ i = .invokestatic idx) ∨ (ks = [2, 4, 5] ∧ i = .invokespecial idx)) := by
  rcases noR_call (mi := mi) (pc := pc) (len := len) (i := i) (L := L) (st := st) (lw := lw) (cs := cs) with ⟨k, rfl⟩ | ⟨k, rfl⟩ | ⟨k, rfl⟩ | rfl | rfl | rfl | rfl | hno
  · simp only [stp] at h
    obtain ⟨h1, h⟩ := ckl_inv h
    exact ⟨h1, k, _, h, Or.inl ⟨rfl, rfl⟩⟩
  · simp only [stp] at h
    obtain ⟨h1, h⟩ := ckl_inv h
    exact ⟨h1, k, _, h, Or.inr (Or.inl ⟨rfl, rfl⟩)⟩
  · simp only [stp] at h
    obtain ⟨h1, h⟩ := ckl_inv h
    exact ⟨h1, k, _, h, Or.inr (Or.inr ⟨rfl, rfl⟩)⟩
  · simp only [stp] at h
    obtain ⟨h1, h⟩ := ckl_inv h
    split at h
    · obtain ⟨a, -, h⟩ := Option.bind_eq_some_iff.mp h
      split at h <;> cases h
    · cases h
  · simp only [stp] at h
    obtain ⟨h1, h⟩ := ckl_inv h
    split at h
    · split at h <;> cases h
    · cases h
  · simp only [stp] at h
    obtain ⟨h1, h⟩ := ckl_inv h
    split at h
    · split at h <;> cases h
    · cases h
  · simp only [stp] at h
    obtain ⟨h1, h⟩ := ckl_inv h
    split at h
    · split at h <;> cases h
    · cases h
  · exact absurd h (hno _)
/-- what a return gives -/
def retI (mi : Nat) (i : Instr) (v : Option Value) : Prop :=
  (i = .ireturn ∧ ∃ x ty, v = some (.int x) ∧ mR mi = some ty ∧ fitV ty (.int x) = true) ∨ (i = .lreturn ∧ ∃ x, v = some (.long x) ∧ mR mi = some .long) ∨ (i = .areturn ∧ ∃ n, mR mi = some (.object n) ∧ (v = some .null ∨ ∃ a, v = some (.ref a))) ∨ (i = .return_ ∧ v = none ∧ mR mi = none)
theorem inv_noret {idx pc : Nat} {ks : List Nat} {L : Lcl} {st : List Value} {lw : LW} {cs : Nat × Nat} {v : Option Value} (h : inv mi idx pc ks L st lw cs = some (.inr (.inr v))) : False := by
  unfold inv at h
  obtain ⟨q, hq, h⟩ := Option.bind_eq_some_iff.mp h
  obtain ⟨kd, j⟩ := q
  have cn : ∀ {n}, cal mi j n st cs = some (.inr (.inr v)) → False := fun h => by unfold cal at h; split at h <;> cases h
  split at h
  · cases h
  match kd, h with
  | 0, h => simp only at h; split at h; exact cn h; cases h
  | 1, h => exact cn h
  | 2, h => simp only at h; split at h; exact cn h; cases h
  | 3, h => exact cn h
  | 4, h => simp only at h; split at h; exact cn h; cases h
  | 5, h => simp only [nx] at h; split at h <;> (try split at h) <;> cases h
  | 6, h =>
    simp only [nx] at h
    split at h
    · split at h
      · cases h
      · obtain ⟨q0, hq0, h⟩ := Option.bind_eq_some_iff.mp h
        obtain ⟨q1, hq1, h⟩ := Option.bind_eq_some_iff.mp h
        split at h <;> cases h
    · cases h
  | 7, h => simp only [nx] at h; split at h <;> (try split at h) <;> cases h
  | 8, h => simp only [nx] at h; split at h <;> (try split at h) <;> cases h
  | 9, h => simp only [nx] at h; split at h <;> (try split at h) <;> cases h
  | 10, h => simp only [nx] at h; split at h <;> (try split at h) <;> cases h
  | n + 11, h => simp only [nx] at h; split at h <;> (try split at h) <;> cases h
theorem stp_ret {pc len : Nat} {i : Instr} {L : Lcl} {st : List Value} {lw : LW} {cs : Nat × Nat} {v : Option Value} (h : stp mi pc i len L st lw cs = some (.inr (.inr v))) : len = 1 ∧ retI mi i v ∧ st = v.toList := by
  rcases noR_call (mi := mi) (pc := pc) (len := len) (i := i) (L := L) (st := st) (lw := lw) (cs := cs) with ⟨k, rfl⟩ | ⟨k, rfl⟩ | ⟨k, rfl⟩ | rfl | rfl | rfl | rfl | hno
  · simp only [stp] at h
    exact (inv_noret (ckl_inv h).2).elim
  · simp only [stp] at h
    exact (inv_noret (ckl_inv h).2).elim
  · simp only [stp] at h
    exact (inv_noret (ckl_inv h).2).elim
  · simp only [stp] at h
    obtain ⟨h1, h⟩ := ckl_inv h
    split at h
    · next x =>
      obtain ⟨ty, hty, h⟩ := Option.bind_eq_some_iff.mp h
      split at h
      · next hf => cases h; exact ⟨h1, Or.inl ⟨rfl, _, ty, rfl, hty, hf⟩, rfl⟩
      · cases h
    · cases h
  · simp only [stp] at h
    obtain ⟨h1, h⟩ := ckl_inv h
    split at h
    · next x =>
      split at h
      · next hf => cases h; exact ⟨h1, Or.inr (Or.inl ⟨rfl, _, rfl, hf⟩), rfl⟩
      · cases h
    · cases h
  · simp only [stp] at h
    obtain ⟨h1, h⟩ := ckl_inv h
    split at h
    · next x =>
      split at h
      · next hn => cases h; exact ⟨h1, Or.inr (Or.inr (Or.inl ⟨rfl, _, hn, Or.inl rfl⟩)), rfl⟩
      · next hn => cases h; exact ⟨h1, Or.inr (Or.inr (Or.inl ⟨rfl, _, hn, Or.inr ⟨_, rfl⟩⟩)), rfl⟩
      · cases h
    · cases h
  · simp only [stp] at h
    obtain ⟨h1, h⟩ := ckl_inv h
    split at h
    · split at h
      · next hf => cases h; exact ⟨h1, Or.inr (Or.inr (Or.inr ⟨rfl, rfl, hf⟩)), rfl⟩
      · cases h
    · cases h
  · exact absurd h (hno _)
end run
