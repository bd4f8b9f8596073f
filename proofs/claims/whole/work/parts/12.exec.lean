theorem inv_str {mi idx pc : Nat} {L : Lcl} {st : List Value} {lw : LW} {cs : Nat × Nat} {x : St} (h : inv mi idx pc [0, 7, 8] L st lw cs = some (.inl x)) : ∃ kd j, (kd = 7 ∨ kd = 8) ∧ lk ctab (mC mi) idx = some (kd, j) ∧ inv mi idx pc [7, 8] L st lw cs = some (.inl x) := by
  have h' := h
  unfold inv at h
  obtain ⟨q, hq, h⟩ := Option.bind_eq_some_iff.mp h
  obtain ⟨kd, j⟩ := q
  split at h
  · cases h
  next hm =>
  rw [not_or] at hm
  have hm1 := hm.1
  simp only [Decidable.not_not, List.mem_cons, List.not_mem_nil, or_false] at hm1
  rcases hm1 with rfl | h78
  · simp only at h
    split at h
    · exact (cal_not h).elim
    · cases h
  · refine ⟨kd, j, h78, hq, ?_⟩
    unfold inv at h' ⊢
    rw [hq] at h' ⊢
    simp only [Option.bind_some] at h' ⊢
    rcases h78 with rfl | rfl <;> simpa [hm.2] using h'
theorem inv_lt {mi idx pc : Nat} {ks : List Nat} {L : Lcl} {st : List Value} {lw : LW} {cs : Nat × Nat} {x : Nat × List Value × List Value} (h : inv mi idx pc ks L st lw cs = some (.inr (.inl x))) : x.1 < iLaw ∧ (argL x.2.1).length ≤ mL x.1 := by
  unfold inv at h
  obtain ⟨q, hq, h⟩ := Option.bind_eq_some_iff.mp h
  obtain ⟨kd, j⟩ := q
  have ci : ∀ {n}, cal mi j n st cs = some (.inr (.inl x)) → x.1 < iLaw ∧ (argL x.2.1).length ≤ mL x.1 := fun h => by
    obtain ⟨⟨c1, c2, c3, c4, c5, c6, c7, hj⟩, rfl⟩ := cal_inv h
    exact ⟨hj, c2⟩
  split at h
  · cases h
  match kd, h with
  | 0, h => simp only at h; split at h; exact ci h; cases h
  | 1, h => exact ci h
  | 2, h => simp only at h; split at h; exact ci h; cases h
  | 3, h => exact ci h
  | 4, h => simp only at h; split at h; exact ci h; cases h
  | 5, h => simp only [nx] at h; split at h <;> (try split at h) <;> cases h
  | 6, h =>
    simp only [nx] at h
    split at h
    · split at h
      · cases h
      · obtain ⟨q0, hq0, h⟩ := Option.bind_eq_some_iff.mp h
        obtain ⟨q1, hq1, h⟩ := Option.bind_eq_some_iff.mp h
        split at h <;> cases h
    · cases h
  | 7, h => simp only [nx] at h; split at h <;> (try split at h) <;> cases h
  | 8, h => simp only [nx] at h; split at h <;> (try split at h) <;> cases h
  | 9, h => simp only [nx] at h; split at h <;> (try split at h) <;> cases h
  | 10, h => simp only [nx] at h; split at h <;> (try split at h) <;> cases h
  | n + 11, h => simp only [nx] at h; split at h <;> (try split at h) <;> cases h
/-- the contract of a method, out of a run of the plain machine -/
theorem met_of {l : Launch} {G : GX} {j : Nat} (hj : j < iLaw) {as : List Value} {lw lw' : LW} {rv : Option Value} (hal : (argL as).length ≤ mL j)
    (run : ∀ {p : Program} {e : Env} {s : State} {m : MethodId} {args : Array Value} {below : List Frame} {meth : Method} {c : Code} {H : Heap} {locs : List Loc} {Q : State → Prop} {ls : Array Slot}, Cx p s m args meth c G j → LR G (mL j) (entL (mL j) as) ls → Rep G s lw H → va_S (Aof G) s.heap H locs →
      (∀ (pc : Nat) (i : Instr) (ls' : Array Slot) (H' : Heap) (locs' : List Loc) (cs' : Nat × Nat), decode (mB j) pc = .ok (i, 1) → retI j i rv → Rep G s lw' H' → va_S (Aof G) s.heap H' locs' → cs'.1 ≤ mMc j → cs'.2 ≤ mMs j → W p l e (mRm j) s m args below meth c H' locs' cs'.1 cs'.2 Q (F0 m pc ls' (rv.toList.map (vmp G)))) →
      W p l e (mRm j) s m args below meth c H locs 0 0 Q (F0 m 0 ls [])) : MetX l G j as lw rv lw' := by
  obtain ⟨m1, m2, m3⟩ := chM_ok hj
  refine Met.ofW (cc := mB j) (maxL := mL j) (ret := mR j) m1 rfl ?_
  intro p e s m args below meth c s₁ B hml hv
  obtain ⟨rfl, hR, hlen⟩ := hv
  have hx := B.exec
  have hb := B.bytes
  have hr := B.returns
  have hts0 := atoms_spec (ws := wAll j) B.pre
  have hts : ∀ w ∈ lwG, w.before (as.map (vmp G)).toArray s = true := fun w hw => hts0 w (List.mem_cons_of_mem _ hw)
  have hown : s.vm.findClass (mY j).cls = some m.cls := findClass_of_methodNamed B.named
  rw [(mY_own j hj).1] at hown
  have hlocks := B.notSynchronized
  have hin : mK j = 2 → meth.name = "<init>" := fun q => by rw [(name_of_methodNamed B.named B.method).1]; exact m3 q
  have hsz : G.2.1 ≤ s.heap.size := by have := hR.1; omega
  have C : Cx p s m (as.map (vmp G)).toArray meth c G j := ⟨hx, hb, hml, hown, hts, hin, hsz⟩
  rw [lg_entry_eq]
  refine run C (LR.entry hal) hR va_S.rf ?_
  intro pc i ls' H' locs' cs' hd hret hR' hS' hc1 hc2
  refine W.widen hc1 hc2 ?_
  have hq : ∀ (o : Outcome), o = .returned (rv.map (vmp G)) → ∀ t : State, t.heap = H' → s.WarmedH t.vm → Qm G rv lw' (as.map (vmp G)).toArray s o t := fun o ho t ht hW => ⟨ho, by rw [ht]; exact Rep.moved hW hR', hS'.F ht⟩
  rcases hret with ⟨rfl, x, ty, rfl, hty, hf⟩ | ⟨rfl, x, rfl, hty⟩ | ⟨rfl, n, hn, rfl | ⟨a, rfl⟩⟩ | ⟨rfl, rfl, hn⟩
  · exact W.zret hx hb (hr.trans hty) (fit_ok (G := G) hf).1 (hq _ rfl) hS'.2.2 hd
  · exact W.lret hx hb (hr.trans hty) (hq _ rfl) hS'.2.2 hd
  · exact W.aret hx hb (hr.trans hn) (Or.inl ⟨n, rfl⟩) (Or.inl rfl) (hq _ rfl) hS'.2.2 hd
  · exact W.aret hx hb (hr.trans hn) (Or.inl ⟨n, rfl⟩) (Or.inr ⟨_, rfl⟩) (hq _ rfl) hS'.2.2 hd
  · exact W.vret hx hb (hr.trans hn) (hq _ rfl) hS'.2.2 hd
theorem exec_ok (hstr : StrOK) {l : Launch} {G : GX} : ∀ (n : Nat) {mi : Nat} {sx : St} {rv : Option Value} {lw' : LW} {cs' : Nat × Nat}, exec n mi sx = some (rv, lw', cs') →
    ∀ {p : Program} {e : Env} {s : State} {m : MethodId} {args : Array Value} {below : List Frame} {meth : Method} {c : Code} {H : Heap} {locs : List Loc} {Q : State → Prop} {ls : Array Slot}, Cx p s m args meth c G mi → LR G (mL mi) sx.2.1 ls → Rep G s sx.2.2.2.1 H → va_S (Aof G) s.heap H locs →
      (∀ (pc : Nat) (i : Instr) (ls' : Array Slot) (H' : Heap) (locs' : List Loc) (cs' : Nat × Nat), decode (mB mi) pc = .ok (i, 1) → retI mi i rv → Rep G s lw' H' → va_S (Aof G) s.heap H' locs' → cs'.1 ≤ mMc mi → cs'.2 ≤ mMs mi → W p l e (mRm mi) s m args below meth c H' locs' cs'.1 cs'.2 Q (F0 m pc ls' (rv.toList.map (vmp G)))) →
      W p l e (mRm mi) s m args below meth c H locs sx.2.2.2.2.1 sx.2.2.2.2.2 Q (F0 m sx.1 ls (sx.2.2.1.map (vmp G))) := by
  intro n
  induction n with
  | zero => intro mi sx rv lw' cs' h; cases h
  | succ n ih =>
    intro mi sx rv lw' cs' h p e s m args below meth c H locs Q ls C hL hR hS hend
    obtain ⟨pc, L, st, lw, cs⟩ := sx
    simp only [exec] at h
    split at h
    · cases h
    next q hd =>
    obtain ⟨i, len⟩ := q
    split at h
    · cases h
    · next s' hs =>
      refine stp_ok C hL hR hS (fun ls' H' locs' hL' hR' hS' => ih h C hL' hR' hS' hend) ?_ hs hd
      intro idx ks hks hi hdd
      subst hks
      obtain ⟨kd, j, h78, hq, hi'⟩ := inv_str hi
      exact hstr C hL hR hS (fun ls' H' locs' hL' hR' hS' => ih h C hL' hR' hS' hend) h78 hq hi' hdd
    · next x hs =>
      obtain ⟨hlen, idx, ks, hi, hks⟩ := stp_call hs
      subst hlen
      split at h
      · cases h
      next r hr =>
      obtain ⟨rv1, lw1, cs1⟩ := r
      obtain ⟨hj, hal⟩ := inv_lt hi
      have hM : MetX l G x.1 x.2.1 lw rv1 lw1 := met_of hj hal (fun {p e s m args below meth c H locs Q ls} C1 hL1 hR1 hS1 hend1 => ih hr C1 hL1 hR1 hS1 hend1)
      refine call_ok C hL hR hS hi hks hd hM (fun H1 locs1 hR1 hS1 => ?_)
      have hw := ih h C hL hR1 hS1 hend
      have ee : ((rv1.map (vmp G)).toList ++ x.2.2.map (vmp G)) = (rv1.toList ++ x.2.2).map (vmp G) := by
        rw [List.map_append]; cases rv1 <;> rfl
      rw [ee]
      exact hw
    · next v hs =>
      obtain ⟨hlen, hret, hst⟩ := stp_ret hs
      subst hlen
      split at h
      · next hc =>
        cases h
        subst hst
        exact hend pc i ls H locs _ hd hret hR hS hc.1 hc.2
      · cases h
