/-! one step of the plain machine is one of the machine -/
def Cx (p : Program) (s : State) (m : MethodId) (args : Array Value) (meth : Method) (c : Code) (G : GX) (mi : Nat) : Prop :=
  p.tables.exec = Jvm.exec ∧ c.code = mB mi ∧ c.maxLocals = mL mi ∧ s.vm.findClass (cN.getD (mC mi) "") = some m.cls ∧ (∀ w ∈ lwG, w.before args s = true) ∧ (mK mi = 2 → meth.name = "<init>") ∧ G.2.1 ≤ s.heap.size
theorem ckl_inv {a b : Nat} {r : SR} {y : St ⊕ ((Nat × List Value × List Value) ⊕ Option Value)} (h : ckl a b r = some y) : a = b ∧ r = some y := by
  unfold ckl at h
  split at h
  · next q => exact ⟨q, h⟩
  · cases h
theorem inb_in {i : Int32} {n : Nat} (h : inb i n = true) : vp_in i n := by
  unfold inb at h
  simp only [Bool.not_eq_true', Bool.or_eq_false_iff, decide_eq_false_iff_not] at h
  exact fun q => q.elim h.1 h.2
theorem jmp_inv {pc t : Nat} {off : Int} (h : jmp pc off = some t) : (pc : Int) + off = (t : Int) := by
  unfold jmp at h
  split at h
  · cases h; omega
  · cases h
theorem arI_inv {lw : LW} {t a : Nat} {q : Nat × (Nat → Int32)} (h : arI lw t a = some q) : lw[a]? = some (.inl (t, q.1, .inl q.2)) := by
  unfold arI at h
  split at h
  · next t' n f e =>
    split at h
    · next ht => cases h; rw [e, ht]
    · cases h
  · cases h
theorem arR_inv {lw : LW} {a : Nat} {q : Nat × (Nat → Option Nat)} (h : arR lw a = some q) : lw[a]? = some (.inl (2, q.1, .inr (.inr (.inr (.inr q.2))))) := by
  unfold arR at h
  split at h
  · next t' n f e =>
    split at h
    · next ht => cases h; rw [e, ht]
    · cases h
  · cases h
theorem obj_inv {lw : LW} {a : Nat} {o : Nat × List Value} (h : obj lw a = some o) : lw[a]? = some (.inr o) := by
  unfold obj at h
  split at h
  · next e => cases h; exact e
  · cases h
theorem arI_read {G : GX} {s : State} {lw : LW} {H : Heap} (hR : Rep G s lw H) {t a n : Nat} {f : Nat → Int32} (h : lw[a]? = some (.inl (t, n, .inl f))) (h0 : ¬ (a = 0 ∧ ¬ t = 0)) :
    ∃ cell : Cell, H[sg G a]? = some cell ∧ s.isArrayOf cell (tyT t) ∧ cell.vm ≠ .unknown ∧ cell.slots.size = n ∧ ∀ j : Nat, j < n → cell.slots[j]? = some (.int (f j)) := by
  have hx := hR.2.2.2.1 a _ h
  unfold xat at hx
  by_cases ha : a = 0
  · subst ha
    simp only [if_true] at hx
    have ht : t = 0 := Classical.byContradiction fun q => h0 ⟨rfl, q⟩
    obtain ⟨f', hf, scr, h1, h2, h3, h4, h5⟩ := hx ht
    cases hf
    subst ht
    exact ⟨scr, h1, h2, h3, h4, h5⟩
  · simp only [ha, if_false] at hx
    obtain ⟨cid, h1, h2, h3⟩ := hx
    refine ⟨_, h1, h2 n (fun j => .int (f j)), (fun q => by cases q), arrV_size _ _ _, fun j hj => arrV_read _ _ hj⟩
theorem alen_read {G : GX} {s : State} {lw : LW} {H : Heap} (hR : Rep G s lw H) {t a n : Nat} {y} (h : lw[a]? = some (.inl (t, n, y))) (h0 : ¬ (a = 0 ∧ ¬ t = 0)) :
    ∃ cell : Cell, H[sg G a]? = some cell ∧ s.isArrayOf cell (tyT t) ∧ cell.slots.size = n := by
  have hx := hR.2.2.2.1 a _ h
  unfold xat at hx
  by_cases ha : a = 0
  · subst ha
    simp only [if_true] at hx
    have ht : t = 0 := Classical.byContradiction fun q => h0 ⟨rfl, q⟩
    obtain ⟨f', hf, scr, h1, h2, h3, h4, h5⟩ := hx ht
    subst ht
    exact ⟨scr, h1, h2, h4⟩
  · simp only [ha, if_false] at hx
    obtain ⟨cid, h1, h2, h3⟩ := hx
    refine ⟨_, h1, ?_, ?_⟩
    · rcases y with f | f | f | f | f <;> exact h2 n _
    · rcases y with f | f | f | f | f <;> exact arrV_size _ _ _
section step
variable {p : Program} {l : Launch} {e : Env} {s : State} {m : MethodId} {args : Array Value} {below : List Frame} {meth : Method} {c : Code} {H : Heap} {locs : List Loc} {Q : State → Prop} {G : GX} {mi : Nat}
theorem iLd_ok (C : Cx p s m args meth c G mi) {pc : Nat} {L : Lcl} {st : List Value} {lw : LW} {cs : Nat × Nat} {x : St} {ls : Array Slot} (hL : LR G (mL mi) L ls) (hR : Rep G s lw H) (hS : va_S (Aof G) s.heap H locs)
    (kk : ∀ (ls' : Array Slot) (H' : Heap) (locs' : List Loc), LR G (mL mi) x.2.1 ls' → Rep G s x.2.2.2.1 H' → va_S (Aof G) s.heap H' locs' → W p l e (mRm mi) s m args below meth c H' locs' x.2.2.2.2.1 x.2.2.2.2.2 Q (F0 m x.1 ls' (x.2.2.1.map (vmp G))))
    {t : Nat} (h : iLd t pc L st lw cs = some (.inl x)) (hd : (t = 0 ∧ decode (mB mi) pc = .ok (.iaload, 1)) ∨ (t = 1 ∧ decode (mB mi) pc = .ok (.baload, 1))) : W p l e (mRm mi) s m args below meth c H locs cs.1 cs.2 Q (F0 m pc ls (st.map (vmp G))) := by
  obtain ⟨hx, hb, hml, hown, hts, hin, hbs⟩ := C
  unfold iLd at h
  split at h
  · next j a r =>
    split at h
    · cases h
    next h00 =>
    obtain ⟨q, hq, h⟩ := Option.bind_eq_some_iff.mp h
    split at h
    · next hj =>
      cases h
      obtain ⟨cell, h1, h2, h3, h4, h5⟩ := arI_read hR (arI_inv hq) h00
      have hv := inb_in hj
      have hlt : j.toNatClampNeg < q.1 := Nat.not_le.mp fun z => hv (Or.inr z)
      have hbd : ¬ (j < 0 ∨ cell.slots.size ≤ j.toNatClampNeg) := by rw [h4]; exact hv
      rcases hd with ⟨rfl, hd⟩ | ⟨rfl, hd⟩
      · exact W.iald hx hb h1 h2 h3 hbd (h5 _ hlt) rfl rfl hd (kk ls H locs hL hR hS)
      · exact W.zald hx hb h1 h2 h3 hbd (h5 _ hlt) rfl rfl hd (kk ls H locs hL hR hS)
    · cases h
  · cases h
theorem upd_cell (cid : ClassId) (n k : Nat) (f : Nat → Int32) (x : Int32) : (vp_cell cid (n, .inl f)).setSlot k (.int x) = vp_cell cid (n, .inl (upd f k x)) := by
  rw [vp_cell_i, vp_cell_i, arrV_store]
  congr 1
  funext q
  by_cases hq : q = k <;> simp [updV, upd, hq]
theorem Aof_sg {a : Nat} (h0 : a ≠ 0) (h : a < EXT) : Aof G (sg G a) := by
  rw [sg_lt h0 h]
  exact Nat.le_add_right _ _
theorem iSt_ok (C : Cx p s m args meth c G mi) {pc : Nat} {L : Lcl} {st : List Value} {lw : LW} {cs : Nat × Nat} {x : St} {ls : Array Slot} (hL : LR G (mL mi) L ls) (hR : Rep G s lw H) (hS : va_S (Aof G) s.heap H locs)
    (kk : ∀ (ls' : Array Slot) (H' : Heap) (locs' : List Loc), LR G (mL mi) x.2.1 ls' → Rep G s x.2.2.2.1 H' → va_S (Aof G) s.heap H' locs' → W p l e (mRm mi) s m args below meth c H' locs' x.2.2.2.2.1 x.2.2.2.2.2 Q (F0 m x.1 ls' (x.2.2.1.map (vmp G))))
    {t : Nat} (h : iSt t pc L st lw cs = some (.inl x)) (hd : (t = 0 ∧ decode (mB mi) pc = .ok (.iastore, 1)) ∨ (t = 1 ∧ decode (mB mi) pc = .ok (.bastore, 1))) : W p l e (mRm mi) s m args below meth c H locs cs.1 cs.2 Q (F0 m pc ls (st.map (vmp G))) := by
  obtain ⟨hx, hb, hml, hown, hts, hin, hbs⟩ := C
  unfold iSt at h
  split at h
  · next v j a r =>
    split at h
    · cases h
    next hc =>
    have ha : a ≠ 0 := fun q => hc (Or.inr q)
    obtain ⟨q, hq, h⟩ := Option.bind_eq_some_iff.mp h
    split at h
    · next hj =>
      cases h
      have hk := arI_inv hq
      have hv := inb_in hj
      have hxa := hR.2.2.2.1 a _ hk
      unfold xat at hxa
      simp only [ha, if_false] at hxa
      obtain ⟨cid, h1, h2, h3⟩ := hxa
      have hbd : ¬ (j < 0 ∨ (vp_cell cid (caA G (q.1, .inl q.2))).slots.size ≤ j.toNatClampNeg) := by
        show ¬ (j < 0 ∨ (arrV _ _ _).slots.size ≤ _)
        rw [arrV_size]; exact hv
      have fin : ∀ H' : Heap, H'[sg G a]? = some ((vp_cell cid (caA G (q.1, .inl q.2))).setSlot j.toNatClampNeg (.int v)) → H'.size = H.size → (∀ y, y ≠ sg G a → H'[y]? = H[y]?) →
          W p l e (mRm mi) s m args below meth c H' (locs ++ [⟨sg G a, j.toNatClampNeg⟩]) cs.1 cs.2 Q (F0 m (pc + 1) ls (r.map (vmp G))) := by
        intro H' e1 z oq
        refine kk ls H' _ hL (hR.set ha hk z oq ?_) (hS.put z oq (Aof_sg ha (hR.idx hk)))
        unfold xat
        simp only [ha, if_false]
        exact ⟨cid, by rw [e1]; exact congrArg some (upd_cell _ _ _ _ _), h2, h3⟩
      rcases hd with ⟨rfl, hd⟩ | ⟨rfl, hd⟩
      · exact W.iast hx hb h1 (h2 q.1 (fun j => .int (q.2 j))) (fun z => by cases z) hbd rfl rfl hd fin
      · have hz : v = 0 ∨ v = 1 := Classical.byContradiction fun z => hc (Or.inl ⟨rfl, z⟩)
        have hn : narrow .boolean (.int v) = .int v := by rcases hz with rfl | rfl <;> rfl
        exact W.zast hx hb h1 (h2 q.1 (fun j => .int (q.2 j))) (fun z => by cases z) hbd rfl rfl hd (by rw [hn]; exact fin)
    · cases h
  · cases h
theorem rLd_ok (C : Cx p s m args meth c G mi) {pc : Nat} {L : Lcl} {st : List Value} {lw : LW} {cs : Nat × Nat} {x : St} {ls : Array Slot} (hL : LR G (mL mi) L ls) (hR : Rep G s lw H) (hS : va_S (Aof G) s.heap H locs)
    (kk : ∀ (ls' : Array Slot) (H' : Heap) (locs' : List Loc), LR G (mL mi) x.2.1 ls' → Rep G s x.2.2.2.1 H' → va_S (Aof G) s.heap H' locs' → W p l e (mRm mi) s m args below meth c H' locs' x.2.2.2.2.1 x.2.2.2.2.2 Q (F0 m x.1 ls' (x.2.2.1.map (vmp G))))
    (h : rLd pc L st lw cs = some (.inl x)) (hd : decode (mB mi) pc = .ok (.aaload, 1)) : W p l e (mRm mi) s m args below meth c H locs cs.1 cs.2 Q (F0 m pc ls (st.map (vmp G))) := by
  obtain ⟨hx, hb, hml, hown, hts, hin, hbs⟩ := C
  unfold rLd at h
  split at h
  · next j a r =>
    split at h
    · cases h
    next ha =>
    obtain ⟨q, hq, h⟩ := Option.bind_eq_some_iff.mp h
    split at h
    · next hj =>
      cases h
      have hk := arR_inv hq
      have hv := inb_in hj
      have hlt : j.toNatClampNeg < q.1 := Nat.not_le.mp fun z => hv (Or.inr z)
      have hxa := hR.2.2.2.1 a _ hk
      unfold xat at hxa
      simp only [ha, if_false] at hxa
      obtain ⟨cid, h1, h2, h3⟩ := hxa
      have hbd : ¬ (j < 0 ∨ (vp_cell cid (caA G (q.1, .inr (.inr (.inr (.inr q.2)))))).slots.size ≤ j.toNatClampNeg) := by
        show ¬ (j < 0 ∨ (arrV _ _ _).slots.size ≤ _)
        rw [arrV_size]; exact hv
      refine W.aald (v := vmp G (va_rf (q.2 j.toNatClampNeg))) (ty := .object "TrunkRoom$Call") hx hb h1 (h2 q.1 (fun j => va_rf ((q.2 j).map (sg G)))) rfl (fun z => by cases z) hbd ?_ rfl rfl hd (kk ls H locs hL hR hS)
      rw [vmp_rf]
      exact arrV_read cid (fun j => va_rf ((q.2 j).map (sg G))) hlt
    · cases h
  · cases h
theorem upr_cell (cid : ClassId) (n k : Nat) (f : Nat → Option Nat) (x : Option Nat) : (vp_cell cid (caA G (n, .inr (.inr (.inr (.inr f)))))).setSlot k (va_rf (x.map (sg G))) = vp_cell cid (caA G (n, .inr (.inr (.inr (.inr (va_up f k x)))))) := by
  show (vp_cell cid (n, .inr (.inr (.inr (.inr (fun j => (f j).map (sg G))))))).setSlot k _ = vp_cell cid (n, .inr (.inr (.inr (.inr (fun j => (va_up f k x j).map (sg G))))))
  rw [vp_cell_q, vp_cell_q, arrV_store]
  congr 1
  funext q
  by_cases hq : q = k <;> simp [updV, va_up, hq]
theorem rSt_ok (C : Cx p s m args meth c G mi) {pc : Nat} {L : Lcl} {st : List Value} {lw : LW} {cs : Nat × Nat} {x : St} {ls : Array Slot} (hL : LR G (mL mi) L ls) (hR : Rep G s lw H) (hS : va_S (Aof G) s.heap H locs)
    (kk : ∀ (ls' : Array Slot) (H' : Heap) (locs' : List Loc), LR G (mL mi) x.2.1 ls' → Rep G s x.2.2.2.1 H' → va_S (Aof G) s.heap H' locs' → W p l e (mRm mi) s m args below meth c H' locs' x.2.2.2.2.1 x.2.2.2.2.2 Q (F0 m x.1 ls' (x.2.2.1.map (vmp G))))
    (h : rSt pc L st lw cs = some (.inl x)) (hd : decode (mB mi) pc = .ok (.aastore, 1)) : W p l e (mRm mi) s m args below meth c H locs cs.1 cs.2 Q (F0 m pc ls (st.map (vmp G))) := by
  obtain ⟨hx, hb, hml, hown, hts, hin, hbs⟩ := C
  unfold rSt at h
  split at h
  · next v j a r =>
    split at h
    · cases h
    next ha =>
    have fin : ∀ {q : Nat × (Nat → Option Nat)} {cid : ClassId} {w : Option Nat}, lw[a]? = some (.inl (2, q.1, .inr (.inr (.inr (.inr q.2))))) → ArrOfT s cid (tyT 2) → va_RA s cid (tyT 2) →
        x = (pc + 1, L, r, lw.set a (.inl (2, q.1, .inr (.inr (.inr (.inr (va_up q.2 j.toNatClampNeg w)))))), cs) → ∀ H' : Heap, H'[sg G a]? = some ((vp_cell cid (caA G (q.1, .inr (.inr (.inr (.inr q.2)))))).setSlot j.toNatClampNeg (va_rf (w.map (sg G)))) → H'.size = H.size → (∀ y, y ≠ sg G a → H'[y]? = H[y]?) →
          W p l e (mRm mi) s m args below meth c H' (locs ++ [⟨sg G a, j.toNatClampNeg⟩]) cs.1 cs.2 Q (F0 m (pc + 1) ls (r.map (vmp G))) := by
      intro q cid w hk h2 h3 hxe H' e1 z oq
      subst hxe
      refine kk ls H' _ hL (hR.set ha hk z oq ?_) (hS.put z oq (Aof_sg ha (hR.idx hk)))
      unfold xat
      simp only [ha, if_false]
      exact ⟨cid, by rw [e1]; exact congrArg some (upr_cell _ _ _ _ _), h2, h3⟩
    split at h
    · obtain ⟨q, hq, h⟩ := Option.bind_eq_some_iff.mp h
      split at h
      · next hj =>
        have hk := arR_inv hq
        have hv := inb_in hj
        have hxa := hR.2.2.2.1 a _ hk
        unfold xat at hxa
        simp only [ha, if_false] at hxa
        obtain ⟨cid, h1, h2, h3⟩ := hxa
        have hbd : ¬ (j < 0 ∨ (vp_cell cid (caA G (q.1, .inr (.inr (.inr (.inr q.2)))))).slots.size ≤ j.toNatClampNeg) := by
          show ¬ (j < 0 ∨ (arrV _ _ _).slots.size ≤ _)
          rw [arrV_size]; exact hv
        cases h
        exact va_WaastN (C := "TrunkRoom$Call") hx hb h1 (h2 q.1 (fun j => va_rf ((q.2 j).map (sg G)))) (fun z => by cases z) hbd rfl rfl hd (fin (w := none) hk h2 h3 rfl)
      · cases h
    · next w =>
      obtain ⟨q, hq, h⟩ := Option.bind_eq_some_iff.mp h
      obtain ⟨o, ho, h⟩ := Option.bind_eq_some_iff.mp h
      split at h
      · next ho0 =>
        split at h
        · next hj =>
          have hk := arR_inv hq
          have hv := inb_in hj
          have hlt : j.toNatClampNeg < q.1 := Nat.not_le.mp fun z => hv (Or.inr z)
          have hxa := hR.2.2.2.1 a _ hk
          unfold xat at hxa
          simp only [ha, if_false] at hxa
          obtain ⟨cid, h1, h2, h3⟩ := hxa
          have hxw := hR.2.2.2.1 w _ (obj_inv ho)
          unfold xat at hxw
          obtain ⟨-, -, -, cellV, g1, g2, g3, -⟩ := hxw
          rw [ho0] at g2
          have hcls := (hR.2.2.2.2.1.1 0 _ (clL_at (by decide))).2
          obtain ⟨kA, comp, k1, k2, k3, -⟩ := id h3
          have hcomp : comp = G.2.2.2.1 0 := Option.some.inj (k3.symm.trans hcls.1)
          subst hcomp
          obtain ⟨kC, hkC, -⟩ := hcls.2
          cases h
          refine W.aast hx hb h1 (fun q h => by cases h) (fun h => by cases h) k1 k2 rfl hkC ⟨fun z => hv (Or.inl z), by show _ < (arrV _ _ _).slots.size; rw [arrV_size]; exact hlt⟩ g1 (fun q h => by rw [g3] at h; cases h) (by rw [g2]; exact hkC) (by rw [g2]; exact va_assign hcls) rfl rfl hd (fin (w := some w) hk h2 h3 rfl)
        · cases h
      · cases h
    · cases h
  · cases h
end step
