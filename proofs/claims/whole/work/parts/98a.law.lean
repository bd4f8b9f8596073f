/-! THE CLAIM OUT OF ONE WALK OF THE LAW'S BODY. Your part is whole_start (and what it stands on); all else here is the same for every law, but numbers. -/
def R_law : String := "TrunkRoomLaw"
def lw_P (b : Addr) (xs : List Int32) (args : Array Value) (s : State) : Prop := args = #[.ref b] ∧ s.IntsAt b xs ∧ xs.length ≤ 3072 ∧ (Jvm.Cond.and given_1 narrow_1).before args s = true
def lw_Q (_ : Array Value) (s : State) (o : Outcome) (t : State) : Prop := o = .returned (some (.int 1)) ∧ Framed s o t [] 600000 7302250
def lw_Z (below : List Frame) (a : Array Value) (s : State) : State → Prop := fun t => ∃ o, t.status = .running ∧ Ended t below o ∧ lw_Q a s o t
/-- the law's own end, with 1 on the stack, nothing written that was there before, its room as the claim has it -/
theorem lw_ret {p : Program} {l : Launch} {e : Env} {s : State} {m : MethodId} {below : List Frame} {meth : Method} {c : Code} {b : Nat} (hx : p.tables.exec = Jvm.exec) (hb : c.code = code) (hr : meth.sig.returnType = ret) (hlocks : meth.locks = false) {pc : Nat} {H : Heap} {ls : Array Slot} (hdg : decode code pc = .ok (.ireturn, 1)) : W p l e room_1 s m #[Value.ref b] below meth c H [] 600000 7302250 (lw_Z below #[Value.ref b] s) (F0 m pc ls [.int 1]) := by
  intro T hT X
  obtain ⟨fs, hret, hrun, hended, hW, hframe⟩ := X.leave (v := some (.int 1)) (hlocks := hlocks) (fun h => by rw [hr] at h; cases h)
  have hmeth' : T.vm.method? m = some meth := X.method'
  refine ⟨T.setFrames fs, ?_, .returned (some (.int 1)), hrun, hended, rfl, ⟨_, rfl⟩, hW, hframe⟩
  jvm_step X.here [X.here.top, hx, hb, hdg, hmeth', hr, ret, narrow_b1]
  (try refine ⟨rfl, ?_⟩); (try refine ⟨rfl, ?_⟩)
  first | (intro acts; rw [hret _ acts rfl rfl rfl]) | rw [hret _ _ rfl rfl rfl]
  exact Steps.refl _
/-- what holds at the law's entry: the machine, the code, the tables' words (any of lw_tbl by 'hts w (by decide +kernel)'), the script of L ints xs at the cell b, what the Statement gives of the start (any of its parts by flat_of_before) -/
def lw_At (p : Program) (s : State) (m : MethodId) (meth : Method) (c : Code) (b L : Nat) (xs : Nat → Int32) : Prop :=
  p.tables.exec = Jvm.exec ∧ c.code = code ∧ meth.sig.returnType = ret ∧ c.maxLocals = 4 ∧ s.vm.findClass R_law = some m.cls ∧ (∀ w ∈ lw_tbl, w.before #[Value.ref b] s = true) ∧ va_X b L xs s s.heap ∧ b < s.heap.size ∧ meth.locks = false ∧ (Jvm.Cond.and given_1 narrow_1).before #[Value.ref b] s = true
/-! the law's start out of a run of the plain machine; written by wip/gen/gen14.py -/
def nwC : List Cond := flatC (Jvm.Cond.and given_1 narrow_1)
def kS : List Nat := [47, 71, 87, 89]
def tmS (i : Nat) : Term := .string "TrunkRoom$Reader" (kS.getD i 0)
theorem nwX_0 : Cond.exactly (tmS 0) "java/lang/String" ∈ nwC := List.mem_of_getElem? (i := 9) rfl
theorem nwO_0 : Cond.eq (.field (tmS 0) "java/lang/String" "coder" "B") (.int 0) ∈ nwC := List.mem_of_getElem? (i := 10) rfl
theorem nwA_0 : Cond.arrayOf (.field (tmS 0) "java/lang/String" "value" "[B") .byte ∈ nwC := List.mem_of_getElem? (i := 11) rfl
theorem nwL_0 : Cond.eq (.length (.field (tmS 0) "java/lang/String" "value" "[B")) (.int (Int32.ofNat ((strB.map List.length).getD 0 0))) ∈ nwC := List.mem_of_getElem? (i := 12) rfl
theorem nwE_0_0 : Cond.eq (.elem (.field (tmS 0) "java/lang/String" "value" "[B") (.int (Int32.ofNat 0))) (.int ((strB.getD 0 []).getD 0 0)) ∈ nwC := List.mem_of_getElem? (i := 13) rfl
theorem nwE_0_1 : Cond.eq (.elem (.field (tmS 0) "java/lang/String" "value" "[B") (.int (Int32.ofNat 1))) (.int ((strB.getD 0 []).getD 1 0)) ∈ nwC := List.mem_of_getElem? (i := 14) rfl
theorem nwE_0_2 : Cond.eq (.elem (.field (tmS 0) "java/lang/String" "value" "[B") (.int (Int32.ofNat 2))) (.int ((strB.getD 0 []).getD 2 0)) ∈ nwC := List.mem_of_getElem? (i := 15) rfl
theorem nwE_0_3 : Cond.eq (.elem (.field (tmS 0) "java/lang/String" "value" "[B") (.int (Int32.ofNat 3))) (.int ((strB.getD 0 []).getD 3 0)) ∈ nwC := List.mem_of_getElem? (i := 16) rfl
theorem nwE_0_4 : Cond.eq (.elem (.field (tmS 0) "java/lang/String" "value" "[B") (.int (Int32.ofNat 4))) (.int ((strB.getD 0 []).getD 4 0)) ∈ nwC := List.mem_of_getElem? (i := 17) rfl
theorem nwE_0_5 : Cond.eq (.elem (.field (tmS 0) "java/lang/String" "value" "[B") (.int (Int32.ofNat 5))) (.int ((strB.getD 0 []).getD 5 0)) ∈ nwC := List.mem_of_getElem? (i := 18) rfl
theorem nwE_0_6 : Cond.eq (.elem (.field (tmS 0) "java/lang/String" "value" "[B") (.int (Int32.ofNat 6))) (.int ((strB.getD 0 []).getD 6 0)) ∈ nwC := List.mem_of_getElem? (i := 19) rfl
theorem nwE_0_7 : Cond.eq (.elem (.field (tmS 0) "java/lang/String" "value" "[B") (.int (Int32.ofNat 7))) (.int ((strB.getD 0 []).getD 7 0)) ∈ nwC := List.mem_of_getElem? (i := 20) rfl
theorem nwE_0_8 : Cond.eq (.elem (.field (tmS 0) "java/lang/String" "value" "[B") (.int (Int32.ofNat 8))) (.int ((strB.getD 0 []).getD 8 0)) ∈ nwC := List.mem_of_getElem? (i := 21) rfl
theorem nwE_0_9 : Cond.eq (.elem (.field (tmS 0) "java/lang/String" "value" "[B") (.int (Int32.ofNat 9))) (.int ((strB.getD 0 []).getD 9 0)) ∈ nwC := List.mem_of_getElem? (i := 22) rfl
theorem nwE_0_10 : Cond.eq (.elem (.field (tmS 0) "java/lang/String" "value" "[B") (.int (Int32.ofNat 10))) (.int ((strB.getD 0 []).getD 10 0)) ∈ nwC := List.mem_of_getElem? (i := 23) rfl
theorem nwE_0_11 : Cond.eq (.elem (.field (tmS 0) "java/lang/String" "value" "[B") (.int (Int32.ofNat 11))) (.int ((strB.getD 0 []).getD 11 0)) ∈ nwC := List.mem_of_getElem? (i := 24) rfl
theorem nwE_0_12 : Cond.eq (.elem (.field (tmS 0) "java/lang/String" "value" "[B") (.int (Int32.ofNat 12))) (.int ((strB.getD 0 []).getD 12 0)) ∈ nwC := List.mem_of_getElem? (i := 25) rfl
theorem nwE_0_13 : Cond.eq (.elem (.field (tmS 0) "java/lang/String" "value" "[B") (.int (Int32.ofNat 13))) (.int ((strB.getD 0 []).getD 13 0)) ∈ nwC := List.mem_of_getElem? (i := 26) rfl
theorem nwE_0_14 : Cond.eq (.elem (.field (tmS 0) "java/lang/String" "value" "[B") (.int (Int32.ofNat 14))) (.int ((strB.getD 0 []).getD 14 0)) ∈ nwC := List.mem_of_getElem? (i := 27) rfl
theorem nwE_0_15 : Cond.eq (.elem (.field (tmS 0) "java/lang/String" "value" "[B") (.int (Int32.ofNat 15))) (.int ((strB.getD 0 []).getD 15 0)) ∈ nwC := List.mem_of_getElem? (i := 28) rfl
theorem nwE_0_16 : Cond.eq (.elem (.field (tmS 0) "java/lang/String" "value" "[B") (.int (Int32.ofNat 16))) (.int ((strB.getD 0 []).getD 16 0)) ∈ nwC := List.mem_of_getElem? (i := 29) rfl
theorem nwE_0_17 : Cond.eq (.elem (.field (tmS 0) "java/lang/String" "value" "[B") (.int (Int32.ofNat 17))) (.int ((strB.getD 0 []).getD 17 0)) ∈ nwC := List.mem_of_getElem? (i := 30) rfl
theorem nwE_0_18 : Cond.eq (.elem (.field (tmS 0) "java/lang/String" "value" "[B") (.int (Int32.ofNat 18))) (.int ((strB.getD 0 []).getD 18 0)) ∈ nwC := List.mem_of_getElem? (i := 31) rfl
theorem nwE_0_19 : Cond.eq (.elem (.field (tmS 0) "java/lang/String" "value" "[B") (.int (Int32.ofNat 19))) (.int ((strB.getD 0 []).getD 19 0)) ∈ nwC := List.mem_of_getElem? (i := 32) rfl
theorem nwE_0_20 : Cond.eq (.elem (.field (tmS 0) "java/lang/String" "value" "[B") (.int (Int32.ofNat 20))) (.int ((strB.getD 0 []).getD 20 0)) ∈ nwC := List.mem_of_getElem? (i := 33) rfl
theorem nwE_0_21 : Cond.eq (.elem (.field (tmS 0) "java/lang/String" "value" "[B") (.int (Int32.ofNat 21))) (.int ((strB.getD 0 []).getD 21 0)) ∈ nwC := List.mem_of_getElem? (i := 34) rfl
theorem nwE_0_22 : Cond.eq (.elem (.field (tmS 0) "java/lang/String" "value" "[B") (.int (Int32.ofNat 22))) (.int ((strB.getD 0 []).getD 22 0)) ∈ nwC := List.mem_of_getElem? (i := 35) rfl
theorem nwE_0_23 : Cond.eq (.elem (.field (tmS 0) "java/lang/String" "value" "[B") (.int (Int32.ofNat 23))) (.int ((strB.getD 0 []).getD 23 0)) ∈ nwC := List.mem_of_getElem? (i := 36) rfl
theorem nwE_0_24 : Cond.eq (.elem (.field (tmS 0) "java/lang/String" "value" "[B") (.int (Int32.ofNat 24))) (.int ((strB.getD 0 []).getD 24 0)) ∈ nwC := List.mem_of_getElem? (i := 37) rfl
theorem nwE_0_25 : Cond.eq (.elem (.field (tmS 0) "java/lang/String" "value" "[B") (.int (Int32.ofNat 25))) (.int ((strB.getD 0 []).getD 25 0)) ∈ nwC := List.mem_of_getElem? (i := 38) rfl
theorem nwE_0_26 : Cond.eq (.elem (.field (tmS 0) "java/lang/String" "value" "[B") (.int (Int32.ofNat 26))) (.int ((strB.getD 0 []).getD 26 0)) ∈ nwC := List.mem_of_getElem? (i := 39) rfl
theorem nwE_0_27 : Cond.eq (.elem (.field (tmS 0) "java/lang/String" "value" "[B") (.int (Int32.ofNat 27))) (.int ((strB.getD 0 []).getD 27 0)) ∈ nwC := List.mem_of_getElem? (i := 40) rfl
theorem nwE_0_28 : Cond.eq (.elem (.field (tmS 0) "java/lang/String" "value" "[B") (.int (Int32.ofNat 28))) (.int ((strB.getD 0 []).getD 28 0)) ∈ nwC := List.mem_of_getElem? (i := 41) rfl
theorem nwE_0_29 : Cond.eq (.elem (.field (tmS 0) "java/lang/String" "value" "[B") (.int (Int32.ofNat 29))) (.int ((strB.getD 0 []).getD 29 0)) ∈ nwC := List.mem_of_getElem? (i := 42) rfl
theorem nwE_0_30 : Cond.eq (.elem (.field (tmS 0) "java/lang/String" "value" "[B") (.int (Int32.ofNat 30))) (.int ((strB.getD 0 []).getD 30 0)) ∈ nwC := List.mem_of_getElem? (i := 43) rfl
theorem nwE_0_31 : Cond.eq (.elem (.field (tmS 0) "java/lang/String" "value" "[B") (.int (Int32.ofNat 31))) (.int ((strB.getD 0 []).getD 31 0)) ∈ nwC := List.mem_of_getElem? (i := 44) rfl
theorem nwE_0_32 : Cond.eq (.elem (.field (tmS 0) "java/lang/String" "value" "[B") (.int (Int32.ofNat 32))) (.int ((strB.getD 0 []).getD 32 0)) ∈ nwC := List.mem_of_getElem? (i := 45) rfl
theorem nwE_0_33 : Cond.eq (.elem (.field (tmS 0) "java/lang/String" "value" "[B") (.int (Int32.ofNat 33))) (.int ((strB.getD 0 []).getD 33 0)) ∈ nwC := List.mem_of_getElem? (i := 46) rfl
theorem nwE_0_34 : Cond.eq (.elem (.field (tmS 0) "java/lang/String" "value" "[B") (.int (Int32.ofNat 34))) (.int ((strB.getD 0 []).getD 34 0)) ∈ nwC := List.mem_of_getElem? (i := 47) rfl
theorem nwE_0_35 : Cond.eq (.elem (.field (tmS 0) "java/lang/String" "value" "[B") (.int (Int32.ofNat 35))) (.int ((strB.getD 0 []).getD 35 0)) ∈ nwC := List.mem_of_getElem? (i := 48) rfl
theorem nwE_0_36 : Cond.eq (.elem (.field (tmS 0) "java/lang/String" "value" "[B") (.int (Int32.ofNat 36))) (.int ((strB.getD 0 []).getD 36 0)) ∈ nwC := List.mem_of_getElem? (i := 49) rfl
theorem nwE_0_37 : Cond.eq (.elem (.field (tmS 0) "java/lang/String" "value" "[B") (.int (Int32.ofNat 37))) (.int ((strB.getD 0 []).getD 37 0)) ∈ nwC := List.mem_of_getElem? (i := 50) rfl
theorem nwE_0_38 : Cond.eq (.elem (.field (tmS 0) "java/lang/String" "value" "[B") (.int (Int32.ofNat 38))) (.int ((strB.getD 0 []).getD 38 0)) ∈ nwC := List.mem_of_getElem? (i := 51) rfl
theorem nwE_0_39 : Cond.eq (.elem (.field (tmS 0) "java/lang/String" "value" "[B") (.int (Int32.ofNat 39))) (.int ((strB.getD 0 []).getD 39 0)) ∈ nwC := List.mem_of_getElem? (i := 52) rfl
theorem nwE_0_40 : Cond.eq (.elem (.field (tmS 0) "java/lang/String" "value" "[B") (.int (Int32.ofNat 40))) (.int ((strB.getD 0 []).getD 40 0)) ∈ nwC := List.mem_of_getElem? (i := 53) rfl
theorem nwE_0_41 : Cond.eq (.elem (.field (tmS 0) "java/lang/String" "value" "[B") (.int (Int32.ofNat 41))) (.int ((strB.getD 0 []).getD 41 0)) ∈ nwC := List.mem_of_getElem? (i := 54) rfl
theorem nwE_0_42 : Cond.eq (.elem (.field (tmS 0) "java/lang/String" "value" "[B") (.int (Int32.ofNat 42))) (.int ((strB.getD 0 []).getD 42 0)) ∈ nwC := List.mem_of_getElem? (i := 55) rfl
theorem nwE_0_43 : Cond.eq (.elem (.field (tmS 0) "java/lang/String" "value" "[B") (.int (Int32.ofNat 43))) (.int ((strB.getD 0 []).getD 43 0)) ∈ nwC := List.mem_of_getElem? (i := 56) rfl
theorem nwE_0_44 : Cond.eq (.elem (.field (tmS 0) "java/lang/String" "value" "[B") (.int (Int32.ofNat 44))) (.int ((strB.getD 0 []).getD 44 0)) ∈ nwC := List.mem_of_getElem? (i := 57) rfl
theorem nwE_0_45 : Cond.eq (.elem (.field (tmS 0) "java/lang/String" "value" "[B") (.int (Int32.ofNat 45))) (.int ((strB.getD 0 []).getD 45 0)) ∈ nwC := List.mem_of_getElem? (i := 58) rfl
theorem nwE_0_46 : Cond.eq (.elem (.field (tmS 0) "java/lang/String" "value" "[B") (.int (Int32.ofNat 46))) (.int ((strB.getD 0 []).getD 46 0)) ∈ nwC := List.mem_of_getElem? (i := 59) rfl
theorem nwE_0_47 : Cond.eq (.elem (.field (tmS 0) "java/lang/String" "value" "[B") (.int (Int32.ofNat 47))) (.int ((strB.getD 0 []).getD 47 0)) ∈ nwC := List.mem_of_getElem? (i := 60) rfl
theorem nwE_0_48 : Cond.eq (.elem (.field (tmS 0) "java/lang/String" "value" "[B") (.int (Int32.ofNat 48))) (.int ((strB.getD 0 []).getD 48 0)) ∈ nwC := List.mem_of_getElem? (i := 61) rfl
theorem nwE_0_49 : Cond.eq (.elem (.field (tmS 0) "java/lang/String" "value" "[B") (.int (Int32.ofNat 49))) (.int ((strB.getD 0 []).getD 49 0)) ∈ nwC := List.mem_of_getElem? (i := 62) rfl
theorem nwE_0_50 : Cond.eq (.elem (.field (tmS 0) "java/lang/String" "value" "[B") (.int (Int32.ofNat 50))) (.int ((strB.getD 0 []).getD 50 0)) ∈ nwC := List.mem_of_getElem? (i := 63) rfl
theorem nwE_0_51 : Cond.eq (.elem (.field (tmS 0) "java/lang/String" "value" "[B") (.int (Int32.ofNat 51))) (.int ((strB.getD 0 []).getD 51 0)) ∈ nwC := List.mem_of_getElem? (i := 64) rfl
theorem nwE_0_52 : Cond.eq (.elem (.field (tmS 0) "java/lang/String" "value" "[B") (.int (Int32.ofNat 52))) (.int ((strB.getD 0 []).getD 52 0)) ∈ nwC := List.mem_of_getElem? (i := 65) rfl
theorem nwE_0_53 : Cond.eq (.elem (.field (tmS 0) "java/lang/String" "value" "[B") (.int (Int32.ofNat 53))) (.int ((strB.getD 0 []).getD 53 0)) ∈ nwC := List.mem_of_getElem? (i := 66) rfl
theorem nwE_0 : ∀ j : Nat, j < (strB.map List.length).getD 0 0 → Cond.eq (.elem (.field (tmS 0) "java/lang/String" "value" "[B") (.int (Int32.ofNat j))) (.int ((strB.getD 0 []).getD j 0)) ∈ nwC := fun j hj => match j, hj with
  | 0, _ => nwE_0_0
  | 1, _ => nwE_0_1
  | 2, _ => nwE_0_2
  | 3, _ => nwE_0_3
  | 4, _ => nwE_0_4
  | 5, _ => nwE_0_5
  | 6, _ => nwE_0_6
  | 7, _ => nwE_0_7
  | 8, _ => nwE_0_8
  | 9, _ => nwE_0_9
  | 10, _ => nwE_0_10
  | 11, _ => nwE_0_11
  | 12, _ => nwE_0_12
  | 13, _ => nwE_0_13
  | 14, _ => nwE_0_14
  | 15, _ => nwE_0_15
  | 16, _ => nwE_0_16
  | 17, _ => nwE_0_17
  | 18, _ => nwE_0_18
  | 19, _ => nwE_0_19
  | 20, _ => nwE_0_20
  | 21, _ => nwE_0_21
  | 22, _ => nwE_0_22
  | 23, _ => nwE_0_23
  | 24, _ => nwE_0_24
  | 25, _ => nwE_0_25
  | 26, _ => nwE_0_26
  | 27, _ => nwE_0_27
  | 28, _ => nwE_0_28
  | 29, _ => nwE_0_29
  | 30, _ => nwE_0_30
  | 31, _ => nwE_0_31
  | 32, _ => nwE_0_32
  | 33, _ => nwE_0_33
  | 34, _ => nwE_0_34
  | 35, _ => nwE_0_35
  | 36, _ => nwE_0_36
  | 37, _ => nwE_0_37
  | 38, _ => nwE_0_38
  | 39, _ => nwE_0_39
  | 40, _ => nwE_0_40
  | 41, _ => nwE_0_41
  | 42, _ => nwE_0_42
  | 43, _ => nwE_0_43
  | 44, _ => nwE_0_44
  | 45, _ => nwE_0_45
  | 46, _ => nwE_0_46
  | 47, _ => nwE_0_47
  | 48, _ => nwE_0_48
  | 49, _ => nwE_0_49
  | 50, _ => nwE_0_50
  | 51, _ => nwE_0_51
  | 52, _ => nwE_0_52
  | 53, _ => nwE_0_53
  | n + 54, h => absurd h (Nat.not_lt.mpr (Nat.le_add_left _ n))
theorem nwX_1 : Cond.exactly (tmS 1) "java/lang/String" ∈ nwC := List.mem_of_getElem? (i := 67) rfl
theorem nwO_1 : Cond.eq (.field (tmS 1) "java/lang/String" "coder" "B") (.int 0) ∈ nwC := List.mem_of_getElem? (i := 68) rfl
theorem nwA_1 : Cond.arrayOf (.field (tmS 1) "java/lang/String" "value" "[B") .byte ∈ nwC := List.mem_of_getElem? (i := 69) rfl
theorem nwL_1 : Cond.eq (.length (.field (tmS 1) "java/lang/String" "value" "[B")) (.int (Int32.ofNat ((strB.map List.length).getD 1 0))) ∈ nwC := List.mem_of_getElem? (i := 70) rfl
theorem nwE_1_0 : Cond.eq (.elem (.field (tmS 1) "java/lang/String" "value" "[B") (.int (Int32.ofNat 0))) (.int ((strB.getD 1 []).getD 0 0)) ∈ nwC := List.mem_of_getElem? (i := 71) rfl
theorem nwE_1_1 : Cond.eq (.elem (.field (tmS 1) "java/lang/String" "value" "[B") (.int (Int32.ofNat 1))) (.int ((strB.getD 1 []).getD 1 0)) ∈ nwC := List.mem_of_getElem? (i := 72) rfl
theorem nwE_1_2 : Cond.eq (.elem (.field (tmS 1) "java/lang/String" "value" "[B") (.int (Int32.ofNat 2))) (.int ((strB.getD 1 []).getD 2 0)) ∈ nwC := List.mem_of_getElem? (i := 73) rfl
theorem nwE_1_3 : Cond.eq (.elem (.field (tmS 1) "java/lang/String" "value" "[B") (.int (Int32.ofNat 3))) (.int ((strB.getD 1 []).getD 3 0)) ∈ nwC := List.mem_of_getElem? (i := 74) rfl
theorem nwE_1_4 : Cond.eq (.elem (.field (tmS 1) "java/lang/String" "value" "[B") (.int (Int32.ofNat 4))) (.int ((strB.getD 1 []).getD 4 0)) ∈ nwC := List.mem_of_getElem? (i := 75) rfl
theorem nwE_1_5 : Cond.eq (.elem (.field (tmS 1) "java/lang/String" "value" "[B") (.int (Int32.ofNat 5))) (.int ((strB.getD 1 []).getD 5 0)) ∈ nwC := List.mem_of_getElem? (i := 76) rfl
theorem nwE_1_6 : Cond.eq (.elem (.field (tmS 1) "java/lang/String" "value" "[B") (.int (Int32.ofNat 6))) (.int ((strB.getD 1 []).getD 6 0)) ∈ nwC := List.mem_of_getElem? (i := 77) rfl
theorem nwE_1_7 : Cond.eq (.elem (.field (tmS 1) "java/lang/String" "value" "[B") (.int (Int32.ofNat 7))) (.int ((strB.getD 1 []).getD 7 0)) ∈ nwC := List.mem_of_getElem? (i := 78) rfl
theorem nwE_1_8 : Cond.eq (.elem (.field (tmS 1) "java/lang/String" "value" "[B") (.int (Int32.ofNat 8))) (.int ((strB.getD 1 []).getD 8 0)) ∈ nwC := List.mem_of_getElem? (i := 79) rfl
theorem nwE_1_9 : Cond.eq (.elem (.field (tmS 1) "java/lang/String" "value" "[B") (.int (Int32.ofNat 9))) (.int ((strB.getD 1 []).getD 9 0)) ∈ nwC := List.mem_of_getElem? (i := 80) rfl
theorem nwE_1_10 : Cond.eq (.elem (.field (tmS 1) "java/lang/String" "value" "[B") (.int (Int32.ofNat 10))) (.int ((strB.getD 1 []).getD 10 0)) ∈ nwC := List.mem_of_getElem? (i := 81) rfl
theorem nwE_1_11 : Cond.eq (.elem (.field (tmS 1) "java/lang/String" "value" "[B") (.int (Int32.ofNat 11))) (.int ((strB.getD 1 []).getD 11 0)) ∈ nwC := List.mem_of_getElem? (i := 82) rfl
theorem nwE_1_12 : Cond.eq (.elem (.field (tmS 1) "java/lang/String" "value" "[B") (.int (Int32.ofNat 12))) (.int ((strB.getD 1 []).getD 12 0)) ∈ nwC := List.mem_of_getElem? (i := 83) rfl
theorem nwE_1_13 : Cond.eq (.elem (.field (tmS 1) "java/lang/String" "value" "[B") (.int (Int32.ofNat 13))) (.int ((strB.getD 1 []).getD 13 0)) ∈ nwC := List.mem_of_getElem? (i := 84) rfl
theorem nwE_1_14 : Cond.eq (.elem (.field (tmS 1) "java/lang/String" "value" "[B") (.int (Int32.ofNat 14))) (.int ((strB.getD 1 []).getD 14 0)) ∈ nwC := List.mem_of_getElem? (i := 85) rfl
theorem nwE_1_15 : Cond.eq (.elem (.field (tmS 1) "java/lang/String" "value" "[B") (.int (Int32.ofNat 15))) (.int ((strB.getD 1 []).getD 15 0)) ∈ nwC := List.mem_of_getElem? (i := 86) rfl
theorem nwE_1_16 : Cond.eq (.elem (.field (tmS 1) "java/lang/String" "value" "[B") (.int (Int32.ofNat 16))) (.int ((strB.getD 1 []).getD 16 0)) ∈ nwC := List.mem_of_getElem? (i := 87) rfl
theorem nwE_1_17 : Cond.eq (.elem (.field (tmS 1) "java/lang/String" "value" "[B") (.int (Int32.ofNat 17))) (.int ((strB.getD 1 []).getD 17 0)) ∈ nwC := List.mem_of_getElem? (i := 88) rfl
theorem nwE_1_18 : Cond.eq (.elem (.field (tmS 1) "java/lang/String" "value" "[B") (.int (Int32.ofNat 18))) (.int ((strB.getD 1 []).getD 18 0)) ∈ nwC := List.mem_of_getElem? (i := 89) rfl
theorem nwE_1_19 : Cond.eq (.elem (.field (tmS 1) "java/lang/String" "value" "[B") (.int (Int32.ofNat 19))) (.int ((strB.getD 1 []).getD 19 0)) ∈ nwC := List.mem_of_getElem? (i := 90) rfl
theorem nwE_1_20 : Cond.eq (.elem (.field (tmS 1) "java/lang/String" "value" "[B") (.int (Int32.ofNat 20))) (.int ((strB.getD 1 []).getD 20 0)) ∈ nwC := List.mem_of_getElem? (i := 91) rfl
theorem nwE_1_21 : Cond.eq (.elem (.field (tmS 1) "java/lang/String" "value" "[B") (.int (Int32.ofNat 21))) (.int ((strB.getD 1 []).getD 21 0)) ∈ nwC := List.mem_of_getElem? (i := 92) rfl
theorem nwE_1_22 : Cond.eq (.elem (.field (tmS 1) "java/lang/String" "value" "[B") (.int (Int32.ofNat 22))) (.int ((strB.getD 1 []).getD 22 0)) ∈ nwC := List.mem_of_getElem? (i := 93) rfl
theorem nwE_1_23 : Cond.eq (.elem (.field (tmS 1) "java/lang/String" "value" "[B") (.int (Int32.ofNat 23))) (.int ((strB.getD 1 []).getD 23 0)) ∈ nwC := List.mem_of_getElem? (i := 94) rfl
theorem nwE_1_24 : Cond.eq (.elem (.field (tmS 1) "java/lang/String" "value" "[B") (.int (Int32.ofNat 24))) (.int ((strB.getD 1 []).getD 24 0)) ∈ nwC := List.mem_of_getElem? (i := 95) rfl
theorem nwE_1_25 : Cond.eq (.elem (.field (tmS 1) "java/lang/String" "value" "[B") (.int (Int32.ofNat 25))) (.int ((strB.getD 1 []).getD 25 0)) ∈ nwC := List.mem_of_getElem? (i := 96) rfl
theorem nwE_1_26 : Cond.eq (.elem (.field (tmS 1) "java/lang/String" "value" "[B") (.int (Int32.ofNat 26))) (.int ((strB.getD 1 []).getD 26 0)) ∈ nwC := List.mem_of_getElem? (i := 97) rfl
theorem nwE_1_27 : Cond.eq (.elem (.field (tmS 1) "java/lang/String" "value" "[B") (.int (Int32.ofNat 27))) (.int ((strB.getD 1 []).getD 27 0)) ∈ nwC := List.mem_of_getElem? (i := 98) rfl
theorem nwE_1_28 : Cond.eq (.elem (.field (tmS 1) "java/lang/String" "value" "[B") (.int (Int32.ofNat 28))) (.int ((strB.getD 1 []).getD 28 0)) ∈ nwC := List.mem_of_getElem? (i := 99) rfl
theorem nwE_1_29 : Cond.eq (.elem (.field (tmS 1) "java/lang/String" "value" "[B") (.int (Int32.ofNat 29))) (.int ((strB.getD 1 []).getD 29 0)) ∈ nwC := List.mem_of_getElem? (i := 100) rfl
theorem nwE_1 : ∀ j : Nat, j < (strB.map List.length).getD 1 0 → Cond.eq (.elem (.field (tmS 1) "java/lang/String" "value" "[B") (.int (Int32.ofNat j))) (.int ((strB.getD 1 []).getD j 0)) ∈ nwC := fun j hj => match j, hj with
  | 0, _ => nwE_1_0
  | 1, _ => nwE_1_1
  | 2, _ => nwE_1_2
  | 3, _ => nwE_1_3
  | 4, _ => nwE_1_4
  | 5, _ => nwE_1_5
  | 6, _ => nwE_1_6
  | 7, _ => nwE_1_7
  | 8, _ => nwE_1_8
  | 9, _ => nwE_1_9
  | 10, _ => nwE_1_10
  | 11, _ => nwE_1_11
  | 12, _ => nwE_1_12
  | 13, _ => nwE_1_13
  | 14, _ => nwE_1_14
  | 15, _ => nwE_1_15
  | 16, _ => nwE_1_16
  | 17, _ => nwE_1_17
  | 18, _ => nwE_1_18
  | 19, _ => nwE_1_19
  | 20, _ => nwE_1_20
  | 21, _ => nwE_1_21
  | 22, _ => nwE_1_22
  | 23, _ => nwE_1_23
  | 24, _ => nwE_1_24
  | 25, _ => nwE_1_25
  | 26, _ => nwE_1_26
  | 27, _ => nwE_1_27
  | 28, _ => nwE_1_28
  | 29, _ => nwE_1_29
  | n + 30, h => absurd h (Nat.not_lt.mpr (Nat.le_add_left _ n))
theorem nwN_0_1 : Cond.not (.eq (tmS 0) (tmS 1)) ∈ nwC := List.mem_of_getElem? (i := 101) rfl
theorem nwX_2 : Cond.exactly (tmS 2) "java/lang/String" ∈ nwC := List.mem_of_getElem? (i := 102) rfl
theorem nwO_2 : Cond.eq (.field (tmS 2) "java/lang/String" "coder" "B") (.int 0) ∈ nwC := List.mem_of_getElem? (i := 103) rfl
theorem nwA_2 : Cond.arrayOf (.field (tmS 2) "java/lang/String" "value" "[B") .byte ∈ nwC := List.mem_of_getElem? (i := 104) rfl
theorem nwL_2 : Cond.eq (.length (.field (tmS 2) "java/lang/String" "value" "[B")) (.int (Int32.ofNat ((strB.map List.length).getD 2 0))) ∈ nwC := List.mem_of_getElem? (i := 105) rfl
theorem nwE_2_0 : Cond.eq (.elem (.field (tmS 2) "java/lang/String" "value" "[B") (.int (Int32.ofNat 0))) (.int ((strB.getD 2 []).getD 0 0)) ∈ nwC := List.mem_of_getElem? (i := 106) rfl
theorem nwE_2_1 : Cond.eq (.elem (.field (tmS 2) "java/lang/String" "value" "[B") (.int (Int32.ofNat 1))) (.int ((strB.getD 2 []).getD 1 0)) ∈ nwC := List.mem_of_getElem? (i := 107) rfl
theorem nwE_2_2 : Cond.eq (.elem (.field (tmS 2) "java/lang/String" "value" "[B") (.int (Int32.ofNat 2))) (.int ((strB.getD 2 []).getD 2 0)) ∈ nwC := List.mem_of_getElem? (i := 108) rfl
theorem nwE_2_3 : Cond.eq (.elem (.field (tmS 2) "java/lang/String" "value" "[B") (.int (Int32.ofNat 3))) (.int ((strB.getD 2 []).getD 3 0)) ∈ nwC := List.mem_of_getElem? (i := 109) rfl
theorem nwE_2_4 : Cond.eq (.elem (.field (tmS 2) "java/lang/String" "value" "[B") (.int (Int32.ofNat 4))) (.int ((strB.getD 2 []).getD 4 0)) ∈ nwC := List.mem_of_getElem? (i := 110) rfl
theorem nwE_2_5 : Cond.eq (.elem (.field (tmS 2) "java/lang/String" "value" "[B") (.int (Int32.ofNat 5))) (.int ((strB.getD 2 []).getD 5 0)) ∈ nwC := List.mem_of_getElem? (i := 111) rfl
theorem nwE_2 : ∀ j : Nat, j < (strB.map List.length).getD 2 0 → Cond.eq (.elem (.field (tmS 2) "java/lang/String" "value" "[B") (.int (Int32.ofNat j))) (.int ((strB.getD 2 []).getD j 0)) ∈ nwC := fun j hj => match j, hj with
  | 0, _ => nwE_2_0
  | 1, _ => nwE_2_1
  | 2, _ => nwE_2_2
  | 3, _ => nwE_2_3
  | 4, _ => nwE_2_4
  | 5, _ => nwE_2_5
  | n + 6, h => absurd h (Nat.not_lt.mpr (Nat.le_add_left _ n))
theorem nwN_0_2 : Cond.not (.eq (tmS 0) (tmS 2)) ∈ nwC := List.mem_of_getElem? (i := 112) rfl
theorem nwN_1_2 : Cond.not (.eq (tmS 1) (tmS 2)) ∈ nwC := List.mem_of_getElem? (i := 113) rfl
theorem nwX_3 : Cond.exactly (tmS 3) "java/lang/String" ∈ nwC := List.mem_of_getElem? (i := 114) rfl
theorem nwO_3 : Cond.eq (.field (tmS 3) "java/lang/String" "coder" "B") (.int 0) ∈ nwC := List.mem_of_getElem? (i := 115) rfl
theorem nwA_3 : Cond.arrayOf (.field (tmS 3) "java/lang/String" "value" "[B") .byte ∈ nwC := List.mem_of_getElem? (i := 116) rfl
theorem nwL_3 : Cond.eq (.length (.field (tmS 3) "java/lang/String" "value" "[B")) (.int (Int32.ofNat ((strB.map List.length).getD 3 0))) ∈ nwC := List.mem_of_getElem? (i := 117) rfl
theorem nwE_3_0 : Cond.eq (.elem (.field (tmS 3) "java/lang/String" "value" "[B") (.int (Int32.ofNat 0))) (.int ((strB.getD 3 []).getD 0 0)) ∈ nwC := List.mem_of_getElem? (i := 118) rfl
theorem nwE_3_1 : Cond.eq (.elem (.field (tmS 3) "java/lang/String" "value" "[B") (.int (Int32.ofNat 1))) (.int ((strB.getD 3 []).getD 1 0)) ∈ nwC := List.mem_of_getElem? (i := 119) rfl
theorem nwE_3_2 : Cond.eq (.elem (.field (tmS 3) "java/lang/String" "value" "[B") (.int (Int32.ofNat 2))) (.int ((strB.getD 3 []).getD 2 0)) ∈ nwC := List.mem_of_getElem? (i := 120) rfl
theorem nwE_3_3 : Cond.eq (.elem (.field (tmS 3) "java/lang/String" "value" "[B") (.int (Int32.ofNat 3))) (.int ((strB.getD 3 []).getD 3 0)) ∈ nwC := List.mem_of_getElem? (i := 121) rfl
theorem nwE_3_4 : Cond.eq (.elem (.field (tmS 3) "java/lang/String" "value" "[B") (.int (Int32.ofNat 4))) (.int ((strB.getD 3 []).getD 4 0)) ∈ nwC := List.mem_of_getElem? (i := 122) rfl
theorem nwE_3_5 : Cond.eq (.elem (.field (tmS 3) "java/lang/String" "value" "[B") (.int (Int32.ofNat 5))) (.int ((strB.getD 3 []).getD 5 0)) ∈ nwC := List.mem_of_getElem? (i := 123) rfl
theorem nwE_3 : ∀ j : Nat, j < (strB.map List.length).getD 3 0 → Cond.eq (.elem (.field (tmS 3) "java/lang/String" "value" "[B") (.int (Int32.ofNat j))) (.int ((strB.getD 3 []).getD j 0)) ∈ nwC := fun j hj => match j, hj with
  | 0, _ => nwE_3_0
  | 1, _ => nwE_3_1
  | 2, _ => nwE_3_2
  | 3, _ => nwE_3_3
  | 4, _ => nwE_3_4
  | 5, _ => nwE_3_5
  | n + 6, h => absurd h (Nat.not_lt.mpr (Nat.le_add_left _ n))
theorem nwN_0_3 : Cond.not (.eq (tmS 0) (tmS 3)) ∈ nwC := List.mem_of_getElem? (i := 124) rfl
theorem nwN_1_3 : Cond.not (.eq (tmS 1) (tmS 3)) ∈ nwC := List.mem_of_getElem? (i := 125) rfl
theorem nwN_2_3 : Cond.not (.eq (tmS 2) (tmS 3)) ∈ nwC := List.mem_of_getElem? (i := 126) rfl
theorem nwXX : ∀ i : Nat, i < 4 → Cond.exactly (tmS i) "java/lang/String" ∈ nwC := fun i hi => match i, hi with
  | 0, _ => nwX_0
  | 1, _ => nwX_1
  | 2, _ => nwX_2
  | 3, _ => nwX_3
  | n + 4, h => absurd h (Nat.not_lt.mpr (Nat.le_add_left _ n))
theorem nwOO : ∀ i : Nat, i < 4 → Cond.eq (.field (tmS i) "java/lang/String" "coder" "B") (.int 0) ∈ nwC := fun i hi => match i, hi with
  | 0, _ => nwO_0
  | 1, _ => nwO_1
  | 2, _ => nwO_2
  | 3, _ => nwO_3
  | n + 4, h => absurd h (Nat.not_lt.mpr (Nat.le_add_left _ n))
theorem nwAA : ∀ i : Nat, i < 4 → Cond.arrayOf (.field (tmS i) "java/lang/String" "value" "[B") .byte ∈ nwC := fun i hi => match i, hi with
  | 0, _ => nwA_0
  | 1, _ => nwA_1
  | 2, _ => nwA_2
  | 3, _ => nwA_3
  | n + 4, h => absurd h (Nat.not_lt.mpr (Nat.le_add_left _ n))
theorem nwLL : ∀ i : Nat, i < 4 → Cond.eq (.length (.field (tmS i) "java/lang/String" "value" "[B")) (.int (Int32.ofNat ((strB.map List.length).getD i 0))) ∈ nwC := fun i hi => match i, hi with
  | 0, _ => nwL_0
  | 1, _ => nwL_1
  | 2, _ => nwL_2
  | 3, _ => nwL_3
  | n + 4, h => absurd h (Nat.not_lt.mpr (Nat.le_add_left _ n))
theorem nwEE : ∀ i : Nat, i < 4 → ∀ j : Nat, j < (strB.map List.length).getD i 0 → Cond.eq (.elem (.field (tmS i) "java/lang/String" "value" "[B") (.int (Int32.ofNat j))) (.int ((strB.getD i []).getD j 0)) ∈ nwC := fun i hi => match i, hi with
  | 0, _ => nwE_0
  | 1, _ => nwE_1
  | 2, _ => nwE_2
  | 3, _ => nwE_3
  | n + 4, h => absurd h (Nat.not_lt.mpr (Nat.le_add_left _ n))
theorem nwN : ∀ i j : Nat, i < 4 → j < 4 → i ≠ j → Cond.not (.eq (tmS i) (tmS j)) ∈ nwC ∨ Cond.not (.eq (tmS j) (tmS i)) ∈ nwC := fun i j hi hj hn => match i, j, hi, hj, hn with
  | 0, 0, _, _, h => absurd rfl h
  | 0, 1, _, _, _ => Or.inl nwN_0_1
  | 0, 2, _, _, _ => Or.inl nwN_0_2
  | 0, 3, _, _, _ => Or.inl nwN_0_3
  | 1, 0, _, _, _ => Or.inr nwN_0_1
  | 1, 1, _, _, h => absurd rfl h
  | 1, 2, _, _, _ => Or.inl nwN_1_2
  | 1, 3, _, _, _ => Or.inl nwN_1_3
  | 2, 0, _, _, _ => Or.inr nwN_0_2
  | 2, 1, _, _, _ => Or.inr nwN_1_2
  | 2, 2, _, _, h => absurd rfl h
  | 2, 3, _, _, _ => Or.inl nwN_2_3
  | 3, 0, _, _, _ => Or.inr nwN_0_3
  | 3, 1, _, _, _ => Or.inr nwN_1_3
  | 3, 2, _, _, _ => Or.inr nwN_2_3
  | 3, 3, _, _, h => absurd rfl h
  | n + 4, _, h, _, _ => absurd h (Nat.not_lt.mpr (Nat.le_add_left _ n))
  | 0, n + 4, _, h, _ => absurd h (Nat.not_lt.mpr (Nat.le_add_left _ n))
  | 1, n + 4, _, h, _ => absurd h (Nat.not_lt.mpr (Nat.le_add_left _ n))
  | 2, n + 4, _, h, _ => absurd h (Nat.not_lt.mpr (Nat.le_add_left _ n))
  | 3, n + 4, _, h, _ => absurd h (Nat.not_lt.mpr (Nat.le_add_left _ n))
theorem nwZ : Cond.eq (.static "java/lang/String" "COMPACT_STRINGS" "Z") (.int 1) ∈ nwC := List.mem_of_getElem? (i := 4) rfl
theorem nwQ : Cond.isRef (.static "jdk/internal/util/Preconditions" "SIOOBE_FORMATTER" "Ljava/util/function/BiFunction;") ∈ nwC := List.mem_of_getElem? (i := 5) rfl
theorem wlZ : Cond.laysStatic "java/lang/String" "COMPACT_STRINGS" "Z" ∈ lw_tbl := t4_in (i := 144) rfl
theorem wlQ : Cond.laysStatic "jdk/internal/util/Preconditions" "SIOOBE_FORMATTER" "Ljava/util/function/BiFunction;" ∈ lw_tbl := t4_in (i := 164) rfl
theorem wiS : Cond.initialized "java/lang/String" ∈ lw_tbl := t1_in (i := 15) rfl
theorem wiP : Cond.initialized "jdk/internal/util/Preconditions" ∈ lw_tbl := t1_in (i := 17) rfl
theorem wAO : Cond.arrayOver (.object "TrunkRoom$Call") ∈ lw_tbl := t1_in (i := 226) rfl
theorem stab_ok : ∀ c < 14, ∀ q ∈ stab.getD c [], c = 6 ∧ q.2 < 4 ∧ q.1 = kS.getD q.2 0 := by decide +kernel
theorem law_rep {p : Program} {s : State} {m : MethodId} {meth : Method} {c : Code} {b L : Nat} {xs : Nat → Int32} (C0 : lw_At p s m meth c b L xs) : ∃ ext D, Rep (b, s.heap.size, ext, D) s [.inl (0, L, .inl xs)] s.heap := by
  obtain ⟨-, -, -, -, -, hts, hX, hbl, -, hgv⟩ := C0
  have hfl : ∀ w ∈ nwC, w.before #[Value.ref b] s = true := flat_of_before _ hgv
  have hA : ∀ a : Nat, a < s.heap.size → ¬ s.heap.size ≤ a := fun a h => Nat.not_le.mpr h
  have hD : ∀ c : Nat, ∃ q : ClassId × (Nat → Nat), c < 11 → u_Kn s (cN.getD c "") (TT c) (fN c) q.1 q.2 := by
    intro c
    by_cases hc : c < 11
    · obtain ⟨cC, iS, h⟩ := u_known (ws := lw_tbl) (N := fN c) (T := TT c) hts (fun w hw => by
        obtain ⟨k, hk, rfl⟩ := List.mem_map.mp hw
        exact wU_all c hc k (List.mem_range.mp hk)) (hts _ (wI_all c hc).1)
      exact ⟨(cC, iS), fun _ => h⟩
    · exact ⟨(default, fun _ => 0), fun h => absurd h hc⟩
  obtain ⟨Df, hDf⟩ := Classical.axiomOfChoice hD
  have hK : va_K (fun c => (Df c).1, fun c => (Df c).2) clL [] s := by
    refine ⟨fun c q hq => ?_, fun k q hk => by simp at hk⟩
    unfold clL at hq
    rw [List.getElem?_map] at hq
    obtain ⟨j, hj, rfl⟩ := Option.map_eq_some_iff.mp hq
    obtain ⟨hc, he⟩ := List.getElem?_eq_some_iff.mp hj
    rw [List.getElem_range] at he
    subst he
    rw [List.length_range] at hc
    exact hDf c hc
  obtain ⟨adK, adV, hS, hev⟩ := vk_Sof (args := #[Value.ref b]) (s := s) (N := 4) (tm := tmS) (len := strB.map List.length) (byt := strB) (A := fun q => s.heap.size ≤ q) (by decide +kernel) (fun i hi => hfl _ (nwXX i hi)) (fun i hi => hfl _ (nwOO i hi)) (fun i hi => hfl _ (nwAA i hi)) (fun i hi => hfl _ (nwLL i hi)) (fun i hi j hj => hfl _ (nwEE i hi j hj)) (fun i j hi hj hn => (nwN i j hi hj hn).imp (hfl _) (hfl _)) hA
  refine ⟨adK, (fun c => (Df c).1, fun c => (Df c).2), rfl, hbl, (by show 1 ≤ EXT; decide), ?_, hK, ?_⟩
  · intro k e hk
    cases k with
    | zero =>
      cases hk
      unfold xat
      simp only [if_true]
      exact fun _ => ⟨xs, rfl, hX⟩
    | succ k => simp at hk
  · refine ⟨fun c i a h => ?_, adV, hS, va_Zof (hts _ wlZ) (hts _ wiS) (va_eqi (hfl _ nwZ)) hA, va_AO.of (hts _ wAO), fun C i y h => va_Nw.of rfl (hts _ h), va_Zqof (hts _ wlQ) (hts _ wiP) (hfl _ nwQ) hA⟩
    have hw := hts _ (wS_all _ (lk_lt h) _ (lk_mem h))
    obtain ⟨rfl, h4, h5⟩ := stab_ok _ (lk_lt h) _ (lk_mem h)
    simp only at h4 h5
    have he := hev a h4
    unfold tmS at he
    rw [← h5] at he
    exact vk_R.of hw he
/-- the law comes to its end with 1, if the plain machine does -/
theorem law_go (hrun : ∀ (L : Nat) (xs : Nat → Int32), L ≤ 3072 → ∃ n lw' cs', exec n iLaw (0, entL 4 [.ref 0], [], [.inl (0, L, .inl xs)], (0, 0)) = some (some (.int 1), lw', cs'))
    {p : Program} {e : Env} {s : State} {m : MethodId} {below : List Frame} {meth : Method} {c : Code} (l : Launch) {b L : Nat} {xs : Nat → Int32} (hL : L ≤ 3072) (C0 : lw_At p s m meth c b L xs) : W p l e room_1 s m #[Value.ref b] below meth c s.heap [] 0 0 (lw_Z below #[Value.ref b] s) (entryFrame m ([Value.ref b] : List Value).toArray 4) := by
  obtain ⟨ext, D, hR⟩ := law_rep C0
  obtain ⟨hx, hb, hr, hml, hown, hts, hX, hbl, hlocks, hgv⟩ := C0
  obtain ⟨n, lw', cs', hn⟩ := hrun L xs hL
  have C : Cx p s m #[Value.ref b] meth c (b, s.heap.size, ext, D) iLaw := ⟨hx, hb, hml, hown, fun w hw => hts w (List.mem_filter.mp hw).1, fun q => absurd q (by decide), Nat.le_refl _⟩
  rw [lg_entry_eq]
  have hent := LR.entry (G := (b, s.heap.size, ext, D)) (n := 4) (vs := [Value.ref 0]) (by decide)
  refine exec_ok str_ok n hn C hent hR va_S.rf ?_
  intro pc i ls' H' locs' cs1 hd hret hR' hS' h1 h2
  rcases hret with ⟨rfl, -⟩ | ⟨-, x, hx', -⟩ | ⟨-, k, -, hx' | ⟨a, hx'⟩⟩ | ⟨-, hx', -⟩
  · refine W.widen h1 h2 ?_
    have hf := W.forget (locs := []) (L := locs') (fun q hq => hS'.2.2 q hq) (lw_ret (b := b) hx hb hr hlocks (pc := pc) (H := H') (ls := ls') (p := p) (l := l) (e := e) (s := s) (m := m) (below := below) (meth := meth) (c := c) hd)
    exact hf
  all_goals cases hx'

