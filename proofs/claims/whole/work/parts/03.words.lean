/-! every word that the tables speak of is among the claim's words, by its place; written by wip/gen/gen03.py -/
theorem t1_in {w : Cond} (i : Nat) (h : tables_1_1[i]? = some w) : w ∈ lw_tbl := List.mem_append_right _ (by have h := List.mem_of_getElem? h; exact (List.mem_append_left _ h))
theorem t2_in {w : Cond} (i : Nat) (h : tables_1_2[i]? = some w) : w ∈ lw_tbl := List.mem_append_right _ (by have h := List.mem_of_getElem? h; exact (List.mem_append_right _ (List.mem_append_left _ h)))
theorem t3_in {w : Cond} (i : Nat) (h : tables_1_3[i]? = some w) : w ∈ lw_tbl := List.mem_append_right _ (by have h := List.mem_of_getElem? h; exact (List.mem_append_right _ (List.mem_append_right _ (List.mem_append_left _ h))))
theorem t4_in {w : Cond} (i : Nat) (h : tables_1_4[i]? = some w) : w ∈ lw_tbl := List.mem_append_right _ (by have h := List.mem_of_getElem? h; exact (List.mem_append_right _ (List.mem_append_right _ (List.mem_append_right _ (List.mem_append_left _ h)))))
theorem t5_in {w : Cond} (i : Nat) (h : tables_1_5[i]? = some w) : w ∈ lw_tbl := List.mem_append_right _ (by have h := List.mem_of_getElem? h; exact (List.mem_append_right _ (List.mem_append_right _ (List.mem_append_right _ (List.mem_append_right _ (List.mem_append_left _ h))))))
theorem t6_in {w : Cond} (i : Nat) (h : tables_1_6[i]? = some w) : w ∈ lw_tbl := List.mem_append_right _ (by have h := List.mem_of_getElem? h; exact (List.mem_append_right _ (List.mem_append_right _ (List.mem_append_right _ (List.mem_append_right _ (List.mem_append_right _ (List.mem_append_left _ h)))))))
theorem t7_in {w : Cond} (i : Nat) (h : tables_1_7[i]? = some w) : w ∈ lw_tbl := List.mem_append_right _ (by have h := List.mem_of_getElem? h; exact (List.mem_append_right _ (List.mem_append_right _ (List.mem_append_right _ (List.mem_append_right _ (List.mem_append_right _ (List.mem_append_right _ (List.mem_append_left _ h))))))))
theorem t8_in {w : Cond} (i : Nat) (h : tables_1_8[i]? = some w) : w ∈ lw_tbl := List.mem_append_right _ (by have h := List.mem_of_getElem? h; exact (List.mem_append_right _ (List.mem_append_right _ (List.mem_append_right _ (List.mem_append_right _ (List.mem_append_right _ (List.mem_append_right _ (List.mem_append_right _ h))))))))
theorem tp1_in {y : MethodName} (i : Nat) {n : Nat} (h : lw_privs_1[i]? = some (y, n)) : Cond.selects y.cls y y ∈ lw_tbl := List.mem_append_left _ (List.mem_map.mpr ⟨(y, n), (by have h := List.mem_of_getElem? h; exact (List.mem_append_left _ h)), rfl⟩)
theorem tp2_in {y : MethodName} (i : Nat) {n : Nat} (h : lw_privs_2[i]? = some (y, n)) : Cond.selects y.cls y y ∈ lw_tbl := List.mem_append_left _ (List.mem_map.mpr ⟨(y, n), (by have h := List.mem_of_getElem? h; exact (List.mem_append_right _ (List.mem_append_left _ h))), rfl⟩)
theorem tp3_in {y : MethodName} (i : Nat) {n : Nat} (h : lw_privs_3[i]? = some (y, n)) : Cond.selects y.cls y y ∈ lw_tbl := List.mem_append_left _ (List.mem_map.mpr ⟨(y, n), (by have h := List.mem_of_getElem? h; exact (List.mem_append_right _ (List.mem_append_right _ (List.mem_append_left _ h)))), rfl⟩)
theorem tp4_in {y : MethodName} (i : Nat) {n : Nat} (h : lw_privs_4[i]? = some (y, n)) : Cond.selects y.cls y y ∈ lw_tbl := List.mem_append_left _ (List.mem_map.mpr ⟨(y, n), (by have h := List.mem_of_getElem? h; exact (List.mem_append_right _ (List.mem_append_right _ (List.mem_append_right _ (List.mem_append_left _ h))))), rfl⟩)
theorem tp5_in {y : MethodName} (i : Nat) {n : Nat} (h : lw_privs_5[i]? = some (y, n)) : Cond.selects y.cls y y ∈ lw_tbl := List.mem_append_left _ (List.mem_map.mpr ⟨(y, n), (by have h := List.mem_of_getElem? h; exact (List.mem_append_right _ (List.mem_append_right _ (List.mem_append_right _ (List.mem_append_right _ (List.mem_append_left _ h)))))), rfl⟩)
theorem tp6_in {y : MethodName} (i : Nat) {n : Nat} (h : lw_privs_6[i]? = some (y, n)) : Cond.selects y.cls y y ∈ lw_tbl := List.mem_append_left _ (List.mem_map.mpr ⟨(y, n), (by have h := List.mem_of_getElem? h; exact (List.mem_append_right _ (List.mem_append_right _ (List.mem_append_right _ (List.mem_append_right _ (List.mem_append_right _ (List.mem_append_left _ h))))))), rfl⟩)
theorem tp7_in {y : MethodName} (i : Nat) {n : Nat} (h : lw_privs_7[i]? = some (y, n)) : Cond.selects y.cls y y ∈ lw_tbl := List.mem_append_left _ (List.mem_map.mpr ⟨(y, n), (by have h := List.mem_of_getElem? h; exact (List.mem_append_right _ (List.mem_append_right _ (List.mem_append_right _ (List.mem_append_right _ (List.mem_append_right _ (List.mem_append_right _ h))))))), rfl⟩)
def pF (c : Nat) (q : Nat × Nat × Nat) : Prop := Cond.fieldLink (cN.getD c "") q.1 (TT q.2.1 q.2.2).1 (TT q.2.1 q.2.2).2.1 (TT q.2.1 q.2.2).2.2.1 ∈ lw_tbl
def pM (j : Nat) : Prop := Cond.code (mY j) (mB j) (mL j) (mR j) ∈ lw_tbl ∧ Cond.initialized (mY j).cls ∈ lw_tbl
def pC (c : Nat) (q : Nat × Nat × Nat) : Prop := match q.2.1 with
  | 0 => Cond.methodLink (cN.getD c "") q.1 (mY q.2.2) ∈ lw_tbl ∧ Cond.instanceMethod (mY q.2.2) ∈ lw_tbl ∧ Cond.selects (mY q.2.2).cls (mY q.2.2) (mY q.2.2) ∈ lw_tbl
  | 1 => Cond.methodLink (cN.getD c "") q.1 (mY q.2.2) ∈ lw_tbl ∧ Cond.static (mY q.2.2) ∈ lw_tbl
  | 2 => Cond.methodLink (cN.getD c "") q.1 (mY q.2.2) ∈ lw_tbl ∧ Cond.instanceMethod (mY q.2.2) ∈ lw_tbl
  | 3 => Cond.methodLinkNest (cN.getD c "") q.1 (mY q.2.2) "TrunkRoom" ∈ lw_tbl ∧ Cond.static (mY q.2.2) ∈ lw_tbl
  | 4 => Cond.methodLinkNest (cN.getD c "") q.1 (mY q.2.2) "TrunkRoom" ∈ lw_tbl ∧ Cond.instanceMethod (mY q.2.2) ∈ lw_tbl
  | 5 => Cond.methodLink (cN.getD c "") q.1 objectInit ∈ lw_tbl ∧ Cond.instanceMethod objectInit ∈ lw_tbl ∧ Cond.code objectInit ⟨#[0xb1]⟩ 1 none ∈ lw_tbl
  | 6 => Cond.methodLink (cN.getD c "") q.1 arraycopyName ∈ lw_tbl ∧ Cond.native arraycopyName ∈ lw_tbl ∧ Cond.static arraycopyName ∈ lw_tbl ∧ Cond.initialized "java/lang/System" ∈ lw_tbl
  | 7 => Cond.methodLink (cN.getD c "") q.1 ⟨"java/lang/String", "length", "()I"⟩ ∈ lw_tbl
  | 8 => Cond.methodLink (cN.getD c "") q.1 ⟨"java/lang/String", "charAt", "(I)C"⟩ ∈ lw_tbl
  | 9 => Cond.methodLink (cN.getD c "") q.1 Lib.Math.abs.name ∈ lw_tbl ∧ Cond.static Lib.Math.abs.name ∈ lw_tbl ∧ Cond.initialized "java/lang/Math" ∈ lw_tbl ∧ Cond.code Lib.Math.abs.name Lib.Math.abs.code 1 (some .int) ∈ lw_tbl
  | 10 => Cond.methodLink (cN.getD c "") q.1 Lib.Math.max.name ∈ lw_tbl ∧ Cond.static Lib.Math.max.name ∈ lw_tbl ∧ Cond.initialized "java/lang/Math" ∈ lw_tbl ∧ Cond.code Lib.Math.max.name Lib.Math.max.code 2 (some .int) ∈ lw_tbl
  | _ => Cond.methodLink (cN.getD c "") q.1 Lib.Math.min.name ∈ lw_tbl ∧ Cond.static Lib.Math.min.name ∈ lw_tbl ∧ Cond.initialized "java/lang/Math" ∈ lw_tbl ∧ Cond.code Lib.Math.min.name Lib.Math.min.code 2 (some .int) ∈ lw_tbl
def pK (c : Nat) (q : Nat × Int32) : Prop := Cond.constant (cN.getD c "") q.1 q.2 ∈ lw_tbl
def pL (c : Nat) (q : Nat × Int64) : Prop := Cond.constantLong (cN.getD c "") q.1 q.2 ∈ lw_tbl
def pN (c : Nat) (q : Nat × Nat) : Prop := Cond.classLink (cN.getD c "") q.1 (cN.getD q.2 "") ∈ lw_tbl
def pS (c : Nat) (q : Nat × Nat) : Prop := Cond.stringRef (cN.getD c "") q.1 (strL.getD q.2 "") ∈ lw_tbl
theorem wF_0_0 : pF 0 (9, 0, 0) := t1_in (i := 232) rfl
theorem wF_0_1 : pF 0 (15, 0, 1) := t1_in (i := 235) rfl
theorem wF_0_2 : pF 0 (18, 0, 2) := t1_in (i := 238) rfl
theorem wF_0_3 : pF 0 (21, 0, 3) := t2_in (i := 2) rfl
theorem wF_0_4 : pF 0 (24, 0, 4) := t2_in (i := 6) rfl
theorem wF_0_5 : pF 0 (27, 0, 5) := t2_in (i := 9) rfl
theorem wF_0_6 : pF 0 (30, 0, 6) := t2_in (i := 13) rfl
theorem wF_0_7 : pF 0 (33, 0, 7) := t2_in (i := 16) rfl
theorem wF_0_8 : pF 0 (36, 0, 8) := t2_in (i := 18) rfl
theorem wF_0_9 : pF 0 (40, 0, 9) := t2_in (i := 20) rfl
theorem wF_0_10 : pF 0 (43, 0, 10) := t2_in (i := 23) rfl
theorem wF_0_11 : pF 0 (46, 0, 11) := t2_in (i := 26) rfl
theorem wF_0_12 : pF 0 (49, 0, 12) := t2_in (i := 29) rfl
theorem wF_0_13 : pF 0 (54, 0, 13) := t2_in (i := 32) rfl
theorem wF_0_14 : pF 0 (57, 0, 14) := t2_in (i := 35) rfl
theorem wF_0_15 : pF 0 (60, 0, 15) := t2_in (i := 38) rfl
theorem wF_0_16 : pF 0 (63, 0, 16) := t2_in (i := 40) rfl
theorem wF_0_17 : pF 0 (66, 0, 17) := t2_in (i := 42) rfl
theorem wF_0_18 : pF 0 (70, 0, 18) := t2_in (i := 44) rfl
theorem wF_0_19 : pF 0 (73, 0, 19) := t2_in (i := 47) rfl
theorem wF_0 : ∀ q ∈ ftab.getD 0 [], pF 0 q := List.forall_mem_cons.mpr ⟨wF_0_0, List.forall_mem_cons.mpr ⟨wF_0_1, List.forall_mem_cons.mpr ⟨wF_0_2, List.forall_mem_cons.mpr ⟨wF_0_3, List.forall_mem_cons.mpr ⟨wF_0_4, List.forall_mem_cons.mpr ⟨wF_0_5, List.forall_mem_cons.mpr ⟨wF_0_6, List.forall_mem_cons.mpr ⟨wF_0_7, List.forall_mem_cons.mpr ⟨wF_0_8, List.forall_mem_cons.mpr ⟨wF_0_9, List.forall_mem_cons.mpr ⟨wF_0_10, List.forall_mem_cons.mpr ⟨wF_0_11, List.forall_mem_cons.mpr ⟨wF_0_12, List.forall_mem_cons.mpr ⟨wF_0_13, List.forall_mem_cons.mpr ⟨wF_0_14, List.forall_mem_cons.mpr ⟨wF_0_15, List.forall_mem_cons.mpr ⟨wF_0_16, List.forall_mem_cons.mpr ⟨wF_0_17, List.forall_mem_cons.mpr ⟨wF_0_18, List.forall_mem_cons.mpr ⟨wF_0_19, fun _ h => absurd h List.not_mem_nil⟩⟩⟩⟩⟩⟩⟩⟩⟩⟩⟩⟩⟩⟩⟩⟩⟩⟩⟩⟩
theorem wF_1_0 : pF 1 (9, 1, 0) := t2_in (i := 160) rfl
theorem wF_1_1 : pF 1 (15, 1, 1) := t2_in (i := 162) rfl
theorem wF_1_2 : pF 1 (19, 1, 2) := t2_in (i := 164) rfl
theorem wF_1 : ∀ q ∈ ftab.getD 1 [], pF 1 q := List.forall_mem_cons.mpr ⟨wF_1_0, List.forall_mem_cons.mpr ⟨wF_1_1, List.forall_mem_cons.mpr ⟨wF_1_2, fun _ h => absurd h List.not_mem_nil⟩⟩⟩
theorem wF_2_0 : pF 2 (216, 7, 4) := t1_in (i := 155) rfl
theorem wF_2_1 : pF 2 (270, 7, 5) := t1_in (i := 159) rfl
theorem wF_2_2 : pF 2 (119, 7, 6) := t1_in (i := 161) rfl
theorem wF_2_3 : pF 2 (122, 7, 8) := t1_in (i := 166) rfl
theorem wF_2_4 : pF 2 (134, 0, 0) := t1_in (i := 233) rfl
theorem wF_2_5 : pF 2 (137, 0, 1) := t1_in (i := 236) rfl
theorem wF_2_6 : pF 2 (179, 0, 2) := t2_in (i := 1) rfl
theorem wF_2_7 : pF 2 (113, 0, 3) := t2_in (i := 3) rfl
theorem wF_2_8 : pF 2 (116, 0, 4) := t2_in (i := 7) rfl
theorem wF_2_9 : pF 2 (151, 0, 5) := t2_in (i := 10) rfl
theorem wF_2_10 : pF 2 (154, 0, 6) := t2_in (i := 14) rfl
theorem wF_2_11 : pF 2 (164, 0, 7) := t2_in (i := 17) rfl
theorem wF_2_12 : pF 2 (75, 0, 9) := t2_in (i := 21) rfl
theorem wF_2_13 : pF 2 (85, 0, 10) := t2_in (i := 24) rfl
theorem wF_2_14 : pF 2 (161, 0, 11) := t2_in (i := 27) rfl
theorem wF_2_15 : pF 2 (78, 0, 12) := t2_in (i := 30) rfl
theorem wF_2_16 : pF 2 (98, 0, 13) := t2_in (i := 33) rfl
theorem wF_2_17 : pF 2 (213, 0, 14) := t2_in (i := 37) rfl
theorem wF_2_18 : pF 2 (144, 0, 15) := t2_in (i := 39) rfl
theorem wF_2_19 : pF 2 (276, 0, 16) := t2_in (i := 41) rfl
theorem wF_2_20 : pF 2 (232, 0, 17) := t2_in (i := 43) rfl
theorem wF_2_21 : pF 2 (223, 0, 18) := t2_in (i := 46) rfl
theorem wF_2_22 : pF 2 (250, 0, 19) := t2_in (i := 48) rfl
theorem wF_2_23 : pF 2 (59, 2, 0) := t2_in (i := 90) rfl
theorem wF_2_24 : pF 2 (63, 2, 1) := t2_in (i := 91) rfl
theorem wF_2_25 : pF 2 (67, 2, 2) := t2_in (i := 92) rfl
theorem wF_2_26 : pF 2 (71, 2, 3) := t2_in (i := 93) rfl
theorem wF_2_27 : pF 2 (11, 2, 4) := t2_in (i := 94) rfl
theorem wF_2_28 : pF 2 (17, 2, 5) := t2_in (i := 96) rfl
theorem wF_2_29 : pF 2 (21, 2, 6) := t2_in (i := 98) rfl
theorem wF_2_30 : pF 2 (24, 2, 7) := t2_in (i := 100) rfl
theorem wF_2_31 : pF 2 (27, 2, 8) := t2_in (i := 102) rfl
theorem wF_2_32 : pF 2 (31, 2, 9) := t2_in (i := 104) rfl
theorem wF_2_33 : pF 2 (34, 2, 10) := t2_in (i := 106) rfl
theorem wF_2_34 : pF 2 (37, 2, 11) := t2_in (i := 108) rfl
theorem wF_2_35 : pF 2 (40, 2, 12) := t2_in (i := 109) rfl
theorem wF_2_36 : pF 2 (43, 2, 13) := t2_in (i := 110) rfl
theorem wF_2_37 : pF 2 (46, 2, 14) := t2_in (i := 111) rfl
theorem wF_2_38 : pF 2 (50, 2, 15) := t2_in (i := 113) rfl
theorem wF_2_39 : pF 2 (53, 2, 16) := t2_in (i := 114) rfl
theorem wF_2_40 : pF 2 (56, 2, 17) := t2_in (i := 115) rfl
theorem wF_2 : ∀ q ∈ ftab.getD 2 [], pF 2 q := List.forall_mem_cons.mpr ⟨wF_2_0, List.forall_mem_cons.mpr ⟨wF_2_1, List.forall_mem_cons.mpr ⟨wF_2_2, List.forall_mem_cons.mpr ⟨wF_2_3, List.forall_mem_cons.mpr ⟨wF_2_4, List.forall_mem_cons.mpr ⟨wF_2_5, List.forall_mem_cons.mpr ⟨wF_2_6, List.forall_mem_cons.mpr ⟨wF_2_7, List.forall_mem_cons.mpr ⟨wF_2_8, List.forall_mem_cons.mpr ⟨wF_2_9, List.forall_mem_cons.mpr ⟨wF_2_10, List.forall_mem_cons.mpr ⟨wF_2_11, List.forall_mem_cons.mpr ⟨wF_2_12, List.forall_mem_cons.mpr ⟨wF_2_13, List.forall_mem_cons.mpr ⟨wF_2_14, List.forall_mem_cons.mpr ⟨wF_2_15, List.forall_mem_cons.mpr ⟨wF_2_16, List.forall_mem_cons.mpr ⟨wF_2_17, List.forall_mem_cons.mpr ⟨wF_2_18, List.forall_mem_cons.mpr ⟨wF_2_19, List.forall_mem_cons.mpr ⟨wF_2_20, List.forall_mem_cons.mpr ⟨wF_2_21, List.forall_mem_cons.mpr ⟨wF_2_22, List.forall_mem_cons.mpr ⟨wF_2_23, List.forall_mem_cons.mpr ⟨wF_2_24, List.forall_mem_cons.mpr ⟨wF_2_25, List.forall_mem_cons.mpr ⟨wF_2_26, List.forall_mem_cons.mpr ⟨wF_2_27, List.forall_mem_cons.mpr ⟨wF_2_28, List.forall_mem_cons.mpr ⟨wF_2_29, List.forall_mem_cons.mpr ⟨wF_2_30, List.forall_mem_cons.mpr ⟨wF_2_31, List.forall_mem_cons.mpr ⟨wF_2_32, List.forall_mem_cons.mpr ⟨wF_2_33, List.forall_mem_cons.mpr ⟨wF_2_34, List.forall_mem_cons.mpr ⟨wF_2_35, List.forall_mem_cons.mpr ⟨wF_2_36, List.forall_mem_cons.mpr ⟨wF_2_37, List.forall_mem_cons.mpr ⟨wF_2_38, List.forall_mem_cons.mpr ⟨wF_2_39, List.forall_mem_cons.mpr ⟨wF_2_40, fun _ h => absurd h List.not_mem_nil⟩⟩⟩⟩⟩⟩⟩⟩⟩⟩⟩⟩⟩⟩⟩⟩⟩⟩⟩⟩⟩⟩⟩⟩⟩⟩⟩⟩⟩⟩⟩⟩⟩⟩⟩⟩⟩⟩⟩⟩⟩
theorem wF_3_0 : pF 3 (9, 3, 0) := t2_in (i := 178) rfl
theorem wF_3_1 : pF 3 (15, 3, 1) := t2_in (i := 180) rfl
theorem wF_3 : ∀ q ∈ ftab.getD 3 [], pF 3 q := List.forall_mem_cons.mpr ⟨wF_3_0, List.forall_mem_cons.mpr ⟨wF_3_1, fun _ h => absurd h List.not_mem_nil⟩⟩
theorem wF_4_0 : pF 4 (9, 4, 0) := t1_in (i := 37) rfl
theorem wF_4_1 : pF 4 (15, 4, 1) := t1_in (i := 39) rfl
theorem wF_4_2 : pF 4 (18, 4, 2) := t1_in (i := 41) rfl
theorem wF_4_3 : pF 4 (21, 4, 3) := t1_in (i := 43) rfl
theorem wF_4_4 : pF 4 (24, 4, 4) := t1_in (i := 45) rfl
theorem wF_4_5 : pF 4 (28, 4, 5) := t1_in (i := 47) rfl
theorem wF_4_6 : pF 4 (31, 4, 6) := t1_in (i := 49) rfl
theorem wF_4_7 : pF 4 (34, 4, 7) := t1_in (i := 50) rfl
theorem wF_4_8 : pF 4 (37, 4, 8) := t1_in (i := 51) rfl
theorem wF_4_9 : pF 4 (40, 4, 9) := t1_in (i := 52) rfl
theorem wF_4_10 : pF 4 (43, 4, 10) := t1_in (i := 53) rfl
theorem wF_4 : ∀ q ∈ ftab.getD 4 [], pF 4 q := List.forall_mem_cons.mpr ⟨wF_4_0, List.forall_mem_cons.mpr ⟨wF_4_1, List.forall_mem_cons.mpr ⟨wF_4_2, List.forall_mem_cons.mpr ⟨wF_4_3, List.forall_mem_cons.mpr ⟨wF_4_4, List.forall_mem_cons.mpr ⟨wF_4_5, List.forall_mem_cons.mpr ⟨wF_4_6, List.forall_mem_cons.mpr ⟨wF_4_7, List.forall_mem_cons.mpr ⟨wF_4_8, List.forall_mem_cons.mpr ⟨wF_4_9, List.forall_mem_cons.mpr ⟨wF_4_10, fun _ h => absurd h List.not_mem_nil⟩⟩⟩⟩⟩⟩⟩⟩⟩⟩⟩
theorem wF_5_0 : pF 5 (9, 5, 0) := t1_in (i := 107) rfl
theorem wF_5_1 : pF 5 (15, 5, 1) := t1_in (i := 110) rfl
theorem wF_5_2 : pF 5 (18, 5, 2) := t1_in (i := 113) rfl
theorem wF_5_3 : pF 5 (21, 5, 3) := t1_in (i := 116) rfl
theorem wF_5_4 : pF 5 (24, 5, 4) := t1_in (i := 119) rfl
theorem wF_5_5 : pF 5 (27, 5, 5) := t1_in (i := 122) rfl
theorem wF_5_6 : pF 5 (30, 5, 6) := t1_in (i := 125) rfl
theorem wF_5 : ∀ q ∈ ftab.getD 5 [], pF 5 q := List.forall_mem_cons.mpr ⟨wF_5_0, List.forall_mem_cons.mpr ⟨wF_5_1, List.forall_mem_cons.mpr ⟨wF_5_2, List.forall_mem_cons.mpr ⟨wF_5_3, List.forall_mem_cons.mpr ⟨wF_5_4, List.forall_mem_cons.mpr ⟨wF_5_5, List.forall_mem_cons.mpr ⟨wF_5_6, fun _ h => absurd h List.not_mem_nil⟩⟩⟩⟩⟩⟩⟩
theorem wF_6_0 : pF 6 (41, 5, 1) := t1_in (i := 112) rfl
theorem wF_6_1 : pF 6 (57, 5, 2) := t1_in (i := 114) rfl
theorem wF_6_2 : pF 6 (77, 5, 3) := t1_in (i := 118) rfl
theorem wF_6_3 : pF 6 (80, 5, 4) := t1_in (i := 121) rfl
theorem wF_6_4 : pF 6 (91, 5, 5) := t1_in (i := 123) rfl
theorem wF_6_5 : pF 6 (36, 5, 6) := t1_in (i := 127) rfl
theorem wF_6_6 : pF 6 (9, 6, 0) := t1_in (i := 200) rfl
theorem wF_6_7 : pF 6 (15, 6, 1) := t1_in (i := 201) rfl
theorem wF_6_8 : pF 6 (19, 6, 2) := t1_in (i := 203) rfl
theorem wF_6_9 : pF 6 (22, 6, 3) := t1_in (i := 205) rfl
theorem wF_6_10 : pF 6 (25, 6, 4) := t1_in (i := 207) rfl
theorem wF_6 : ∀ q ∈ ftab.getD 6 [], pF 6 q := List.forall_mem_cons.mpr ⟨wF_6_0, List.forall_mem_cons.mpr ⟨wF_6_1, List.forall_mem_cons.mpr ⟨wF_6_2, List.forall_mem_cons.mpr ⟨wF_6_3, List.forall_mem_cons.mpr ⟨wF_6_4, List.forall_mem_cons.mpr ⟨wF_6_5, List.forall_mem_cons.mpr ⟨wF_6_6, List.forall_mem_cons.mpr ⟨wF_6_7, List.forall_mem_cons.mpr ⟨wF_6_8, List.forall_mem_cons.mpr ⟨wF_6_9, List.forall_mem_cons.mpr ⟨wF_6_10, fun _ h => absurd h List.not_mem_nil⟩⟩⟩⟩⟩⟩⟩⟩⟩⟩⟩
theorem wF_7_0 : pF 7 (75, 5, 0) := t1_in (i := 108) rfl
theorem wF_7_1 : pF 7 (63, 5, 1) := t1_in (i := 111) rfl
theorem wF_7_2 : pF 7 (81, 5, 2) := t1_in (i := 115) rfl
theorem wF_7_3 : pF 7 (78, 5, 3) := t1_in (i := 117) rfl
theorem wF_7_4 : pF 7 (84, 5, 4) := t1_in (i := 120) rfl
theorem wF_7_5 : pF 7 (101, 5, 5) := t1_in (i := 124) rfl
theorem wF_7_6 : pF 7 (69, 5, 6) := t1_in (i := 126) rfl
theorem wF_7_7 : pF 7 (43, 7, 0) := t1_in (i := 150) rfl
theorem wF_7_8 : pF 7 (9, 7, 1) := t1_in (i := 151) rfl
theorem wF_7_9 : pF 7 (15, 7, 2) := t1_in (i := 152) rfl
theorem wF_7_10 : pF 7 (19, 7, 3) := t1_in (i := 153) rfl
theorem wF_7_11 : pF 7 (22, 7, 4) := t1_in (i := 154) rfl
theorem wF_7_12 : pF 7 (25, 7, 5) := t1_in (i := 157) rfl
theorem wF_7_13 : pF 7 (28, 7, 6) := t1_in (i := 160) rfl
theorem wF_7_14 : pF 7 (31, 7, 7) := t1_in (i := 163) rfl
theorem wF_7_15 : pF 7 (34, 7, 8) := t1_in (i := 165) rfl
theorem wF_7_16 : pF 7 (37, 7, 9) := t1_in (i := 168) rfl
theorem wF_7_17 : pF 7 (40, 7, 10) := t1_in (i := 170) rfl
theorem wF_7_18 : pF 7 (117, 0, 2) := t2_in (i := 0) rfl
theorem wF_7_19 : pF 7 (110, 0, 3) := t2_in (i := 5) rfl
theorem wF_7_20 : pF 7 (114, 0, 5) := t2_in (i := 12) rfl
theorem wF_7_21 : pF 7 (120, 0, 18) := t2_in (i := 45) rfl
theorem wF_7 : ∀ q ∈ ftab.getD 7 [], pF 7 q := List.forall_mem_cons.mpr ⟨wF_7_0, List.forall_mem_cons.mpr ⟨wF_7_1, List.forall_mem_cons.mpr ⟨wF_7_2, List.forall_mem_cons.mpr ⟨wF_7_3, List.forall_mem_cons.mpr ⟨wF_7_4, List.forall_mem_cons.mpr ⟨wF_7_5, List.forall_mem_cons.mpr ⟨wF_7_6, List.forall_mem_cons.mpr ⟨wF_7_7, List.forall_mem_cons.mpr ⟨wF_7_8, List.forall_mem_cons.mpr ⟨wF_7_9, List.forall_mem_cons.mpr ⟨wF_7_10, List.forall_mem_cons.mpr ⟨wF_7_11, List.forall_mem_cons.mpr ⟨wF_7_12, List.forall_mem_cons.mpr ⟨wF_7_13, List.forall_mem_cons.mpr ⟨wF_7_14, List.forall_mem_cons.mpr ⟨wF_7_15, List.forall_mem_cons.mpr ⟨wF_7_16, List.forall_mem_cons.mpr ⟨wF_7_17, List.forall_mem_cons.mpr ⟨wF_7_18, List.forall_mem_cons.mpr ⟨wF_7_19, List.forall_mem_cons.mpr ⟨wF_7_20, List.forall_mem_cons.mpr ⟨wF_7_21, fun _ h => absurd h List.not_mem_nil⟩⟩⟩⟩⟩⟩⟩⟩⟩⟩⟩⟩⟩⟩⟩⟩⟩⟩⟩⟩⟩⟩
theorem wF_8_0 : pF 8 (9, 8, 0) := t1_in (i := 84) rfl
theorem wF_8_1 : pF 8 (15, 8, 1) := t1_in (i := 85) rfl
theorem wF_8_2 : pF 8 (18, 8, 2) := t1_in (i := 86) rfl
theorem wF_8_3 : pF 8 (21, 8, 3) := t1_in (i := 87) rfl
theorem wF_8_4 : pF 8 (24, 8, 4) := t1_in (i := 88) rfl
theorem wF_8 : ∀ q ∈ ftab.getD 8 [], pF 8 q := List.forall_mem_cons.mpr ⟨wF_8_0, List.forall_mem_cons.mpr ⟨wF_8_1, List.forall_mem_cons.mpr ⟨wF_8_2, List.forall_mem_cons.mpr ⟨wF_8_3, List.forall_mem_cons.mpr ⟨wF_8_4, fun _ h => absurd h List.not_mem_nil⟩⟩⟩⟩⟩
theorem wF_9_0 : pF 9 (120, 4, 0) := t1_in (i := 38) rfl
theorem wF_9_1 : pF 9 (123, 4, 1) := t1_in (i := 40) rfl
theorem wF_9_2 : pF 9 (126, 4, 2) := t1_in (i := 42) rfl
theorem wF_9_3 : pF 9 (346, 4, 3) := t1_in (i := 44) rfl
theorem wF_9_4 : pF 9 (93, 4, 4) := t1_in (i := 46) rfl
theorem wF_9_5 : pF 9 (154, 4, 5) := t1_in (i := 48) rfl
theorem wF_9_6 : pF 9 (114, 8, 4) := t1_in (i := 89) rfl
theorem wF_9_7 : pF 9 (287, 5, 0) := t1_in (i := 109) rfl
theorem wF_9_8 : pF 9 (150, 5, 6) := t1_in (i := 128) rfl
theorem wF_9_9 : pF 9 (299, 7, 4) := t1_in (i := 156) rfl
theorem wF_9_10 : pF 9 (302, 7, 5) := t1_in (i := 158) rfl
theorem wF_9_11 : pF 9 (305, 7, 6) := t1_in (i := 162) rfl
theorem wF_9_12 : pF 9 (178, 7, 7) := t1_in (i := 164) rfl
theorem wF_9_13 : pF 9 (308, 7, 8) := t1_in (i := 167) rfl
theorem wF_9_14 : pF 9 (311, 7, 9) := t1_in (i := 169) rfl
theorem wF_9_15 : pF 9 (157, 6, 1) := t1_in (i := 202) rfl
theorem wF_9_16 : pF 9 (284, 6, 2) := t1_in (i := 204) rfl
theorem wF_9_17 : pF 9 (290, 6, 3) := t1_in (i := 206) rfl
theorem wF_9_18 : pF 9 (209, 0, 0) := t1_in (i := 234) rfl
theorem wF_9_19 : pF 9 (212, 0, 1) := t1_in (i := 237) rfl
theorem wF_9_20 : pF 9 (215, 0, 2) := t1_in (i := 239) rfl
theorem wF_9_21 : pF 9 (219, 0, 3) := t2_in (i := 4) rfl
theorem wF_9_22 : pF 9 (222, 0, 4) := t2_in (i := 8) rfl
theorem wF_9_23 : pF 9 (225, 0, 5) := t2_in (i := 11) rfl
theorem wF_9_24 : pF 9 (237, 0, 6) := t2_in (i := 15) rfl
theorem wF_9_25 : pF 9 (205, 0, 8) := t2_in (i := 19) rfl
theorem wF_9_26 : pF 9 (200, 0, 9) := t2_in (i := 22) rfl
theorem wF_9_27 : pF 9 (228, 0, 10) := t2_in (i := 25) rfl
theorem wF_9_28 : pF 9 (231, 0, 11) := t2_in (i := 28) rfl
theorem wF_9_29 : pF 9 (234, 0, 12) := t2_in (i := 31) rfl
theorem wF_9_30 : pF 9 (247, 0, 13) := t2_in (i := 34) rfl
theorem wF_9_31 : pF 9 (240, 0, 14) := t2_in (i := 36) rfl
theorem wF_9_32 : pF 9 (196, 2, 4) := t2_in (i := 95) rfl
theorem wF_9_33 : pF 9 (146, 2, 5) := t2_in (i := 97) rfl
theorem wF_9_34 : pF 9 (129, 2, 6) := t2_in (i := 99) rfl
theorem wF_9_35 : pF 9 (147, 2, 7) := t2_in (i := 101) rfl
theorem wF_9_36 : pF 9 (140, 2, 8) := t2_in (i := 103) rfl
theorem wF_9_37 : pF 9 (143, 2, 9) := t2_in (i := 105) rfl
theorem wF_9_38 : pF 9 (108, 2, 10) := t2_in (i := 107) rfl
theorem wF_9_39 : pF 9 (356, 2, 14) := t2_in (i := 112) rfl
theorem wF_9_40 : pF 9 (151, 1, 0) := t2_in (i := 161) rfl
theorem wF_9_41 : pF 9 (324, 1, 1) := t2_in (i := 163) rfl
theorem wF_9_42 : pF 9 (330, 3, 0) := t2_in (i := 179) rfl
theorem wF_9_43 : pF 9 (339, 3, 1) := t2_in (i := 181) rfl
theorem wF_9_44 : pF 9 (12, 9, 0) := t2_in (i := 187) rfl
theorem wF_9_45 : pF 9 (19, 9, 1) := t2_in (i := 188) rfl
theorem wF_9_46 : pF 9 (23, 9, 2) := t2_in (i := 189) rfl
theorem wF_9_47 : pF 9 (30, 9, 3) := t2_in (i := 190) rfl
theorem wF_9_48 : pF 9 (39, 9, 4) := t2_in (i := 191) rfl
theorem wF_9_49 : pF 9 (46, 9, 5) := t2_in (i := 192) rfl
theorem wF_9_50 : pF 9 (55, 9, 6) := t2_in (i := 193) rfl
theorem wF_9_51 : pF 9 (62, 9, 7) := t2_in (i := 194) rfl
theorem wF_9_52 : pF 9 (69, 9, 8) := t2_in (i := 195) rfl
theorem wF_9_53 : pF 9 (73, 9, 9) := t2_in (i := 196) rfl
theorem wF_9_54 : pF 9 (76, 9, 10) := t2_in (i := 197) rfl
theorem wF_9_55 : pF 9 (79, 9, 11) := t2_in (i := 198) rfl
theorem wF_9 : ∀ q ∈ ftab.getD 9 [], pF 9 q := List.forall_mem_cons.mpr ⟨wF_9_0, List.forall_mem_cons.mpr ⟨wF_9_1, List.forall_mem_cons.mpr ⟨wF_9_2, List.forall_mem_cons.mpr ⟨wF_9_3, List.forall_mem_cons.mpr ⟨wF_9_4, List.forall_mem_cons.mpr ⟨wF_9_5, List.forall_mem_cons.mpr ⟨wF_9_6, List.forall_mem_cons.mpr ⟨wF_9_7, List.forall_mem_cons.mpr ⟨wF_9_8, List.forall_mem_cons.mpr ⟨wF_9_9, List.forall_mem_cons.mpr ⟨wF_9_10, List.forall_mem_cons.mpr ⟨wF_9_11, List.forall_mem_cons.mpr ⟨wF_9_12, List.forall_mem_cons.mpr ⟨wF_9_13, List.forall_mem_cons.mpr ⟨wF_9_14, List.forall_mem_cons.mpr ⟨wF_9_15, List.forall_mem_cons.mpr ⟨wF_9_16, List.forall_mem_cons.mpr ⟨wF_9_17, List.forall_mem_cons.mpr ⟨wF_9_18, List.forall_mem_cons.mpr ⟨wF_9_19, List.forall_mem_cons.mpr ⟨wF_9_20, List.forall_mem_cons.mpr ⟨wF_9_21, List.forall_mem_cons.mpr ⟨wF_9_22, List.forall_mem_cons.mpr ⟨wF_9_23, List.forall_mem_cons.mpr ⟨wF_9_24, List.forall_mem_cons.mpr ⟨wF_9_25, List.forall_mem_cons.mpr ⟨wF_9_26, List.forall_mem_cons.mpr ⟨wF_9_27, List.forall_mem_cons.mpr ⟨wF_9_28, List.forall_mem_cons.mpr ⟨wF_9_29, List.forall_mem_cons.mpr ⟨wF_9_30, List.forall_mem_cons.mpr ⟨wF_9_31, List.forall_mem_cons.mpr ⟨wF_9_32, List.forall_mem_cons.mpr ⟨wF_9_33, List.forall_mem_cons.mpr ⟨wF_9_34, List.forall_mem_cons.mpr ⟨wF_9_35, List.forall_mem_cons.mpr ⟨wF_9_36, List.forall_mem_cons.mpr ⟨wF_9_37, List.forall_mem_cons.mpr ⟨wF_9_38, List.forall_mem_cons.mpr ⟨wF_9_39, List.forall_mem_cons.mpr ⟨wF_9_40, List.forall_mem_cons.mpr ⟨wF_9_41, List.forall_mem_cons.mpr ⟨wF_9_42, List.forall_mem_cons.mpr ⟨wF_9_43, List.forall_mem_cons.mpr ⟨wF_9_44, List.forall_mem_cons.mpr ⟨wF_9_45, List.forall_mem_cons.mpr ⟨wF_9_46, List.forall_mem_cons.mpr ⟨wF_9_47, List.forall_mem_cons.mpr ⟨wF_9_48, List.forall_mem_cons.mpr ⟨wF_9_49, List.forall_mem_cons.mpr ⟨wF_9_50, List.forall_mem_cons.mpr ⟨wF_9_51, List.forall_mem_cons.mpr ⟨wF_9_52, List.forall_mem_cons.mpr ⟨wF_9_53, List.forall_mem_cons.mpr ⟨wF_9_54, List.forall_mem_cons.mpr ⟨wF_9_55, fun _ h => absurd h List.not_mem_nil⟩⟩⟩⟩⟩⟩⟩⟩⟩⟩⟩⟩⟩⟩⟩⟩⟩⟩⟩⟩⟩⟩⟩⟩⟩⟩⟩⟩⟩⟩⟩⟩⟩⟩⟩⟩⟩⟩⟩⟩⟩⟩⟩⟩⟩⟩⟩⟩⟩⟩⟩⟩⟩⟩⟩⟩
theorem wF_10_0 : pF 10 (187, 10, 0) := t5_in (i := 87) rfl
theorem wF_10_1 : pF 10 (228, 10, 1) := t5_in (i := 88) rfl
theorem wF_10_2 : pF 10 (7, 10, 2) := t5_in (i := 89) rfl
theorem wF_10_3 : pF 10 (13, 10, 3) := t5_in (i := 90) rfl
theorem wF_10_4 : pF 10 (16, 10, 4) := t5_in (i := 91) rfl
theorem wF_10_5 : pF 10 (216, 10, 5) := t5_in (i := 92) rfl
theorem wF_10_6 : pF 10 (19, 10, 6) := t5_in (i := 93) rfl
theorem wF_10_7 : pF 10 (22, 10, 7) := t5_in (i := 94) rfl
theorem wF_10_8 : pF 10 (25, 10, 8) := t5_in (i := 95) rfl
theorem wF_10_9 : pF 10 (28, 10, 9) := t5_in (i := 96) rfl
theorem wF_10_10 : pF 10 (31, 10, 10) := t5_in (i := 97) rfl
theorem wF_10_11 : pF 10 (202, 10, 11) := t5_in (i := 98) rfl
theorem wF_10_12 : pF 10 (34, 10, 12) := t5_in (i := 99) rfl
theorem wF_10_13 : pF 10 (37, 10, 13) := t5_in (i := 100) rfl
theorem wF_10_14 : pF 10 (40, 10, 14) := t5_in (i := 101) rfl
theorem wF_10_15 : pF 10 (225, 10, 15) := t5_in (i := 102) rfl
theorem wF_10_16 : pF 10 (43, 10, 16) := t5_in (i := 103) rfl
theorem wF_10_17 : pF 10 (331, 10, 17) := t5_in (i := 104) rfl
theorem wF_10_18 : pF 10 (46, 10, 18) := t5_in (i := 105) rfl
theorem wF_10_19 : pF 10 (49, 10, 19) := t5_in (i := 106) rfl
theorem wF_10_20 : pF 10 (52, 10, 20) := t5_in (i := 107) rfl
theorem wF_10_21 : pF 10 (55, 10, 21) := t5_in (i := 108) rfl
theorem wF_10_22 : pF 10 (58, 10, 22) := t5_in (i := 109) rfl
theorem wF_10_23 : pF 10 (61, 10, 23) := t5_in (i := 110) rfl
theorem wF_10_24 : pF 10 (340, 10, 24) := t5_in (i := 111) rfl
theorem wF_10_25 : pF 10 (64, 10, 25) := t5_in (i := 112) rfl
theorem wF_10_26 : pF 10 (271, 10, 26) := t5_in (i := 113) rfl
theorem wF_10_27 : pF 10 (276, 10, 27) := t5_in (i := 114) rfl
theorem wF_10_28 : pF 10 (279, 10, 28) := t5_in (i := 115) rfl
theorem wF_10_29 : pF 10 (67, 10, 29) := t5_in (i := 116) rfl
theorem wF_10_30 : pF 10 (286, 10, 30) := t5_in (i := 117) rfl
theorem wF_10_31 : pF 10 (293, 10, 31) := t5_in (i := 118) rfl
theorem wF_10_32 : pF 10 (71, 10, 32) := t5_in (i := 119) rfl
theorem wF_10_33 : pF 10 (75, 10, 33) := t5_in (i := 120) rfl
theorem wF_10_34 : pF 10 (343, 10, 34) := t5_in (i := 121) rfl
theorem wF_10_35 : pF 10 (78, 10, 35) := t5_in (i := 122) rfl
theorem wF_10_36 : pF 10 (349, 10, 36) := t5_in (i := 123) rfl
theorem wF_10_37 : pF 10 (352, 10, 37) := t5_in (i := 124) rfl
theorem wF_10_38 : pF 10 (378, 10, 38) := t5_in (i := 125) rfl
theorem wF_10_39 : pF 10 (372, 10, 39) := t5_in (i := 126) rfl
theorem wF_10_40 : pF 10 (81, 10, 40) := t5_in (i := 127) rfl
theorem wF_10_41 : pF 10 (84, 10, 41) := t5_in (i := 128) rfl
theorem wF_10_42 : pF 10 (87, 10, 42) := t5_in (i := 129) rfl
theorem wF_10_43 : pF 10 (90, 10, 43) := t5_in (i := 130) rfl
theorem wF_10_44 : pF 10 (93, 10, 44) := t5_in (i := 131) rfl
theorem wF_10_45 : pF 10 (96, 10, 45) := t5_in (i := 132) rfl
theorem wF_10_46 : pF 10 (99, 10, 46) := t5_in (i := 133) rfl
theorem wF_10_47 : pF 10 (102, 10, 47) := t5_in (i := 134) rfl
theorem wF_10_48 : pF 10 (105, 10, 48) := t5_in (i := 135) rfl
theorem wF_10_49 : pF 10 (108, 10, 49) := t5_in (i := 136) rfl
theorem wF_10_50 : pF 10 (111, 10, 50) := t5_in (i := 137) rfl
theorem wF_10_51 : pF 10 (114, 10, 51) := t5_in (i := 138) rfl
theorem wF_10_52 : pF 10 (117, 10, 52) := t5_in (i := 139) rfl
theorem wF_10_53 : pF 10 (120, 10, 53) := t5_in (i := 140) rfl
theorem wF_10_54 : pF 10 (123, 10, 54) := t5_in (i := 141) rfl
theorem wF_10_55 : pF 10 (126, 10, 55) := t5_in (i := 142) rfl
theorem wF_10_56 : pF 10 (129, 10, 56) := t5_in (i := 143) rfl
theorem wF_10_57 : pF 10 (132, 10, 57) := t5_in (i := 144) rfl
theorem wF_10_58 : pF 10 (135, 10, 58) := t5_in (i := 145) rfl
theorem wF_10_59 : pF 10 (418, 10, 59) := t5_in (i := 146) rfl
theorem wF_10_60 : pF 10 (138, 10, 60) := t5_in (i := 147) rfl
theorem wF_10_61 : pF 10 (141, 10, 61) := t5_in (i := 148) rfl
theorem wF_10_62 : pF 10 (144, 10, 62) := t5_in (i := 149) rfl
theorem wF_10_63 : pF 10 (147, 10, 63) := t5_in (i := 150) rfl
theorem wF_10_64 : pF 10 (437, 10, 64) := t5_in (i := 151) rfl
theorem wF_10_65 : pF 10 (150, 10, 65) := t5_in (i := 152) rfl
theorem wF_10_66 : pF 10 (481, 10, 66) := t5_in (i := 153) rfl
theorem wF_10_67 : pF 10 (153, 10, 67) := t5_in (i := 154) rfl
theorem wF_10_68 : pF 10 (499, 10, 68) := t5_in (i := 155) rfl
theorem wF_10_69 : pF 10 (156, 10, 69) := t5_in (i := 156) rfl
theorem wF_10_70 : pF 10 (159, 10, 70) := t5_in (i := 157) rfl
theorem wF_10_71 : pF 10 (162, 10, 71) := t5_in (i := 158) rfl
theorem wF_10_72 : pF 10 (484, 10, 72) := t5_in (i := 159) rfl
theorem wF_10_73 : pF 10 (165, 10, 73) := t5_in (i := 160) rfl
theorem wF_10_74 : pF 10 (168, 10, 74) := t5_in (i := 161) rfl
theorem wF_10_75 : pF 10 (171, 10, 75) := t5_in (i := 162) rfl
theorem wF_10_76 : pF 10 (174, 10, 76) := t5_in (i := 163) rfl
theorem wF_10_77 : pF 10 (177, 10, 77) := t5_in (i := 164) rfl
theorem wF_10_78 : pF 10 (526, 10, 78) := t5_in (i := 165) rfl
theorem wF_10_79 : pF 10 (529, 10, 79) := t5_in (i := 166) rfl
theorem wF_10_80 : pF 10 (532, 10, 80) := t5_in (i := 167) rfl
theorem wF_10_81 : pF 10 (535, 10, 81) := t5_in (i := 168) rfl
theorem wF_10_82 : pF 10 (538, 10, 82) := t5_in (i := 169) rfl
theorem wF_10 : ∀ q ∈ ftab.getD 10 [], pF 10 q := List.forall_mem_cons.mpr ⟨wF_10_0, List.forall_mem_cons.mpr ⟨wF_10_1, List.forall_mem_cons.mpr ⟨wF_10_2, List.forall_mem_cons.mpr ⟨wF_10_3, List.forall_mem_cons.mpr ⟨wF_10_4, List.forall_mem_cons.mpr ⟨wF_10_5, List.forall_mem_cons.mpr ⟨wF_10_6, List.forall_mem_cons.mpr ⟨wF_10_7, List.forall_mem_cons.mpr ⟨wF_10_8, List.forall_mem_cons.mpr ⟨wF_10_9, List.forall_mem_cons.mpr ⟨wF_10_10, List.forall_mem_cons.mpr ⟨wF_10_11, List.forall_mem_cons.mpr ⟨wF_10_12, List.forall_mem_cons.mpr ⟨wF_10_13, List.forall_mem_cons.mpr ⟨wF_10_14, List.forall_mem_cons.mpr ⟨wF_10_15, List.forall_mem_cons.mpr ⟨wF_10_16, List.forall_mem_cons.mpr ⟨wF_10_17, List.forall_mem_cons.mpr ⟨wF_10_18, List.forall_mem_cons.mpr ⟨wF_10_19, List.forall_mem_cons.mpr ⟨wF_10_20, List.forall_mem_cons.mpr ⟨wF_10_21, List.forall_mem_cons.mpr ⟨wF_10_22, List.forall_mem_cons.mpr ⟨wF_10_23, List.forall_mem_cons.mpr ⟨wF_10_24, List.forall_mem_cons.mpr ⟨wF_10_25, List.forall_mem_cons.mpr ⟨wF_10_26, List.forall_mem_cons.mpr ⟨wF_10_27, List.forall_mem_cons.mpr ⟨wF_10_28, List.forall_mem_cons.mpr ⟨wF_10_29, List.forall_mem_cons.mpr ⟨wF_10_30, List.forall_mem_cons.mpr ⟨wF_10_31, List.forall_mem_cons.mpr ⟨wF_10_32, List.forall_mem_cons.mpr ⟨wF_10_33, List.forall_mem_cons.mpr ⟨wF_10_34, List.forall_mem_cons.mpr ⟨wF_10_35, List.forall_mem_cons.mpr ⟨wF_10_36, List.forall_mem_cons.mpr ⟨wF_10_37, List.forall_mem_cons.mpr ⟨wF_10_38, List.forall_mem_cons.mpr ⟨wF_10_39, List.forall_mem_cons.mpr ⟨wF_10_40, List.forall_mem_cons.mpr ⟨wF_10_41, List.forall_mem_cons.mpr ⟨wF_10_42, List.forall_mem_cons.mpr ⟨wF_10_43, List.forall_mem_cons.mpr ⟨wF_10_44, List.forall_mem_cons.mpr ⟨wF_10_45, List.forall_mem_cons.mpr ⟨wF_10_46, List.forall_mem_cons.mpr ⟨wF_10_47, List.forall_mem_cons.mpr ⟨wF_10_48, List.forall_mem_cons.mpr ⟨wF_10_49, List.forall_mem_cons.mpr ⟨wF_10_50, List.forall_mem_cons.mpr ⟨wF_10_51, List.forall_mem_cons.mpr ⟨wF_10_52, List.forall_mem_cons.mpr ⟨wF_10_53, List.forall_mem_cons.mpr ⟨wF_10_54, List.forall_mem_cons.mpr ⟨wF_10_55, List.forall_mem_cons.mpr ⟨wF_10_56, List.forall_mem_cons.mpr ⟨wF_10_57, List.forall_mem_cons.mpr ⟨wF_10_58, List.forall_mem_cons.mpr ⟨wF_10_59, List.forall_mem_cons.mpr ⟨wF_10_60, List.forall_mem_cons.mpr ⟨wF_10_61, List.forall_mem_cons.mpr ⟨wF_10_62, List.forall_mem_cons.mpr ⟨wF_10_63, List.forall_mem_cons.mpr ⟨wF_10_64, List.forall_mem_cons.mpr ⟨wF_10_65, List.forall_mem_cons.mpr ⟨wF_10_66, List.forall_mem_cons.mpr ⟨wF_10_67, List.forall_mem_cons.mpr ⟨wF_10_68, List.forall_mem_cons.mpr ⟨wF_10_69, List.forall_mem_cons.mpr ⟨wF_10_70, List.forall_mem_cons.mpr ⟨wF_10_71, List.forall_mem_cons.mpr ⟨wF_10_72, List.forall_mem_cons.mpr ⟨wF_10_73, List.forall_mem_cons.mpr ⟨wF_10_74, List.forall_mem_cons.mpr ⟨wF_10_75, List.forall_mem_cons.mpr ⟨wF_10_76, List.forall_mem_cons.mpr ⟨wF_10_77, List.forall_mem_cons.mpr ⟨wF_10_78, List.forall_mem_cons.mpr ⟨wF_10_79, List.forall_mem_cons.mpr ⟨wF_10_80, List.forall_mem_cons.mpr ⟨wF_10_81, List.forall_mem_cons.mpr ⟨wF_10_82, fun _ h => absurd h List.not_mem_nil⟩⟩⟩⟩⟩⟩⟩⟩⟩⟩⟩⟩⟩⟩⟩⟩⟩⟩⟩⟩⟩⟩⟩⟩⟩⟩⟩⟩⟩⟩⟩⟩⟩⟩⟩⟩⟩⟩⟩⟩⟩⟩⟩⟩⟩⟩⟩⟩⟩⟩⟩⟩⟩⟩⟩⟩⟩⟩⟩⟩⟩⟩⟩⟩⟩⟩⟩⟩⟩⟩⟩⟩⟩⟩⟩⟩⟩⟩⟩⟩⟩⟩⟩
theorem wF_11 : ∀ q ∈ ftab.getD 11 [], pF 11 q := fun _ h => absurd h List.not_mem_nil
theorem wF_12 : ∀ q ∈ ftab.getD 12 [], pF 12 q := fun _ h => absurd h List.not_mem_nil
theorem wF_13 : ∀ q ∈ ftab.getD 13 [], pF 13 q := fun _ h => absurd h List.not_mem_nil
theorem wF_all : ∀ c, c < 14 → ∀ q ∈ ftab.getD c [], pF c q := fun c hc => match c, hc with
  | 0, _ => wF_0
  | 1, _ => wF_1
  | 2, _ => wF_2
  | 3, _ => wF_3
  | 4, _ => wF_4
  | 5, _ => wF_5
  | 6, _ => wF_6
  | 7, _ => wF_7
  | 8, _ => wF_8
  | 9, _ => wF_9
  | 10, _ => wF_10
  | 11, _ => wF_11
  | 12, _ => wF_12
  | 13, _ => wF_13
  | n + 14, h => absurd h (by omega)
theorem wC_0_0 : pC 0 (3, 5, 0) := ⟨t1_in (i := 231) rfl, t1_in (i := 25) rfl, t1_in (i := 26) rfl⟩
theorem wC_0_1 : pC 0 (87, 1, 56) := ⟨t4_in (i := 34) rfl, t3_in (i := 175) rfl⟩
theorem wC_0_2 : pC 0 (77, 0, 93) := ⟨t4_in (i := 87) rfl, t4_in (i := 88) rfl, t4_in (i := 89) rfl⟩
theorem wC_0_3 : pC 0 (81, 9, 0) := ⟨t4_in (i := 91) rfl, t4_in (i := 92) rfl, t1_in (i := 12) rfl, t4_in (i := 93) rfl⟩
theorem wC_0 : ∀ q ∈ ctab.getD 0 [], pC 0 q := List.forall_mem_cons.mpr ⟨wC_0_0, List.forall_mem_cons.mpr ⟨wC_0_1, List.forall_mem_cons.mpr ⟨wC_0_2, List.forall_mem_cons.mpr ⟨wC_0_3, fun _ h => absurd h List.not_mem_nil⟩⟩⟩⟩
theorem wC_1_0 : pC 1 (3, 5, 0) := ⟨t2_in (i := 158) rfl, t1_in (i := 25) rfl, t1_in (i := 26) rfl⟩
theorem wC_1_1 : pC 1 (24, 0, 116) := ⟨t5_in (i := 1) rfl, t5_in (i := 3) rfl, tp3_in (i := 9) rfl⟩
theorem wC_1_2 : pC 1 (32, 11, 0) := ⟨t5_in (i := 5) rfl, t3_in (i := 87) rfl, t1_in (i := 12) rfl, t3_in (i := 88) rfl⟩
theorem wC_1_3 : pC 1 (28, 0, 117) := ⟨t5_in (i := 6) rfl, t5_in (i := 8) rfl, tp3_in (i := 10) rfl⟩
theorem wC_1_4 : pC 1 (38, 0, 120) := ⟨t5_in (i := 18) rfl, t5_in (i := 19) rfl, t5_in (i := 20) rfl⟩
theorem wC_1 : ∀ q ∈ ctab.getD 1 [], pC 1 q := List.forall_mem_cons.mpr ⟨wC_1_0, List.forall_mem_cons.mpr ⟨wC_1_1, List.forall_mem_cons.mpr ⟨wC_1_2, List.forall_mem_cons.mpr ⟨wC_1_3, List.forall_mem_cons.mpr ⟨wC_1_4, fun _ h => absurd h List.not_mem_nil⟩⟩⟩⟩⟩
theorem wC_2_0 : pC 2 (3, 5, 0) := ⟨t1_in (i := 224) rfl, t1_in (i := 25) rfl, t1_in (i := 26) rfl⟩
theorem wC_2_1 : pC 2 (74, 4, 8) := ⟨t1_in (i := 228) rfl, t1_in (i := 229) rfl⟩
theorem wC_2_2 : pC 2 (81, 0, 27) := ⟨t3_in (i := 50) rfl, t3_in (i := 51) rfl, t3_in (i := 52) rfl⟩
theorem wC_2_3 : pC 2 (88, 0, 28) := ⟨t3_in (i := 54) rfl, t3_in (i := 55) rfl, t3_in (i := 56) rfl⟩
theorem wC_2_4 : pC 2 (94, 0, 36) := ⟨t3_in (i := 89) rfl, t3_in (i := 90) rfl, t3_in (i := 91) rfl⟩
theorem wC_2_5 : pC 2 (101, 1, 37) := ⟨t3_in (i := 93) rfl, t3_in (i := 94) rfl⟩
theorem wC_2_6 : pC 2 (107, 0, 38) := ⟨t3_in (i := 96) rfl, t3_in (i := 97) rfl, t3_in (i := 98) rfl⟩
theorem wC_2_7 : pC 2 (110, 0, 39) := ⟨t3_in (i := 100) rfl, t3_in (i := 101) rfl, t3_in (i := 102) rfl⟩
theorem wC_2_8 : pC 2 (140, 0, 44) := ⟨t3_in (i := 123) rfl, t3_in (i := 124) rfl, t3_in (i := 125) rfl⟩
theorem wC_2_9 : pC 2 (147, 0, 48) := ⟨t3_in (i := 139) rfl, t3_in (i := 140) rfl, t3_in (i := 141) rfl⟩
theorem wC_2_10 : pC 2 (157, 0, 52) := ⟨t3_in (i := 155) rfl, t3_in (i := 157) rfl, tp1_in (i := 11) rfl⟩
theorem wC_2_11 : pC 2 (167, 0, 58) := ⟨t3_in (i := 226) rfl, t3_in (i := 182) rfl, t3_in (i := 183) rfl⟩
theorem wC_2_12 : pC 2 (189, 0, 71) := ⟨t3_in (i := 231) rfl, t3_in (i := 232) rfl, t3_in (i := 233) rfl⟩
theorem wC_2_13 : pC 2 (194, 0, 72) := ⟨t3_in (i := 235) rfl, t3_in (i := 237) rfl, tp2_in (i := 0) rfl⟩
theorem wC_2_14 : pC 2 (209, 0, 73) := ⟨t3_in (i := 239) rfl, t4_in (i := 1) rfl, tp2_in (i := 1) rfl⟩
theorem wC_2_15 : pC 2 (197, 0, 74) := ⟨t4_in (i := 3) rfl, t4_in (i := 5) rfl, tp2_in (i := 2) rfl⟩
theorem wC_2_16 : pC 2 (219, 0, 75) := ⟨t4_in (i := 7) rfl, t4_in (i := 8) rfl, t4_in (i := 9) rfl⟩
theorem wC_2_17 : pC 2 (226, 0, 76) := ⟨t4_in (i := 12) rfl, t4_in (i := 13) rfl, t4_in (i := 14) rfl⟩
theorem wC_2_18 : pC 2 (200, 0, 78) := ⟨t4_in (i := 22) rfl, t4_in (i := 24) rfl, tp2_in (i := 3) rfl⟩
theorem wC_2_19 : pC 2 (236, 0, 79) := ⟨t4_in (i := 26) rfl, t4_in (i := 28) rfl, tp2_in (i := 4) rfl⟩
theorem wC_2_20 : pC 2 (243, 0, 80) := ⟨t4_in (i := 30) rfl, t4_in (i := 31) rfl, t4_in (i := 32) rfl⟩
theorem wC_2_21 : pC 2 (246, 0, 81) := ⟨t4_in (i := 35) rfl, t4_in (i := 37) rfl, tp2_in (i := 5) rfl⟩
theorem wC_2_22 : pC 2 (239, 0, 82) := ⟨t4_in (i := 39) rfl, t4_in (i := 41) rfl, tp2_in (i := 6) rfl⟩
theorem wC_2_23 : pC 2 (254, 0, 83) := ⟨t4_in (i := 43) rfl, t4_in (i := 45) rfl, tp2_in (i := 7) rfl⟩
theorem wC_2_24 : pC 2 (203, 0, 84) := ⟨t4_in (i := 47) rfl, t4_in (i := 49) rfl, tp2_in (i := 8) rfl⟩
theorem wC_2_25 : pC 2 (258, 6, 0) := ⟨t4_in (i := 51) rfl, t4_in (i := 53) rfl, t4_in (i := 52) rfl, t1_in (i := 14) rfl⟩
theorem wC_2_26 : pC 2 (264, 0, 85) := ⟨t4_in (i := 54) rfl, t4_in (i := 56) rfl, tp2_in (i := 9) rfl⟩
theorem wC_2_27 : pC 2 (273, 0, 86) := ⟨t4_in (i := 58) rfl, t4_in (i := 60) rfl, tp2_in (i := 10) rfl⟩
theorem wC_2_28 : pC 2 (279, 1, 87) := ⟨t4_in (i := 62) rfl, t4_in (i := 63) rfl⟩
theorem wC_2_29 : pC 2 (282, 1, 56) := ⟨t4_in (i := 65) rfl, t3_in (i := 175) rfl⟩
theorem wC_2_30 : pC 2 (267, 0, 88) := ⟨t4_in (i := 66) rfl, t4_in (i := 68) rfl, tp2_in (i := 11) rfl⟩
theorem wC_2_31 : pC 2 (206, 0, 89) := ⟨t4_in (i := 70) rfl, t4_in (i := 72) rfl, tp2_in (i := 12) rfl⟩
theorem wC_2_32 : pC 2 (285, 1, 65) := ⟨t4_in (i := 74) rfl, t3_in (i := 208) rfl⟩
theorem wC_2_33 : pC 2 (125, 0, 92) := ⟨t4_in (i := 83) rfl, t4_in (i := 84) rfl, t4_in (i := 85) rfl⟩
theorem wC_2_34 : pC 2 (128, 10, 0) := ⟨t4_in (i := 98) rfl, t4_in (i := 99) rfl, t1_in (i := 12) rfl, t4_in (i := 100) rfl⟩
theorem wC_2_35 : pC 2 (172, 0, 128) := ⟨t5_in (i := 53) rfl, t5_in (i := 55) rfl, tp3_in (i := 12) rfl⟩
theorem wC_2_36 : pC 2 (182, 0, 129) := ⟨t5_in (i := 57) rfl, t5_in (i := 58) rfl, t5_in (i := 59) rfl⟩
theorem wC_2_37 : pC 2 (185, 0, 51) := ⟨t5_in (i := 61) rfl, t3_in (i := 152) rfl, t3_in (i := 153) rfl⟩
theorem wC_2_38 : pC 2 (176, 0, 70) := ⟨t5_in (i := 62) rfl, t3_in (i := 228) rfl, t3_in (i := 229) rfl⟩
theorem wC_2 : ∀ q ∈ ctab.getD 2 [], pC 2 q := List.forall_mem_cons.mpr ⟨wC_2_0, List.forall_mem_cons.mpr ⟨wC_2_1, List.forall_mem_cons.mpr ⟨wC_2_2, List.forall_mem_cons.mpr ⟨wC_2_3, List.forall_mem_cons.mpr ⟨wC_2_4, List.forall_mem_cons.mpr ⟨wC_2_5, List.forall_mem_cons.mpr ⟨wC_2_6, List.forall_mem_cons.mpr ⟨wC_2_7, List.forall_mem_cons.mpr ⟨wC_2_8, List.forall_mem_cons.mpr ⟨wC_2_9, List.forall_mem_cons.mpr ⟨wC_2_10, List.forall_mem_cons.mpr ⟨wC_2_11, List.forall_mem_cons.mpr ⟨wC_2_12, List.forall_mem_cons.mpr ⟨wC_2_13, List.forall_mem_cons.mpr ⟨wC_2_14, List.forall_mem_cons.mpr ⟨wC_2_15, List.forall_mem_cons.mpr ⟨wC_2_16, List.forall_mem_cons.mpr ⟨wC_2_17, List.forall_mem_cons.mpr ⟨wC_2_18, List.forall_mem_cons.mpr ⟨wC_2_19, List.forall_mem_cons.mpr ⟨wC_2_20, List.forall_mem_cons.mpr ⟨wC_2_21, List.forall_mem_cons.mpr ⟨wC_2_22, List.forall_mem_cons.mpr ⟨wC_2_23, List.forall_mem_cons.mpr ⟨wC_2_24, List.forall_mem_cons.mpr ⟨wC_2_25, List.forall_mem_cons.mpr ⟨wC_2_26, List.forall_mem_cons.mpr ⟨wC_2_27, List.forall_mem_cons.mpr ⟨wC_2_28, List.forall_mem_cons.mpr ⟨wC_2_29, List.forall_mem_cons.mpr ⟨wC_2_30, List.forall_mem_cons.mpr ⟨wC_2_31, List.forall_mem_cons.mpr ⟨wC_2_32, List.forall_mem_cons.mpr ⟨wC_2_33, List.forall_mem_cons.mpr ⟨wC_2_34, List.forall_mem_cons.mpr ⟨wC_2_35, List.forall_mem_cons.mpr ⟨wC_2_36, List.forall_mem_cons.mpr ⟨wC_2_37, List.forall_mem_cons.mpr ⟨wC_2_38, fun _ h => absurd h List.not_mem_nil⟩⟩⟩⟩⟩⟩⟩⟩⟩⟩⟩⟩⟩⟩⟩⟩⟩⟩⟩⟩⟩⟩⟩⟩⟩⟩⟩⟩⟩⟩⟩⟩⟩⟩⟩⟩⟩⟩⟩
theorem wC_3_0 : pC 3 (3, 5, 0) := ⟨t2_in (i := 177) rfl, t1_in (i := 25) rfl, t1_in (i := 26) rfl⟩
theorem wC_3_1 : pC 3 (18, 0, 124) := ⟨t5_in (i := 35) rfl, t5_in (i := 37) rfl, tp3_in (i := 11) rfl⟩
theorem wC_3_2 : pC 3 (28, 10, 0) := ⟨t5_in (i := 39) rfl, t4_in (i := 99) rfl, t1_in (i := 12) rfl, t4_in (i := 100) rfl⟩
theorem wC_3_3 : pC 3 (22, 11, 0) := ⟨t5_in (i := 40) rfl, t3_in (i := 87) rfl, t1_in (i := 12) rfl, t3_in (i := 88) rfl⟩
theorem wC_3 : ∀ q ∈ ctab.getD 3 [], pC 3 q := List.forall_mem_cons.mpr ⟨wC_3_0, List.forall_mem_cons.mpr ⟨wC_3_1, List.forall_mem_cons.mpr ⟨wC_3_2, List.forall_mem_cons.mpr ⟨wC_3_3, fun _ h => absurd h List.not_mem_nil⟩⟩⟩⟩
theorem wC_4_0 : pC 4 (3, 5, 0) := ⟨t1_in (i := 32) rfl, t1_in (i := 25) rfl, t1_in (i := 26) rfl⟩
theorem wC_4_1 : pC 4 (46, 0, 2) := ⟨t1_in (i := 33) rfl, t1_in (i := 35) rfl, tp1_in (i := 0) rfl⟩
theorem wC_4_2 : pC 4 (49, 0, 46) := ⟨t3_in (i := 131) rfl, t3_in (i := 133) rfl, tp1_in (i := 9) rfl⟩
theorem wC_4_3 : pC 4 (53, 1, 59) := ⟨t3_in (i := 185) rfl, t3_in (i := 186) rfl⟩
theorem wC_4_4 : pC 4 (56, 1, 60) := ⟨t3_in (i := 188) rfl, t3_in (i := 189) rfl⟩
theorem wC_4_5 : pC 4 (62, 0, 61) := ⟨t3_in (i := 191) rfl, t3_in (i := 193) rfl, tp1_in (i := 12) rfl⟩
theorem wC_4_6 : pC 4 (66, 0, 62) := ⟨t3_in (i := 195) rfl, t3_in (i := 197) rfl, tp1_in (i := 13) rfl⟩
theorem wC_4_7 : pC 4 (73, 0, 63) := ⟨t3_in (i := 199) rfl, t3_in (i := 201) rfl, tp1_in (i := 14) rfl⟩
theorem wC_4_8 : pC 4 (70, 0, 64) := ⟨t3_in (i := 203) rfl, t3_in (i := 205) rfl, tp1_in (i := 15) rfl⟩
theorem wC_4_9 : pC 4 (76, 1, 65) := ⟨t3_in (i := 207) rfl, t3_in (i := 208) rfl⟩
theorem wC_4_10 : pC 4 (80, 1, 67) := ⟨t3_in (i := 215) rfl, t3_in (i := 216) rfl⟩
theorem wC_4_11 : pC 4 (83, 1, 56) := ⟨t4_in (i := 11) rfl, t3_in (i := 175) rfl⟩
theorem wC_4 : ∀ q ∈ ctab.getD 4 [], pC 4 q := List.forall_mem_cons.mpr ⟨wC_4_0, List.forall_mem_cons.mpr ⟨wC_4_1, List.forall_mem_cons.mpr ⟨wC_4_2, List.forall_mem_cons.mpr ⟨wC_4_3, List.forall_mem_cons.mpr ⟨wC_4_4, List.forall_mem_cons.mpr ⟨wC_4_5, List.forall_mem_cons.mpr ⟨wC_4_6, List.forall_mem_cons.mpr ⟨wC_4_7, List.forall_mem_cons.mpr ⟨wC_4_8, List.forall_mem_cons.mpr ⟨wC_4_9, List.forall_mem_cons.mpr ⟨wC_4_10, List.forall_mem_cons.mpr ⟨wC_4_11, fun _ h => absurd h List.not_mem_nil⟩⟩⟩⟩⟩⟩⟩⟩⟩⟩⟩⟩
theorem wC_5_0 : pC 5 (3, 5, 0) := ⟨t1_in (i := 106) rfl, t1_in (i := 25) rfl, t1_in (i := 26) rfl⟩
theorem wC_5 : ∀ q ∈ ctab.getD 5 [], pC 5 q := List.forall_mem_cons.mpr ⟨wC_5_0, fun _ h => absurd h List.not_mem_nil⟩
theorem wC_6_0 : pC 6 (3, 5, 0) := ⟨t1_in (i := 199) rfl, t1_in (i := 25) rfl, t1_in (i := 26) rfl⟩
theorem wC_6_1 : pC 6 (28, 0, 99) := ⟨t4_in (i := 117) rfl, t4_in (i := 119) rfl, tp2_in (i := 13) rfl⟩
theorem wC_6_2 : pC 6 (44, 0, 100) := ⟨t4_in (i := 121) rfl, t4_in (i := 123) rfl, tp2_in (i := 14) rfl⟩
theorem wC_6_3 : pC 6 (32, 0, 101) := ⟨t4_in (i := 125) rfl, t4_in (i := 127) rfl, tp2_in (i := 15) rfl⟩
theorem wC_6_4 : pC 6 (49, 0, 102) := ⟨t4_in (i := 130) rfl, t4_in (i := 132) rfl, tp3_in (i := 0) rfl⟩
theorem wC_6_5 : pC 6 (98, 3, 13) := ⟨t4_in (i := 134) rfl, t2_in (i := 232) rfl⟩
theorem wC_6_6 : pC 6 (102, 7, 0) := t4_in (i := 135) rfl
theorem wC_6_7 : pC 6 (107, 0, 103) := ⟨t4_in (i := 145) rfl, t4_in (i := 147) rfl, tp3_in (i := 1) rfl⟩
theorem wC_6_8 : pC 6 (111, 8, 0) := t4_in (i := 149) rfl
theorem wC_6_9 : pC 6 (53, 0, 104) := ⟨t4_in (i := 187) rfl, t4_in (i := 189) rfl, tp3_in (i := 2) rfl⟩
theorem wC_6_10 : pC 6 (60, 0, 105) := ⟨t4_in (i := 191) rfl, t4_in (i := 193) rfl, tp3_in (i := 3) rfl⟩
theorem wC_6_11 : pC 6 (73, 0, 106) := ⟨t4_in (i := 196) rfl, t4_in (i := 198) rfl, tp3_in (i := 4) rfl⟩
theorem wC_6_12 : pC 6 (63, 0, 107) := ⟨t4_in (i := 200) rfl, t4_in (i := 202) rfl, tp3_in (i := 5) rfl⟩
theorem wC_6_13 : pC 6 (83, 0, 108) := ⟨t4_in (i := 204) rfl, t4_in (i := 206) rfl, tp3_in (i := 6) rfl⟩
theorem wC_6_14 : pC 6 (94, 0, 109) := ⟨t4_in (i := 210) rfl, t4_in (i := 212) rfl, tp3_in (i := 7) rfl⟩
theorem wC_6_15 : pC 6 (67, 0, 110) := ⟨t4_in (i := 214) rfl, t4_in (i := 216) rfl, tp3_in (i := 8) rfl⟩
theorem wC_6 : ∀ q ∈ ctab.getD 6 [], pC 6 q := List.forall_mem_cons.mpr ⟨wC_6_0, List.forall_mem_cons.mpr ⟨wC_6_1, List.forall_mem_cons.mpr ⟨wC_6_2, List.forall_mem_cons.mpr ⟨wC_6_3, List.forall_mem_cons.mpr ⟨wC_6_4, List.forall_mem_cons.mpr ⟨wC_6_5, List.forall_mem_cons.mpr ⟨wC_6_6, List.forall_mem_cons.mpr ⟨wC_6_7, List.forall_mem_cons.mpr ⟨wC_6_8, List.forall_mem_cons.mpr ⟨wC_6_9, List.forall_mem_cons.mpr ⟨wC_6_10, List.forall_mem_cons.mpr ⟨wC_6_11, List.forall_mem_cons.mpr ⟨wC_6_12, List.forall_mem_cons.mpr ⟨wC_6_13, List.forall_mem_cons.mpr ⟨wC_6_14, List.forall_mem_cons.mpr ⟨wC_6_15, fun _ h => absurd h List.not_mem_nil⟩⟩⟩⟩⟩⟩⟩⟩⟩⟩⟩⟩⟩⟩⟩⟩
theorem wC_7_0 : pC 7 (3, 5, 0) := ⟨t1_in (i := 149) rfl, t1_in (i := 25) rfl, t1_in (i := 26) rfl⟩
theorem wC_7_1 : pC 7 (47, 0, 29) := ⟨t3_in (i := 58) rfl, t3_in (i := 59) rfl, t3_in (i := 60) rfl⟩
theorem wC_7_2 : pC 7 (53, 0, 30) := ⟨t3_in (i := 62) rfl, t3_in (i := 64) rfl, tp1_in (i := 3) rfl⟩
theorem wC_7_3 : pC 7 (72, 0, 31) := ⟨t3_in (i := 66) rfl, t3_in (i := 67) rfl, t3_in (i := 68) rfl⟩
theorem wC_7_4 : pC 7 (56, 0, 32) := ⟨t3_in (i := 70) rfl, t3_in (i := 72) rfl, tp1_in (i := 4) rfl⟩
theorem wC_7_5 : pC 7 (60, 0, 33) := ⟨t3_in (i := 74) rfl, t3_in (i := 76) rfl, tp1_in (i := 5) rfl⟩
theorem wC_7_6 : pC 7 (66, 0, 34) := ⟨t3_in (i := 78) rfl, t3_in (i := 80) rfl, tp1_in (i := 6) rfl⟩
theorem wC_7_7 : pC 7 (87, 0, 35) := ⟨t3_in (i := 82) rfl, t3_in (i := 84) rfl, tp1_in (i := 7) rfl⟩
theorem wC_7_8 : pC 7 (91, 11, 0) := ⟨t3_in (i := 86) rfl, t3_in (i := 87) rfl, t1_in (i := 12) rfl, t3_in (i := 88) rfl⟩
theorem wC_7_9 : pC 7 (97, 3, 13) := ⟨t3_in (i := 104) rfl, t2_in (i := 232) rfl⟩
theorem wC_7_10 : pC 7 (106, 1, 77) := ⟨t4_in (i := 17) rfl, t4_in (i := 18) rfl⟩
theorem wC_7_11 : pC 7 (122, 1, 37) := ⟨t4_in (i := 20) rfl, t3_in (i := 94) rfl⟩
theorem wC_7 : ∀ q ∈ ctab.getD 7 [], pC 7 q := List.forall_mem_cons.mpr ⟨wC_7_0, List.forall_mem_cons.mpr ⟨wC_7_1, List.forall_mem_cons.mpr ⟨wC_7_2, List.forall_mem_cons.mpr ⟨wC_7_3, List.forall_mem_cons.mpr ⟨wC_7_4, List.forall_mem_cons.mpr ⟨wC_7_5, List.forall_mem_cons.mpr ⟨wC_7_6, List.forall_mem_cons.mpr ⟨wC_7_7, List.forall_mem_cons.mpr ⟨wC_7_8, List.forall_mem_cons.mpr ⟨wC_7_9, List.forall_mem_cons.mpr ⟨wC_7_10, List.forall_mem_cons.mpr ⟨wC_7_11, fun _ h => absurd h List.not_mem_nil⟩⟩⟩⟩⟩⟩⟩⟩⟩⟩⟩⟩
theorem wC_8_0 : pC 8 (3, 5, 0) := ⟨t1_in (i := 83) rfl, t1_in (i := 25) rfl, t1_in (i := 26) rfl⟩
theorem wC_8_1 : pC 8 (28, 3, 13) := ⟨t3_in (i := 33) rfl, t2_in (i := 232) rfl⟩
theorem wC_8 : ∀ q ∈ ctab.getD 8 [], pC 8 q := List.forall_mem_cons.mpr ⟨wC_8_0, List.forall_mem_cons.mpr ⟨wC_8_1, fun _ h => absurd h List.not_mem_nil⟩⟩
theorem wC_9_0 : pC 9 (3, 5, 0) := ⟨t1_in (i := 24) rfl, t1_in (i := 25) rfl, t1_in (i := 26) rfl⟩
theorem wC_9_1 : pC 9 (11, 2, 1) := ⟨t1_in (i := 29) rfl, t1_in (i := 30) rfl⟩
theorem wC_9_2 : pC 9 (18, 4, 3) := ⟨t1_in (i := 80) rfl, t1_in (i := 81) rfl⟩
theorem wC_9_3 : pC 9 (29, 4, 4) := ⟨t1_in (i := 103) rfl, t1_in (i := 104) rfl⟩
theorem wC_9_4 : pC 9 (36, 2, 5) := ⟨t1_in (i := 146) rfl, t1_in (i := 147) rfl⟩
theorem wC_9_5 : pC 9 (45, 4, 6) := ⟨t1_in (i := 196) rfl, t1_in (i := 197) rfl⟩
theorem wC_9_6 : pC 9 (52, 2, 7) := ⟨t1_in (i := 221) rfl, t1_in (i := 222) rfl⟩
theorem wC_9_7 : pC 9 (61, 2, 9) := ⟨t2_in (i := 155) rfl, t2_in (i := 156) rfl⟩
theorem wC_9_8 : pC 9 (68, 4, 10) := ⟨t2_in (i := 174) rfl, t2_in (i := 175) rfl⟩
theorem wC_9_9 : pC 9 (83, 1, 12) := ⟨t2_in (i := 228) rfl, t2_in (i := 229) rfl⟩
theorem wC_9_10 : pC 9 (88, 1, 13) := ⟨t2_in (i := 231) rfl, t2_in (i := 232) rfl⟩
theorem wC_9_11 : pC 9 (97, 0, 14) := ⟨t2_in (i := 237) rfl, t2_in (i := 239) rfl, tp1_in (i := 1) rfl⟩
theorem wC_9_12 : pC 9 (100, 0, 15) := ⟨t3_in (i := 1) rfl, t3_in (i := 2) rfl, t3_in (i := 3) rfl⟩
theorem wC_9_13 : pC 9 (104, 0, 16) := ⟨t3_in (i := 5) rfl, t3_in (i := 6) rfl, t3_in (i := 7) rfl⟩
theorem wC_9_14 : pC 9 (111, 0, 18) := ⟨t3_in (i := 13) rfl, t3_in (i := 15) rfl, tp1_in (i := 2) rfl⟩
theorem wC_9_15 : pC 9 (117, 0, 19) := ⟨t3_in (i := 17) rfl, t3_in (i := 18) rfl, t3_in (i := 19) rfl⟩
theorem wC_9_16 : pC 9 (132, 0, 22) := ⟨t3_in (i := 29) rfl, t3_in (i := 30) rfl, t3_in (i := 31) rfl⟩
theorem wC_9_17 : pC 9 (136, 0, 23) := ⟨t3_in (i := 34) rfl, t3_in (i := 35) rfl, t3_in (i := 36) rfl⟩
theorem wC_9_18 : pC 9 (160, 0, 25) := ⟨t3_in (i := 42) rfl, t3_in (i := 43) rfl, t3_in (i := 44) rfl⟩
theorem wC_9_19 : pC 9 (163, 0, 26) := ⟨t3_in (i := 46) rfl, t3_in (i := 47) rfl, t3_in (i := 48) rfl⟩
theorem wC_9_20 : pC 9 (166, 0, 40) := ⟨t3_in (i := 105) rfl, t3_in (i := 106) rfl, t3_in (i := 107) rfl⟩
theorem wC_9_21 : pC 9 (170, 0, 42) := ⟨t3_in (i := 114) rfl, t3_in (i := 116) rfl, tp1_in (i := 8) rfl⟩
theorem wC_9_22 : pC 9 (174, 0, 28) := ⟨t3_in (i := 118) rfl, t3_in (i := 55) rfl, t3_in (i := 56) rfl⟩
theorem wC_9_23 : pC 9 (181, 0, 43) := ⟨t3_in (i := 119) rfl, t3_in (i := 120) rfl, t3_in (i := 121) rfl⟩
theorem wC_9_24 : pC 9 (184, 0, 45) := ⟨t3_in (i := 127) rfl, t3_in (i := 128) rfl, t3_in (i := 129) rfl⟩
theorem wC_9_25 : pC 9 (187, 0, 47) := ⟨t3_in (i := 135) rfl, t3_in (i := 136) rfl, t3_in (i := 137) rfl⟩
theorem wC_9_26 : pC 9 (190, 0, 50) := ⟨t3_in (i := 147) rfl, t3_in (i := 149) rfl, tp1_in (i := 10) rfl⟩
theorem wC_9_27 : pC 9 (193, 0, 51) := ⟨t3_in (i := 151) rfl, t3_in (i := 152) rfl, t3_in (i := 153) rfl⟩
theorem wC_9_28 : pC 9 (216, 0, 36) := ⟨t3_in (i := 163) rfl, t3_in (i := 90) rfl, t3_in (i := 91) rfl⟩
theorem wC_9_29 : pC 9 (243, 0, 27) := ⟨t3_in (i := 168) rfl, t3_in (i := 51) rfl, t3_in (i := 52) rfl⟩
theorem wC_9_30 : pC 9 (250, 1, 37) := ⟨t3_in (i := 169) rfl, t3_in (i := 94) rfl⟩
theorem wC_9_31 : pC 9 (255, 1, 56) := ⟨t3_in (i := 174) rfl, t3_in (i := 175) rfl⟩
theorem wC_9_32 : pC 9 (258, 0, 58) := ⟨t3_in (i := 181) rfl, t3_in (i := 182) rfl, t3_in (i := 183) rfl⟩
theorem wC_9_33 : pC 9 (261, 0, 66) := ⟨t3_in (i := 211) rfl, t3_in (i := 212) rfl, t3_in (i := 213) rfl⟩
theorem wC_9_34 : pC 9 (264, 0, 69) := ⟨t3_in (i := 222) rfl, t3_in (i := 223) rfl, t3_in (i := 224) rfl⟩
theorem wC_9_35 : pC 9 (267, 0, 70) := ⟨t3_in (i := 227) rfl, t3_in (i := 228) rfl, t3_in (i := 229) rfl⟩
theorem wC_9_36 : pC 9 (270, 0, 91) := ⟨t4_in (i := 79) rfl, t4_in (i := 80) rfl, t4_in (i := 81) rfl⟩
theorem wC_9_37 : pC 9 (273, 0, 94) := ⟨t4_in (i := 94) rfl, t4_in (i := 95) rfl, t4_in (i := 96) rfl⟩
theorem wC_9_38 : pC 9 (276, 0, 96) := ⟨t4_in (i := 105) rfl, t4_in (i := 106) rfl, t4_in (i := 107) rfl⟩
theorem wC_9_39 : pC 9 (280, 0, 98) := ⟨t4_in (i := 113) rfl, t4_in (i := 114) rfl, t4_in (i := 115) rfl⟩
theorem wC_9_40 : pC 9 (293, 0, 113) := ⟨t4_in (i := 227) rfl, t4_in (i := 228) rfl, t4_in (i := 229) rfl⟩
theorem wC_9_41 : pC 9 (296, 0, 38) := ⟨t4_in (i := 231) rfl, t3_in (i := 97) rfl, t3_in (i := 98) rfl⟩
theorem wC_9_42 : pC 9 (314, 0, 39) := ⟨t4_in (i := 232) rfl, t3_in (i := 101) rfl, t3_in (i := 102) rfl⟩
theorem wC_9_43 : pC 9 (317, 0, 115) := ⟨t4_in (i := 237) rfl, t4_in (i := 238) rfl, t4_in (i := 239) rfl⟩
theorem wC_9_44 : pC 9 (320, 0, 119) := ⟨t5_in (i := 14) rfl, t5_in (i := 15) rfl, t5_in (i := 16) rfl⟩
theorem wC_9_45 : pC 9 (327, 0, 120) := ⟨t5_in (i := 22) rfl, t5_in (i := 19) rfl, t5_in (i := 20) rfl⟩
theorem wC_9_46 : pC 9 (333, 0, 123) := ⟨t5_in (i := 31) rfl, t5_in (i := 32) rfl, t5_in (i := 33) rfl⟩
theorem wC_9_47 : pC 9 (336, 0, 125) := ⟨t5_in (i := 41) rfl, t5_in (i := 42) rfl, t5_in (i := 43) rfl⟩
theorem wC_9_48 : pC 9 (342, 0, 127) := ⟨t5_in (i := 49) rfl, t5_in (i := 50) rfl, t5_in (i := 51) rfl⟩
theorem wC_9_49 : pC 9 (350, 0, 132) := ⟨t5_in (i := 72) rfl, t5_in (i := 74) rfl, tp3_in (i := 13) rfl⟩
theorem wC_9_50 : pC 9 (353, 0, 133) := ⟨t5_in (i := 76) rfl, t5_in (i := 77) rfl, t5_in (i := 78) rfl⟩
theorem wC_9 : ∀ q ∈ ctab.getD 9 [], pC 9 q := List.forall_mem_cons.mpr ⟨wC_9_0, List.forall_mem_cons.mpr ⟨wC_9_1, List.forall_mem_cons.mpr ⟨wC_9_2, List.forall_mem_cons.mpr ⟨wC_9_3, List.forall_mem_cons.mpr ⟨wC_9_4, List.forall_mem_cons.mpr ⟨wC_9_5, List.forall_mem_cons.mpr ⟨wC_9_6, List.forall_mem_cons.mpr ⟨wC_9_7, List.forall_mem_cons.mpr ⟨wC_9_8, List.forall_mem_cons.mpr ⟨wC_9_9, List.forall_mem_cons.mpr ⟨wC_9_10, List.forall_mem_cons.mpr ⟨wC_9_11, List.forall_mem_cons.mpr ⟨wC_9_12, List.forall_mem_cons.mpr ⟨wC_9_13, List.forall_mem_cons.mpr ⟨wC_9_14, List.forall_mem_cons.mpr ⟨wC_9_15, List.forall_mem_cons.mpr ⟨wC_9_16, List.forall_mem_cons.mpr ⟨wC_9_17, List.forall_mem_cons.mpr ⟨wC_9_18, List.forall_mem_cons.mpr ⟨wC_9_19, List.forall_mem_cons.mpr ⟨wC_9_20, List.forall_mem_cons.mpr ⟨wC_9_21, List.forall_mem_cons.mpr ⟨wC_9_22, List.forall_mem_cons.mpr ⟨wC_9_23, List.forall_mem_cons.mpr ⟨wC_9_24, List.forall_mem_cons.mpr ⟨wC_9_25, List.forall_mem_cons.mpr ⟨wC_9_26, List.forall_mem_cons.mpr ⟨wC_9_27, List.forall_mem_cons.mpr ⟨wC_9_28, List.forall_mem_cons.mpr ⟨wC_9_29, List.forall_mem_cons.mpr ⟨wC_9_30, List.forall_mem_cons.mpr ⟨wC_9_31, List.forall_mem_cons.mpr ⟨wC_9_32, List.forall_mem_cons.mpr ⟨wC_9_33, List.forall_mem_cons.mpr ⟨wC_9_34, List.forall_mem_cons.mpr ⟨wC_9_35, List.forall_mem_cons.mpr ⟨wC_9_36, List.forall_mem_cons.mpr ⟨wC_9_37, List.forall_mem_cons.mpr ⟨wC_9_38, List.forall_mem_cons.mpr ⟨wC_9_39, List.forall_mem_cons.mpr ⟨wC_9_40, List.forall_mem_cons.mpr ⟨wC_9_41, List.forall_mem_cons.mpr ⟨wC_9_42, List.forall_mem_cons.mpr ⟨wC_9_43, List.forall_mem_cons.mpr ⟨wC_9_44, List.forall_mem_cons.mpr ⟨wC_9_45, List.forall_mem_cons.mpr ⟨wC_9_46, List.forall_mem_cons.mpr ⟨wC_9_47, List.forall_mem_cons.mpr ⟨wC_9_48, List.forall_mem_cons.mpr ⟨wC_9_49, List.forall_mem_cons.mpr ⟨wC_9_50, fun _ h => absurd h List.not_mem_nil⟩⟩⟩⟩⟩⟩⟩⟩⟩⟩⟩⟩⟩⟩⟩⟩⟩⟩⟩⟩⟩⟩⟩⟩⟩⟩⟩⟩⟩⟩⟩⟩⟩⟩⟩⟩⟩⟩⟩⟩⟩⟩⟩⟩⟩⟩⟩⟩⟩⟩⟩
theorem wC_10_0 : pC 10 (1, 5, 0) := ⟨t5_in (i := 85) rfl, t1_in (i := 25) rfl, t1_in (i := 26) rfl⟩
theorem wC_10_1 : pC 10 (192, 1, 136) := ⟨t6_in (i := 102) rfl, t6_in (i := 103) rfl⟩
theorem wC_10_2 : pC 10 (183, 1, 137) := ⟨t6_in (i := 106) rfl, t6_in (i := 107) rfl⟩
theorem wC_10_3 : pC 10 (197, 1, 138) := ⟨t6_in (i := 110) rfl, t6_in (i := 111) rfl⟩
theorem wC_10_4 : pC 10 (208, 0, 140) := ⟨t6_in (i := 120) rfl, t6_in (i := 122) rfl, tp3_in (i := 14) rfl⟩
theorem wC_10_5 : pC 10 (213, 1, 141) := ⟨t6_in (i := 125) rfl, t6_in (i := 126) rfl⟩
theorem wC_10_6 : pC 10 (256, 0, 144) := ⟨t6_in (i := 139) rfl, t6_in (i := 141) rfl, tp3_in (i := 15) rfl⟩
theorem wC_10_7 : pC 10 (247, 0, 145) := ⟨t6_in (i := 143) rfl, t6_in (i := 145) rfl, tp4_in (i := 0) rfl⟩
theorem wC_10_8 : pC 10 (231, 0, 146) := ⟨t6_in (i := 147) rfl, t6_in (i := 149) rfl, tp4_in (i := 1) rfl⟩
theorem wC_10_9 : pC 10 (235, 0, 147) := ⟨t6_in (i := 151) rfl, t6_in (i := 153) rfl, tp4_in (i := 2) rfl⟩
theorem wC_10_10 : pC 10 (251, 0, 148) := ⟨t6_in (i := 155) rfl, t6_in (i := 157) rfl, tp4_in (i := 3) rfl⟩
theorem wC_10_11 : pC 10 (239, 0, 149) := ⟨t6_in (i := 159) rfl, t6_in (i := 161) rfl, tp4_in (i := 4) rfl⟩
theorem wC_10_12 : pC 10 (221, 0, 150) := ⟨t6_in (i := 163) rfl, t6_in (i := 165) rfl, tp4_in (i := 5) rfl⟩
theorem wC_10_13 : pC 10 (243, 0, 151) := ⟨t6_in (i := 167) rfl, t6_in (i := 169) rfl, tp4_in (i := 6) rfl⟩
theorem wC_10_14 : pC 10 (259, 0, 152) := ⟨t6_in (i := 171) rfl, t6_in (i := 173) rfl, tp4_in (i := 7) rfl⟩
theorem wC_10_15 : pC 10 (262, 0, 153) := ⟨t6_in (i := 175) rfl, t6_in (i := 177) rfl, tp4_in (i := 8) rfl⟩
theorem wC_10_16 : pC 10 (266, 0, 154) := ⟨t6_in (i := 179) rfl, t6_in (i := 181) rfl, tp4_in (i := 9) rfl⟩
theorem wC_10_17 : pC 10 (282, 0, 157) := ⟨t6_in (i := 193) rfl, t6_in (i := 195) rfl, tp4_in (i := 10) rfl⟩
theorem wC_10_18 : pC 10 (308, 0, 158) := ⟨t6_in (i := 197) rfl, t6_in (i := 199) rfl, tp4_in (i := 11) rfl⟩
theorem wC_10_19 : pC 10 (334, 0, 159) := ⟨t6_in (i := 203) rfl, t6_in (i := 205) rfl, tp4_in (i := 12) rfl⟩
theorem wC_10_20 : pC 10 (304, 0, 160) := ⟨t6_in (i := 207) rfl, t6_in (i := 209) rfl, tp4_in (i := 13) rfl⟩
theorem wC_10_21 : pC 10 (300, 0, 161) := ⟨t6_in (i := 211) rfl, t6_in (i := 213) rfl, tp4_in (i := 14) rfl⟩
theorem wC_10_22 : pC 10 (337, 0, 162) := ⟨t6_in (i := 215) rfl, t6_in (i := 217) rfl, tp4_in (i := 15) rfl⟩
theorem wC_10_23 : pC 10 (325, 0, 163) := ⟨t6_in (i := 219) rfl, t6_in (i := 221) rfl, tp5_in (i := 0) rfl⟩
theorem wC_10_24 : pC 10 (311, 0, 164) := ⟨t6_in (i := 223) rfl, t6_in (i := 225) rfl, tp5_in (i := 1) rfl⟩
theorem wC_10_25 : pC 10 (314, 1, 165) := ⟨t6_in (i := 227) rfl, t6_in (i := 228) rfl⟩
theorem wC_10_26 : pC 10 (318, 0, 166) := ⟨t6_in (i := 230) rfl, t6_in (i := 232) rfl, tp5_in (i := 2) rfl⟩
theorem wC_10_27 : pC 10 (321, 0, 167) := ⟨t6_in (i := 236) rfl, t6_in (i := 238) rfl, tp5_in (i := 3) rfl⟩
theorem wC_10_28 : pC 10 (328, 0, 168) := ⟨t7_in (i := 0) rfl, t7_in (i := 2) rfl, tp5_in (i := 4) rfl⟩
theorem wC_10_29 : pC 10 (355, 0, 171) := ⟨t7_in (i := 12) rfl, t7_in (i := 14) rfl, tp5_in (i := 5) rfl⟩
theorem wC_10_30 : pC 10 (346, 0, 172) := ⟨t7_in (i := 16) rfl, t7_in (i := 18) rfl, tp5_in (i := 6) rfl⟩
theorem wC_10_31 : pC 10 (366, 0, 173) := ⟨t7_in (i := 24) rfl, t7_in (i := 26) rfl, tp5_in (i := 7) rfl⟩
theorem wC_10_32 : pC 10 (369, 0, 174) := ⟨t7_in (i := 28) rfl, t7_in (i := 30) rfl, tp5_in (i := 8) rfl⟩
theorem wC_10_33 : pC 10 (390, 0, 176) := ⟨t7_in (i := 38) rfl, t7_in (i := 40) rfl, tp5_in (i := 9) rfl⟩
theorem wC_10_34 : pC 10 (381, 0, 177) := ⟨t7_in (i := 42) rfl, t7_in (i := 44) rfl, tp5_in (i := 10) rfl⟩
theorem wC_10_35 : pC 10 (375, 0, 178) := ⟨t7_in (i := 46) rfl, t7_in (i := 48) rfl, tp5_in (i := 11) rfl⟩
theorem wC_10_36 : pC 10 (384, 0, 179) := ⟨t7_in (i := 50) rfl, t7_in (i := 52) rfl, tp5_in (i := 12) rfl⟩
theorem wC_10_37 : pC 10 (394, 0, 181) := ⟨t7_in (i := 58) rfl, t7_in (i := 60) rfl, tp5_in (i := 13) rfl⟩
theorem wC_10_38 : pC 10 (397, 0, 182) := ⟨t7_in (i := 62) rfl, t7_in (i := 64) rfl, tp5_in (i := 14) rfl⟩
theorem wC_10_39 : pC 10 (469, 0, 185) := ⟨t7_in (i := 75) rfl, t7_in (i := 77) rfl, tp5_in (i := 15) rfl⟩
theorem wC_10_40 : pC 10 (449, 0, 186) := ⟨t7_in (i := 79) rfl, t7_in (i := 81) rfl, tp6_in (i := 0) rfl⟩
theorem wC_10_41 : pC 10 (452, 0, 187) := ⟨t7_in (i := 83) rfl, t7_in (i := 85) rfl, tp6_in (i := 1) rfl⟩
theorem wC_10_42 : pC 10 (455, 0, 188) := ⟨t7_in (i := 87) rfl, t7_in (i := 89) rfl, tp6_in (i := 2) rfl⟩
theorem wC_10_43 : pC 10 (400, 0, 189) := ⟨t7_in (i := 91) rfl, t7_in (i := 93) rfl, tp6_in (i := 3) rfl⟩
theorem wC_10_44 : pC 10 (403, 0, 190) := ⟨t7_in (i := 95) rfl, t7_in (i := 97) rfl, tp6_in (i := 4) rfl⟩
theorem wC_10_45 : pC 10 (458, 0, 191) := ⟨t7_in (i := 99) rfl, t7_in (i := 101) rfl, tp6_in (i := 5) rfl⟩
theorem wC_10_46 : pC 10 (412, 0, 192) := ⟨t7_in (i := 103) rfl, t7_in (i := 105) rfl, tp6_in (i := 6) rfl⟩
theorem wC_10_47 : pC 10 (409, 0, 193) := ⟨t7_in (i := 107) rfl, t7_in (i := 109) rfl, tp6_in (i := 7) rfl⟩
theorem wC_10_48 : pC 10 (415, 0, 194) := ⟨t7_in (i := 111) rfl, t7_in (i := 113) rfl, tp6_in (i := 8) rfl⟩
theorem wC_10_49 : pC 10 (406, 0, 195) := ⟨t7_in (i := 115) rfl, t7_in (i := 117) rfl, tp6_in (i := 9) rfl⟩
theorem wC_10_50 : pC 10 (461, 0, 196) := ⟨t7_in (i := 119) rfl, t7_in (i := 121) rfl, tp6_in (i := 10) rfl⟩
theorem wC_10_51 : pC 10 (443, 0, 197) := ⟨t7_in (i := 123) rfl, t7_in (i := 125) rfl, tp6_in (i := 11) rfl⟩
theorem wC_10_52 : pC 10 (440, 0, 198) := ⟨t7_in (i := 127) rfl, t7_in (i := 129) rfl, tp6_in (i := 12) rfl⟩
theorem wC_10_53 : pC 10 (446, 0, 199) := ⟨t7_in (i := 131) rfl, t7_in (i := 133) rfl, tp6_in (i := 13) rfl⟩
theorem wC_10_54 : pC 10 (424, 0, 200) := ⟨t7_in (i := 135) rfl, t7_in (i := 137) rfl, tp6_in (i := 14) rfl⟩
theorem wC_10_55 : pC 10 (421, 0, 201) := ⟨t7_in (i := 139) rfl, t7_in (i := 141) rfl, tp6_in (i := 15) rfl⟩
theorem wC_10_56 : pC 10 (428, 0, 202) := ⟨t7_in (i := 143) rfl, t7_in (i := 145) rfl, tp7_in (i := 0) rfl⟩
theorem wC_10_57 : pC 10 (431, 0, 203) := ⟨t7_in (i := 147) rfl, t7_in (i := 149) rfl, tp7_in (i := 1) rfl⟩
theorem wC_10_58 : pC 10 (434, 0, 204) := ⟨t7_in (i := 151) rfl, t7_in (i := 153) rfl, tp7_in (i := 2) rfl⟩
theorem wC_10_59 : pC 10 (464, 0, 205) := ⟨t7_in (i := 155) rfl, t7_in (i := 157) rfl, tp7_in (i := 3) rfl⟩
theorem wC_10_60 : pC 10 (475, 0, 207) := ⟨t7_in (i := 163) rfl, t7_in (i := 165) rfl, tp7_in (i := 4) rfl⟩
theorem wC_10_61 : pC 10 (472, 0, 208) := ⟨t7_in (i := 167) rfl, t7_in (i := 169) rfl, tp7_in (i := 5) rfl⟩
theorem wC_10_62 : pC 10 (478, 0, 212) := ⟨t7_in (i := 183) rfl, t7_in (i := 185) rfl, tp7_in (i := 6) rfl⟩
theorem wC_10_63 : pC 10 (487, 0, 213) := ⟨t7_in (i := 187) rfl, t7_in (i := 189) rfl, tp7_in (i := 7) rfl⟩
theorem wC_10_64 : pC 10 (490, 0, 214) := ⟨t7_in (i := 191) rfl, t7_in (i := 193) rfl, tp7_in (i := 8) rfl⟩
theorem wC_10_65 : pC 10 (495, 1, 217) := ⟨t7_in (i := 204) rfl, t7_in (i := 205) rfl⟩
theorem wC_10_66 : pC 10 (502, 0, 219) := ⟨t7_in (i := 211) rfl, t7_in (i := 213) rfl, tp7_in (i := 9) rfl⟩
theorem wC_10_67 : pC 10 (513, 0, 222) := ⟨t7_in (i := 226) rfl, t7_in (i := 228) rfl, tp7_in (i := 10) rfl⟩
theorem wC_10_68 : pC 10 (507, 0, 223) := ⟨t7_in (i := 230) rfl, t7_in (i := 232) rfl, tp7_in (i := 11) rfl⟩
theorem wC_10_69 : pC 10 (543, 0, 226) := ⟨t8_in (i := 3) rfl, t8_in (i := 5) rfl, tp7_in (i := 12) rfl⟩
theorem wC_10_70 : pC 10 (519, 0, 227) := ⟨t8_in (i := 7) rfl, t8_in (i := 9) rfl, tp7_in (i := 13) rfl⟩
theorem wC_10_71 : pC 10 (516, 0, 228) := ⟨t8_in (i := 11) rfl, t8_in (i := 13) rfl, tp7_in (i := 14) rfl⟩
theorem wC_10_72 : pC 10 (523, 0, 229) := ⟨t8_in (i := 15) rfl, t8_in (i := 17) rfl, tp7_in (i := 15) rfl⟩
theorem wC_10 : ∀ q ∈ ctab.getD 10 [], pC 10 q := List.forall_mem_cons.mpr ⟨wC_10_0, List.forall_mem_cons.mpr ⟨wC_10_1, List.forall_mem_cons.mpr ⟨wC_10_2, List.forall_mem_cons.mpr ⟨wC_10_3, List.forall_mem_cons.mpr ⟨wC_10_4, List.forall_mem_cons.mpr ⟨wC_10_5, List.forall_mem_cons.mpr ⟨wC_10_6, List.forall_mem_cons.mpr ⟨wC_10_7, List.forall_mem_cons.mpr ⟨wC_10_8, List.forall_mem_cons.mpr ⟨wC_10_9, List.forall_mem_cons.mpr ⟨wC_10_10, List.forall_mem_cons.mpr ⟨wC_10_11, List.forall_mem_cons.mpr ⟨wC_10_12, List.forall_mem_cons.mpr ⟨wC_10_13, List.forall_mem_cons.mpr ⟨wC_10_14, List.forall_mem_cons.mpr ⟨wC_10_15, List.forall_mem_cons.mpr ⟨wC_10_16, List.forall_mem_cons.mpr ⟨wC_10_17, List.forall_mem_cons.mpr ⟨wC_10_18, List.forall_mem_cons.mpr ⟨wC_10_19, List.forall_mem_cons.mpr ⟨wC_10_20, List.forall_mem_cons.mpr ⟨wC_10_21, List.forall_mem_cons.mpr ⟨wC_10_22, List.forall_mem_cons.mpr ⟨wC_10_23, List.forall_mem_cons.mpr ⟨wC_10_24, List.forall_mem_cons.mpr ⟨wC_10_25, List.forall_mem_cons.mpr ⟨wC_10_26, List.forall_mem_cons.mpr ⟨wC_10_27, List.forall_mem_cons.mpr ⟨wC_10_28, List.forall_mem_cons.mpr ⟨wC_10_29, List.forall_mem_cons.mpr ⟨wC_10_30, List.forall_mem_cons.mpr ⟨wC_10_31, List.forall_mem_cons.mpr ⟨wC_10_32, List.forall_mem_cons.mpr ⟨wC_10_33, List.forall_mem_cons.mpr ⟨wC_10_34, List.forall_mem_cons.mpr ⟨wC_10_35, List.forall_mem_cons.mpr ⟨wC_10_36, List.forall_mem_cons.mpr ⟨wC_10_37, List.forall_mem_cons.mpr ⟨wC_10_38, List.forall_mem_cons.mpr ⟨wC_10_39, List.forall_mem_cons.mpr ⟨wC_10_40, List.forall_mem_cons.mpr ⟨wC_10_41, List.forall_mem_cons.mpr ⟨wC_10_42, List.forall_mem_cons.mpr ⟨wC_10_43, List.forall_mem_cons.mpr ⟨wC_10_44, List.forall_mem_cons.mpr ⟨wC_10_45, List.forall_mem_cons.mpr ⟨wC_10_46, List.forall_mem_cons.mpr ⟨wC_10_47, List.forall_mem_cons.mpr ⟨wC_10_48, List.forall_mem_cons.mpr ⟨wC_10_49, List.forall_mem_cons.mpr ⟨wC_10_50, List.forall_mem_cons.mpr ⟨wC_10_51, List.forall_mem_cons.mpr ⟨wC_10_52, List.forall_mem_cons.mpr ⟨wC_10_53, List.forall_mem_cons.mpr ⟨wC_10_54, List.forall_mem_cons.mpr ⟨wC_10_55, List.forall_mem_cons.mpr ⟨wC_10_56, List.forall_mem_cons.mpr ⟨wC_10_57, List.forall_mem_cons.mpr ⟨wC_10_58, List.forall_mem_cons.mpr ⟨wC_10_59, List.forall_mem_cons.mpr ⟨wC_10_60, List.forall_mem_cons.mpr ⟨wC_10_61, List.forall_mem_cons.mpr ⟨wC_10_62, List.forall_mem_cons.mpr ⟨wC_10_63, List.forall_mem_cons.mpr ⟨wC_10_64, List.forall_mem_cons.mpr ⟨wC_10_65, List.forall_mem_cons.mpr ⟨wC_10_66, List.forall_mem_cons.mpr ⟨wC_10_67, List.forall_mem_cons.mpr ⟨wC_10_68, List.forall_mem_cons.mpr ⟨wC_10_69, List.forall_mem_cons.mpr ⟨wC_10_70, List.forall_mem_cons.mpr ⟨wC_10_71, List.forall_mem_cons.mpr ⟨wC_10_72, fun _ h => absurd h List.not_mem_nil⟩⟩⟩⟩⟩⟩⟩⟩⟩⟩⟩⟩⟩⟩⟩⟩⟩⟩⟩⟩⟩⟩⟩⟩⟩⟩⟩⟩⟩⟩⟩⟩⟩⟩⟩⟩⟩⟩⟩⟩⟩⟩⟩⟩⟩⟩⟩⟩⟩⟩⟩⟩⟩⟩⟩⟩⟩⟩⟩⟩⟩⟩⟩⟩⟩⟩⟩⟩⟩⟩⟩⟩⟩
theorem wC_11_0 : pC 11 (11, 1, 56) := ⟨t3_in (i := 210) rfl, t3_in (i := 175) rfl⟩
theorem wC_11 : ∀ q ∈ ctab.getD 11 [], pC 11 q := List.forall_mem_cons.mpr ⟨wC_11_0, fun _ h => absurd h List.not_mem_nil⟩
theorem wC_12_0 : pC 12 (9, 2, 0) := ⟨t1_in (i := 21) rfl, t1_in (i := 22) rfl⟩
theorem wC_12_1 : pC 12 (13, 0, 11) := ⟨t2_in (i := 224) rfl, t2_in (i := 225) rfl, t2_in (i := 226) rfl⟩
theorem wC_12_2 : pC 12 (18, 0, 17) := ⟨t3_in (i := 9) rfl, t3_in (i := 10) rfl, t3_in (i := 11) rfl⟩
theorem wC_12_3 : pC 12 (23, 0, 20) := ⟨t3_in (i := 21) rfl, t3_in (i := 22) rfl, t3_in (i := 23) rfl⟩
theorem wC_12_4 : pC 12 (28, 0, 21) := ⟨t3_in (i := 25) rfl, t3_in (i := 26) rfl, t3_in (i := 27) rfl⟩
theorem wC_12_5 : pC 12 (32, 0, 24) := ⟨t3_in (i := 38) rfl, t3_in (i := 39) rfl, t3_in (i := 40) rfl⟩
theorem wC_12_6 : pC 12 (37, 0, 41) := ⟨t3_in (i := 109) rfl, t3_in (i := 110) rfl, t3_in (i := 111) rfl⟩
theorem wC_12_7 : pC 12 (42, 0, 49) := ⟨t3_in (i := 143) rfl, t3_in (i := 144) rfl, t3_in (i := 145) rfl⟩
theorem wC_12_8 : pC 12 (46, 0, 53) := ⟨t3_in (i := 159) rfl, t3_in (i := 160) rfl, t3_in (i := 161) rfl⟩
theorem wC_12_9 : pC 12 (50, 0, 54) := ⟨t3_in (i := 164) rfl, t3_in (i := 165) rfl, t3_in (i := 166) rfl⟩
theorem wC_12_10 : pC 12 (54, 0, 55) := ⟨t3_in (i := 170) rfl, t3_in (i := 171) rfl, t3_in (i := 172) rfl⟩
theorem wC_12_11 : pC 12 (58, 0, 57) := ⟨t3_in (i := 177) rfl, t3_in (i := 178) rfl, t3_in (i := 179) rfl⟩
theorem wC_12_12 : pC 12 (62, 0, 68) := ⟨t3_in (i := 218) rfl, t3_in (i := 219) rfl, t3_in (i := 220) rfl⟩
theorem wC_12_13 : pC 12 (66, 0, 90) := ⟨t4_in (i := 75) rfl, t4_in (i := 76) rfl, t4_in (i := 77) rfl⟩
theorem wC_12_14 : pC 12 (72, 0, 95) := ⟨t4_in (i := 101) rfl, t4_in (i := 102) rfl, t4_in (i := 103) rfl⟩
theorem wC_12_15 : pC 12 (77, 0, 97) := ⟨t4_in (i := 109) rfl, t4_in (i := 110) rfl, t4_in (i := 111) rfl⟩
theorem wC_12_16 : pC 12 (81, 0, 111) := ⟨t4_in (i := 219) rfl, t4_in (i := 220) rfl, t4_in (i := 221) rfl⟩
theorem wC_12_17 : pC 12 (86, 0, 112) := ⟨t4_in (i := 223) rfl, t4_in (i := 224) rfl, t4_in (i := 225) rfl⟩
theorem wC_12_18 : pC 12 (90, 0, 114) := ⟨t4_in (i := 233) rfl, t4_in (i := 234) rfl, t4_in (i := 235) rfl⟩
theorem wC_12_19 : pC 12 (94, 0, 118) := ⟨t5_in (i := 10) rfl, t5_in (i := 11) rfl, t5_in (i := 12) rfl⟩
theorem wC_12_20 : pC 12 (98, 0, 121) := ⟨t5_in (i := 23) rfl, t5_in (i := 24) rfl, t5_in (i := 25) rfl⟩
theorem wC_12_21 : pC 12 (102, 0, 122) := ⟨t5_in (i := 27) rfl, t5_in (i := 28) rfl, t5_in (i := 29) rfl⟩
theorem wC_12_22 : pC 12 (106, 0, 126) := ⟨t5_in (i := 45) rfl, t5_in (i := 46) rfl, t5_in (i := 47) rfl⟩
theorem wC_12_23 : pC 12 (110, 0, 130) := ⟨t5_in (i := 63) rfl, t5_in (i := 64) rfl, t5_in (i := 65) rfl⟩
theorem wC_12_24 : pC 12 (114, 0, 131) := ⟨t5_in (i := 67) rfl, t5_in (i := 68) rfl, t5_in (i := 69) rfl⟩
theorem wC_12_25 : pC 12 (12, 2, 134) := ⟨t5_in (i := 82) rfl, t5_in (i := 83) rfl⟩
theorem wC_12_26 : pC 12 (17, 0, 135) := ⟨t6_in (i := 98) rfl, t6_in (i := 99) rfl, t6_in (i := 100) rfl⟩
theorem wC_12_27 : pC 12 (22, 0, 139) := ⟨t6_in (i := 116) rfl, t6_in (i := 117) rfl, t6_in (i := 118) rfl⟩
theorem wC_12_28 : pC 12 (27, 0, 142) := ⟨t6_in (i := 129) rfl, t6_in (i := 130) rfl, t6_in (i := 131) rfl⟩
theorem wC_12_29 : pC 12 (61, 0, 143) := ⟨t6_in (i := 134) rfl, t6_in (i := 135) rfl, t6_in (i := 136) rfl⟩
theorem wC_12_30 : pC 12 (76, 0, 155) := ⟨t6_in (i := 183) rfl, t6_in (i := 184) rfl, t6_in (i := 185) rfl⟩
theorem wC_12_31 : pC 12 (80, 0, 156) := ⟨t6_in (i := 189) rfl, t6_in (i := 190) rfl, t6_in (i := 191) rfl⟩
theorem wC_12_32 : pC 12 (85, 0, 169) := ⟨t7_in (i := 4) rfl, t7_in (i := 5) rfl, t7_in (i := 6) rfl⟩
theorem wC_12_33 : pC 12 (89, 0, 170) := ⟨t7_in (i := 8) rfl, t7_in (i := 9) rfl, t7_in (i := 10) rfl⟩
theorem wC_12_34 : pC 12 (41, 0, 175) := ⟨t7_in (i := 32) rfl, t7_in (i := 33) rfl, t7_in (i := 34) rfl⟩
theorem wC_12_35 : pC 12 (45, 0, 180) := ⟨t7_in (i := 54) rfl, t7_in (i := 55) rfl, t7_in (i := 56) rfl⟩
theorem wC_12_36 : pC 12 (49, 0, 183) := ⟨t7_in (i := 66) rfl, t7_in (i := 67) rfl, t7_in (i := 68) rfl⟩
theorem wC_12_37 : pC 12 (65, 0, 184) := ⟨t7_in (i := 70) rfl, t7_in (i := 71) rfl, t7_in (i := 72) rfl⟩
theorem wC_12_38 : pC 12 (53, 0, 206) := ⟨t7_in (i := 159) rfl, t7_in (i := 160) rfl, t7_in (i := 161) rfl⟩
theorem wC_12_39 : pC 12 (57, 0, 209) := ⟨t7_in (i := 171) rfl, t7_in (i := 172) rfl, t7_in (i := 173) rfl⟩
theorem wC_12_40 : pC 12 (31, 0, 210) := ⟨t7_in (i := 175) rfl, t7_in (i := 176) rfl, t7_in (i := 177) rfl⟩
theorem wC_12_41 : pC 12 (36, 0, 211) := ⟨t7_in (i := 179) rfl, t7_in (i := 180) rfl, t7_in (i := 181) rfl⟩
theorem wC_12_42 : pC 12 (69, 0, 215) := ⟨t7_in (i := 195) rfl, t7_in (i := 196) rfl, t7_in (i := 197) rfl⟩
theorem wC_12_43 : pC 12 (93, 0, 216) := ⟨t7_in (i := 199) rfl, t7_in (i := 200) rfl, t7_in (i := 201) rfl⟩
theorem wC_12_44 : pC 12 (97, 0, 218) := ⟨t7_in (i := 207) rfl, t7_in (i := 208) rfl, t7_in (i := 209) rfl⟩
theorem wC_12_45 : pC 12 (101, 0, 220) := ⟨t7_in (i := 216) rfl, t7_in (i := 217) rfl, t7_in (i := 218) rfl⟩
theorem wC_12_46 : pC 12 (105, 0, 221) := ⟨t7_in (i := 221) rfl, t7_in (i := 222) rfl, t7_in (i := 223) rfl⟩
theorem wC_12_47 : pC 12 (113, 0, 224) := ⟨t7_in (i := 234) rfl, t7_in (i := 235) rfl, t7_in (i := 236) rfl⟩
theorem wC_12_48 : pC 12 (109, 0, 225) := ⟨t7_in (i := 238) rfl, t7_in (i := 239) rfl, t8_in (i := 0) rfl⟩
theorem wC_12_49 : pC 12 (117, 0, 230) := ⟨t8_in (i := 19) rfl, t8_in (i := 20) rfl, t8_in (i := 21) rfl⟩
theorem wC_12 : ∀ q ∈ ctab.getD 12 [], pC 12 q := List.forall_mem_cons.mpr ⟨wC_12_0, List.forall_mem_cons.mpr ⟨wC_12_1, List.forall_mem_cons.mpr ⟨wC_12_2, List.forall_mem_cons.mpr ⟨wC_12_3, List.forall_mem_cons.mpr ⟨wC_12_4, List.forall_mem_cons.mpr ⟨wC_12_5, List.forall_mem_cons.mpr ⟨wC_12_6, List.forall_mem_cons.mpr ⟨wC_12_7, List.forall_mem_cons.mpr ⟨wC_12_8, List.forall_mem_cons.mpr ⟨wC_12_9, List.forall_mem_cons.mpr ⟨wC_12_10, List.forall_mem_cons.mpr ⟨wC_12_11, List.forall_mem_cons.mpr ⟨wC_12_12, List.forall_mem_cons.mpr ⟨wC_12_13, List.forall_mem_cons.mpr ⟨wC_12_14, List.forall_mem_cons.mpr ⟨wC_12_15, List.forall_mem_cons.mpr ⟨wC_12_16, List.forall_mem_cons.mpr ⟨wC_12_17, List.forall_mem_cons.mpr ⟨wC_12_18, List.forall_mem_cons.mpr ⟨wC_12_19, List.forall_mem_cons.mpr ⟨wC_12_20, List.forall_mem_cons.mpr ⟨wC_12_21, List.forall_mem_cons.mpr ⟨wC_12_22, List.forall_mem_cons.mpr ⟨wC_12_23, List.forall_mem_cons.mpr ⟨wC_12_24, List.forall_mem_cons.mpr ⟨wC_12_25, List.forall_mem_cons.mpr ⟨wC_12_26, List.forall_mem_cons.mpr ⟨wC_12_27, List.forall_mem_cons.mpr ⟨wC_12_28, List.forall_mem_cons.mpr ⟨wC_12_29, List.forall_mem_cons.mpr ⟨wC_12_30, List.forall_mem_cons.mpr ⟨wC_12_31, List.forall_mem_cons.mpr ⟨wC_12_32, List.forall_mem_cons.mpr ⟨wC_12_33, List.forall_mem_cons.mpr ⟨wC_12_34, List.forall_mem_cons.mpr ⟨wC_12_35, List.forall_mem_cons.mpr ⟨wC_12_36, List.forall_mem_cons.mpr ⟨wC_12_37, List.forall_mem_cons.mpr ⟨wC_12_38, List.forall_mem_cons.mpr ⟨wC_12_39, List.forall_mem_cons.mpr ⟨wC_12_40, List.forall_mem_cons.mpr ⟨wC_12_41, List.forall_mem_cons.mpr ⟨wC_12_42, List.forall_mem_cons.mpr ⟨wC_12_43, List.forall_mem_cons.mpr ⟨wC_12_44, List.forall_mem_cons.mpr ⟨wC_12_45, List.forall_mem_cons.mpr ⟨wC_12_46, List.forall_mem_cons.mpr ⟨wC_12_47, List.forall_mem_cons.mpr ⟨wC_12_48, List.forall_mem_cons.mpr ⟨wC_12_49, fun _ h => absurd h List.not_mem_nil⟩⟩⟩⟩⟩⟩⟩⟩⟩⟩⟩⟩⟩⟩⟩⟩⟩⟩⟩⟩⟩⟩⟩⟩⟩⟩⟩⟩⟩⟩⟩⟩⟩⟩⟩⟩⟩⟩⟩⟩⟩⟩⟩⟩⟩⟩⟩⟩⟩⟩
theorem wC_13 : ∀ q ∈ ctab.getD 13 [], pC 13 q := fun _ h => absurd h List.not_mem_nil
theorem wC_all : ∀ c, c < 14 → ∀ q ∈ ctab.getD c [], pC c q := fun c hc => match c, hc with
  | 0, _ => wC_0
  | 1, _ => wC_1
  | 2, _ => wC_2
  | 3, _ => wC_3
  | 4, _ => wC_4
  | 5, _ => wC_5
  | 6, _ => wC_6
  | 7, _ => wC_7
  | 8, _ => wC_8
  | 9, _ => wC_9
  | 10, _ => wC_10
  | 11, _ => wC_11
  | 12, _ => wC_12
  | 13, _ => wC_13
  | n + 14, h => absurd h (by omega)
theorem wK_0 : ∀ q ∈ ktab.getD 0 [], pK 0 q := fun _ h => absurd h List.not_mem_nil
theorem wK_1_0 : pK 1 (23, 1000000000) := t2_in (i := 159) rfl
theorem wK_1 : ∀ q ∈ ktab.getD 1 [], pK 1 q := List.forall_mem_cons.mpr ⟨wK_1_0, fun _ h => absurd h List.not_mem_nil⟩
theorem wK_2 : ∀ q ∈ ktab.getD 2 [], pK 2 q := fun _ h => absurd h List.not_mem_nil
theorem wK_3 : ∀ q ∈ ktab.getD 3 [], pK 3 q := fun _ h => absurd h List.not_mem_nil
theorem wK_4 : ∀ q ∈ ktab.getD 4 [], pK 4 q := fun _ h => absurd h List.not_mem_nil
theorem wK_5 : ∀ q ∈ ktab.getD 5 [], pK 5 q := fun _ h => absurd h List.not_mem_nil
theorem wK_6 : ∀ q ∈ ktab.getD 6 [], pK 6 q := fun _ h => absurd h List.not_mem_nil
theorem wK_7 : ∀ q ∈ ktab.getD 7 [], pK 7 q := fun _ h => absurd h List.not_mem_nil
theorem wK_8 : ∀ q ∈ ktab.getD 8 [], pK 8 q := fun _ h => absurd h List.not_mem_nil
theorem wK_9_0 : pK 9 (87, -100001) := t2_in (i := 234) rfl
theorem wK_9_1 : pK 9 (92, -100002) := t2_in (i := 235) rfl
theorem wK_9_2 : pK 9 (96, -100004) := t2_in (i := 236) rfl
theorem wK_9_3 : pK 9 (169, -100003) := t3_in (i := 113) rfl
theorem wK_9_4 : pK 9 (349, 99999) := t5_in (i := 71) rfl
theorem wK_9 : ∀ q ∈ ktab.getD 9 [], pK 9 q := List.forall_mem_cons.mpr ⟨wK_9_0, List.forall_mem_cons.mpr ⟨wK_9_1, List.forall_mem_cons.mpr ⟨wK_9_2, List.forall_mem_cons.mpr ⟨wK_9_3, List.forall_mem_cons.mpr ⟨wK_9_4, fun _ h => absurd h List.not_mem_nil⟩⟩⟩⟩⟩
theorem wK_10_0 : pK 10 (180, 1000000) := t5_in (i := 86) rfl
theorem wK_10_1 : pK 10 (196, -100001) := t6_in (i := 109) rfl
theorem wK_10_2 : pK 10 (200, -100002) := t6_in (i := 114) rfl
theorem wK_10_3 : pK 10 (201, -100004) := t6_in (i := 115) rfl
theorem wK_10_4 : pK 10 (389, -100003) := t7_in (i := 37) rfl
theorem wK_10_5 : pK 10 (498, -400000) := t7_in (i := 215) rfl
theorem wK_10 : ∀ q ∈ ktab.getD 10 [], pK 10 q := List.forall_mem_cons.mpr ⟨wK_10_0, List.forall_mem_cons.mpr ⟨wK_10_1, List.forall_mem_cons.mpr ⟨wK_10_2, List.forall_mem_cons.mpr ⟨wK_10_3, List.forall_mem_cons.mpr ⟨wK_10_4, List.forall_mem_cons.mpr ⟨wK_10_5, fun _ h => absurd h List.not_mem_nil⟩⟩⟩⟩⟩⟩
theorem wK_11 : ∀ q ∈ ktab.getD 11 [], pK 11 q := fun _ h => absurd h List.not_mem_nil
theorem wK_12 : ∀ q ∈ ktab.getD 12 [], pK 12 q := fun _ h => absurd h List.not_mem_nil
theorem wK_13 : ∀ q ∈ ktab.getD 13 [], pK 13 q := fun _ h => absurd h List.not_mem_nil
theorem wK_all : ∀ c, c < 14 → ∀ q ∈ ktab.getD c [], pK c q := fun c hc => match c, hc with
  | 0, _ => wK_0
  | 1, _ => wK_1
  | 2, _ => wK_2
  | 3, _ => wK_3
  | 4, _ => wK_4
  | 5, _ => wK_5
  | 6, _ => wK_6
  | 7, _ => wK_7
  | 8, _ => wK_8
  | 9, _ => wK_9
  | 10, _ => wK_10
  | 11, _ => wK_11
  | 12, _ => wK_12
  | 13, _ => wK_13
  | n + 14, h => absurd h (by omega)
theorem wL_0 : ∀ q ∈ ltab.getD 0 [], pL 0 q := fun _ h => absurd h List.not_mem_nil
theorem wL_1 : ∀ q ∈ ltab.getD 1 [], pL 1 q := fun _ h => absurd h List.not_mem_nil
theorem wL_2_0 : pL 2 (230, 40) := t4_in (i := 21) rfl
theorem wL_2 : ∀ q ∈ ltab.getD 2 [], pL 2 q := List.forall_mem_cons.mpr ⟨wL_2_0, fun _ h => absurd h List.not_mem_nil⟩
theorem wL_3 : ∀ q ∈ ltab.getD 3 [], pL 3 q := fun _ h => absurd h List.not_mem_nil
theorem wL_4 : ∀ q ∈ ltab.getD 4 [], pL 4 q := fun _ h => absurd h List.not_mem_nil
theorem wL_5 : ∀ q ∈ ltab.getD 5 [], pL 5 q := fun _ h => absurd h List.not_mem_nil
theorem wL_6 : ∀ q ∈ ltab.getD 6 [], pL 6 q := fun _ h => absurd h List.not_mem_nil
theorem wL_7_0 : pL 7 (104, 1024) := t4_in (i := 16) rfl
theorem wL_7 : ∀ q ∈ ltab.getD 7 [], pL 7 q := List.forall_mem_cons.mpr ⟨wL_7_0, fun _ h => absurd h List.not_mem_nil⟩
theorem wL_8 : ∀ q ∈ ltab.getD 8 [], pL 8 q := fun _ h => absurd h List.not_mem_nil
theorem wL_9 : ∀ q ∈ ltab.getD 9 [], pL 9 q := fun _ h => absurd h List.not_mem_nil
theorem wL_10_0 : pL 10 (181, 7) := t6_in (i := 105) rfl
theorem wL_10_1 : pL 10 (190, 300) := t6_in (i := 113) rfl
theorem wL_10_2 : pL 10 (211, 2) := t6_in (i := 124) rfl
theorem wL_10_3 : pL 10 (206, 479) := t6_in (i := 128) rfl
theorem wL_10_4 : pL 10 (219, 9) := t6_in (i := 133) rfl
theorem wL_10_5 : pL 10 (254, 3) := t6_in (i := 138) rfl
theorem wL_10_6 : pL 10 (269, 8) := t6_in (i := 187) rfl
theorem wL_10_7 : pL 10 (274, 255) := t6_in (i := 188) rfl
theorem wL_10_8 : pL 10 (289, 97) := t6_in (i := 201) rfl
theorem wL_10_9 : pL 10 (291, 122) := t6_in (i := 202) rfl
theorem wL_10_10 : pL 10 (296, 48) := t6_in (i := 234) rfl
theorem wL_10_11 : pL 10 (298, 57) := t6_in (i := 235) rfl
theorem wL_10_12 : pL 10 (358, 6) := t7_in (i := 20) rfl
theorem wL_10_13 : pL 10 (360, 10) := t7_in (i := 21) rfl
theorem wL_10_14 : pL 10 (362, 21) := t7_in (i := 22) rfl
theorem wL_10_15 : pL 10 (364, 920) := t7_in (i := 23) rfl
theorem wL_10_16 : pL 10 (387, 60) := t7_in (i := 36) rfl
theorem wL_10_17 : pL 10 (467, 200) := t7_in (i := 74) rfl
theorem wL_10_18 : pL 10 (493, 9999) := t7_in (i := 203) rfl
theorem wL_10_19 : pL 10 (505, 11) := t7_in (i := 220) rfl
theorem wL_10_20 : pL 10 (511, -1) := t7_in (i := 225) rfl
theorem wL_10_21 : pL 10 (541, 4) := t8_in (i := 2) rfl
theorem wL_10_22 : pL 10 (546, 99999) := t8_in (i := 23) rfl
theorem wL_10 : ∀ q ∈ ltab.getD 10 [], pL 10 q := List.forall_mem_cons.mpr ⟨wL_10_0, List.forall_mem_cons.mpr ⟨wL_10_1, List.forall_mem_cons.mpr ⟨wL_10_2, List.forall_mem_cons.mpr ⟨wL_10_3, List.forall_mem_cons.mpr ⟨wL_10_4, List.forall_mem_cons.mpr ⟨wL_10_5, List.forall_mem_cons.mpr ⟨wL_10_6, List.forall_mem_cons.mpr ⟨wL_10_7, List.forall_mem_cons.mpr ⟨wL_10_8, List.forall_mem_cons.mpr ⟨wL_10_9, List.forall_mem_cons.mpr ⟨wL_10_10, List.forall_mem_cons.mpr ⟨wL_10_11, List.forall_mem_cons.mpr ⟨wL_10_12, List.forall_mem_cons.mpr ⟨wL_10_13, List.forall_mem_cons.mpr ⟨wL_10_14, List.forall_mem_cons.mpr ⟨wL_10_15, List.forall_mem_cons.mpr ⟨wL_10_16, List.forall_mem_cons.mpr ⟨wL_10_17, List.forall_mem_cons.mpr ⟨wL_10_18, List.forall_mem_cons.mpr ⟨wL_10_19, List.forall_mem_cons.mpr ⟨wL_10_20, List.forall_mem_cons.mpr ⟨wL_10_21, List.forall_mem_cons.mpr ⟨wL_10_22, fun _ h => absurd h List.not_mem_nil⟩⟩⟩⟩⟩⟩⟩⟩⟩⟩⟩⟩⟩⟩⟩⟩⟩⟩⟩⟩⟩⟩⟩
theorem wL_11 : ∀ q ∈ ltab.getD 11 [], pL 11 q := fun _ h => absurd h List.not_mem_nil
theorem wL_12_0 : pL 12 (70, 4294967295) := t8_in (i := 24) rfl
theorem wL_12 : ∀ q ∈ ltab.getD 12 [], pL 12 q := List.forall_mem_cons.mpr ⟨wL_12_0, fun _ h => absurd h List.not_mem_nil⟩
theorem wL_13 : ∀ q ∈ ltab.getD 13 [], pL 13 q := fun _ h => absurd h List.not_mem_nil
theorem wL_all : ∀ c, c < 14 → ∀ q ∈ ltab.getD c [], pL c q := fun c hc => match c, hc with
  | 0, _ => wL_0
  | 1, _ => wL_1
  | 2, _ => wL_2
  | 3, _ => wL_3
  | 4, _ => wL_4
  | 5, _ => wL_5
  | 6, _ => wL_6
  | 7, _ => wL_7
  | 8, _ => wL_8
  | 9, _ => wL_9
  | 10, _ => wL_10
  | 11, _ => wL_11
  | 12, _ => wL_12
  | 13, _ => wL_13
  | n + 14, h => absurd h (by omega)
theorem wN_0 : ∀ q ∈ cltab.getD 0 [], pN 0 q := fun _ h => absurd h List.not_mem_nil
theorem wN_1 : ∀ q ∈ cltab.getD 1 [], pN 1 q := fun _ h => absurd h List.not_mem_nil
theorem wN_2_0 : pN 2 (9, 0) := t1_in (i := 225) rfl
theorem wN_2 : ∀ q ∈ cltab.getD 2 [], pN 2 q := List.forall_mem_cons.mpr ⟨wN_2_0, fun _ h => absurd h List.not_mem_nil⟩
theorem wN_3 : ∀ q ∈ cltab.getD 3 [], pN 3 q := fun _ h => absurd h List.not_mem_nil
theorem wN_4 : ∀ q ∈ cltab.getD 4 [], pN 4 q := fun _ h => absurd h List.not_mem_nil
theorem wN_5 : ∀ q ∈ cltab.getD 5 [], pN 5 q := fun _ h => absurd h List.not_mem_nil
theorem wN_6 : ∀ q ∈ cltab.getD 6 [], pN 6 q := fun _ h => absurd h List.not_mem_nil
theorem wN_7 : ∀ q ∈ cltab.getD 7 [], pN 7 q := fun _ h => absurd h List.not_mem_nil
theorem wN_8 : ∀ q ∈ cltab.getD 8 [], pN 8 q := fun _ h => absurd h List.not_mem_nil
theorem wN_9_0 : pN 9 (9, 4) := t1_in (i := 27) rfl
theorem wN_9_1 : pN 9 (16, 8) := t1_in (i := 78) rfl
theorem wN_9_2 : pN 9 (27, 5) := t1_in (i := 101) rfl
theorem wN_9_3 : pN 9 (34, 7) := t1_in (i := 144) rfl
theorem wN_9_4 : pN 9 (43, 6) := t1_in (i := 194) rfl
theorem wN_9_5 : pN 9 (50, 2) := t1_in (i := 219) rfl
theorem wN_9_6 : pN 9 (59, 1) := t2_in (i := 153) rfl
theorem wN_9_7 : pN 9 (66, 3) := t2_in (i := 172) rfl
theorem wN_9 : ∀ q ∈ cltab.getD 9 [], pN 9 q := List.forall_mem_cons.mpr ⟨wN_9_0, List.forall_mem_cons.mpr ⟨wN_9_1, List.forall_mem_cons.mpr ⟨wN_9_2, List.forall_mem_cons.mpr ⟨wN_9_3, List.forall_mem_cons.mpr ⟨wN_9_4, List.forall_mem_cons.mpr ⟨wN_9_5, List.forall_mem_cons.mpr ⟨wN_9_6, List.forall_mem_cons.mpr ⟨wN_9_7, fun _ h => absurd h List.not_mem_nil⟩⟩⟩⟩⟩⟩⟩⟩
theorem wN_10 : ∀ q ∈ cltab.getD 10 [], pN 10 q := fun _ h => absurd h List.not_mem_nil
theorem wN_11 : ∀ q ∈ cltab.getD 11 [], pN 11 q := fun _ h => absurd h List.not_mem_nil
theorem wN_12_0 : pN 12 (7, 9) := t1_in (i := 19) rfl
theorem wN_12_1 : pN 12 (10, 10) := t5_in (i := 80) rfl
theorem wN_12 : ∀ q ∈ cltab.getD 12 [], pN 12 q := List.forall_mem_cons.mpr ⟨wN_12_0, List.forall_mem_cons.mpr ⟨wN_12_1, fun _ h => absurd h List.not_mem_nil⟩⟩
theorem wN_13 : ∀ q ∈ cltab.getD 13 [], pN 13 q := fun _ h => absurd h List.not_mem_nil
theorem wN_all : ∀ c, c < 14 → ∀ q ∈ cltab.getD c [], pN c q := fun c hc => match c, hc with
  | 0, _ => wN_0
  | 1, _ => wN_1
  | 2, _ => wN_2
  | 3, _ => wN_3
  | 4, _ => wN_4
  | 5, _ => wN_5
  | 6, _ => wN_6
  | 7, _ => wN_7
  | 8, _ => wN_8
  | 9, _ => wN_9
  | 10, _ => wN_10
  | 11, _ => wN_11
  | 12, _ => wN_12
  | 13, _ => wN_13
  | n + 14, h => absurd h (by omega)
theorem wS_0 : ∀ q ∈ stab.getD 0 [], pS 0 q := fun _ h => absurd h List.not_mem_nil
theorem wS_1 : ∀ q ∈ stab.getD 1 [], pS 1 q := fun _ h => absurd h List.not_mem_nil
theorem wS_2 : ∀ q ∈ stab.getD 2 [], pS 2 q := fun _ h => absurd h List.not_mem_nil
theorem wS_3 : ∀ q ∈ stab.getD 3 [], pS 3 q := fun _ h => absurd h List.not_mem_nil
theorem wS_4 : ∀ q ∈ stab.getD 4 [], pS 4 q := fun _ h => absurd h List.not_mem_nil
theorem wS_5 : ∀ q ∈ stab.getD 5 [], pS 5 q := fun _ h => absurd h List.not_mem_nil
theorem wS_6_0 : pS 6 (47, 0) := t4_in (i := 129) rfl
theorem wS_6_1 : pS 6 (71, 1) := t4_in (i := 195) rfl
theorem wS_6_2 : pS 6 (87, 2) := t4_in (i := 208) rfl
theorem wS_6_3 : pS 6 (89, 3) := t4_in (i := 209) rfl
theorem wS_6 : ∀ q ∈ stab.getD 6 [], pS 6 q := List.forall_mem_cons.mpr ⟨wS_6_0, List.forall_mem_cons.mpr ⟨wS_6_1, List.forall_mem_cons.mpr ⟨wS_6_2, List.forall_mem_cons.mpr ⟨wS_6_3, fun _ h => absurd h List.not_mem_nil⟩⟩⟩⟩
theorem wS_7 : ∀ q ∈ stab.getD 7 [], pS 7 q := fun _ h => absurd h List.not_mem_nil
theorem wS_8 : ∀ q ∈ stab.getD 8 [], pS 8 q := fun _ h => absurd h List.not_mem_nil
theorem wS_9 : ∀ q ∈ stab.getD 9 [], pS 9 q := fun _ h => absurd h List.not_mem_nil
theorem wS_10 : ∀ q ∈ stab.getD 10 [], pS 10 q := fun _ h => absurd h List.not_mem_nil
theorem wS_11 : ∀ q ∈ stab.getD 11 [], pS 11 q := fun _ h => absurd h List.not_mem_nil
theorem wS_12 : ∀ q ∈ stab.getD 12 [], pS 12 q := fun _ h => absurd h List.not_mem_nil
theorem wS_13 : ∀ q ∈ stab.getD 13 [], pS 13 q := fun _ h => absurd h List.not_mem_nil
theorem wS_all : ∀ c, c < 14 → ∀ q ∈ stab.getD c [], pS c q := fun c hc => match c, hc with
  | 0, _ => wS_0
  | 1, _ => wS_1
  | 2, _ => wS_2
  | 3, _ => wS_3
  | 4, _ => wS_4
  | 5, _ => wS_5
  | 6, _ => wS_6
  | 7, _ => wS_7
  | 8, _ => wS_8
  | 9, _ => wS_9
  | 10, _ => wS_10
  | 11, _ => wS_11
  | 12, _ => wS_12
  | 13, _ => wS_13
  | n + 14, h => absurd h (by omega)
theorem wM_0 : pM 0 := ⟨t1_in (i := 23) rfl, t1_in (i := 1) rfl⟩
theorem wM_1 : pM 1 := ⟨t1_in (i := 31) rfl, t1_in (i := 2) rfl⟩
theorem wM_2 : pM 2 := ⟨t1_in (i := 36) rfl, t1_in (i := 2) rfl⟩
theorem wM_3 : pM 3 := ⟨t1_in (i := 82) rfl, t1_in (i := 3) rfl⟩
theorem wM_4 : pM 4 := ⟨t1_in (i := 105) rfl, t1_in (i := 4) rfl⟩
theorem wM_5 : pM 5 := ⟨t1_in (i := 148) rfl, t1_in (i := 5) rfl⟩
theorem wM_6 : pM 6 := ⟨t1_in (i := 198) rfl, t1_in (i := 6) rfl⟩
theorem wM_7 : pM 7 := ⟨t1_in (i := 223) rfl, t1_in (i := 7) rfl⟩
theorem wM_8 : pM 8 := ⟨t1_in (i := 230) rfl, t1_in (i := 8) rfl⟩
theorem wM_9 : pM 9 := ⟨t2_in (i := 157) rfl, t1_in (i := 9) rfl⟩
theorem wM_10 : pM 10 := ⟨t2_in (i := 176) rfl, t1_in (i := 10) rfl⟩
theorem wM_11 : pM 11 := ⟨t2_in (i := 227) rfl, t1_in (i := 1) rfl⟩
theorem wM_12 : pM 12 := ⟨t2_in (i := 230) rfl, t1_in (i := 1) rfl⟩
theorem wM_13 : pM 13 := ⟨t2_in (i := 233) rfl, t1_in (i := 1) rfl⟩
theorem wM_14 : pM 14 := ⟨t3_in (i := 0) rfl, t1_in (i := 1) rfl⟩
theorem wM_15 : pM 15 := ⟨t3_in (i := 4) rfl, t1_in (i := 2) rfl⟩
theorem wM_16 : pM 16 := ⟨t3_in (i := 8) rfl, t1_in (i := 2) rfl⟩
theorem wM_17 : pM 17 := ⟨t3_in (i := 12) rfl, t1_in (i := 1) rfl⟩
theorem wM_18 : pM 18 := ⟨t3_in (i := 16) rfl, t1_in (i := 1) rfl⟩
theorem wM_19 : pM 19 := ⟨t3_in (i := 20) rfl, t1_in (i := 3) rfl⟩
theorem wM_20 : pM 20 := ⟨t3_in (i := 24) rfl, t1_in (i := 1) rfl⟩
theorem wM_21 : pM 21 := ⟨t3_in (i := 28) rfl, t1_in (i := 1) rfl⟩
theorem wM_22 : pM 22 := ⟨t3_in (i := 32) rfl, t1_in (i := 3) rfl⟩
theorem wM_23 : pM 23 := ⟨t3_in (i := 37) rfl, t1_in (i := 7) rfl⟩
theorem wM_24 : pM 24 := ⟨t3_in (i := 41) rfl, t1_in (i := 1) rfl⟩
theorem wM_25 : pM 25 := ⟨t3_in (i := 45) rfl, t1_in (i := 7) rfl⟩
theorem wM_26 : pM 26 := ⟨t3_in (i := 49) rfl, t1_in (i := 7) rfl⟩
theorem wM_27 : pM 27 := ⟨t3_in (i := 53) rfl, t1_in (i := 7) rfl⟩
theorem wM_28 : pM 28 := ⟨t3_in (i := 57) rfl, t1_in (i := 5) rfl⟩
theorem wM_29 : pM 29 := ⟨t3_in (i := 61) rfl, t1_in (i := 4) rfl⟩
theorem wM_30 : pM 30 := ⟨t3_in (i := 65) rfl, t1_in (i := 5) rfl⟩
theorem wM_31 : pM 31 := ⟨t3_in (i := 69) rfl, t1_in (i := 4) rfl⟩
theorem wM_32 : pM 32 := ⟨t3_in (i := 73) rfl, t1_in (i := 5) rfl⟩
theorem wM_33 : pM 33 := ⟨t3_in (i := 77) rfl, t1_in (i := 5) rfl⟩
theorem wM_34 : pM 34 := ⟨t3_in (i := 81) rfl, t1_in (i := 5) rfl⟩
theorem wM_35 : pM 35 := ⟨t3_in (i := 85) rfl, t1_in (i := 5) rfl⟩
theorem wM_36 : pM 36 := ⟨t3_in (i := 92) rfl, t1_in (i := 8) rfl⟩
theorem wM_37 : pM 37 := ⟨t3_in (i := 95) rfl, t1_in (i := 13) rfl⟩
theorem wM_38 : pM 38 := ⟨t3_in (i := 99) rfl, t1_in (i := 5) rfl⟩
theorem wM_39 : pM 39 := ⟨t3_in (i := 103) rfl, t1_in (i := 5) rfl⟩
theorem wM_40 : pM 40 := ⟨t3_in (i := 108) rfl, t1_in (i := 7) rfl⟩
theorem wM_41 : pM 41 := ⟨t3_in (i := 112) rfl, t1_in (i := 1) rfl⟩
theorem wM_42 : pM 42 := ⟨t3_in (i := 117) rfl, t1_in (i := 1) rfl⟩
theorem wM_43 : pM 43 := ⟨t3_in (i := 122) rfl, t1_in (i := 7) rfl⟩
theorem wM_44 : pM 44 := ⟨t3_in (i := 126) rfl, t1_in (i := 8) rfl⟩
theorem wM_45 : pM 45 := ⟨t3_in (i := 130) rfl, t1_in (i := 2) rfl⟩
theorem wM_46 : pM 46 := ⟨t3_in (i := 134) rfl, t1_in (i := 2) rfl⟩
theorem wM_47 : pM 47 := ⟨t3_in (i := 138) rfl, t1_in (i := 7) rfl⟩
theorem wM_48 : pM 48 := ⟨t3_in (i := 142) rfl, t1_in (i := 8) rfl⟩
theorem wM_49 : pM 49 := ⟨t3_in (i := 146) rfl, t1_in (i := 1) rfl⟩
theorem wM_50 : pM 50 := ⟨t3_in (i := 150) rfl, t1_in (i := 1) rfl⟩
theorem wM_51 : pM 51 := ⟨t3_in (i := 154) rfl, t1_in (i := 7) rfl⟩
theorem wM_52 : pM 52 := ⟨t3_in (i := 158) rfl, t1_in (i := 7) rfl⟩
theorem wM_53 : pM 53 := ⟨t3_in (i := 162) rfl, t1_in (i := 1) rfl⟩
theorem wM_54 : pM 54 := ⟨t3_in (i := 167) rfl, t1_in (i := 1) rfl⟩
theorem wM_55 : pM 55 := ⟨t3_in (i := 173) rfl, t1_in (i := 1) rfl⟩
theorem wM_56 : pM 56 := ⟨t3_in (i := 176) rfl, t1_in (i := 13) rfl⟩
theorem wM_57 : pM 57 := ⟨t3_in (i := 180) rfl, t1_in (i := 1) rfl⟩
theorem wM_58 : pM 58 := ⟨t3_in (i := 184) rfl, t1_in (i := 2) rfl⟩
theorem wM_59 : pM 59 := ⟨t3_in (i := 187) rfl, t1_in (i := 2) rfl⟩
theorem wM_60 : pM 60 := ⟨t3_in (i := 190) rfl, t1_in (i := 13) rfl⟩
theorem wM_61 : pM 61 := ⟨t3_in (i := 194) rfl, t1_in (i := 2) rfl⟩
theorem wM_62 : pM 62 := ⟨t3_in (i := 198) rfl, t1_in (i := 2) rfl⟩
theorem wM_63 : pM 63 := ⟨t3_in (i := 202) rfl, t1_in (i := 2) rfl⟩
theorem wM_64 : pM 64 := ⟨t3_in (i := 206) rfl, t1_in (i := 2) rfl⟩
theorem wM_65 : pM 65 := ⟨t3_in (i := 209) rfl, t1_in (i := 13) rfl⟩
theorem wM_66 : pM 66 := ⟨t3_in (i := 214) rfl, t1_in (i := 2) rfl⟩
theorem wM_67 : pM 67 := ⟨t3_in (i := 217) rfl, t1_in (i := 13) rfl⟩
theorem wM_68 : pM 68 := ⟨t3_in (i := 221) rfl, t1_in (i := 1) rfl⟩
theorem wM_69 : pM 69 := ⟨t3_in (i := 225) rfl, t1_in (i := 7) rfl⟩
theorem wM_70 : pM 70 := ⟨t3_in (i := 230) rfl, t1_in (i := 7) rfl⟩
theorem wM_71 : pM 71 := ⟨t3_in (i := 234) rfl, t1_in (i := 3) rfl⟩
theorem wM_72 : pM 72 := ⟨t3_in (i := 238) rfl, t1_in (i := 7) rfl⟩
theorem wM_73 : pM 73 := ⟨t4_in (i := 2) rfl, t1_in (i := 7) rfl⟩
theorem wM_74 : pM 74 := ⟨t4_in (i := 6) rfl, t1_in (i := 7) rfl⟩
theorem wM_75 : pM 75 := ⟨t4_in (i := 10) rfl, t1_in (i := 2) rfl⟩
theorem wM_76 : pM 76 := ⟨t4_in (i := 15) rfl, t1_in (i := 5) rfl⟩
theorem wM_77 : pM 77 := ⟨t4_in (i := 19) rfl, t1_in (i := 5) rfl⟩
theorem wM_78 : pM 78 := ⟨t4_in (i := 25) rfl, t1_in (i := 7) rfl⟩
theorem wM_79 : pM 79 := ⟨t4_in (i := 29) rfl, t1_in (i := 7) rfl⟩
theorem wM_80 : pM 80 := ⟨t4_in (i := 33) rfl, t1_in (i := 8) rfl⟩
theorem wM_81 : pM 81 := ⟨t4_in (i := 38) rfl, t1_in (i := 7) rfl⟩
theorem wM_82 : pM 82 := ⟨t4_in (i := 42) rfl, t1_in (i := 7) rfl⟩
theorem wM_83 : pM 83 := ⟨t4_in (i := 46) rfl, t1_in (i := 7) rfl⟩
theorem wM_84 : pM 84 := ⟨t4_in (i := 50) rfl, t1_in (i := 7) rfl⟩
theorem wM_85 : pM 85 := ⟨t4_in (i := 57) rfl, t1_in (i := 7) rfl⟩
theorem wM_86 : pM 86 := ⟨t4_in (i := 61) rfl, t1_in (i := 7) rfl⟩
theorem wM_87 : pM 87 := ⟨t4_in (i := 64) rfl, t1_in (i := 13) rfl⟩
theorem wM_88 : pM 88 := ⟨t4_in (i := 69) rfl, t1_in (i := 7) rfl⟩
theorem wM_89 : pM 89 := ⟨t4_in (i := 73) rfl, t1_in (i := 7) rfl⟩
theorem wM_90 : pM 90 := ⟨t4_in (i := 78) rfl, t1_in (i := 1) rfl⟩
theorem wM_91 : pM 91 := ⟨t4_in (i := 82) rfl, t1_in (i := 7) rfl⟩
theorem wM_92 : pM 92 := ⟨t4_in (i := 86) rfl, t1_in (i := 8) rfl⟩
theorem wM_93 : pM 93 := ⟨t4_in (i := 90) rfl, t1_in (i := 8) rfl⟩
theorem wM_94 : pM 94 := ⟨t4_in (i := 97) rfl, t1_in (i := 7) rfl⟩
theorem wM_95 : pM 95 := ⟨t4_in (i := 104) rfl, t1_in (i := 1) rfl⟩
theorem wM_96 : pM 96 := ⟨t4_in (i := 108) rfl, t1_in (i := 6) rfl⟩
theorem wM_97 : pM 97 := ⟨t4_in (i := 112) rfl, t1_in (i := 1) rfl⟩
theorem wM_98 : pM 98 := ⟨t4_in (i := 116) rfl, t1_in (i := 6) rfl⟩
theorem wM_99 : pM 99 := ⟨t4_in (i := 120) rfl, t1_in (i := 6) rfl⟩
theorem wM_100 : pM 100 := ⟨t4_in (i := 124) rfl, t1_in (i := 6) rfl⟩
theorem wM_101 : pM 101 := ⟨t4_in (i := 128) rfl, t1_in (i := 6) rfl⟩
theorem wM_102 : pM 102 := ⟨t4_in (i := 133) rfl, t1_in (i := 6) rfl⟩
theorem wM_103 : pM 103 := ⟨t4_in (i := 148) rfl, t1_in (i := 6) rfl⟩
theorem wM_104 : pM 104 := ⟨t4_in (i := 190) rfl, t1_in (i := 6) rfl⟩
theorem wM_105 : pM 105 := ⟨t4_in (i := 194) rfl, t1_in (i := 6) rfl⟩
theorem wM_106 : pM 106 := ⟨t4_in (i := 199) rfl, t1_in (i := 6) rfl⟩
theorem wM_107 : pM 107 := ⟨t4_in (i := 203) rfl, t1_in (i := 6) rfl⟩
theorem wM_108 : pM 108 := ⟨t4_in (i := 207) rfl, t1_in (i := 6) rfl⟩
theorem wM_109 : pM 109 := ⟨t4_in (i := 213) rfl, t1_in (i := 6) rfl⟩
theorem wM_110 : pM 110 := ⟨t4_in (i := 217) rfl, t1_in (i := 6) rfl⟩
theorem wM_111 : pM 111 := ⟨t4_in (i := 222) rfl, t1_in (i := 1) rfl⟩
theorem wM_112 : pM 112 := ⟨t4_in (i := 226) rfl, t1_in (i := 1) rfl⟩
theorem wM_113 : pM 113 := ⟨t4_in (i := 230) rfl, t1_in (i := 5) rfl⟩
theorem wM_114 : pM 114 := ⟨t4_in (i := 236) rfl, t1_in (i := 1) rfl⟩
theorem wM_115 : pM 115 := ⟨t5_in (i := 0) rfl, t1_in (i := 9) rfl⟩
theorem wM_116 : pM 116 := ⟨t5_in (i := 4) rfl, t1_in (i := 9) rfl⟩
theorem wM_117 : pM 117 := ⟨t5_in (i := 9) rfl, t1_in (i := 9) rfl⟩
theorem wM_118 : pM 118 := ⟨t5_in (i := 13) rfl, t1_in (i := 1) rfl⟩
theorem wM_119 : pM 119 := ⟨t5_in (i := 17) rfl, t1_in (i := 9) rfl⟩
theorem wM_120 : pM 120 := ⟨t5_in (i := 21) rfl, t1_in (i := 9) rfl⟩
theorem wM_121 : pM 121 := ⟨t5_in (i := 26) rfl, t1_in (i := 1) rfl⟩
theorem wM_122 : pM 122 := ⟨t5_in (i := 30) rfl, t1_in (i := 1) rfl⟩
theorem wM_123 : pM 123 := ⟨t5_in (i := 34) rfl, t1_in (i := 10) rfl⟩
theorem wM_124 : pM 124 := ⟨t5_in (i := 38) rfl, t1_in (i := 10) rfl⟩
theorem wM_125 : pM 125 := ⟨t5_in (i := 44) rfl, t1_in (i := 10) rfl⟩
theorem wM_126 : pM 126 := ⟨t5_in (i := 48) rfl, t1_in (i := 1) rfl⟩
theorem wM_127 : pM 127 := ⟨t5_in (i := 52) rfl, t1_in (i := 7) rfl⟩
theorem wM_128 : pM 128 := ⟨t5_in (i := 56) rfl, t1_in (i := 7) rfl⟩
theorem wM_129 : pM 129 := ⟨t5_in (i := 60) rfl, t1_in (i := 8) rfl⟩
theorem wM_130 : pM 130 := ⟨t5_in (i := 66) rfl, t1_in (i := 1) rfl⟩
theorem wM_131 : pM 131 := ⟨t5_in (i := 70) rfl, t1_in (i := 1) rfl⟩
theorem wM_132 : pM 132 := ⟨t5_in (i := 75) rfl, t1_in (i := 1) rfl⟩
theorem wM_133 : pM 133 := ⟨t5_in (i := 79) rfl, t1_in (i := 2) rfl⟩
theorem wM_134 : pM 134 := ⟨t5_in (i := 84) rfl, t1_in (i := 11) rfl⟩
theorem wM_135 : pM 135 := ⟨t6_in (i := 101) rfl, t1_in (i := 11) rfl⟩
theorem wM_136 : pM 136 := ⟨t6_in (i := 104) rfl, t1_in (i := 11) rfl⟩
theorem wM_137 : pM 137 := ⟨t6_in (i := 108) rfl, t1_in (i := 11) rfl⟩
theorem wM_138 : pM 138 := ⟨t6_in (i := 112) rfl, t1_in (i := 11) rfl⟩
theorem wM_139 : pM 139 := ⟨t6_in (i := 119) rfl, t1_in (i := 11) rfl⟩
theorem wM_140 : pM 140 := ⟨t6_in (i := 123) rfl, t1_in (i := 11) rfl⟩
theorem wM_141 : pM 141 := ⟨t6_in (i := 127) rfl, t1_in (i := 11) rfl⟩
theorem wM_142 : pM 142 := ⟨t6_in (i := 132) rfl, t1_in (i := 11) rfl⟩
theorem wM_143 : pM 143 := ⟨t6_in (i := 137) rfl, t1_in (i := 11) rfl⟩
theorem wM_144 : pM 144 := ⟨t6_in (i := 142) rfl, t1_in (i := 11) rfl⟩
theorem wM_145 : pM 145 := ⟨t6_in (i := 146) rfl, t1_in (i := 11) rfl⟩
theorem wM_146 : pM 146 := ⟨t6_in (i := 150) rfl, t1_in (i := 11) rfl⟩
theorem wM_147 : pM 147 := ⟨t6_in (i := 154) rfl, t1_in (i := 11) rfl⟩
theorem wM_148 : pM 148 := ⟨t6_in (i := 158) rfl, t1_in (i := 11) rfl⟩
theorem wM_149 : pM 149 := ⟨t6_in (i := 162) rfl, t1_in (i := 11) rfl⟩
theorem wM_150 : pM 150 := ⟨t6_in (i := 166) rfl, t1_in (i := 11) rfl⟩
theorem wM_151 : pM 151 := ⟨t6_in (i := 170) rfl, t1_in (i := 11) rfl⟩
theorem wM_152 : pM 152 := ⟨t6_in (i := 174) rfl, t1_in (i := 11) rfl⟩
theorem wM_153 : pM 153 := ⟨t6_in (i := 178) rfl, t1_in (i := 11) rfl⟩
theorem wM_154 : pM 154 := ⟨t6_in (i := 182) rfl, t1_in (i := 11) rfl⟩
theorem wM_155 : pM 155 := ⟨t6_in (i := 186) rfl, t1_in (i := 11) rfl⟩
theorem wM_156 : pM 156 := ⟨t6_in (i := 192) rfl, t1_in (i := 11) rfl⟩
theorem wM_157 : pM 157 := ⟨t6_in (i := 196) rfl, t1_in (i := 11) rfl⟩
theorem wM_158 : pM 158 := ⟨t6_in (i := 200) rfl, t1_in (i := 11) rfl⟩
theorem wM_159 : pM 159 := ⟨t6_in (i := 206) rfl, t1_in (i := 11) rfl⟩
theorem wM_160 : pM 160 := ⟨t6_in (i := 210) rfl, t1_in (i := 11) rfl⟩
theorem wM_161 : pM 161 := ⟨t6_in (i := 214) rfl, t1_in (i := 11) rfl⟩
theorem wM_162 : pM 162 := ⟨t6_in (i := 218) rfl, t1_in (i := 11) rfl⟩
theorem wM_163 : pM 163 := ⟨t6_in (i := 222) rfl, t1_in (i := 11) rfl⟩
theorem wM_164 : pM 164 := ⟨t6_in (i := 226) rfl, t1_in (i := 11) rfl⟩
theorem wM_165 : pM 165 := ⟨t6_in (i := 229) rfl, t1_in (i := 11) rfl⟩
theorem wM_166 : pM 166 := ⟨t6_in (i := 233) rfl, t1_in (i := 11) rfl⟩
theorem wM_167 : pM 167 := ⟨t6_in (i := 239) rfl, t1_in (i := 11) rfl⟩
theorem wM_168 : pM 168 := ⟨t7_in (i := 3) rfl, t1_in (i := 11) rfl⟩
theorem wM_169 : pM 169 := ⟨t7_in (i := 7) rfl, t1_in (i := 11) rfl⟩
theorem wM_170 : pM 170 := ⟨t7_in (i := 11) rfl, t1_in (i := 11) rfl⟩
theorem wM_171 : pM 171 := ⟨t7_in (i := 15) rfl, t1_in (i := 11) rfl⟩
theorem wM_172 : pM 172 := ⟨t7_in (i := 19) rfl, t1_in (i := 11) rfl⟩
theorem wM_173 : pM 173 := ⟨t7_in (i := 27) rfl, t1_in (i := 11) rfl⟩
theorem wM_174 : pM 174 := ⟨t7_in (i := 31) rfl, t1_in (i := 11) rfl⟩
theorem wM_175 : pM 175 := ⟨t7_in (i := 35) rfl, t1_in (i := 11) rfl⟩
theorem wM_176 : pM 176 := ⟨t7_in (i := 41) rfl, t1_in (i := 11) rfl⟩
theorem wM_177 : pM 177 := ⟨t7_in (i := 45) rfl, t1_in (i := 11) rfl⟩
theorem wM_178 : pM 178 := ⟨t7_in (i := 49) rfl, t1_in (i := 11) rfl⟩
theorem wM_179 : pM 179 := ⟨t7_in (i := 53) rfl, t1_in (i := 11) rfl⟩
theorem wM_180 : pM 180 := ⟨t7_in (i := 57) rfl, t1_in (i := 11) rfl⟩
theorem wM_181 : pM 181 := ⟨t7_in (i := 61) rfl, t1_in (i := 11) rfl⟩
theorem wM_182 : pM 182 := ⟨t7_in (i := 65) rfl, t1_in (i := 11) rfl⟩
theorem wM_183 : pM 183 := ⟨t7_in (i := 69) rfl, t1_in (i := 11) rfl⟩
theorem wM_184 : pM 184 := ⟨t7_in (i := 73) rfl, t1_in (i := 11) rfl⟩
theorem wM_185 : pM 185 := ⟨t7_in (i := 78) rfl, t1_in (i := 11) rfl⟩
theorem wM_186 : pM 186 := ⟨t7_in (i := 82) rfl, t1_in (i := 11) rfl⟩
theorem wM_187 : pM 187 := ⟨t7_in (i := 86) rfl, t1_in (i := 11) rfl⟩
theorem wM_188 : pM 188 := ⟨t7_in (i := 90) rfl, t1_in (i := 11) rfl⟩
theorem wM_189 : pM 189 := ⟨t7_in (i := 94) rfl, t1_in (i := 11) rfl⟩
theorem wM_190 : pM 190 := ⟨t7_in (i := 98) rfl, t1_in (i := 11) rfl⟩
theorem wM_191 : pM 191 := ⟨t7_in (i := 102) rfl, t1_in (i := 11) rfl⟩
theorem wM_192 : pM 192 := ⟨t7_in (i := 106) rfl, t1_in (i := 11) rfl⟩
theorem wM_193 : pM 193 := ⟨t7_in (i := 110) rfl, t1_in (i := 11) rfl⟩
theorem wM_194 : pM 194 := ⟨t7_in (i := 114) rfl, t1_in (i := 11) rfl⟩
theorem wM_195 : pM 195 := ⟨t7_in (i := 118) rfl, t1_in (i := 11) rfl⟩
theorem wM_196 : pM 196 := ⟨t7_in (i := 122) rfl, t1_in (i := 11) rfl⟩
theorem wM_197 : pM 197 := ⟨t7_in (i := 126) rfl, t1_in (i := 11) rfl⟩
theorem wM_198 : pM 198 := ⟨t7_in (i := 130) rfl, t1_in (i := 11) rfl⟩
theorem wM_199 : pM 199 := ⟨t7_in (i := 134) rfl, t1_in (i := 11) rfl⟩
theorem wM_200 : pM 200 := ⟨t7_in (i := 138) rfl, t1_in (i := 11) rfl⟩
theorem wM_201 : pM 201 := ⟨t7_in (i := 142) rfl, t1_in (i := 11) rfl⟩
theorem wM_202 : pM 202 := ⟨t7_in (i := 146) rfl, t1_in (i := 11) rfl⟩
theorem wM_203 : pM 203 := ⟨t7_in (i := 150) rfl, t1_in (i := 11) rfl⟩
theorem wM_204 : pM 204 := ⟨t7_in (i := 154) rfl, t1_in (i := 11) rfl⟩
theorem wM_205 : pM 205 := ⟨t7_in (i := 158) rfl, t1_in (i := 11) rfl⟩
theorem wM_206 : pM 206 := ⟨t7_in (i := 162) rfl, t1_in (i := 11) rfl⟩
theorem wM_207 : pM 207 := ⟨t7_in (i := 166) rfl, t1_in (i := 11) rfl⟩
theorem wM_208 : pM 208 := ⟨t7_in (i := 170) rfl, t1_in (i := 11) rfl⟩
theorem wM_209 : pM 209 := ⟨t7_in (i := 174) rfl, t1_in (i := 11) rfl⟩
theorem wM_210 : pM 210 := ⟨t7_in (i := 178) rfl, t1_in (i := 11) rfl⟩
theorem wM_211 : pM 211 := ⟨t7_in (i := 182) rfl, t1_in (i := 11) rfl⟩
theorem wM_212 : pM 212 := ⟨t7_in (i := 186) rfl, t1_in (i := 11) rfl⟩
theorem wM_213 : pM 213 := ⟨t7_in (i := 190) rfl, t1_in (i := 11) rfl⟩
theorem wM_214 : pM 214 := ⟨t7_in (i := 194) rfl, t1_in (i := 11) rfl⟩
theorem wM_215 : pM 215 := ⟨t7_in (i := 198) rfl, t1_in (i := 11) rfl⟩
theorem wM_216 : pM 216 := ⟨t7_in (i := 202) rfl, t1_in (i := 11) rfl⟩
theorem wM_217 : pM 217 := ⟨t7_in (i := 206) rfl, t1_in (i := 11) rfl⟩
theorem wM_218 : pM 218 := ⟨t7_in (i := 210) rfl, t1_in (i := 11) rfl⟩
theorem wM_219 : pM 219 := ⟨t7_in (i := 214) rfl, t1_in (i := 11) rfl⟩
theorem wM_220 : pM 220 := ⟨t7_in (i := 219) rfl, t1_in (i := 11) rfl⟩
theorem wM_221 : pM 221 := ⟨t7_in (i := 224) rfl, t1_in (i := 11) rfl⟩
theorem wM_222 : pM 222 := ⟨t7_in (i := 229) rfl, t1_in (i := 11) rfl⟩
theorem wM_223 : pM 223 := ⟨t7_in (i := 233) rfl, t1_in (i := 11) rfl⟩
theorem wM_224 : pM 224 := ⟨t7_in (i := 237) rfl, t1_in (i := 11) rfl⟩
theorem wM_225 : pM 225 := ⟨t8_in (i := 1) rfl, t1_in (i := 11) rfl⟩
theorem wM_226 : pM 226 := ⟨t8_in (i := 6) rfl, t1_in (i := 11) rfl⟩
theorem wM_227 : pM 227 := ⟨t8_in (i := 10) rfl, t1_in (i := 11) rfl⟩
theorem wM_228 : pM 228 := ⟨t8_in (i := 14) rfl, t1_in (i := 11) rfl⟩
theorem wM_229 : pM 229 := ⟨t8_in (i := 18) rfl, t1_in (i := 11) rfl⟩
theorem wM_230 : pM 230 := ⟨t8_in (i := 22) rfl, t1_in (i := 11) rfl⟩
theorem wM_all : ∀ j, j < 231 → pM j := fun j hj => match j, hj with
  | 0, _ => wM_0
  | 1, _ => wM_1
  | 2, _ => wM_2
  | 3, _ => wM_3
  | 4, _ => wM_4
  | 5, _ => wM_5
  | 6, _ => wM_6
  | 7, _ => wM_7
  | 8, _ => wM_8
  | 9, _ => wM_9
  | 10, _ => wM_10
  | 11, _ => wM_11
  | 12, _ => wM_12
  | 13, _ => wM_13
  | 14, _ => wM_14
  | 15, _ => wM_15
  | 16, _ => wM_16
  | 17, _ => wM_17
  | 18, _ => wM_18
  | 19, _ => wM_19
  | 20, _ => wM_20
  | 21, _ => wM_21
  | 22, _ => wM_22
  | 23, _ => wM_23
  | 24, _ => wM_24
  | 25, _ => wM_25
  | 26, _ => wM_26
  | 27, _ => wM_27
  | 28, _ => wM_28
  | 29, _ => wM_29
  | 30, _ => wM_30
  | 31, _ => wM_31
  | 32, _ => wM_32
  | 33, _ => wM_33
  | 34, _ => wM_34
  | 35, _ => wM_35
  | 36, _ => wM_36
  | 37, _ => wM_37
  | 38, _ => wM_38
  | 39, _ => wM_39
  | 40, _ => wM_40
  | 41, _ => wM_41
  | 42, _ => wM_42
  | 43, _ => wM_43
  | 44, _ => wM_44
  | 45, _ => wM_45
  | 46, _ => wM_46
  | 47, _ => wM_47
  | 48, _ => wM_48
  | 49, _ => wM_49
  | 50, _ => wM_50
  | 51, _ => wM_51
  | 52, _ => wM_52
  | 53, _ => wM_53
  | 54, _ => wM_54
  | 55, _ => wM_55
  | 56, _ => wM_56
  | 57, _ => wM_57
  | 58, _ => wM_58
  | 59, _ => wM_59
  | 60, _ => wM_60
  | 61, _ => wM_61
  | 62, _ => wM_62
  | 63, _ => wM_63
  | 64, _ => wM_64
  | 65, _ => wM_65
  | 66, _ => wM_66
  | 67, _ => wM_67
  | 68, _ => wM_68
  | 69, _ => wM_69
  | 70, _ => wM_70
  | 71, _ => wM_71
  | 72, _ => wM_72
  | 73, _ => wM_73
  | 74, _ => wM_74
  | 75, _ => wM_75
  | 76, _ => wM_76
  | 77, _ => wM_77
  | 78, _ => wM_78
  | 79, _ => wM_79
  | 80, _ => wM_80
  | 81, _ => wM_81
  | 82, _ => wM_82
  | 83, _ => wM_83
  | 84, _ => wM_84
  | 85, _ => wM_85
  | 86, _ => wM_86
  | 87, _ => wM_87
  | 88, _ => wM_88
  | 89, _ => wM_89
  | 90, _ => wM_90
  | 91, _ => wM_91
  | 92, _ => wM_92
  | 93, _ => wM_93
  | 94, _ => wM_94
  | 95, _ => wM_95
  | 96, _ => wM_96
  | 97, _ => wM_97
  | 98, _ => wM_98
  | 99, _ => wM_99
  | 100, _ => wM_100
  | 101, _ => wM_101
  | 102, _ => wM_102
  | 103, _ => wM_103
  | 104, _ => wM_104
  | 105, _ => wM_105
  | 106, _ => wM_106
  | 107, _ => wM_107
  | 108, _ => wM_108
  | 109, _ => wM_109
  | 110, _ => wM_110
  | 111, _ => wM_111
  | 112, _ => wM_112
  | 113, _ => wM_113
  | 114, _ => wM_114
  | 115, _ => wM_115
  | 116, _ => wM_116
  | 117, _ => wM_117
  | 118, _ => wM_118
  | 119, _ => wM_119
  | 120, _ => wM_120
  | 121, _ => wM_121
  | 122, _ => wM_122
  | 123, _ => wM_123
  | 124, _ => wM_124
  | 125, _ => wM_125
  | 126, _ => wM_126
  | 127, _ => wM_127
  | 128, _ => wM_128
  | 129, _ => wM_129
  | 130, _ => wM_130
  | 131, _ => wM_131
  | 132, _ => wM_132
  | 133, _ => wM_133
  | 134, _ => wM_134
  | 135, _ => wM_135
  | 136, _ => wM_136
  | 137, _ => wM_137
  | 138, _ => wM_138
  | 139, _ => wM_139
  | 140, _ => wM_140
  | 141, _ => wM_141
  | 142, _ => wM_142
  | 143, _ => wM_143
  | 144, _ => wM_144
  | 145, _ => wM_145
  | 146, _ => wM_146
  | 147, _ => wM_147
  | 148, _ => wM_148
  | 149, _ => wM_149
  | 150, _ => wM_150
  | 151, _ => wM_151
  | 152, _ => wM_152
  | 153, _ => wM_153
  | 154, _ => wM_154
  | 155, _ => wM_155
  | 156, _ => wM_156
  | 157, _ => wM_157
  | 158, _ => wM_158
  | 159, _ => wM_159
  | 160, _ => wM_160
  | 161, _ => wM_161
  | 162, _ => wM_162
  | 163, _ => wM_163
  | 164, _ => wM_164
  | 165, _ => wM_165
  | 166, _ => wM_166
  | 167, _ => wM_167
  | 168, _ => wM_168
  | 169, _ => wM_169
  | 170, _ => wM_170
  | 171, _ => wM_171
  | 172, _ => wM_172
  | 173, _ => wM_173
  | 174, _ => wM_174
  | 175, _ => wM_175
  | 176, _ => wM_176
  | 177, _ => wM_177
  | 178, _ => wM_178
  | 179, _ => wM_179
  | 180, _ => wM_180
  | 181, _ => wM_181
  | 182, _ => wM_182
  | 183, _ => wM_183
  | 184, _ => wM_184
  | 185, _ => wM_185
  | 186, _ => wM_186
  | 187, _ => wM_187
  | 188, _ => wM_188
  | 189, _ => wM_189
  | 190, _ => wM_190
  | 191, _ => wM_191
  | 192, _ => wM_192
  | 193, _ => wM_193
  | 194, _ => wM_194
  | 195, _ => wM_195
  | 196, _ => wM_196
  | 197, _ => wM_197
  | 198, _ => wM_198
  | 199, _ => wM_199
  | 200, _ => wM_200
  | 201, _ => wM_201
  | 202, _ => wM_202
  | 203, _ => wM_203
  | 204, _ => wM_204
  | 205, _ => wM_205
  | 206, _ => wM_206
  | 207, _ => wM_207
  | 208, _ => wM_208
  | 209, _ => wM_209
  | 210, _ => wM_210
  | 211, _ => wM_211
  | 212, _ => wM_212
  | 213, _ => wM_213
  | 214, _ => wM_214
  | 215, _ => wM_215
  | 216, _ => wM_216
  | 217, _ => wM_217
  | 218, _ => wM_218
  | 219, _ => wM_219
  | 220, _ => wM_220
  | 221, _ => wM_221
  | 222, _ => wM_222
  | 223, _ => wM_223
  | 224, _ => wM_224
  | 225, _ => wM_225
  | 226, _ => wM_226
  | 227, _ => wM_227
  | 228, _ => wM_228
  | 229, _ => wM_229
  | 230, _ => wM_230
  | n + 231, h => absurd h (by omega)
theorem wU_0_0 : u_lay (cN.getD 0 "") (TT 0) 0 ∈ lw_tbl := t2_in (i := 49) rfl
theorem wU_0_1 : u_lay (cN.getD 0 "") (TT 0) 1 ∈ lw_tbl := t2_in (i := 51) rfl
theorem wU_0_2 : u_lay (cN.getD 0 "") (TT 0) 2 ∈ lw_tbl := t2_in (i := 53) rfl
theorem wU_0_3 : u_lay (cN.getD 0 "") (TT 0) 3 ∈ lw_tbl := t2_in (i := 55) rfl
theorem wU_0_4 : u_lay (cN.getD 0 "") (TT 0) 4 ∈ lw_tbl := t2_in (i := 57) rfl
theorem wU_0_5 : u_lay (cN.getD 0 "") (TT 0) 5 ∈ lw_tbl := t2_in (i := 59) rfl
theorem wU_0_6 : u_lay (cN.getD 0 "") (TT 0) 6 ∈ lw_tbl := t2_in (i := 61) rfl
theorem wU_0_7 : u_lay (cN.getD 0 "") (TT 0) 7 ∈ lw_tbl := t2_in (i := 63) rfl
theorem wU_0_8 : u_lay (cN.getD 0 "") (TT 0) 8 ∈ lw_tbl := t2_in (i := 65) rfl
theorem wU_0_9 : u_lay (cN.getD 0 "") (TT 0) 9 ∈ lw_tbl := t2_in (i := 67) rfl
theorem wU_0_10 : u_lay (cN.getD 0 "") (TT 0) 10 ∈ lw_tbl := t2_in (i := 69) rfl
theorem wU_0_11 : u_lay (cN.getD 0 "") (TT 0) 11 ∈ lw_tbl := t2_in (i := 71) rfl
theorem wU_0_12 : u_lay (cN.getD 0 "") (TT 0) 12 ∈ lw_tbl := t2_in (i := 73) rfl
theorem wU_0_13 : u_lay (cN.getD 0 "") (TT 0) 13 ∈ lw_tbl := t2_in (i := 75) rfl
theorem wU_0_14 : u_lay (cN.getD 0 "") (TT 0) 14 ∈ lw_tbl := t2_in (i := 77) rfl
theorem wU_0_15 : u_lay (cN.getD 0 "") (TT 0) 15 ∈ lw_tbl := t2_in (i := 79) rfl
theorem wU_0_16 : u_lay (cN.getD 0 "") (TT 0) 16 ∈ lw_tbl := t2_in (i := 81) rfl
theorem wU_0_17 : u_lay (cN.getD 0 "") (TT 0) 17 ∈ lw_tbl := t2_in (i := 83) rfl
theorem wU_0_18 : u_lay (cN.getD 0 "") (TT 0) 18 ∈ lw_tbl := t2_in (i := 85) rfl
theorem wU_0_19 : u_lay (cN.getD 0 "") (TT 0) 19 ∈ lw_tbl := t2_in (i := 87) rfl
theorem wU_0 : ∀ k, k < fN 0 → u_lay (cN.getD 0 "") (TT 0) k ∈ lw_tbl := fun k hk => match k, hk with
  | 0, _ => wU_0_0
  | 1, _ => wU_0_1
  | 2, _ => wU_0_2
  | 3, _ => wU_0_3
  | 4, _ => wU_0_4
  | 5, _ => wU_0_5
  | 6, _ => wU_0_6
  | 7, _ => wU_0_7
  | 8, _ => wU_0_8
  | 9, _ => wU_0_9
  | 10, _ => wU_0_10
  | 11, _ => wU_0_11
  | 12, _ => wU_0_12
  | 13, _ => wU_0_13
  | 14, _ => wU_0_14
  | 15, _ => wU_0_15
  | 16, _ => wU_0_16
  | 17, _ => wU_0_17
  | 18, _ => wU_0_18
  | 19, _ => wU_0_19
  | n + 20, h => absurd (show n + 20 < 20 from h) (by omega)
theorem wI_0 : Cond.instantiable (cN.getD 0 "") (fN 0) ∈ lw_tbl ∧ Cond.initialized (cN.getD 0 "") ∈ lw_tbl := ⟨t1_in (i := 227) rfl, t1_in (i := 8) rfl⟩
theorem wU_1_0 : u_lay (cN.getD 1 "") (TT 1) 0 ∈ lw_tbl := t2_in (i := 165) rfl
theorem wU_1_1 : u_lay (cN.getD 1 "") (TT 1) 1 ∈ lw_tbl := t2_in (i := 167) rfl
theorem wU_1_2 : u_lay (cN.getD 1 "") (TT 1) 2 ∈ lw_tbl := t2_in (i := 169) rfl
theorem wU_1 : ∀ k, k < fN 1 → u_lay (cN.getD 1 "") (TT 1) k ∈ lw_tbl := fun k hk => match k, hk with
  | 0, _ => wU_1_0
  | 1, _ => wU_1_1
  | 2, _ => wU_1_2
  | n + 3, h => absurd (show n + 3 < 3 from h) (by omega)
theorem wI_1 : Cond.instantiable (cN.getD 1 "") (fN 1) ∈ lw_tbl ∧ Cond.initialized (cN.getD 1 "") ∈ lw_tbl := ⟨t2_in (i := 154) rfl, t1_in (i := 9) rfl⟩
theorem wU_2_0 : u_lay (cN.getD 2 "") (TT 2) 0 ∈ lw_tbl := t2_in (i := 116) rfl
theorem wU_2_1 : u_lay (cN.getD 2 "") (TT 2) 1 ∈ lw_tbl := t2_in (i := 118) rfl
theorem wU_2_2 : u_lay (cN.getD 2 "") (TT 2) 2 ∈ lw_tbl := t2_in (i := 120) rfl
theorem wU_2_3 : u_lay (cN.getD 2 "") (TT 2) 3 ∈ lw_tbl := t2_in (i := 122) rfl
theorem wU_2_4 : u_lay (cN.getD 2 "") (TT 2) 4 ∈ lw_tbl := t2_in (i := 124) rfl
theorem wU_2_5 : u_lay (cN.getD 2 "") (TT 2) 5 ∈ lw_tbl := t2_in (i := 126) rfl
theorem wU_2_6 : u_lay (cN.getD 2 "") (TT 2) 6 ∈ lw_tbl := t2_in (i := 128) rfl
theorem wU_2_7 : u_lay (cN.getD 2 "") (TT 2) 7 ∈ lw_tbl := t2_in (i := 130) rfl
theorem wU_2_8 : u_lay (cN.getD 2 "") (TT 2) 8 ∈ lw_tbl := t2_in (i := 132) rfl
theorem wU_2_9 : u_lay (cN.getD 2 "") (TT 2) 9 ∈ lw_tbl := t2_in (i := 134) rfl
theorem wU_2_10 : u_lay (cN.getD 2 "") (TT 2) 10 ∈ lw_tbl := t2_in (i := 136) rfl
theorem wU_2_11 : u_lay (cN.getD 2 "") (TT 2) 11 ∈ lw_tbl := t2_in (i := 138) rfl
theorem wU_2_12 : u_lay (cN.getD 2 "") (TT 2) 12 ∈ lw_tbl := t2_in (i := 140) rfl
theorem wU_2_13 : u_lay (cN.getD 2 "") (TT 2) 13 ∈ lw_tbl := t2_in (i := 142) rfl
theorem wU_2_14 : u_lay (cN.getD 2 "") (TT 2) 14 ∈ lw_tbl := t2_in (i := 144) rfl
theorem wU_2_15 : u_lay (cN.getD 2 "") (TT 2) 15 ∈ lw_tbl := t2_in (i := 146) rfl
theorem wU_2_16 : u_lay (cN.getD 2 "") (TT 2) 16 ∈ lw_tbl := t2_in (i := 148) rfl
theorem wU_2_17 : u_lay (cN.getD 2 "") (TT 2) 17 ∈ lw_tbl := t2_in (i := 150) rfl
theorem wU_2 : ∀ k, k < fN 2 → u_lay (cN.getD 2 "") (TT 2) k ∈ lw_tbl := fun k hk => match k, hk with
  | 0, _ => wU_2_0
  | 1, _ => wU_2_1
  | 2, _ => wU_2_2
  | 3, _ => wU_2_3
  | 4, _ => wU_2_4
  | 5, _ => wU_2_5
  | 6, _ => wU_2_6
  | 7, _ => wU_2_7
  | 8, _ => wU_2_8
  | 9, _ => wU_2_9
  | 10, _ => wU_2_10
  | 11, _ => wU_2_11
  | 12, _ => wU_2_12
  | 13, _ => wU_2_13
  | 14, _ => wU_2_14
  | 15, _ => wU_2_15
  | 16, _ => wU_2_16
  | 17, _ => wU_2_17
  | n + 18, h => absurd (show n + 18 < 18 from h) (by omega)
theorem wI_2 : Cond.instantiable (cN.getD 2 "") (fN 2) ∈ lw_tbl ∧ Cond.initialized (cN.getD 2 "") ∈ lw_tbl := ⟨t1_in (i := 220) rfl, t1_in (i := 7) rfl⟩
theorem wU_3_0 : u_lay (cN.getD 3 "") (TT 3) 0 ∈ lw_tbl := t2_in (i := 182) rfl
theorem wU_3_1 : u_lay (cN.getD 3 "") (TT 3) 1 ∈ lw_tbl := t2_in (i := 184) rfl
theorem wU_3 : ∀ k, k < fN 3 → u_lay (cN.getD 3 "") (TT 3) k ∈ lw_tbl := fun k hk => match k, hk with
  | 0, _ => wU_3_0
  | 1, _ => wU_3_1
  | n + 2, h => absurd (show n + 2 < 2 from h) (by omega)
theorem wI_3 : Cond.instantiable (cN.getD 3 "") (fN 3) ∈ lw_tbl ∧ Cond.initialized (cN.getD 3 "") ∈ lw_tbl := ⟨t2_in (i := 173) rfl, t1_in (i := 10) rfl⟩
theorem wU_4_0 : u_lay (cN.getD 4 "") (TT 4) 0 ∈ lw_tbl := t1_in (i := 54) rfl
theorem wU_4_1 : u_lay (cN.getD 4 "") (TT 4) 1 ∈ lw_tbl := t1_in (i := 56) rfl
theorem wU_4_2 : u_lay (cN.getD 4 "") (TT 4) 2 ∈ lw_tbl := t1_in (i := 58) rfl
theorem wU_4_3 : u_lay (cN.getD 4 "") (TT 4) 3 ∈ lw_tbl := t1_in (i := 60) rfl
theorem wU_4_4 : u_lay (cN.getD 4 "") (TT 4) 4 ∈ lw_tbl := t1_in (i := 62) rfl
theorem wU_4_5 : u_lay (cN.getD 4 "") (TT 4) 5 ∈ lw_tbl := t1_in (i := 64) rfl
theorem wU_4_6 : u_lay (cN.getD 4 "") (TT 4) 6 ∈ lw_tbl := t1_in (i := 66) rfl
theorem wU_4_7 : u_lay (cN.getD 4 "") (TT 4) 7 ∈ lw_tbl := t1_in (i := 68) rfl
theorem wU_4_8 : u_lay (cN.getD 4 "") (TT 4) 8 ∈ lw_tbl := t1_in (i := 70) rfl
theorem wU_4_9 : u_lay (cN.getD 4 "") (TT 4) 9 ∈ lw_tbl := t1_in (i := 72) rfl
theorem wU_4_10 : u_lay (cN.getD 4 "") (TT 4) 10 ∈ lw_tbl := t1_in (i := 74) rfl
theorem wU_4 : ∀ k, k < fN 4 → u_lay (cN.getD 4 "") (TT 4) k ∈ lw_tbl := fun k hk => match k, hk with
  | 0, _ => wU_4_0
  | 1, _ => wU_4_1
  | 2, _ => wU_4_2
  | 3, _ => wU_4_3
  | 4, _ => wU_4_4
  | 5, _ => wU_4_5
  | 6, _ => wU_4_6
  | 7, _ => wU_4_7
  | 8, _ => wU_4_8
  | 9, _ => wU_4_9
  | 10, _ => wU_4_10
  | n + 11, h => absurd (show n + 11 < 11 from h) (by omega)
theorem wI_4 : Cond.instantiable (cN.getD 4 "") (fN 4) ∈ lw_tbl ∧ Cond.initialized (cN.getD 4 "") ∈ lw_tbl := ⟨t1_in (i := 28) rfl, t1_in (i := 2) rfl⟩
theorem wU_5_0 : u_lay (cN.getD 5 "") (TT 5) 0 ∈ lw_tbl := t1_in (i := 129) rfl
theorem wU_5_1 : u_lay (cN.getD 5 "") (TT 5) 1 ∈ lw_tbl := t1_in (i := 131) rfl
theorem wU_5_2 : u_lay (cN.getD 5 "") (TT 5) 2 ∈ lw_tbl := t1_in (i := 133) rfl
theorem wU_5_3 : u_lay (cN.getD 5 "") (TT 5) 3 ∈ lw_tbl := t1_in (i := 135) rfl
theorem wU_5_4 : u_lay (cN.getD 5 "") (TT 5) 4 ∈ lw_tbl := t1_in (i := 137) rfl
theorem wU_5_5 : u_lay (cN.getD 5 "") (TT 5) 5 ∈ lw_tbl := t1_in (i := 139) rfl
theorem wU_5_6 : u_lay (cN.getD 5 "") (TT 5) 6 ∈ lw_tbl := t1_in (i := 141) rfl
theorem wU_5 : ∀ k, k < fN 5 → u_lay (cN.getD 5 "") (TT 5) k ∈ lw_tbl := fun k hk => match k, hk with
  | 0, _ => wU_5_0
  | 1, _ => wU_5_1
  | 2, _ => wU_5_2
  | 3, _ => wU_5_3
  | 4, _ => wU_5_4
  | 5, _ => wU_5_5
  | 6, _ => wU_5_6
  | n + 7, h => absurd (show n + 7 < 7 from h) (by omega)
theorem wI_5 : Cond.instantiable (cN.getD 5 "") (fN 5) ∈ lw_tbl ∧ Cond.initialized (cN.getD 5 "") ∈ lw_tbl := ⟨t1_in (i := 102) rfl, t1_in (i := 4) rfl⟩
theorem wU_6_0 : u_lay (cN.getD 6 "") (TT 6) 0 ∈ lw_tbl := t1_in (i := 208) rfl
theorem wU_6_1 : u_lay (cN.getD 6 "") (TT 6) 1 ∈ lw_tbl := t1_in (i := 210) rfl
theorem wU_6_2 : u_lay (cN.getD 6 "") (TT 6) 2 ∈ lw_tbl := t1_in (i := 212) rfl
theorem wU_6_3 : u_lay (cN.getD 6 "") (TT 6) 3 ∈ lw_tbl := t1_in (i := 214) rfl
theorem wU_6_4 : u_lay (cN.getD 6 "") (TT 6) 4 ∈ lw_tbl := t1_in (i := 216) rfl
theorem wU_6 : ∀ k, k < fN 6 → u_lay (cN.getD 6 "") (TT 6) k ∈ lw_tbl := fun k hk => match k, hk with
  | 0, _ => wU_6_0
  | 1, _ => wU_6_1
  | 2, _ => wU_6_2
  | 3, _ => wU_6_3
  | 4, _ => wU_6_4
  | n + 5, h => absurd (show n + 5 < 5 from h) (by omega)
theorem wI_6 : Cond.instantiable (cN.getD 6 "") (fN 6) ∈ lw_tbl ∧ Cond.initialized (cN.getD 6 "") ∈ lw_tbl := ⟨t1_in (i := 195) rfl, t1_in (i := 6) rfl⟩
theorem wU_7_0 : u_lay (cN.getD 7 "") (TT 7) 0 ∈ lw_tbl := t1_in (i := 171) rfl
theorem wU_7_1 : u_lay (cN.getD 7 "") (TT 7) 1 ∈ lw_tbl := t1_in (i := 173) rfl
theorem wU_7_2 : u_lay (cN.getD 7 "") (TT 7) 2 ∈ lw_tbl := t1_in (i := 175) rfl
theorem wU_7_3 : u_lay (cN.getD 7 "") (TT 7) 3 ∈ lw_tbl := t1_in (i := 177) rfl
theorem wU_7_4 : u_lay (cN.getD 7 "") (TT 7) 4 ∈ lw_tbl := t1_in (i := 179) rfl
theorem wU_7_5 : u_lay (cN.getD 7 "") (TT 7) 5 ∈ lw_tbl := t1_in (i := 181) rfl
theorem wU_7_6 : u_lay (cN.getD 7 "") (TT 7) 6 ∈ lw_tbl := t1_in (i := 183) rfl
theorem wU_7_7 : u_lay (cN.getD 7 "") (TT 7) 7 ∈ lw_tbl := t1_in (i := 185) rfl
theorem wU_7_8 : u_lay (cN.getD 7 "") (TT 7) 8 ∈ lw_tbl := t1_in (i := 187) rfl
theorem wU_7_9 : u_lay (cN.getD 7 "") (TT 7) 9 ∈ lw_tbl := t1_in (i := 189) rfl
theorem wU_7_10 : u_lay (cN.getD 7 "") (TT 7) 10 ∈ lw_tbl := t1_in (i := 191) rfl
theorem wU_7 : ∀ k, k < fN 7 → u_lay (cN.getD 7 "") (TT 7) k ∈ lw_tbl := fun k hk => match k, hk with
  | 0, _ => wU_7_0
  | 1, _ => wU_7_1
  | 2, _ => wU_7_2
  | 3, _ => wU_7_3
  | 4, _ => wU_7_4
  | 5, _ => wU_7_5
  | 6, _ => wU_7_6
  | 7, _ => wU_7_7
  | 8, _ => wU_7_8
  | 9, _ => wU_7_9
  | 10, _ => wU_7_10
  | n + 11, h => absurd (show n + 11 < 11 from h) (by omega)
theorem wI_7 : Cond.instantiable (cN.getD 7 "") (fN 7) ∈ lw_tbl ∧ Cond.initialized (cN.getD 7 "") ∈ lw_tbl := ⟨t1_in (i := 145) rfl, t1_in (i := 5) rfl⟩
theorem wU_8_0 : u_lay (cN.getD 8 "") (TT 8) 0 ∈ lw_tbl := t1_in (i := 90) rfl
theorem wU_8_1 : u_lay (cN.getD 8 "") (TT 8) 1 ∈ lw_tbl := t1_in (i := 92) rfl
theorem wU_8_2 : u_lay (cN.getD 8 "") (TT 8) 2 ∈ lw_tbl := t1_in (i := 94) rfl
theorem wU_8_3 : u_lay (cN.getD 8 "") (TT 8) 3 ∈ lw_tbl := t1_in (i := 96) rfl
theorem wU_8_4 : u_lay (cN.getD 8 "") (TT 8) 4 ∈ lw_tbl := t1_in (i := 98) rfl
theorem wU_8 : ∀ k, k < fN 8 → u_lay (cN.getD 8 "") (TT 8) k ∈ lw_tbl := fun k hk => match k, hk with
  | 0, _ => wU_8_0
  | 1, _ => wU_8_1
  | 2, _ => wU_8_2
  | 3, _ => wU_8_3
  | 4, _ => wU_8_4
  | n + 5, h => absurd (show n + 5 < 5 from h) (by omega)
theorem wI_8 : Cond.instantiable (cN.getD 8 "") (fN 8) ∈ lw_tbl ∧ Cond.initialized (cN.getD 8 "") ∈ lw_tbl := ⟨t1_in (i := 79) rfl, t1_in (i := 3) rfl⟩
theorem wU_9_0 : u_lay (cN.getD 9 "") (TT 9) 0 ∈ lw_tbl := t2_in (i := 199) rfl
theorem wU_9_1 : u_lay (cN.getD 9 "") (TT 9) 1 ∈ lw_tbl := t2_in (i := 201) rfl
theorem wU_9_2 : u_lay (cN.getD 9 "") (TT 9) 2 ∈ lw_tbl := t2_in (i := 203) rfl
theorem wU_9_3 : u_lay (cN.getD 9 "") (TT 9) 3 ∈ lw_tbl := t2_in (i := 205) rfl
theorem wU_9_4 : u_lay (cN.getD 9 "") (TT 9) 4 ∈ lw_tbl := t2_in (i := 207) rfl
theorem wU_9_5 : u_lay (cN.getD 9 "") (TT 9) 5 ∈ lw_tbl := t2_in (i := 209) rfl
theorem wU_9_6 : u_lay (cN.getD 9 "") (TT 9) 6 ∈ lw_tbl := t2_in (i := 211) rfl
theorem wU_9_7 : u_lay (cN.getD 9 "") (TT 9) 7 ∈ lw_tbl := t2_in (i := 213) rfl
theorem wU_9_8 : u_lay (cN.getD 9 "") (TT 9) 8 ∈ lw_tbl := t2_in (i := 215) rfl
theorem wU_9_9 : u_lay (cN.getD 9 "") (TT 9) 9 ∈ lw_tbl := t2_in (i := 217) rfl
theorem wU_9_10 : u_lay (cN.getD 9 "") (TT 9) 10 ∈ lw_tbl := t2_in (i := 219) rfl
theorem wU_9_11 : u_lay (cN.getD 9 "") (TT 9) 11 ∈ lw_tbl := t2_in (i := 221) rfl
theorem wU_9 : ∀ k, k < fN 9 → u_lay (cN.getD 9 "") (TT 9) k ∈ lw_tbl := fun k hk => match k, hk with
  | 0, _ => wU_9_0
  | 1, _ => wU_9_1
  | 2, _ => wU_9_2
  | 3, _ => wU_9_3
  | 4, _ => wU_9_4
  | 5, _ => wU_9_5
  | 6, _ => wU_9_6
  | 7, _ => wU_9_7
  | 8, _ => wU_9_8
  | 9, _ => wU_9_9
  | 10, _ => wU_9_10
  | 11, _ => wU_9_11
  | n + 12, h => absurd (show n + 12 < 12 from h) (by omega)
theorem wI_9 : Cond.instantiable (cN.getD 9 "") (fN 9) ∈ lw_tbl ∧ Cond.initialized (cN.getD 9 "") ∈ lw_tbl := ⟨t1_in (i := 20) rfl, t1_in (i := 1) rfl⟩
theorem wU_10_0 : u_lay (cN.getD 10 "") (TT 10) 0 ∈ lw_tbl := t5_in (i := 170) rfl
theorem wU_10_1 : u_lay (cN.getD 10 "") (TT 10) 1 ∈ lw_tbl := t5_in (i := 172) rfl
theorem wU_10_2 : u_lay (cN.getD 10 "") (TT 10) 2 ∈ lw_tbl := t5_in (i := 174) rfl
theorem wU_10_3 : u_lay (cN.getD 10 "") (TT 10) 3 ∈ lw_tbl := t5_in (i := 176) rfl
theorem wU_10_4 : u_lay (cN.getD 10 "") (TT 10) 4 ∈ lw_tbl := t5_in (i := 178) rfl
theorem wU_10_5 : u_lay (cN.getD 10 "") (TT 10) 5 ∈ lw_tbl := t5_in (i := 180) rfl
theorem wU_10_6 : u_lay (cN.getD 10 "") (TT 10) 6 ∈ lw_tbl := t5_in (i := 182) rfl
theorem wU_10_7 : u_lay (cN.getD 10 "") (TT 10) 7 ∈ lw_tbl := t5_in (i := 184) rfl
theorem wU_10_8 : u_lay (cN.getD 10 "") (TT 10) 8 ∈ lw_tbl := t5_in (i := 186) rfl
theorem wU_10_9 : u_lay (cN.getD 10 "") (TT 10) 9 ∈ lw_tbl := t5_in (i := 188) rfl
theorem wU_10_10 : u_lay (cN.getD 10 "") (TT 10) 10 ∈ lw_tbl := t5_in (i := 190) rfl
theorem wU_10_11 : u_lay (cN.getD 10 "") (TT 10) 11 ∈ lw_tbl := t5_in (i := 192) rfl
theorem wU_10_12 : u_lay (cN.getD 10 "") (TT 10) 12 ∈ lw_tbl := t5_in (i := 194) rfl
theorem wU_10_13 : u_lay (cN.getD 10 "") (TT 10) 13 ∈ lw_tbl := t5_in (i := 196) rfl
theorem wU_10_14 : u_lay (cN.getD 10 "") (TT 10) 14 ∈ lw_tbl := t5_in (i := 198) rfl
theorem wU_10_15 : u_lay (cN.getD 10 "") (TT 10) 15 ∈ lw_tbl := t5_in (i := 200) rfl
theorem wU_10_16 : u_lay (cN.getD 10 "") (TT 10) 16 ∈ lw_tbl := t5_in (i := 202) rfl
theorem wU_10_17 : u_lay (cN.getD 10 "") (TT 10) 17 ∈ lw_tbl := t5_in (i := 204) rfl
theorem wU_10_18 : u_lay (cN.getD 10 "") (TT 10) 18 ∈ lw_tbl := t5_in (i := 206) rfl
theorem wU_10_19 : u_lay (cN.getD 10 "") (TT 10) 19 ∈ lw_tbl := t5_in (i := 208) rfl
theorem wU_10_20 : u_lay (cN.getD 10 "") (TT 10) 20 ∈ lw_tbl := t5_in (i := 210) rfl
theorem wU_10_21 : u_lay (cN.getD 10 "") (TT 10) 21 ∈ lw_tbl := t5_in (i := 212) rfl
theorem wU_10_22 : u_lay (cN.getD 10 "") (TT 10) 22 ∈ lw_tbl := t5_in (i := 214) rfl
theorem wU_10_23 : u_lay (cN.getD 10 "") (TT 10) 23 ∈ lw_tbl := t5_in (i := 216) rfl
theorem wU_10_24 : u_lay (cN.getD 10 "") (TT 10) 24 ∈ lw_tbl := t5_in (i := 218) rfl
theorem wU_10_25 : u_lay (cN.getD 10 "") (TT 10) 25 ∈ lw_tbl := t5_in (i := 220) rfl
theorem wU_10_26 : u_lay (cN.getD 10 "") (TT 10) 26 ∈ lw_tbl := t5_in (i := 222) rfl
theorem wU_10_27 : u_lay (cN.getD 10 "") (TT 10) 27 ∈ lw_tbl := t5_in (i := 224) rfl
theorem wU_10_28 : u_lay (cN.getD 10 "") (TT 10) 28 ∈ lw_tbl := t5_in (i := 226) rfl
theorem wU_10_29 : u_lay (cN.getD 10 "") (TT 10) 29 ∈ lw_tbl := t5_in (i := 228) rfl
theorem wU_10_30 : u_lay (cN.getD 10 "") (TT 10) 30 ∈ lw_tbl := t5_in (i := 230) rfl
theorem wU_10_31 : u_lay (cN.getD 10 "") (TT 10) 31 ∈ lw_tbl := t5_in (i := 232) rfl
theorem wU_10_32 : u_lay (cN.getD 10 "") (TT 10) 32 ∈ lw_tbl := t5_in (i := 234) rfl
theorem wU_10_33 : u_lay (cN.getD 10 "") (TT 10) 33 ∈ lw_tbl := t5_in (i := 236) rfl
theorem wU_10_34 : u_lay (cN.getD 10 "") (TT 10) 34 ∈ lw_tbl := t5_in (i := 238) rfl
theorem wU_10_35 : u_lay (cN.getD 10 "") (TT 10) 35 ∈ lw_tbl := t6_in (i := 0) rfl
theorem wU_10_36 : u_lay (cN.getD 10 "") (TT 10) 36 ∈ lw_tbl := t6_in (i := 2) rfl
theorem wU_10_37 : u_lay (cN.getD 10 "") (TT 10) 37 ∈ lw_tbl := t6_in (i := 4) rfl
theorem wU_10_38 : u_lay (cN.getD 10 "") (TT 10) 38 ∈ lw_tbl := t6_in (i := 6) rfl
theorem wU_10_39 : u_lay (cN.getD 10 "") (TT 10) 39 ∈ lw_tbl := t6_in (i := 8) rfl
theorem wU_10_40 : u_lay (cN.getD 10 "") (TT 10) 40 ∈ lw_tbl := t6_in (i := 10) rfl
theorem wU_10_41 : u_lay (cN.getD 10 "") (TT 10) 41 ∈ lw_tbl := t6_in (i := 12) rfl
theorem wU_10_42 : u_lay (cN.getD 10 "") (TT 10) 42 ∈ lw_tbl := t6_in (i := 14) rfl
theorem wU_10_43 : u_lay (cN.getD 10 "") (TT 10) 43 ∈ lw_tbl := t6_in (i := 16) rfl
theorem wU_10_44 : u_lay (cN.getD 10 "") (TT 10) 44 ∈ lw_tbl := t6_in (i := 18) rfl
theorem wU_10_45 : u_lay (cN.getD 10 "") (TT 10) 45 ∈ lw_tbl := t6_in (i := 20) rfl
theorem wU_10_46 : u_lay (cN.getD 10 "") (TT 10) 46 ∈ lw_tbl := t6_in (i := 22) rfl
theorem wU_10_47 : u_lay (cN.getD 10 "") (TT 10) 47 ∈ lw_tbl := t6_in (i := 24) rfl
theorem wU_10_48 : u_lay (cN.getD 10 "") (TT 10) 48 ∈ lw_tbl := t6_in (i := 26) rfl
theorem wU_10_49 : u_lay (cN.getD 10 "") (TT 10) 49 ∈ lw_tbl := t6_in (i := 28) rfl
theorem wU_10_50 : u_lay (cN.getD 10 "") (TT 10) 50 ∈ lw_tbl := t6_in (i := 30) rfl
theorem wU_10_51 : u_lay (cN.getD 10 "") (TT 10) 51 ∈ lw_tbl := t6_in (i := 32) rfl
theorem wU_10_52 : u_lay (cN.getD 10 "") (TT 10) 52 ∈ lw_tbl := t6_in (i := 34) rfl
theorem wU_10_53 : u_lay (cN.getD 10 "") (TT 10) 53 ∈ lw_tbl := t6_in (i := 36) rfl
theorem wU_10_54 : u_lay (cN.getD 10 "") (TT 10) 54 ∈ lw_tbl := t6_in (i := 38) rfl
theorem wU_10_55 : u_lay (cN.getD 10 "") (TT 10) 55 ∈ lw_tbl := t6_in (i := 40) rfl
theorem wU_10_56 : u_lay (cN.getD 10 "") (TT 10) 56 ∈ lw_tbl := t6_in (i := 42) rfl
theorem wU_10_57 : u_lay (cN.getD 10 "") (TT 10) 57 ∈ lw_tbl := t6_in (i := 44) rfl
theorem wU_10_58 : u_lay (cN.getD 10 "") (TT 10) 58 ∈ lw_tbl := t6_in (i := 46) rfl
theorem wU_10_59 : u_lay (cN.getD 10 "") (TT 10) 59 ∈ lw_tbl := t6_in (i := 48) rfl
theorem wU_10_60 : u_lay (cN.getD 10 "") (TT 10) 60 ∈ lw_tbl := t6_in (i := 50) rfl
theorem wU_10_61 : u_lay (cN.getD 10 "") (TT 10) 61 ∈ lw_tbl := t6_in (i := 52) rfl
theorem wU_10_62 : u_lay (cN.getD 10 "") (TT 10) 62 ∈ lw_tbl := t6_in (i := 54) rfl
theorem wU_10_63 : u_lay (cN.getD 10 "") (TT 10) 63 ∈ lw_tbl := t6_in (i := 56) rfl
theorem wU_10_64 : u_lay (cN.getD 10 "") (TT 10) 64 ∈ lw_tbl := t6_in (i := 58) rfl
theorem wU_10_65 : u_lay (cN.getD 10 "") (TT 10) 65 ∈ lw_tbl := t6_in (i := 60) rfl
theorem wU_10_66 : u_lay (cN.getD 10 "") (TT 10) 66 ∈ lw_tbl := t6_in (i := 62) rfl
theorem wU_10_67 : u_lay (cN.getD 10 "") (TT 10) 67 ∈ lw_tbl := t6_in (i := 64) rfl
theorem wU_10_68 : u_lay (cN.getD 10 "") (TT 10) 68 ∈ lw_tbl := t6_in (i := 66) rfl
theorem wU_10_69 : u_lay (cN.getD 10 "") (TT 10) 69 ∈ lw_tbl := t6_in (i := 68) rfl
theorem wU_10_70 : u_lay (cN.getD 10 "") (TT 10) 70 ∈ lw_tbl := t6_in (i := 70) rfl
theorem wU_10_71 : u_lay (cN.getD 10 "") (TT 10) 71 ∈ lw_tbl := t6_in (i := 72) rfl
theorem wU_10_72 : u_lay (cN.getD 10 "") (TT 10) 72 ∈ lw_tbl := t6_in (i := 74) rfl
theorem wU_10_73 : u_lay (cN.getD 10 "") (TT 10) 73 ∈ lw_tbl := t6_in (i := 76) rfl
theorem wU_10_74 : u_lay (cN.getD 10 "") (TT 10) 74 ∈ lw_tbl := t6_in (i := 78) rfl
theorem wU_10_75 : u_lay (cN.getD 10 "") (TT 10) 75 ∈ lw_tbl := t6_in (i := 80) rfl
theorem wU_10_76 : u_lay (cN.getD 10 "") (TT 10) 76 ∈ lw_tbl := t6_in (i := 82) rfl
theorem wU_10_77 : u_lay (cN.getD 10 "") (TT 10) 77 ∈ lw_tbl := t6_in (i := 84) rfl
theorem wU_10_78 : u_lay (cN.getD 10 "") (TT 10) 78 ∈ lw_tbl := t6_in (i := 86) rfl
theorem wU_10_79 : u_lay (cN.getD 10 "") (TT 10) 79 ∈ lw_tbl := t6_in (i := 88) rfl
theorem wU_10_80 : u_lay (cN.getD 10 "") (TT 10) 80 ∈ lw_tbl := t6_in (i := 90) rfl
theorem wU_10_81 : u_lay (cN.getD 10 "") (TT 10) 81 ∈ lw_tbl := t6_in (i := 92) rfl
theorem wU_10_82 : u_lay (cN.getD 10 "") (TT 10) 82 ∈ lw_tbl := t6_in (i := 94) rfl
theorem wU_10 : ∀ k, k < fN 10 → u_lay (cN.getD 10 "") (TT 10) k ∈ lw_tbl := fun k hk => match k, hk with
  | 0, _ => wU_10_0
  | 1, _ => wU_10_1
  | 2, _ => wU_10_2
  | 3, _ => wU_10_3
  | 4, _ => wU_10_4
  | 5, _ => wU_10_5
  | 6, _ => wU_10_6
  | 7, _ => wU_10_7
  | 8, _ => wU_10_8
  | 9, _ => wU_10_9
  | 10, _ => wU_10_10
  | 11, _ => wU_10_11
  | 12, _ => wU_10_12
  | 13, _ => wU_10_13
  | 14, _ => wU_10_14
  | 15, _ => wU_10_15
  | 16, _ => wU_10_16
  | 17, _ => wU_10_17
  | 18, _ => wU_10_18
  | 19, _ => wU_10_19
  | 20, _ => wU_10_20
  | 21, _ => wU_10_21
  | 22, _ => wU_10_22
  | 23, _ => wU_10_23
  | 24, _ => wU_10_24
  | 25, _ => wU_10_25
  | 26, _ => wU_10_26
  | 27, _ => wU_10_27
  | 28, _ => wU_10_28
  | 29, _ => wU_10_29
  | 30, _ => wU_10_30
  | 31, _ => wU_10_31
  | 32, _ => wU_10_32
  | 33, _ => wU_10_33
  | 34, _ => wU_10_34
  | 35, _ => wU_10_35
  | 36, _ => wU_10_36
  | 37, _ => wU_10_37
  | 38, _ => wU_10_38
  | 39, _ => wU_10_39
  | 40, _ => wU_10_40
  | 41, _ => wU_10_41
  | 42, _ => wU_10_42
  | 43, _ => wU_10_43
  | 44, _ => wU_10_44
  | 45, _ => wU_10_45
  | 46, _ => wU_10_46
  | 47, _ => wU_10_47
  | 48, _ => wU_10_48
  | 49, _ => wU_10_49
  | 50, _ => wU_10_50
  | 51, _ => wU_10_51
  | 52, _ => wU_10_52
  | 53, _ => wU_10_53
  | 54, _ => wU_10_54
  | 55, _ => wU_10_55
  | 56, _ => wU_10_56
  | 57, _ => wU_10_57
  | 58, _ => wU_10_58
  | 59, _ => wU_10_59
  | 60, _ => wU_10_60
  | 61, _ => wU_10_61
  | 62, _ => wU_10_62
  | 63, _ => wU_10_63
  | 64, _ => wU_10_64
  | 65, _ => wU_10_65
  | 66, _ => wU_10_66
  | 67, _ => wU_10_67
  | 68, _ => wU_10_68
  | 69, _ => wU_10_69
  | 70, _ => wU_10_70
  | 71, _ => wU_10_71
  | 72, _ => wU_10_72
  | 73, _ => wU_10_73
  | 74, _ => wU_10_74
  | 75, _ => wU_10_75
  | 76, _ => wU_10_76
  | 77, _ => wU_10_77
  | 78, _ => wU_10_78
  | 79, _ => wU_10_79
  | 80, _ => wU_10_80
  | 81, _ => wU_10_81
  | 82, _ => wU_10_82
  | n + 83, h => absurd (show n + 83 < 83 from h) (by omega)
theorem wI_10 : Cond.instantiable (cN.getD 10 "") (fN 10) ∈ lw_tbl ∧ Cond.initialized (cN.getD 10 "") ∈ lw_tbl := ⟨t5_in (i := 81) rfl, t1_in (i := 11) rfl⟩
theorem wU_all : ∀ c, c < 11 → ∀ k, k < fN c → u_lay (cN.getD c "") (TT c) k ∈ lw_tbl := fun c hc => match c, hc with
  | 0, _ => wU_0
  | 1, _ => wU_1
  | 2, _ => wU_2
  | 3, _ => wU_3
  | 4, _ => wU_4
  | 5, _ => wU_5
  | 6, _ => wU_6
  | 7, _ => wU_7
  | 8, _ => wU_8
  | 9, _ => wU_9
  | 10, _ => wU_10
  | n + 11, h => absurd h (by omega)
theorem wI_all : ∀ c, c < 11 → Cond.instantiable (cN.getD c "") (fN c) ∈ lw_tbl ∧ Cond.initialized (cN.getD c "") ∈ lw_tbl := fun c hc => match c, hc with
  | 0, _ => wI_0
  | 1, _ => wI_1
  | 2, _ => wI_2
  | 3, _ => wI_3
  | 4, _ => wI_4
  | 5, _ => wI_5
  | 6, _ => wI_6
  | 7, _ => wI_7
  | 8, _ => wI_8
  | 9, _ => wI_9
  | 10, _ => wI_10
  | n + 11, h => absurd h (by omega)
theorem wA_int : Cond.arrayClass .int ∈ lw_tbl := t1_in (i := 77) rfl
theorem wA_bool : Cond.arrayClass .boolean ∈ lw_tbl := t6_in (i := 97) rfl
theorem wA_over : Cond.arrayOver (.object "TrunkRoom$Call") ∈ lw_tbl := t1_in (i := 226) rfl
theorem lk_mem {α : Type} {l : List (List (Nat × α))} {c i : Nat} {a : α} (h : lk l c i = some a) : (i, a) ∈ l.getD c [] := by
  unfold lk at h
  generalize l.getD c [] = t at h
  induction t with
  | nil => cases h
  | cons q t ih =>
    rw [List.lookup_cons] at h
    by_cases e : (i == q.1) = true
    · rw [e] at h
      simp only [Option.some.injEq] at h
      have e2 : i = q.1 := by simpa using e
      rw [e2, ← h]
      exact List.mem_cons_self
    · simp only [Bool.not_eq_true] at e
      rw [e] at h
      exact List.mem_cons_of_mem _ (ih h)
def lwG : List Cond := lw_tbl.filter goodWord
theorem inG {w : Cond} (h : w ∈ lw_tbl) (g : goodWord w = true) : w ∈ lwG := List.mem_filter.mpr ⟨h, g⟩
theorem u_lay_good (C : String) (T : u_T) (k : Nat) : goodWord (u_lay C T k) = true := by
  unfold u_lay
  split <;> rfl
