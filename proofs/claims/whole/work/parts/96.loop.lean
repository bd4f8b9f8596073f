/-! the law's loop -/
section
variable {L ca cb : Nat} {xs : Nat → Int32}
theorem la_and (x : Int32) : ∃ k, k < 32 ∧ x &&& (Int8.ofInt 31).toInt32 = Int32.ofNat k := by
  have e : (Int8.ofInt 31).toInt32 = Int32.ofNat 31 := by decide
  rw [e]
  refine ⟨(x.toBitVec &&& 31#32).toNat, ?_, ?_⟩
  · rw [BitVec.toNat_and]
    exact Nat.lt_of_le_of_lt Nat.and_le_right (by decide)
  · apply Int32.toBitVec.inj
    rw [Int32.toBitVec_and, Int32.toBitVec_ofNat', Int32.toBitVec_ofNat', BitVec.ofNat_toNat, BitVec.setWidth_eq]
theorem la_sw {pc k t : Nat} {i : Nat} {dflt lo hi : Int} {offs : Array Int} {off : Int} {S R : Sg} {r : RT} (hd : decode (mB 231) pc = .ok (.tableswitch dflt lo hi offs, 111)) (hs : swT dflt lo offs hi (Int32.ofNat k) = some off) (hj : jmp pc off = some t) (h : Rn 231 (t, LcL i, [], LW0 L xs S R, (ca, cb)) r) : Rn 231 (pc, LcL i, [.int (Int32.ofNat k)], LW0 L xs S R, (ca, cb)) r := by
  refine Rn.step hd ?_ h
  simp only [stp, hs, Option.bind_some, go, hj]
  rfl
theorem la_gt {i : Nat} (hL2 : L ≤ 3072) (hi : i ≤ 10000) : cmp2 .gt (Int32.ofNat i) (Int32.ofNat L - (Int8.ofInt 6).toInt32) = decide (L < i + 6) := by
  have e : (Int8.ofInt 6).toInt32 = Int32.ofNat 6 := by decide
  rw [e, jj2_gt, i_sub (by rw [ofN_i (by omega), ofN_i (by omega)]; omega) (by rw [ofN_i (by omega), ofN_i (by omega)]; omega), ofN_i (by omega), ofN_i (by omega), ofN_i (by omega)]
  exact decide_eq_decide.2 (by omega)
theorem la_head {i : Nat} {S R : Sg} {r : RT} (hL2 : L ≤ 3072) (hi : i ≤ 10000) (h : Rn 231 (bif decide (L < i + 6) then 1032 else 27, LcL i, [], LW0 L xs S R, (ca, cb)) r) : Rn 231 (18, LcL i, [], LW0 L xs S R, (ca, cb)) r := by
  refine Rn.step ld_18 rfl (Rn.step ld_19 rfl (Rn.step ld_20 rfl (Rn.step ld_21 rfl (Rn.step ld_23 rfl (Rn.step ld_24 ?_ h)))))
  rw [← la_gt hL2 hi]
  rfl
theorem la_ld {i : Nat} {S R : Sg} {r : RT} (hL2 : L ≤ 3072) (hi : i + 6 ≤ L) (h : Rn 231 (30, LcL i, [.int (xs i)], LW0 L xs S R, (ca, cb)) r) : Rn 231 (27, LcL i, [], LW0 L xs S R, (ca, cb)) r := by
  refine Rn.step ld_27 rfl (Rn.step ld_28 rfl (Rn.step ld_29 ?_ h))
  show ckl 1 1 (iLd 0 29 (LcL i) (.int (Int32.ofNat i) :: .ref 0 :: []) (LW0 L xs S R) (ca, cb)) = _
  have e1 : arI (LW0 L xs S R) 0 0 = some (L, xs) := by
    unfold arI
    rw [LW0_0]
    rfl
  have e2 : inb (Int32.ofNat i) L = true := by rw [inbN (by omega)]; exact decide_eq_true (by omega)
  unfold ckl iLd
  simp only [if_true, e1, Option.bind_some, e2, tnN (show i < 2147483648 by omega)]
  rfl
theorem la_inc {i : Nat} {S R : Sg} {r : RT} (h : Rn 231 (18, LcL (i + 6), [], LW0 L xs S R, (ca, cb)) r) : Rn 231 (1026, LcL i, [], LW0 L xs S R, (ca, cb)) r := by
  refine Rn.step (x := (1029, LcL (i + 6), [], LW0 L xs S R, (ca, cb))) ld_1026 ?_ (Rn.step ld_1029 rfl h)
  have e : Int32.ofNat (i + 6) = Int32.ofNat i + Int32.ofInt 6 := (addN i 6).symm
  unfold LcL
  rw [e]
  rfl
theorem la_sw1 {pc k t : Nat} {i : Nat} {dflt lo hi : Int} {offs : Array Int} {off : Int} {S R : Sg} (hd : decode (mB 231) pc = .ok (.tableswitch dflt lo hi offs, 111)) (hs : swT dflt lo offs hi (Int32.ofNat k) = some off) (hj : jmp pc off = some t) (h : Fin1 (t, LcL i, [], LW0 L xs S R, (ca, cb))) : Fin1 (pc, LcL i, [.int (Int32.ofNat k)], LW0 L xs S R, (ca, cb)) := by
  obtain ⟨lw, hr⟩ := h
  exact ⟨lw, la_sw hd hs hj hr⟩
theorem la_body {i : Nat} {S R : Sg} (hL2 : L ≤ 3072) (hi : i + 6 ≤ L) (hc : ca ≤ mMc 231 ∧ cb ≤ mMs 231) (H : INV S R) (h : ∀ S R, INV S R → Fin1 (1026, LcL i, [], LW0 L xs S R, (ca, cb))) : Fin1 (27, LcL i, [], LW0 L xs S R, (ca, cb)) := by
  obtain ⟨k, hk, ek⟩ := la_and (xs i)
  have key : Fin1 (33, LcL i, [.int (Int32.ofNat k)], LW0 L xs S R, (ca, cb)) := by
    rcases (by omega : k = 0 ∨ k = 1 ∨ k = 2 ∨ k = 3 ∨ k = 4 ∨ k = 5 ∨ k = 6 ∨ k = 7 ∨ k = 8 ∨ k = 9 ∨ k = 10 ∨ k = 11 ∨ k = 12 ∨ k = 13 ∨ k = 14 ∨ k = 15 ∨ k = 16 ∨ k = 17 ∨ k = 18 ∨ k = 19 ∨ k = 20 ∨ k = 21 ∨ k = 22 ∨ k = 23 ∨ k = 24 ∨ k = 25 ∨ k = 26 ∨ k = 27 ∨ k = 28 ∨ k = 29 ∨ k = 30 ∨ k = 31) with rfl | rfl | rfl | rfl | rfl | rfl | rfl | rfl | rfl | rfl | rfl | rfl | rfl | rfl | rfl | rfl | rfl | rfl | rfl | rfl | rfl | rfl | rfl | rfl | rfl | rfl | rfl | rfl | rfl | rfl | rfl | rfl
    · exact la_sw1 ld_33 sw_0 rfl (lw_wire hi hL2 hc H h)
    · exact la_sw1 ld_33 sw_1 rfl (lw_span hi hL2 hc H h)
    · exact la_sw1 ld_33 sw_2 rfl (lw_hands hi hL2 hc H h)
    · exact la_sw1 ld_33 sw_3 rfl (lw_about hi hL2 hc H h)
    · exact la_sw1 ld_33 sw_4 rfl (lw_count hi hL2 hc H h)
    · exact la_sw1 ld_33 sw_5 rfl (lw_book hi hL2 hc H h)
    · exact la_sw1 ld_33 sw_6 rfl (lw_cancel hi hL2 hc H h)
    · exact la_sw1 ld_33 sw_7 rfl (lw_again hi hL2 hc H h)
    · exact la_sw1 ld_33 sw_8 rfl (lw_told hi hL2 hc H h)
    · exact la_sw1 ld_33 sw_9 rfl (lw_way hi hL2 hc H h)
    · exact la_sw1 ld_33 sw_10 rfl (lw_ways hi hL2 hc H h)
    · exact la_sw1 ld_33 sw_11 rfl (lw_go hi hL2 hc H h)
    · exact la_sw1 ld_33 sw_12 rfl (lw_wrong hi hL2 hc H h)
    · exact la_sw1 ld_33 sw_13 rfl (lw_feed hi hL2 hc H h)
    · exact la_sw1 ld_33 sw_14 rfl (lw_order hi hL2 hc H h)
    · exact la_sw1 ld_33 sw_15 rfl (lw_fault hi hL2 hc H h)
    · exact la_sw1 ld_33 sw_16 rfl (lw_force hi hL2 hc H h)
    · exact la_sw1 ld_33 sw_17 rfl (lw_ticket hi hL2 hc H h)
    · exact la_sw1 ld_33 sw_18 rfl (lw_clocks hi hL2 hc H h)
    · exact la_sw1 ld_33 sw_19 rfl (lw_need hi hL2 hc H h)
    · exact la_sw1 ld_33 sw_20 rfl (lw_shifts hi hL2 hc H h)
    · exact la_sw1 ld_33 sw_21 rfl (lw_beside hi hL2 hc H h)
    · exact la_sw1 ld_33 sw_22 rfl (lw_offer hi hL2 hc H h)
    · exact la_sw1 ld_33 sw_23 rfl (lw_plan hi hL2 hc H h)
    · exact la_sw1 ld_33 sw_24 rfl (h S R H)
    · exact la_sw1 ld_33 sw_25 rfl (h S R H)
    · exact la_sw1 ld_33 sw_26 rfl (h S R H)
    · exact la_sw1 ld_33 sw_27 rfl (h S R H)
    · exact la_sw1 ld_33 sw_28 rfl (h S R H)
    · exact la_sw1 ld_33 sw_29 rfl (h S R H)
    · exact la_sw1 ld_33 sw_30 rfl (h S R H)
    · exact la_sw1 ld_33 sw_31 rfl (h S R H)
  obtain ⟨lw, hr⟩ := key
  refine ⟨lw, la_ld hL2 hi (Rn.step ld_30 rfl (Rn.step (x := (33, LcL i, [.int (Int32.ofNat k)], LW0 L xs S R, (ca, cb))) ld_32 ?_ hr))⟩
  rw [← ek]
  rfl
theorem la_loop (hL2 : L ≤ 3072) (hc : ca ≤ mMc 231 ∧ cb ≤ mMs 231) : ∀ (n i : Nat) (S R : Sg), INV S R → L < i + 6 * (n + 1) → i ≤ L + 6 → Fin1 (18, LcL i, [], LW0 L xs S R, (ca, cb)) := by
  have fin : ∀ (i : Nat) (S R : Sg), L < i + 6 → i ≤ L + 6 → Fin1 (18, LcL i, [], LW0 L xs S R, (ca, cb)) := by
    intro i S R hi hi2
    refine ⟨LW0 L xs S R, la_head hL2 (by omega) ?_⟩
    rw [decide_eq_true hi]
    exact Rn.step ld_1032 rfl (Rn.ret ld_1033 rfl hc)
  intro n
  induction n with
  | zero =>
    intro i S R H hi hi2
    exact fin i S R (by omega) hi2
  | succ n ih =>
    intro i S R H hi hi2
    by_cases hx : L < i + 6
    · exact fin i S R hx hi2
    · have hb : Fin1 (27, LcL i, [], LW0 L xs S R, (ca, cb)) := la_body hL2 (by omega) hc H fun S2 R2 H2 => by
        obtain ⟨lw, hr⟩ := ih (i + 6) S2 R2 H2 (by omega) (by omega)
        exact ⟨lw, la_inc hr⟩
      obtain ⟨lw, hr⟩ := hb
      refine ⟨lw, la_head hL2 (by omega) ?_⟩
      rw [decide_eq_false hx]
      exact hr
end
