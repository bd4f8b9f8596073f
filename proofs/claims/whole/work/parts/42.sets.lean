/-! sets of lines: the bits of an int -/
def bt (x : Int32) (w : Nat) : Bool := x.toBitVec.getLsbD w
theorem bt_ext {x y : Int32} (h : ∀ w, w < 32 → bt x w = bt y w) : x = y := by
  apply Int32.toBitVec.inj
  apply BitVec.eq_of_getLsbD_eq
  exact h
theorem bt_hi (x : Int32) {w : Nat} (h : 32 ≤ w) : bt x w = false := BitVec.getLsbD_of_ge _ _ h
theorem bt_ofNat (n w : Nat) : bt (Int32.ofNat n) w = (decide (w < 32) && n.testBit w) := by
  unfold bt
  rw [Int32.toBitVec_ofNat', BitVec.getLsbD_ofNat]
theorem bt_zero (w : Nat) : bt (Int32.ofNat 0) w = false := by rw [bt_ofNat]; simp
theorem bt_and (x y : Int32) (w : Nat) : bt (x &&& y) w = (bt x w && bt y w) := by
  unfold bt
  rw [Int32.toBitVec_and, BitVec.getLsbD_and]
theorem bt_or (x y : Int32) (w : Nat) : bt (x ||| y) w = (bt x w || bt y w) := by
  unfold bt
  rw [Int32.toBitVec_or, BitVec.getLsbD_or]
theorem bt_not (x : Int32) {w : Nat} (h : w < 32) : bt (x ^^^ nn) w = !bt x w := by
  unfold bt
  rw [Int32.toBitVec_xor, BitVec.getLsbD_xor]
  have : nn.toBitVec = BitVec.allOnes 32 := by decide
  rw [this, BitVec.getLsbD_allOnes, decide_eq_true h]
  simp
theorem sh_amt : ∀ k, k < 32 → (((Int32.ofNat k) &&& 31).toBitVec.smod 32).toNat = k := by decide
theorem jsh_bv (x : Int32) {k : Nat} (hk : k < 32) : (jsh x (Int32.ofNat k)).toBitVec = x.toBitVec <<< k := by
  show x.toBitVec <<< (((Int32.ofNat k) &&& 31).toBitVec.smod 32) = _
  rw [BitVec.shiftLeft_eq', sh_amt k hk]
theorem jsr_bv (x : Int32) {k : Nat} (hk : k < 32) : (jsr' x (Int32.ofNat k)).toBitVec = x.toBitVec.sshiftRight k := by
  show BitVec.sshiftRight' x.toBitVec (((Int32.ofNat k) &&& 31).toBitVec.smod 32) = _
  rw [BitVec.sshiftRight_eq', sh_amt k hk]
theorem bt_jsh (x : Int32) {k w : Nat} (hk : k < 32) (hw : w < 32) : bt (jsh x (Int32.ofNat k)) w = (decide (k ≤ w) && bt x (w - k)) := by
  unfold bt
  rw [jsh_bv x hk, BitVec.getLsbD_shiftLeft, decide_eq_true hw]
  by_cases h : w < k
  · have h2 : ¬ k ≤ w := by omega
    simp [h, h2]
  · have h2 : k ≤ w := by omega
    simp [h, h2]
theorem bt_one {k w : Nat} (hk : k < 32) (hw : w < 32) : bt (jsh (Int32.ofNat 1) (Int32.ofNat k)) w = decide (w = k) := by
  rw [bt_jsh _ hk hw, bt_ofNat]
  by_cases h : w = k
  · subst h
    simp [hw]
  · by_cases h2 : k ≤ w
    · have : ∃ j, w - k = j + 1 := ⟨w - k - 1, by omega⟩
      obtain ⟨j, hj⟩ := this
      rw [hj, Nat.testBit_succ]
      simp [h]
    · simp [h, h2]
theorem bt_jsr (x : Int32) {k w : Nat} (hk : k < 32) (hw : k + w < 32) : bt (jsr' x (Int32.ofNat k)) w = bt x (k + w) := by
  unfold bt
  rw [jsr_bv x hk, BitVec.getLsbD_sshiftRight]
  have h1 : ¬ 32 ≤ w := by omega
  simp [h1, hw]
theorem bt_bit (x : Int32) {w : Nat} (hw : w < 32) : jsr' x (Int32.ofNat w) &&& Int32.ofNat 1 = bif bt x w then Int32.ofNat 1 else Int32.ofNat 0 := by
  apply bt_ext
  intro j hj
  rw [bt_and, bt_ofNat]
  by_cases h : j = 0
  · subst h
    rw [bt_jsr x hw (by omega)]
    rw [Nat.add_zero]
    cases bt x w <;> decide
  · obtain ⟨i, rfl⟩ : ∃ i, j = i + 1 := ⟨j - 1, by omega⟩
    have e1 : bt (Int32.ofNat 1) (i + 1) = false := by rw [bt_ofNat, Nat.testBit_succ]; simp
    have e2 : (1 : Nat).testBit (i + 1) = false := by rw [Nat.testBit_succ]; simp
    rw [e2]
    cases bt x w
    · rw [cond_false, bt_zero]; simp
    · rw [cond_true, e1]; simp
theorem bt_ne0 (x : Int32) {w : Nat} (hw : w < 32) : cmp0 .ne (jsr' x (Int32.ofNat w) &&& Int32.ofNat 1) = bt x w := by
  rw [bt_bit x hw]
  cases bt x w <;> decide
theorem bt_eq0 (x : Int32) {w : Nat} (hw : w < 32) : cmp0 .eq (jsr' x (Int32.ofNat w) &&& Int32.ofNat 1) = !bt x w := by
  rw [bt_bit x hw]
  cases bt x w <;> decide
theorem set_0 (x : Int32) : x = Int32.ofNat 0 ↔ ∀ w, w < 32 → bt x w = false := by
  constructor
  · rintro rfl w _
    exact bt_zero w
  · intro h
    apply bt_ext
    intro w hw
    rw [h w hw, bt_zero]
theorem jsh_N (a : Nat) {k : Nat} (hk : k < 32) : jsh (Int32.ofNat a) (Int32.ofNat k) = Int32.ofNat (a * 2 ^ k) := by
  apply bt_ext
  intro w hw
  rw [bt_jsh _ hk hw, bt_ofNat, bt_ofNat, decide_eq_true hw, Nat.testBit_mul_two_pow]
  by_cases h : k ≤ w
  · have : w - k < 32 := by omega
    simp [h, this]
  · simp [h]
theorem and_N (a b : Nat) : Int32.ofNat a &&& Int32.ofNat b = Int32.ofNat (a &&& b) := by
  apply bt_ext
  intro w hw
  rw [bt_and, bt_ofNat, bt_ofNat, bt_ofNat, Nat.testBit_and, decide_eq_true hw]
  simp
theorem or_N (a b : Nat) : Int32.ofNat a ||| Int32.ofNat b = Int32.ofNat (a ||| b) := by
  apply bt_ext
  intro w hw
  rw [bt_or, bt_ofNat, bt_ofNat, bt_ofNat, Nat.testBit_or, decide_eq_true hw]
  simp
theorem jsr_N {a k : Nat} (ha : a < 2147483648) (hk : k < 32) : jsr' (Int32.ofNat a) (Int32.ofNat k) = Int32.ofNat (a / 2 ^ k) := by
  apply bt_ext
  intro w hw
  have hhi : ∀ j, 31 ≤ j → a.testBit j = false := fun j hj => Nat.testBit_lt_two_pow (Nat.lt_of_lt_of_le ha (by
    have : 2 ^ 31 ≤ 2 ^ j := Nat.pow_le_pow_right (by omega) hj
    omega))
  rw [bt_ofNat, Nat.testBit_div_two_pow, decide_eq_true hw, Bool.true_and]
  unfold bt
  rw [jsr_bv _ hk, BitVec.getLsbD_sshiftRight]
  have h1 : ¬ 32 ≤ w := by omega
  have hx : (Int32.ofNat a).toBitVec = BitVec.ofNat 32 a := Int32.toBitVec_ofNat'
  rw [hx]
  by_cases h : k + w < 32
  · rw [if_pos h, BitVec.getLsbD_ofNat]
    simp [h1, h, Nat.add_comm]
  · have hm : (BitVec.ofNat 32 a).msb = false := by
      rw [BitVec.msb_eq_getLsbD_last, BitVec.getLsbD_ofNat, hhi _ (by omega)]
      simp
    simp [h1, h, hm]
    exact hhi _ (by omega)
theorem jus_amt : ∀ k, k < 32 → (((Int32.ofNat k).toUInt32 &&& Int32.toUInt32 31).toBitVec % 32).toNat = k := by decide
theorem jus_N {a k : Nat} (ha : a < 2147483648) (hk : k < 32) : jus (Int32.ofNat a) (Int32.ofNat k) = Int32.ofNat (a / 2 ^ k) := by
  apply Int32.toBitVec.inj
  show (Int32.ofNat a).toBitVec >>> (((Int32.ofNat k).toUInt32 &&& Int32.toUInt32 31).toBitVec % 32) = _
  rw [BitVec.ushiftRight_eq', jus_amt k hk, Int32.toBitVec_ofNat', Int32.toBitVec_ofNat']
  apply BitVec.eq_of_toNat_eq
  have h3 : a / 2 ^ k < 2147483648 := Nat.lt_of_le_of_lt (Nat.div_le_self _ _) ha
  rw [BitVec.toNat_ushiftRight, BitVec.toNat_ofNat, BitVec.toNat_ofNat, Nat.shiftRight_eq_div_pow, Nat.mod_eq_of_lt (by omega), Nat.mod_eq_of_lt (by omega)]
theorem bt_full {n w : Nat} (hn : n < 31) (hw : w < 32) : bt (jsh (Int32.ofNat 1) (Int32.ofNat n) - Int32.ofNat 1) w = decide (w < n) := by
  rw [jsh_N _ (by omega), Nat.one_mul, subN Nat.one_le_two_pow, bt_ofNat, Nat.testBit_two_pow_sub_one, decide_eq_true hw, Bool.true_and]
