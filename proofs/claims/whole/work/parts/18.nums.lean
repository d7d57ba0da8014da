/-! BITS AND SHIFTS over Ints -/
theorem bv_i32 (z : Int) : (Int32.ofInt z).toBitVec = BitVec.ofInt 32 z := rfl
theorem bv_toNat (z : Int) : (((BitVec.ofInt 32 z).toNat : Nat) : Int) = z % 4294967296 := by
  rw [BitVec.toNat_ofInt]
  have := Int.emod_nonneg z (show (2 ^ 32 : Int) ≠ 0 by decide)
  omega
theorem iAnd_mask (x : Int) (k : Nat) (hk : k ≤ 30) : iAnd x (2 ^ k - 1) = x % 2 ^ k := by
  have h1 : (2 : Int) ^ k = ((2 ^ k : Nat) : Int) := by simp
  have h2 : 2 ^ k ≤ 2 ^ 30 := Nat.pow_le_pow_right (by decide) hk
  have h3 : 1 ≤ 2 ^ k := Nat.one_le_two_pow
  have hm : (Int32.ofInt (2 ^ k - 1)).toBitVec.toNat = 2 ^ k - 1 := by
    have := bv_toNat (2 ^ k - 1)
    rw [h1] at this ⊢
    rw [bv_i32]
    omega
  unfold iAnd
  rw [pk_and _ k hm]
  have hlt : (Int32.ofInt x).toBitVec.toNat % 2 ^ k < 2 ^ k := Nat.mod_lt _ (by omega)
  rw [nI_toInt (by omega)]
  rw [bv_i32, Int.natCast_emod, bv_toNat, h1]
  have hd : ((2 ^ k : Nat) : Int) ∣ 4294967296 := by
    have : (4294967296 : Nat) = 2 ^ k * 2 ^ (32 - k) := by rw [← Nat.pow_add]; rw [show k + (32 - k) = 32 by omega]
    exact ⟨((2 ^ (32 - k) : Nat) : Int), by rw [← Int.natCast_mul, ← this]; rfl⟩
  exact Int.emod_emod_of_dvd x hd
theorem iAnd_31 (x : Int) : iAnd x 31 = x % 32 := iAnd_mask x 5 (by decide)
theorem iAnd_1 (x : Int) : iAnd x 1 = x % 2 := iAnd_mask x 1 (by decide)
theorem iAnd_63 (x : Int) : iAnd x 63 = x % 64 := iAnd_mask x 6 (by decide)
theorem iAnd_255 (x : Int) : iAnd x 255 = x % 256 := iAnd_mask x 8 (by decide)
theorem iAnd_32767 (x : Int) : iAnd x 32767 = x % 32768 := iAnd_mask x 15 (by decide)
theorem iShr_k {x : Int} (hx : R32 x) (y : Int) (k : Nat) (hy : ((Int32.ofInt y &&& 31).toBitVec.smod 32).toNat = k) : iShr x y = x / 2 ^ k := by
  unfold iShr
  rw [pk_shr _ _ k hy, i32_toInt hx, Int.shiftRight_eq_div_pow]
  simp
theorem iShr_5 {x : Int} (hx : R32 x) : iShr x 5 = x / 32 := iShr_k hx 5 5 (by decide)
/-- a bit -/
def bt1 (f : Int) (j : Nat) : Bool := (BitVec.ofInt 32 f).getLsbD j
theorem bt1_ofInt_toInt (v : Int32) (j : Nat) : bt1 v.toInt j = v.toBitVec.getLsbD j := by
  unfold bt1
  rw [← bv_i32, Int32.ofInt_toInt]
theorem sh_cnt : ∀ j, j < 32 → ((Int32.ofInt (j : Nat) &&& 31).toBitVec.smod 32).toNat = j ∧ (((Int32.ofInt (j : Nat)).toUInt32 &&& Int32.toUInt32 31).toBitVec % 32).toNat = j := by decide +kernel
theorem iUsh_bit {f : Int} {j : Nat} (hj : j < 32) : iAnd (iUsh f (j : Nat)) 1 = b2i (bt1 f j) := by
  rw [iAnd_1]
  unfold iUsh
  have h1 := pk_ushr (Int32.ofInt f) (Int32.ofInt (j : Nat)) j (sh_cnt j hj).2
  have h3 := bv_toNat ((((Int32.ofInt f).toUInt32 >>> ((Int32.ofInt (j : Nat)).toUInt32 &&& Int32.toUInt32 31)).toInt32).toInt)
  rw [← bv_i32, Int32.ofInt_toInt, h1] at h3
  have h4 : (((Int32.ofInt f).toUInt32 >>> ((Int32.ofInt (j : Nat)).toUInt32 &&& Int32.toUInt32 31)).toInt32).toInt % 2 = (((Int32.ofInt f).toBitVec.toNat / 2 ^ j % 2 : Nat) : Int) := by omega
  rw [h4]
  unfold bt1
  rw [← bv_i32]
  rw [BitVec.getLsbD, Nat.testBit_eq_decide_div_mod_eq]
  unfold b2i
  by_cases h : (Int32.ofInt f).toBitVec.toNat / 2 ^ j % 2 = 1
  · rw [h]; simp
  · have : (Int32.ofInt f).toBitVec.toNat / 2 ^ j % 2 = 0 := by omega
    rw [this]; simp
theorem iShl_bit {j i : Nat} (hj : j < 32) (hi : i < 32) : bt1 (iShl 1 (j : Nat)) i = decide (i = j) := by
  unfold iShl
  rw [bt1_ofInt_toInt]
  have e : ∀ j, j < 32 → ∀ i, i < 32 → ((Int32.ofInt 1 <<< (Int32.ofInt (j : Nat) &&& 31)).toBitVec.getLsbD i) = decide (i = j) := by decide +kernel
  exact e j hj i hi
theorem iOr_bit (x y : Int) (i : Nat) : bt1 (iOr x y) i = (bt1 x i || bt1 y i) := by
  unfold iOr
  rw [bt1_ofInt_toInt]
  show ((BitVec.ofInt 32 x) ||| (BitVec.ofInt 32 y)).getLsbD i = _
  rw [BitVec.getLsbD_or]; rfl
theorem iAnd_bit (x y : Int) (i : Nat) : bt1 (iAnd x y) i = (bt1 x i && bt1 y i) := by
  unfold iAnd
  rw [bt1_ofInt_toInt]
  show ((BitVec.ofInt 32 x) &&& (BitVec.ofInt 32 y)).getLsbD i = _
  rw [BitVec.getLsbD_and]; rfl
theorem iXor_m1_bit (x : Int) {i : Nat} (hi : i < 32) : bt1 (iXor x (-1)) i = !bt1 x i := by
  unfold iXor
  rw [bt1_ofInt_toInt]
  show ((BitVec.ofInt 32 x) ^^^ (BitVec.ofInt 32 (-1))).getLsbD i = _
  rw [BitVec.getLsbD_xor]
  have : (BitVec.ofInt 32 (-1)).getLsbD i = true := by
    have e : ∀ i, i < 32 → (BitVec.ofInt 32 (-1)).getLsbD i = true := by decide
    exact e i hi
  rw [this]
  show (bt1 x i ^^ true) = _
  cases bt1 x i <;> rfl
theorem bt1_0 (i : Nat) : bt1 0 i = false := by simp [bt1]
theorem iAnd_0_iff (f : Int) {j : Nat} (hj : j < 32) : iAnd f (iShl 1 (j : Nat)) = 0 ↔ bt1 f j = false := by
  constructor
  · intro h
    have h1 := iAnd_bit f (iShl 1 (j : Nat)) j
    rw [h, bt1_0, iShl_bit hj hj] at h1
    simpa using h1.symm
  · intro h
    have h2 : ∀ i, i < 32 → bt1 (iAnd f (iShl 1 (j : Nat))) i = false := by
      intro i hi
      rw [iAnd_bit, iShl_bit hj hi]
      by_cases e : i = j
      · subst e; simp [h]
      · simp [e]
    unfold iAnd at h2 ⊢
    have h3 : (Int32.ofInt f &&& Int32.ofInt (iShl 1 (j : Nat))).toBitVec = 0#32 := by
      apply BitVec.eq_of_getLsbD_eq
      intro i hi
      have := h2 i hi
      rw [bt1_ofInt_toInt] at this
      exact this.trans (by simp)
    have h4 : (Int32.ofInt f &&& Int32.ofInt (iShl 1 (j : Nat))) = 0 := Int32.toBitVec_inj.mp h3
    rw [h4]; rfl
