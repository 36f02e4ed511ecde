/-! bits of longs and ints -/
def lb (x : Int64) (i : Nat) : Bool := x.toBitVec.getLsbD i
theorem lb_ext {x y : Int64} (h : ∀ i, i < 64 → lb x i = lb y i) : x = y := by
  apply Int64.toBitVec_inj.mp
  exact BitVec.eq_of_getLsbD_eq h
theorem lb_big {x : Int64} {i : Nat} (h : 64 ≤ i) : lb x i = false := BitVec.getLsbD_of_ge _ _ h
theorem lb_xor (x y : Int64) (i : Nat) : lb (x ^^^ y) i = (lb x i ^^ lb y i) := by simp [lb]
theorem lb_and (x y : Int64) (i : Nat) : lb (x &&& y) i = (lb x i && lb y i) := by simp [lb]
theorem lb_or (x y : Int64) (i : Nat) : lb (x ||| y) i = (lb x i || lb y i) := by simp [lb]
theorem lb_cu : ∀ k, k < 64 → ((nI k).toInt64.toUInt64 &&& Int64.toUInt64 63).toBitVec % 64 = BitVec.ofNat 64 k := by decide +kernel
theorem lb_cs : ∀ k, k < 64 → (((nI k).toInt64 &&& 63).toBitVec.smod 64) = BitVec.ofNat 64 k := by decide +kernel
theorem lb_tn : ∀ k, k < 64 → (BitVec.ofNat 64 k).toNat = k := fun k hk => by
  rw [BitVec.toNat_ofNat]; omega
theorem lb_ushr (x : Int64) {k : Nat} (hk : k < 64) (i : Nat) : lb ((x.toUInt64 >>> ((nI k).toInt64.toUInt64 &&& Int64.toUInt64 63)).toInt64) i = lb x (k + i) := by
  show ((x.toUInt64 >>> ((nI k).toInt64.toUInt64 &&& Int64.toUInt64 63)).toBitVec).getLsbD i = x.toBitVec.getLsbD (k + i)
  rw [UInt64.toBitVec_shiftRight, lb_cu k hk, BitVec.ushiftRight_eq', lb_tn k hk, BitVec.getLsbD_ushiftRight]
  rfl
theorem lb_shl (x : Int64) {k : Nat} (hk : k < 64) (i : Nat) : lb (x <<< ((nI k).toInt64 &&& 63)) i = (decide (i < 64) && !decide (i < k) && lb x (i - k)) := by
  show ((x <<< ((nI k).toInt64 &&& 63)).toBitVec).getLsbD i = _
  rw [Int64.toBitVec_shiftLeft, lb_cs k hk, BitVec.shiftLeft_eq', lb_tn k hk, BitVec.getLsbD_shiftLeft]
  rfl
theorem lb_nI {n : Nat} (h : n < 2 ^ 31) (i : Nat) : lb ((nI n).toInt64) i = n.testBit i := by
  rw [nI_l h]
  show (BitVec.ofNat 64 n).getLsbD i = n.testBit i
  rw [BitVec.getLsbD_ofNat]
  by_cases hi : i < 64
  · simp [hi]
  · rw [Nat.testBit_lt_two_pow (Nat.lt_of_lt_of_le h (Nat.pow_le_pow_right (by decide) (by omega)))]
    simp
theorem lb_ones (m : Int64) (k : Nat) (hm : m.toBitVec.toNat = 2 ^ k - 1) (i : Nat) : lb m i = decide (i < k) := by
  show m.toBitVec.getLsbD i = _
  rw [BitVec.getLsbD, hm, Nat.testBit_two_pow_sub_one]
theorem lb_255 (i : Nat) : lb 255 i = decide (i < 8) := lb_ones 255 8 (by decide) i
theorem lb_65535 (i : Nat) : lb 65535 i = decide (i < 16) := lb_ones 65535 16 (by decide) i
theorem lb_32 (i : Nat) : lb 4294967295 i = decide (i < 32) := lb_ones 4294967295 32 (by decide) i
theorem lb_0 (i : Nat) : lb 0 i = false := by simp [lb]
/-- the byte k of the words from fr on -/
def byF (f : Nat → Int64) (fr k : Nat) : Nat := (f (fr + k / 8)).toBitVec.toNat / 2 ^ (k % 8 * 8) % 256
theorem byF_lt (f : Nat → Int64) (fr k : Nat) : byF f fr k < 256 := Nat.mod_lt _ (by decide)
/-- bit x of the words from fr on -/
def cb (f : Nat → Int64) (fr x : Nat) : Bool := lb (f (fr + x / 64)) (x % 64)
theorem byF_bit (f : Nat → Int64) (fr k i : Nat) : (byF f fr k).testBit i = (decide (i < 8) && cb f fr (8 * k + i)) := by
  unfold byF cb lb
  rw [show (256 : Nat) = 2 ^ 8 from rfl, Nat.testBit_mod_two_pow, Nat.testBit_div_two_pow]
  by_cases hi : i < 8
  · rw [show (8 * k + i) / 64 = k / 8 by omega, show (8 * k + i) % 64 = i + k % 8 * 8 by omega]
    rfl
  · simp [hi]
theorem byF_eq (w : Int64) {k : Nat} (hk : k < 64) : ((w.toUInt64 >>> ((nI k).toInt64.toUInt64 &&& Int64.toUInt64 63)).toInt64).toInt32 &&& nI 255 = nI (w.toBitVec.toNat / 2 ^ k % 256) := by
  rw [pk_and _ 8 (by decide)]
  congr 1
  rw [Int64.toBitVec_toInt32, BitVec.signExtend_eq_setWidth_of_le _ (by decide)]
  show (((w.toUInt64 >>> ((nI k).toInt64.toUInt64 &&& Int64.toUInt64 63)).toBitVec).setWidth 32).toNat % 2 ^ 8 = _
  rw [BitVec.toNat_setWidth, UInt64.toBitVec_shiftRight, lb_cu k hk, BitVec.ushiftRight_eq', lb_tn k hk, BitVec.toNat_ushiftRight, Nat.shiftRight_eq_div_pow]
  show (w.toBitVec.toNat / 2 ^ k) % 2 ^ 32 % 2 ^ 8 = _
  omega
