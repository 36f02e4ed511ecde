/-! the reference: its check, its damage -/
def fcF (b : Nat → Bool) : Nat → Nat → Bool
  | 0 => b
  | i + 1 => va_up (fcF b i) (528 + i) false
theorem fcF_at (b : Nat → Bool) : ∀ n x, fcF b n x = if 528 ≤ x ∧ x < 528 + n then false else b x := by
  intro n
  induction n with
  | zero => intro x; rw [if_neg (by omega)]; rfl
  | succ n ih =>
    intro x
    show va_up (fcF b n) (528 + n) false x = _
    by_cases e : x = 528 + n
    · subst e; rw [va_up_self, if_pos (by omega)]
    · rw [va_up_ne _ _ e, ih x]
      by_cases q : 528 ≤ x ∧ x < 528 + n
      · rw [if_pos q, if_pos (by omega)]
      · rw [if_neg q, if_neg (by omega)]
def ngF (b : Nat → Bool) : Nat → Nat → Bool
  | 0 => b
  | i + 1 => va_up (ngF b i) i (!(ngF b i i))
theorem ngF_at (b : Nat → Bool) : ∀ n x, ngF b n x = (b x ^^ decide (x < n)) := by
  intro n
  induction n with
  | zero => intro x; show b x = _; rw [decide_eq_false (by omega)]; simp
  | succ n ih =>
    intro x
    show va_up (ngF b n) n (!(ngF b n n)) x = _
    by_cases e : x = n
    · subst e; rw [va_up_self, ih, decide_eq_false (by omega), decide_eq_true (by omega)]; simp
    · rw [va_up_ne _ _ e, ih x]
      by_cases q : x < n
      · rw [decide_eq_true q, decide_eq_true (show x < n + 1 by omega)]
      · rw [decide_eq_false q, decide_eq_false (show ¬ x < n + 1 by omega)]
def vN (b : Nat → Bool) (k : Nat) : Nat → Nat
  | 0 => 0
  | i + 1 => vN b k i + (if b (8 * k + i) then 0 else 2 ^ i)
theorem vN_lt (b : Nat → Bool) (k : Nat) : ∀ n, vN b k n < 2 ^ n := by
  intro n
  induction n with
  | zero => exact Nat.one_pos
  | succ n ih =>
    show vN b k n + (if b (8 * k + n) then 0 else 2 ^ n) < 2 ^ (n + 1)
    rw [Nat.pow_succ]
    split <;> omega
theorem vN_bit (b : Nat → Bool) (k : Nat) : ∀ n i, (vN b k n).testBit i = (decide (i < n) && !b (8 * k + i)) := by
  intro n
  induction n with
  | zero => intro i; show Nat.testBit 0 i = _; simp
  | succ n ih =>
    intro i
    have hl := vN_lt b k n
    have hl2 := vN_lt b k (n + 1)
    rcases Nat.lt_trichotomy i n with q | q | q
    · show (vN b k n + (if b (8 * k + n) then 0 else 2 ^ n)).testBit i = _
      have e : (vN b k n + (if b (8 * k + n) then 0 else 2 ^ n)).testBit i = (vN b k n).testBit i := by
        split
        · rfl
        · rw [Nat.add_comm, Nat.testBit_two_pow_add_gt q]
      rw [e, ih, decide_eq_true q, decide_eq_true (show i < n + 1 by omega)]
    · subst q
      show (vN b k i + (if b (8 * k + i) then 0 else 2 ^ i)).testBit i = _
      have e0 : (vN b k i).testBit i = false := Nat.testBit_lt_two_pow hl
      rw [decide_eq_true (show i < i + 1 by omega)]
      cases hb : b (8 * k + i)
      · rw [if_neg (by decide), Nat.add_comm, Nat.testBit_two_pow_add_eq, e0]; rfl
      · rw [if_pos rfl, Nat.add_zero, e0]; rfl
    · rw [Nat.testBit_lt_two_pow (Nat.lt_of_lt_of_le hl2 (Nat.pow_le_pow_right (by decide) (by omega))), decide_eq_false (by omega)]; rfl
theorem zr_shl1 : ∀ i, i < 8 → nI 1 <<< (nI i &&& 31) = nI (2 ^ i) := by decide +kernel
/-- a number as a byte -/
theorem by_bit (x : Int32) {i : Nat} (hi : i < 8) : ((x.toInt8.toInt32).toBitVec.setWidth 8).getLsbD i = x.toBitVec.getLsbD i := by
  rw [BitVec.getLsbD_setWidth]
  have h1 : (x.toInt8.toInt32).toBitVec.getLsbD i = x.toBitVec.getLsbD i := by
    rw [Int8.toBitVec_toInt32, BitVec.getLsbD_signExtend, Int32.toBitVec_toInt8, BitVec.signExtend_eq_setWidth_of_le _ (by decide), BitVec.getLsbD_setWidth]
    simp [hi, show i < 32 by omega]
  rw [h1]
  simp [hi]
theorem nI_bit {n : Nat} (h : n < 2 ^ 32) (i : Nat) : (nI n).toBitVec.getLsbD i = n.testBit i := by
  show (nI n).toBitVec.toNat.testBit i = _
  rw [pk_tn h]
def cB8 (b : Nat → Bool) (k : Nat) : BitVec 8 := ((nI (vN b k 8)).toInt8.toInt32).toBitVec.setWidth 8
theorem cB8_bit (b : Nat → Bool) (k : Nat) {i : Nat} (hi : i < 8) : (cB8 b k).getLsbD i = !b (8 * k + i) := by
  unfold cB8
  rw [by_bit _ hi, nI_bit (Nat.lt_trans (vN_lt b k 8) (by decide)), vN_bit, decide_eq_true hi]; rfl
def chF (bs : Nat → BitVec 8) (fr : Nat) (b : Nat → Bool) : Nat → Nat → BitVec 8
  | 0 => bs
  | j + 1 => va_up (chF bs fr b j) (fr + (66 + j)) (cB8 b (66 + j))
theorem chF_at (bs : Nat → BitVec 8) (fr : Nat) (b : Nat → Bool) : ∀ n x, chF bs fr b n x = if fr + 66 ≤ x ∧ x < fr + 66 + n then cB8 b (x - fr) else bs x := by
  intro n
  induction n with
  | zero => intro x; rw [if_neg (by omega)]; rfl
  | succ n ih =>
    intro x
    show va_up (chF bs fr b n) (fr + (66 + n)) (cB8 b (66 + n)) x = _
    by_cases e : x = fr + (66 + n)
    · subst e; rw [va_up_self, if_pos (by omega), show fr + (66 + n) - fr = 66 + n by omega]
    · rw [va_up_ne _ _ e, ih x]
      by_cases q : fr + 66 ≤ x ∧ x < fr + 66 + n
      · rw [if_pos q, if_pos (by omega)]
      · rw [if_neg q, if_neg (by omega)]
/-- the bits that are divided for the check of the 66 bytes from fr on -/
def ckT (bt : Nat → Bool) (bs : Nat → BitVec 8) (fr : Nat) : Nat → Bool := dv (ngF (fcF (spF bt bs fr 528) 32) 32) 528
/-- striking -/
def sV (x : BitVec 8) (mk : Int64) (k : Nat) : BitVec 8 := (((sx x ^^^ ((mk >>> ((nI (8 * k)).toInt64 &&& 63)).toInt32).toInt8.toInt32)).toInt8.toInt32).toBitVec.setWidth 8
theorem lb_sshr (x : Int64) {k i : Nat} (hk : k + i < 64) : lb (x >>> ((nI k).toInt64 &&& 63)) i = lb x (k + i) := by
  show ((x >>> ((nI k).toInt64 &&& 63)).toBitVec).getLsbD i = _
  rw [Int64.toBitVec_shiftRight, lb_cs k (by omega), BitVec.sshiftRight_eq', lb_tn k (by omega), BitVec.getLsbD_sshiftRight, if_pos hk]
  have : ¬ 64 ≤ i := by omega
  simp [this, lb]
theorem l2i_bit (x : Int64) {i : Nat} (hi : i < 32) : x.toInt32.toBitVec.getLsbD i = lb x i := by
  rw [Int64.toBitVec_toInt32, BitVec.signExtend_eq_setWidth_of_le _ (by decide), BitVec.getLsbD_setWidth]
  simp [hi, lb]
theorem i8_bit (x : Int32) {i : Nat} (hi : i < 8) : (x.toInt8.toInt32).toBitVec.getLsbD i = x.toBitVec.getLsbD i := by
  rw [Int8.toBitVec_toInt32, BitVec.getLsbD_signExtend, Int32.toBitVec_toInt8, BitVec.signExtend_eq_setWidth_of_le _ (by decide), BitVec.getLsbD_setWidth]
  simp [hi, show i < 32 by omega]
theorem sV_bit (x : BitVec 8) (mk : Int64) {k i : Nat} (hk : k < 8) (hi : i < 8) : (sV x mk k).getLsbD i = (x.getLsbD i ^^ lb mk (8 * k + i)) := by
  unfold sV
  rw [by_bit _ hi, Int32.toBitVec_xor, BitVec.getLsbD_xor, sx_bit x hi, i8_bit _ hi, l2i_bit _ (by omega), lb_sshr _ (by omega)]
def sF (dm : Nat → BitVec 8) (c0 pl : Nat) (mk : Int64) : Nat → Nat → BitVec 8
  | 0 => dm
  | k + 1 => va_up (sF dm c0 pl mk k) (70 * c0 + pl + k) (sV (sF dm c0 pl mk k (70 * c0 + pl + k)) mk k)
theorem sF_at (dm : Nat → BitVec 8) (c0 pl : Nat) (mk : Int64) : ∀ n j, sF dm c0 pl mk n j = if 70 * c0 + pl ≤ j ∧ j < 70 * c0 + pl + n then sV (dm j) mk (j - (70 * c0 + pl)) else dm j := by
  intro n
  induction n with
  | zero => intro j; rw [if_neg (by omega)]; rfl
  | succ n ih =>
    intro j
    show va_up (sF dm c0 pl mk n) (70 * c0 + pl + n) (sV (sF dm c0 pl mk n (70 * c0 + pl + n)) mk n) j = _
    by_cases e : j = 70 * c0 + pl + n
    · subst e; rw [va_up_self, if_pos (by omega), ih, if_neg (by omega), show 70 * c0 + pl + n - (70 * c0 + pl) = n by omega]
    · rw [va_up_ne _ _ e, ih j]
      by_cases q : 70 * c0 + pl ≤ j ∧ j < 70 * c0 + pl + n
      · rw [if_pos q, if_pos (by omega)]
      · rw [if_neg q, if_neg (by omega)]
/-- a byte as it is -/
def bA (bs dm : Nat → BitVec 8) (pl k : Nat) : Nat := (bs (70 * pl + k) ^^^ dm (70 * pl + k)).toNat
theorem bA_eq (a b : BitVec 8) : (sx a ^^^ sx b) &&& nI 255 = nI (a ^^^ b).toNat := by
  rw [pk_and _ 8 (by decide)]
  congr 1
  have h : (sx a ^^^ sx b).toBitVec.setWidth 8 = a ^^^ b := by
    apply BitVec.eq_of_getLsbD_eq
    intro i hi
    rw [BitVec.getLsbD_setWidth, Int32.toBitVec_xor, BitVec.getLsbD_xor, sx_bit a hi, sx_bit b hi, BitVec.getLsbD_xor]
    simp [hi]
  rw [← h, BitVec.toNat_setWidth]
theorem bA_lt (bs dm : Nat → BitVec 8) (pl k : Nat) : bA bs dm pl k < 256 := BitVec.isLt _

