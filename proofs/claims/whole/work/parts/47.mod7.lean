/-! the reference: reading, counting -/
def rdF (mo : Nat → Nat) (bs dm : Nat → BitVec 8) (pl : Nat) : Nat → Nat → Nat
  | 0 => mo
  | k + 1 => va_up (rdF mo bs dm pl k) k (bA bs dm pl k)
theorem rdF_at (mo : Nat → Nat) (bs dm : Nat → BitVec 8) (pl : Nat) : ∀ n j, rdF mo bs dm pl n j = if j < n then bA bs dm pl j else mo j := by
  intro n
  induction n with
  | zero => intro j; rw [if_neg (by omega)]; rfl
  | succ n ih =>
    intro j
    show va_up (rdF mo bs dm pl n) n (bA bs dm pl n) j = _
    by_cases e : j = n
    · subst e; rw [va_up_self, if_pos (by omega)]
    · rw [va_up_ne _ _ e, ih j]
      by_cases q : j < n
      · rw [if_pos q, if_pos (by omega)]
      · rw [if_neg q, if_neg (by omega)]
def oM (mo : Nat → Nat) (k0 : Nat) : Nat → Int64
  | 0 => 0
  | i + 1 => oM mo k0 i ||| ((nI (mo (k0 + i))).toInt64 <<< ((nI (8 * i)).toInt64 &&& 63))
theorem oM_bit (mo : Nat → Nat) (k0 : Nat) (h : ∀ j, mo j < 256) : ∀ n, n ≤ 8 → ∀ y, y < 64 → lb (oM mo k0 n) y = (decide (y < 8 * n) && (mo (k0 + y / 8)).testBit (y % 8)) := by
  intro n
  induction n with
  | zero => intro _ y _; show lb 0 y = _; rw [lb_0]; simp
  | succ n ih =>
    intro hn y hy
    show lb (oM mo k0 n ||| ((nI (mo (k0 + n))).toInt64 <<< ((nI (8 * n)).toInt64 &&& 63))) y = _
    rw [lb_or, ih (by omega) y hy, lb_shl _ (by omega), lb_nI (Nat.lt_of_lt_of_le (h _) (by decide))]
    by_cases q1 : y < 8 * n
    · have q2 : y < 8 * (n + 1) := by omega
      simp [q1, q2]
    · by_cases q2 : y < 8 * (n + 1)
      · rw [show y / 8 = n by omega, show y % 8 = y - 8 * n by omega]
        simp [q1, q2, hy]
      · have q3 : (mo (k0 + n)).testBit (y - 8 * n) = false := Nat.testBit_lt_two_pow (Nat.lt_of_lt_of_le (h _) (Nat.pow_le_pow_right (n := 2) (by decide) (show 8 ≤ y - 8 * n by omega)))
        simp [q1, q2, q3]
def rpF (wr : Nat → Bool) (di : Nat) : Nat → Nat → Bool
  | 0 => wr
  | c + 1 => va_up (rpF wr di c) (66 * di + c) false
theorem rpF_at (wr : Nat → Bool) (di : Nat) : ∀ n j, rpF wr di n j = if 66 * di ≤ j ∧ j < 66 * di + n then false else wr j := by
  intro n
  induction n with
  | zero => intro j; rw [if_neg (by omega)]; rfl
  | succ n ih =>
    intro j
    show va_up (rpF wr di n) (66 * di + n) false j = _
    by_cases e : j = 66 * di + n
    · subst e; rw [va_up_self, if_pos (by omega)]
    · rw [va_up_ne _ _ e, ih j]
      by_cases q : 66 * di ≤ j ∧ j < 66 * di + n
      · rw [if_pos q, if_pos (by omega)]
      · rw [if_neg q, if_neg (by omega)]
/-- the kinds of all cells, as the reference has them -/
def smK (lv wr : Nat → Bool) (dm : Nat → BitVec 8) : Nat → Nat := fun j => stN lv wr dm (j / 66) (j % 66)
theorem smK_at (lv wr : Nat → Bool) (dm : Nat → BitVec 8) {di ce : Nat} (h : ce < 66) : smK lv wr dm (66 * di + ce) = stN lv wr dm di ce := by
  unfold smK
  rw [show (66 * di + ce) / 66 = di by omega, show (66 * di + ce) % 66 = ce by omega]
theorem lN_0' (n : Nat) : lN n + 0 = lN n := by
  have := lN_add n 0
  exact this
def lvC (lv : Nat → Bool) : Nat → Nat
  | 0 => 0
  | d + 1 => lvC lv d + (if lv d then 1 else 0)
/-- what the reference's look answers -/
def mlV (dn : Int64) (mf : Bool) (lf : Int64) (lv wr : Nat → Bool) (dm : Nat → BitVec 8) (k : Nat) : Int64 :=
  if k = 0 then dn else if k = 1 then (if mf then 1 else 0) else if k = 2 then (if mf then 0 else lf) else if k = 3 then lN (lvC lv 16) else if k = 4 then lN (ctK (smK lv wr dm) 2 1056) else lN (ctK (smK lv wr dm) 3 1056)

