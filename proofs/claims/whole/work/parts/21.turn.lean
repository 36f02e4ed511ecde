/-! turning bytes -/
def tV (w mk : Int64) (i k : Nat) : Int64 := w ^^^ (((mk.toUInt64 >>> ((nI (i * 8)).toInt64.toUInt64 &&& Int64.toUInt64 63)).toInt64 &&& 255) <<< ((nI (k % 8 * 8)).toInt64 &&& 63))
def tF (f : Nat → Int64) (fr pl : Nat) (mk : Int64) : Nat → Nat → Int64
  | 0 => f
  | i + 1 => va_up (tF f fr pl mk i) (fr + (pl + i) / 8) (tV (tF f fr pl mk i (fr + (pl + i) / 8)) mk i (pl + i))
theorem tV_bit (w mk : Int64) {i : Nat} (hi : i < 8) (k : Nat) {b : Nat} (hb : b < 64) : lb (tV w mk i k) b = (lb w b ^^ (decide (k % 8 * 8 ≤ b ∧ b < k % 8 * 8 + 8) && lb mk (i * 8 + (b - k % 8 * 8)))) := by
  unfold tV
  rw [lb_xor, lb_shl _ (by omega), lb_and, lb_ushr _ (by omega), lb_255]
  congr 1
  by_cases h1 : b < k % 8 * 8
  · have h2 : ¬ (k % 8 * 8 ≤ b ∧ b < k % 8 * 8 + 8) := by omega
    simp [h1, h2]
  · by_cases h3 : b - k % 8 * 8 < 8
    · have h2 : k % 8 * 8 ≤ b ∧ b < k % 8 * 8 + 8 := by omega
      simp [h1, h2, h3, hb]
    · have h2 : ¬ (k % 8 * 8 ≤ b ∧ b < k % 8 * 8 + 8) := by omega
      simp [h1, h2, h3]
theorem cb_up (g : Nat → Int64) (fr q : Nat) (v : Int64) (x : Nat) : cb (va_up g (fr + q) v) fr x = if x / 64 = q then lb v (x % 64) else cb g fr x := by
  unfold cb va_up
  by_cases h : x / 64 = q
  · simp [h]
  · rw [if_neg (by omega), if_neg h]
theorem tF_bit (f : Nat → Int64) (fr pl : Nat) (mk : Int64) : ∀ n, n ≤ 8 → ∀ x, cb (tF f fr pl mk n) fr x = (cb f fr x ^^ (decide (8 * pl ≤ x ∧ x < 8 * (pl + n)) && lb mk (x - 8 * pl))) := by
  intro n
  induction n with
  | zero =>
    intro _ x
    have h : ¬ (8 * pl ≤ x ∧ x < 8 * (pl + 0)) := by omega
    show cb f fr x = _
    rw [decide_eq_false h]; simp
  | succ i ih =>
    intro hn x
    have ih := ih (by omega) x
    show cb (va_up (tF f fr pl mk i) (fr + (pl + i) / 8) (tV (tF f fr pl mk i (fr + (pl + i) / 8)) mk i (pl + i))) fr x = _
    rw [cb_up]
    by_cases hq : x / 64 = (pl + i) / 8
    · rw [if_pos hq, tV_bit _ _ (by omega) _ (Nat.mod_lt _ (by decide))]
      have e1 : lb (tF f fr pl mk i (fr + (pl + i) / 8)) (x % 64) = cb (tF f fr pl mk i) fr x := by unfold cb; rw [hq]
      rw [e1, ih]
      by_cases h1 : (pl + i) % 8 * 8 ≤ x % 64 ∧ x % 64 < (pl + i) % 8 * 8 + 8
      · have h2 : ¬ (8 * pl ≤ x ∧ x < 8 * (pl + i)) := by omega
        have h3 : 8 * pl ≤ x ∧ x < 8 * (pl + (i + 1)) := by omega
        have h4 : i * 8 + (x % 64 - (pl + i) % 8 * 8) = x - 8 * pl := by omega
        rw [h4]
        rw [decide_eq_true h1, decide_eq_false h2, decide_eq_true h3]; simp
      · by_cases h2 : 8 * pl ≤ x ∧ x < 8 * (pl + i)
        · have h3 : 8 * pl ≤ x ∧ x < 8 * (pl + (i + 1)) := by omega
          simp [h1, h2, h3]
        · have h3 : ¬ (8 * pl ≤ x ∧ x < 8 * (pl + (i + 1))) := by omega
          simp [h1, h2, h3]
    · rw [if_neg hq, ih]
      by_cases h2 : 8 * pl ≤ x ∧ x < 8 * (pl + i)
      · have h3 : 8 * pl ≤ x ∧ x < 8 * (pl + (i + 1)) := by omega
        simp [h2, h3]
      · have h3 : ¬ (8 * pl ≤ x ∧ x < 8 * (pl + (i + 1))) := by omega
        simp [h2, h3]
theorem tF_out (f : Nat → Int64) (fr pl : Nat) (mk : Int64) {j : Nat} : ∀ n, (∀ i, i < n → j ≠ fr + (pl + i) / 8) → tF f fr pl mk n j = f j := by
  intro n
  induction n with
  | zero => intro _; rfl
  | succ i ih =>
    intro h
    show va_up (tF f fr pl mk i) (fr + (pl + i) / 8) _ j = _
    rw [va_up_ne _ _ (h i (by omega))]
    exact ih (fun k hk => h k (by omega))
/-! the check: by a word that is shifted, and by division -/
/-- one step down of the word -/
def ckS (w : Int64) : Int64 := if lb w 0 then (w.toUInt64 >>> ((nI 1).toInt64.toUInt64 &&& Int64.toUInt64 63)).toInt64 ^^^ 2197175160 else (w.toUInt64 >>> ((nI 1).toInt64.toUInt64 &&& Int64.toUInt64 63)).toInt64
def ckI (w : Int64) : Nat → Int64
  | 0 => w
  | i + 1 => ckS (ckI w i)
def ckW (f : Nat → Int64) (fr : Nat) : Nat → Int64
  | 0 => 4294967295
  | k + 1 => ckI (ckW f fr k ^^^ (nI (byF f fr k)).toInt64) 8
/-- the divisor's bit k -/
def pB (k : Nat) : Bool := (4394350321 : Nat).testBit k
def pD (i x : Nat) : Bool := decide (i ≤ x) && pB (x - i)
/-- division: n steps -/
def dv (M : Nat → Bool) : Nat → Nat → Bool
  | 0 => M
  | n + 1 => fun x => dv M n x ^^ (dv M n n && pD n x)
theorem pB_lb : ∀ j, j < 64 → lb 2197175160 j = pB (j + 1) := by decide +kernel
theorem pB_big {k : Nat} (h : 33 ≤ k) : pB k = false := by
  unfold pB
  exact Nat.testBit_lt_two_pow (Nat.lt_of_lt_of_le (by decide) (Nat.pow_le_pow_right (by decide) h))
theorem ckS_bit (w : Int64) (j : Nat) : lb (ckS w) j = (lb w (1 + j) ^^ (lb w 0 && pB (j + 1))) := by
  by_cases hj : j < 64
  · unfold ckS
    by_cases h : lb w 0
    · rw [if_pos h, lb_xor, lb_ushr _ (by decide), pB_lb j hj, h]; simp
    · rw [if_neg h, lb_ushr _ (by decide)]; simp [h]
  · rw [lb_big (by omega), lb_big (show 64 ≤ 1 + j by omega), pB_big (by omega)]; simp
/-- what the word is to the division: E are the bits that aren't in it yet -/
theorem ck_step {M E : Nat → Bool} {w : Int64} {i : Nat} (h : ∀ j, dv M i (i + j) = (lb w j ^^ E (i + j))) (hE : E i = false) : ∀ j, dv M (i + 1) (i + 1 + j) = (lb (ckS w) j ^^ E (i + 1 + j)) := by
  intro j
  have h0 : dv M i i = lb w 0 := by have := h 0; simpa [hE] using this
  have h1 := h (1 + j)
  show (dv M i (i + 1 + j) ^^ (dv M i i && pD i (i + 1 + j))) = _
  rw [h0, show i + 1 + j = i + (1 + j) by omega, h1, ckS_bit]
  have e : pD i (i + (1 + j)) = pB (j + 1) := by
    unfold pD
    rw [show i + (1 + j) - i = j + 1 by omega]
    simp
  rw [e]
  cases lb w (1 + j) <;> cases lb w 0 <;> cases pB (j + 1) <;> cases E (i + (1 + j)) <;> rfl
theorem ck_steps {M E : Nat → Bool} {w : Int64} {i : Nat} (h : ∀ j, dv M i (i + j) = (lb w j ^^ E (i + j))) : ∀ n, (∀ k, k < n → E (i + k) = false) → ∀ j, dv M (i + n) (i + n + j) = (lb (ckI w n) j ^^ E (i + n + j)) := by
  intro n
  induction n with
  | zero => intro _; exact h
  | succ n ih =>
    intro hE
    exact ck_step (ih (fun k hk => hE k (by omega))) (hE n (by omega))
/-- the 528 bits that are checked, and 0s behind them -/
def m0 (f : Nat → Int64) (fr x : Nat) : Bool := decide (x < 528) && cb f fr x
def m1 (f : Nat → Int64) (fr x : Nat) : Bool := m0 f fr x ^^ decide (x < 32)
theorem ck_all (f : Nat → Int64) (fr : Nat) : ∀ k, k ≤ 66 → ∀ j, dv (m1 f fr) (8 * k) (8 * k + j) = (lb (ckW f fr k) j ^^ m0 f fr (8 * k + j)) := by
  intro k
  induction k with
  | zero =>
    intro _ j
    show m1 f fr (8 * 0 + j) = (lb 4294967295 j ^^ m0 f fr (8 * 0 + j))
    rw [lb_32, Nat.mul_zero, Nat.zero_add]
    unfold m1
    exact Bool.xor_comm _ _
  | succ k ih =>
    intro hk
    have ih := ih (by omega)
    have h1 : ∀ j, dv (m1 f fr) (8 * k) (8 * k + j) = (lb (ckW f fr k ^^^ (nI (byF f fr k)).toInt64) j ^^ (m0 f fr (8 * k + j) && !decide (j < 8))) := by
      intro j
      rw [ih j, lb_xor, lb_nI (Nat.lt_of_lt_of_le (byF_lt f fr k) (by decide)), byF_bit]
      by_cases hj : j < 8
      · have h2 : 8 * k + j < 528 := by omega
        simp [m0, hj, h2]
      · simp [hj]
    have h2 := ck_steps (E := fun x => m0 f fr x && !decide (x < 8 * k + 8)) (w := ckW f fr k ^^^ (nI (byF f fr k)).toInt64) (i := 8 * k) (fun j => by
      rw [h1 j]
      have e : decide (j < 8) = decide (8 * k + j < 8 * k + 8) := by simp
      rw [e]) 8 (fun q hq => by
      have e : 8 * k + q < 8 * k + 8 := by omega
      simp [e])
    intro j
    have h3 := h2 j
    have e : ¬ 8 * k + 8 + j < 8 * k + 8 := by omega
    rw [show 8 * (k + 1) = 8 * k + 8 by omega, h3]
    show _ = (lb (ckI (ckW f fr k ^^^ (nI (byF f fr k)).toInt64) 8) j ^^ _)
    simp [e]
theorem ckS_hi {w : Int64} (h : ∀ j, 32 ≤ j → lb w j = false) : ∀ j, 32 ≤ j → lb (ckS w) j = false := by
  intro j hj
  rw [ckS_bit, h (1 + j) (by omega), pB_big (by omega)]; simp
theorem ckI_hi {w : Int64} (h : ∀ j, 32 ≤ j → lb w j = false) : ∀ n, ∀ j, 32 ≤ j → lb (ckI w n) j = false := by
  intro n
  induction n with
  | zero => exact h
  | succ n ih => exact ckS_hi ih
theorem ckW_hi (f : Nat → Int64) (fr : Nat) : ∀ k, ∀ j, 32 ≤ j → lb (ckW f fr k) j = false := by
  intro k
  induction k with
  | zero => intro j hj; show lb 4294967295 j = false; rw [lb_32]; simp; omega
  | succ k ih =>
    refine ckI_hi ?_ 8
    intro j hj
    rw [lb_xor, ih j hj, lb_nI (Nat.lt_of_lt_of_le (byF_lt f fr k) (by decide)), byF_bit]
    have : ¬ j < 8 := by omega
    simp [this]
/-- the check of the 66 bytes -/
def ckV (f : Nat → Int64) (fr : Nat) : Int64 := ckW f fr 66 ^^^ 4294967295
theorem ckV_bit (f : Nat → Int64) (fr : Nat) {j : Nat} (hj : j < 32) : lb (ckV f fr) j = !dv (m1 f fr) 528 (528 + j) := by
  have h := ck_all f fr 66 (Nat.le_refl _) j
  have e : m0 f fr (8 * 66 + j) = false := by
    have : ¬ 8 * 66 + j < 528 := by omega
    unfold m0
    simp [this]
  rw [e] at h
  unfold ckV
  rw [lb_xor, lb_32]
  show (lb (ckW f fr 66) j ^^ decide (j < 32)) = !dv (m1 f fr) (8 * 66) (8 * 66 + j)
  rw [h]
  simp [hj]
theorem ckV_hi (f : Nat → Int64) (fr : Nat) {j : Nat} (hj : 32 ≤ j) : lb (ckV f fr) j = false := by
  unfold ckV
  rw [lb_xor, lb_32, ckW_hi f fr 66 j hj]
  have : ¬ j < 32 := by omega
  simp [this]
/-! division is linear -/
theorem dv_xor (M M' : Nat → Bool) : ∀ n x, dv (fun y => M y ^^ M' y) n x = (dv M n x ^^ dv M' n x) := by
  intro n
  induction n with
  | zero => intro x; rfl
  | succ n ih =>
    intro x
    show (dv (fun y => M y ^^ M' y) n x ^^ (dv (fun y => M y ^^ M' y) n n && pD n x)) = ((dv M n x ^^ (dv M n n && pD n x)) ^^ (dv M' n x ^^ (dv M' n n && pD n x)))
    rw [ih x, ih n]
    cases dv M n x <;> cases dv M' n x <;> cases dv M n n <;> cases dv M' n n <;> cases pD n x <;> rfl
theorem dv_low (M : Nat → Bool) : ∀ n, (∀ i, i < n → M i = false) → ∀ x, dv M n x = M x := by
  intro n
  induction n with
  | zero => intro _ x; rfl
  | succ n ih =>
    intro h x
    have ih := ih (fun i hi => h i (by omega))
    show (dv M n x ^^ (dv M n n && pD n x)) = M x
    rw [ih x, ih n, h n (by omega)]; simp
theorem dv_congr {M M' : Nat → Bool} (h : ∀ x, M x = M' x) (n x : Nat) : dv M n x = dv M' n x := by rw [show M = M' from funext h]
