/-! the reference: pure words -/
def inB (v a b : Int32) : Bool := decide (a ≤ v) && decide (v ≤ b)
theorem inB_ok (x : Int32) {n : Nat} (hn : n + 1 < 2 ^ 31) : inB x (nI 0) (nI n) = okI x (n + 1) := by
  unfold inB okI
  have h0 : (nI 0).toInt = 0 := nI_toInt (by decide)
  have h1 : (nI n).toInt = n := nI_toInt (by omega)
  have e1 : (nI 0 ≤ x) ↔ 0 ≤ x.toInt := by rw [Int32.le_iff_toInt_le, h0]
  have e2 : (x ≤ nI n) ↔ x.toInt ≤ n := by rw [Int32.le_iff_toInt_le, h1]
  by_cases q1 : 0 ≤ x.toInt <;> by_cases q2 : x.toInt ≤ n
  · simp [e1, e2, q1, q2]
    omega
  · simp [e1, e2, q1, q2]
    omega
  · simp [e1, e2, q1]
  · simp [e1, e2, q1]
theorem inB_okC (x : Int32) : inB x (nI 1) (nI 8) = okC x := by
  unfold inB okC
  have h0 : (nI 1).toInt = 1 := nI_toInt (by decide)
  have h1 : (nI 8).toInt = 8 := nI_toInt (by decide)
  have e1 : (nI 1 ≤ x) ↔ 1 ≤ x.toInt := by rw [Int32.le_iff_toInt_le, h0]
  have e2 : (x ≤ nI 8) ↔ x.toInt ≤ 8 := by rw [Int32.le_iff_toInt_le, h1]
  by_cases q1 : 1 ≤ x.toInt <;> by_cases q2 : x.toInt ≤ 8 <;> simp [e1, e2, q1, q2]
theorem inB_t {v a b : Int32} (h1 : ¬ v < a) (h2 : ¬ b < v) : inB v a b = true := by
  unfold inB
  rw [decide_eq_true (Int32.not_lt.mp h1), decide_eq_true (Int32.not_lt.mp h2)]; rfl
theorem inB_f1 {v a b : Int32} (h1 : v < a) : inB v a b = false := by
  unfold inB
  rw [decide_eq_false (fun q => Int32.not_lt.mpr q h1)]; rfl
theorem inB_f2 {v a b : Int32} (h1 : b < v) : inB v a b = false := by
  unfold inB
  rw [decide_eq_false (fun q => Int32.not_lt.mpr q h1), Bool.and_false]
/-- bit x of a row of bytes -/
def xb (g : Nat → BitVec 8) (fr x : Nat) : Bool := (g (fr + x / 8)).getLsbD (x % 8)
theorem sx_bit (b : BitVec 8) {j : Nat} (hj : j < 8) : (sx b).toBitVec.getLsbD j = b.getLsbD j := by
  show (b.signExtend 32).getLsbD j = _
  rw [BitVec.getLsbD_signExtend]
  have : j < 32 := by omega
  simp [this, hj]
theorem sx_sh (b : BitVec 8) {j : Nat} (hj : j < 8) : (sx b >>> (nI j &&& 31)) &&& nI 1 = bI (b.getLsbD j) := by
  rw [pk_and _ 1 (by decide)]
  have h1 : ((sx b >>> (nI j &&& 31)).toBitVec).getLsbD 0 = b.getLsbD j := by
    rw [Int32.toBitVec_shiftRight]
    have h2 : ∀ j, j < 8 → ((nI j &&& 31).toBitVec.smod 32) = BitVec.ofNat 32 j := by decide +kernel
    rw [h2 j hj, BitVec.sshiftRight_eq', show (BitVec.ofNat 32 j).toNat = j by rw [BitVec.toNat_ofNat]; omega, BitVec.getLsbD_sshiftRight]
    have h3 : j + 0 < 32 := by omega
    rw [if_pos h3, Nat.add_zero, sx_bit b hj]
    simp
  have h4 : ((sx b >>> (nI j &&& 31)).toBitVec.toNat % 2 ^ 1) = (b.getLsbD j).toNat := by
    rw [← h1]
    show _ = (Nat.testBit (sx b >>> (nI j &&& 31)).toBitVec.toNat 0).toNat
    rw [Nat.testBit_zero]
    rcases Nat.mod_two_eq_zero_or_one (sx b >>> (nI j &&& 31)).toBitVec.toNat with q | q
    · rw [show (2 : Nat) ^ 1 = 2 from rfl, q]; rfl
    · rw [show (2 : Nat) ^ 1 = 2 from rfl, q]; rfl
  rw [h4]
  cases b.getLsbD j <;> rfl
theorem xb_t {g : Nat → BitVec 8} {fr i : Nat} (h : (sx (g (fr + i / 8)) >>> (nI (i % 8) &&& 31)) &&& nI 1 = nI 1) : xb g fr i = true := by
  rw [sx_sh _ (Nat.mod_lt _ (by decide))] at h
  unfold xb
  cases q : (g (fr + i / 8)).getLsbD (i % 8)
  · rw [q] at h; exact absurd h (by decide)
  · rfl
theorem xb_f {g : Nat → BitVec 8} {fr i : Nat} (h : ¬ (sx (g (fr + i / 8)) >>> (nI (i % 8) &&& 31)) &&& nI 1 = nI 1) : xb g fr i = false := by
  rw [sx_sh _ (Nat.mod_lt _ (by decide))] at h
  unfold xb
  cases q : (g (fr + i / 8)).getLsbD (i % 8)
  · rfl
  · rw [q] at h; exact absurd rfl h
def spF (bt : Nat → Bool) (g : Nat → BitVec 8) (fr : Nat) : Nat → Nat → Bool
  | 0 => bt
  | i + 1 => va_up (spF bt g fr i) i (xb g fr i)
theorem spF_at (bt : Nat → Bool) (g : Nat → BitVec 8) (fr : Nat) : ∀ n x, spF bt g fr n x = if x < n then xb g fr x else bt x := by
  intro n
  induction n with
  | zero => intro x; rw [if_neg (by omega)]; rfl
  | succ n ih =>
    intro x
    show va_up (spF bt g fr n) n (xb g fr n) x = _
    by_cases e : x = n
    · subst e; rw [va_up_self, if_pos (by omega)]
    · rw [va_up_ne _ _ e, ih x]
      by_cases q : x < n
      · rw [if_pos q, if_pos (by omega)]
      · rw [if_neg q, if_neg (by omega)]
def diF (b : Nat → Bool) (i : Nat) : Nat → Nat → Bool
  | 0 => b
  | k + 1 => va_up (diF b i k) (i + k) (diF b i k (i + k) ^^ pB k)
theorem diF_at (b : Nat → Bool) (i : Nat) : ∀ n x, diF b i n x = (b x ^^ (decide (i ≤ x ∧ x < i + n) && pB (x - i))) := by
  intro n
  induction n with
  | zero => intro x; show b x = _; rw [decide_eq_false (by omega)]; simp
  | succ n ih =>
    intro x
    show va_up (diF b i n) (i + n) (diF b i n (i + n) ^^ pB n) x = _
    by_cases e : x = i + n
    · subst e
      rw [va_up_self, ih, decide_eq_false (by omega), decide_eq_true (by omega), show i + n - i = n by omega]; simp
    · rw [va_up_ne _ _ e, ih x]
      by_cases q : i ≤ x ∧ x < i + n
      · rw [decide_eq_true q, decide_eq_true (show i ≤ x ∧ x < i + (n + 1) by omega)]
      · rw [decide_eq_false q, decide_eq_false (show ¬ (i ≤ x ∧ x < i + (n + 1)) by omega)]
theorem diF_dv {b : Nat → Bool} {i : Nat} (h : dv b i i = true) : diF (dv b i) i 33 = dv b (i + 1) := by
  funext x
  rw [diF_at]
  show _ = (dv b i x ^^ (dv b i i && pD i x))
  rw [h]
  unfold pD
  by_cases q : i ≤ x
  · by_cases q2 : x < i + 33
    · rw [decide_eq_true ⟨q, q2⟩]; simp [q]
    · rw [decide_eq_false (fun z => q2 z.2), pB_big (by omega)]; simp
  · rw [decide_eq_false (fun z => q z.1), decide_eq_false q]; simp
theorem dv_skip {b : Nat → Bool} {i : Nat} (h : dv b i i = false) : dv b i = dv b (i + 1) := by
  funext x
  show _ = (dv b i x ^^ (dv b i i && pD i x))
  rw [h]; simp
theorem pB_sh : ∀ k, k < 33 → (((4394350321 : Int64) >>> ((nI k).toInt64 &&& 63)) &&& 1 = 1 ↔ pB k = true) := by decide +kernel
theorem zr_xorb (b c : Bool) : bI b ^^^ bI c = bI (b ^^ c) := by cases b <;> cases c <;> decide
/-- whether one of the first n bytes of a cell is damaged -/
def dgR (dm : Nat → BitVec 8) (pl : Nat) : Nat → Bool
  | 0 => false
  | k + 1 => dgR dm pl k || !decide (dm (70 * pl + k) = 0)
theorem dgR_f (dm : Nat → BitVec 8) (pl : Nat) : ∀ n, dgR dm pl n = false ↔ ∀ k, k < n → dm (70 * pl + k) = 0 := by
  intro n
  induction n with
  | zero => exact ⟨fun _ k hk => absurd hk (by omega), fun _ => rfl⟩
  | succ n ih =>
    show (dgR dm pl n || !decide (dm (70 * pl + n) = 0)) = false ↔ _
    rw [Bool.or_eq_false_iff, ih]
    constructor
    · intro h k hk
      rcases (show k < n ∨ k = n by omega) with q | q
      · exact h.1 k q
      · subst q; simpa using h.2
    · intro h
      exact ⟨fun k hk => h k (by omega), by simpa using h n (by omega)⟩
def unR (b : Nat → Bool) : Nat → Bool
  | 0 => true
  | i + 1 => unR b i && !b (528 + i)
theorem unR_t (b : Nat → Bool) : ∀ n, unR b n = true ↔ ∀ i, i < n → b (528 + i) = false := by
  intro n
  induction n with
  | zero => exact ⟨fun _ k hk => absurd hk (by omega), fun _ => rfl⟩
  | succ n ih =>
    show (unR b n && !b (528 + n)) = true ↔ _
    rw [Bool.and_eq_true_iff, ih]
    constructor
    · intro h k hk
      rcases (show k < n ∨ k = n by omega) with q | q
      · exact h.1 k q
      · subst q; simpa using h.2
    · intro h
      exact ⟨fun k hk => h k (by omega), by simpa using h n (by omega)⟩
def stN (lv wr : Nat → Bool) (dm : Nat → BitVec 8) (di ce : Nat) : Nat := if lv di then (if wr (66 * di + ce) then (if dgR dm (66 * di + ce) 70 then 3 else 2) else 1) else 0

