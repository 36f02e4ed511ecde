/-! pure rows for the public methods -/
theorem zr_sw_lt {x : Int32} (h : x < 0) {hi : Int} : x.toInt < 0 ∨ hi < x.toInt := Or.inl (Int32.lt_iff_toInt_lt.mp h)
theorem zr_sw_ge {x : Int32} {n : Nat} (hn : n + 1 < 2 ^ 31) (h : nI (n + 1) ≤ x) {lo : Int} : x.toInt < lo ∨ (n : Int) < x.toInt := by
  have h1 := Int32.le_iff_toInt_le.mp h
  rw [nI_toInt hn] at h1
  right; omega
theorem zr_min {a b : Nat} (ha : a < 2 ^ 31) (hb : b < 2 ^ 31) : (if nI b < nI a then nI b else nI a) = nI (min a b) := by
  by_cases h : b < a
  · rw [if_pos ((nI_ltI hb ha).mpr h), Nat.min_eq_right (by omega)]
  · rw [if_neg (fun q => h ((nI_ltI hb ha).mp q)), Nat.min_eq_left (by omega)]
theorem zr_iadd_le {a b n : Nat} (h : a + b < 2 ^ 31) (hn : n < 2 ^ 31) : nI (a + b) ≤ nI n ↔ a + b ≤ n := nI_leI h hn
def zM (j : Nat) : Int32 := nI j - nI 1
theorem zM_1 {j : Nat} (h : 1 ≤ j) : zM j = nI (j - 1) := pk_sub h
theorem zM_lt {j k : Nat} (hj : j < 2 ^ 30) (hk : k < 2 ^ 30) : zM j < nI k ↔ j ≤ k := by
  unfold zM
  rw [Int32.lt_iff_toInt_lt, pk_sub_toInt hj (by decide), nI_toInt (by omega)]
  omega
theorem zM_dec {j : Nat} (h : 1 ≤ j) : nI (j - 1) + Int32.ofInt (-1) = zM (j - 1) := by
  unfold zM
  rw [Int32.sub_eq_add_neg, show Int32.ofInt (-1) = -nI 1 by decide]
/-- the OUT as a number: d bytes below the place e -/
def oV (f : Nat → Int64) (e : Nat) : Nat → Int64
  | 0 => 0
  | d + 1 => (oV f e d <<< ((nI 8).toInt64 &&& 63)) ||| (nI (byF f 0 (e - 1 - d))).toInt64
theorem oV_bit (f : Nat → Int64) (e : Nat) : ∀ d, d ≤ e → ∀ y, y < 64 → lb (oV f e d) y = (decide (y < 8 * d) && cb f 0 (8 * (e - d) + y)) := by
  intro d
  induction d with
  | zero => intro _ y hy; show lb 0 y = _; rw [lb_0]; simp
  | succ d ih =>
    intro hd y hy
    show lb ((oV f e d <<< ((nI 8).toInt64 &&& 63)) ||| (nI (byF f 0 (e - 1 - d))).toInt64) y = _
    rw [lb_or, lb_shl _ (by decide), lb_nI (Nat.lt_of_lt_of_le (byF_lt f 0 _) (by decide)), byF_bit]
    by_cases h8 : y < 8
    · have h1 : y < 8 * (d + 1) := by omega
      rw [show 8 * (e - 1 - d) + y = 8 * (e - (d + 1)) + y by omega]
      simp [h8, h1]
    · rw [ih (by omega) (y - 8) (by omega)]
      rw [show 8 * (e - d) + (y - 8) = 8 * (e - (d + 1)) + y by omega]
      by_cases h1 : y < 8 * (d + 1)
      · have h2 : y - 8 < 8 * d := by omega
        simp [h8, h1, h2, hy]
      · have h2 : ¬ y - 8 < 8 * d := by omega
        simp [h8, h1, h2]
/-- what look answers -/
def lkV (wd : Int64) (off : Bool) (wl : Int32) (ld : Nat) (cn : Nat → Nat) (k : Nat) : Int64 :=
  if k = 0 then wd else if k = 1 then (if off then 1 else 0) else if k = 2 then wl.toInt64 else if k = 3 then (nI ld).toInt64 else if k = 4 then (nI (cn 2)).toInt64 else (nI (cn 3)).toInt64

