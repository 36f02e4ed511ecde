/-! pure words of the class -/
def okI (x : Int32) (n : Nat) : Bool := decide (0 ≤ x.toInt ∧ x.toInt < n)
theorem okI_f1 {x : Int32} {n : Nat} (h : x < 0) : okI x n = false := by
  have h1 := Int32.lt_iff_toInt_lt.mp h
  simp only [okI, decide_eq_false_iff_not]
  intro q
  have : (0 : Int32).toInt = 0 := rfl
  omega
theorem okI_f2 {x : Int32} {n : Nat} (hn : n < 2 ^ 31) (h : nI n ≤ x) : okI x n = false := by
  have h1 := Int32.le_iff_toInt_le.mp h
  rw [nI_toInt hn] at h1
  simp only [okI, decide_eq_false_iff_not]
  intro q
  omega
theorem okI_t {x : Int32} {n : Nat} (hn : n < 2 ^ 31) (h0 : ¬ x < 0) (h : ¬ nI n ≤ x) : okI x n = true := by
  have h1 : ¬ (nI n).toInt ≤ x.toInt := fun q => h (Int32.le_iff_toInt_le.mpr q)
  have h2 : ¬ x.toInt < (0 : Int32).toInt := fun q => h0 (Int32.lt_iff_toInt_lt.mpr q)
  rw [nI_toInt hn] at h1
  have : (0 : Int32).toInt = 0 := rfl
  simp only [okI, decide_eq_true_eq]
  omega
theorem okI_get {x : Int32} {n : Nat} (hn : n < 2 ^ 31) (h : okI x n = true) : ∃ d : Nat, d < n ∧ x = nI d := by
  simp only [okI, decide_eq_true_eq] at h
  refine ⟨x.toInt.toNat, by omega, ?_⟩
  apply Int32.toInt_inj.mp
  rw [nI_toInt (by omega)]
  omega
theorem okI_nI {d n : Nat} (hd : d < n) (hn : n < 2 ^ 31) : okI (nI d) n = true := by
  simp only [okI, decide_eq_true_eq, nI_toInt (show d < 2 ^ 31 by omega)]
  omega
/-- 1 .. 8 -/
def okC (x : Int32) : Bool := decide (1 ≤ x.toInt ∧ x.toInt ≤ 8)
theorem okC_f1 {x : Int32} (h : x < nI 1) : okC x = false := by
  have h1 := Int32.lt_iff_toInt_lt.mp h
  rw [nI_toInt (by decide)] at h1
  simp only [okC, decide_eq_false_iff_not]
  intro q
  omega
theorem okC_f2 {x : Int32} (h : nI 8 < x) : okC x = false := by
  have h1 := Int32.lt_iff_toInt_lt.mp h
  rw [nI_toInt (by decide)] at h1
  simp only [okC, decide_eq_false_iff_not]
  intro q
  omega
theorem okC_t {x : Int32} (h0 : ¬ x < nI 1) (h : ¬ nI 8 < x) : okC x = true := by
  have h1 : ¬ (nI 8).toInt < x.toInt := fun q => h (Int32.lt_iff_toInt_lt.mpr q)
  have h2 : ¬ x.toInt < (nI 1).toInt := fun q => h0 (Int32.lt_iff_toInt_lt.mpr q)
  rw [nI_toInt (by decide)] at h1 h2
  simp only [okC, decide_eq_true_eq]
  omega
theorem okC_get {x : Int32} (h : okC x = true) : ∃ d : Nat, 1 ≤ d ∧ d ≤ 8 ∧ x = nI d := by
  simp only [okC, decide_eq_true_eq] at h
  refine ⟨x.toInt.toNat, by omega, by omega, ?_⟩
  apply Int32.toInt_inj.mp
  rw [nI_toInt (by omega)]
  omega

