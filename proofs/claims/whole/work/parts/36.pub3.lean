theorem zr_le_lt {x : Int32} {n : Nat} (h : x ≤ nI n) (q : nI (n + 1) ≤ x) (hn : n + 1 < 2 ^ 31 := by decide) : False := by
  have h1 := Int32.le_iff_toInt_le.mp (Int32.le_trans q h)
  rw [nI_toInt hn, nI_toInt (by omega)] at h1
  omega
theorem zr_nle_le {x : Int32} {n : Nat} (h : ¬ x ≤ nI n) (hn : n + 1 < 2 ^ 31 := by decide) : nI (n + 1) ≤ x := by
  have h1 : ¬ x.toInt ≤ (nI n).toInt := fun q => h (Int32.le_iff_toInt_le.mpr q)
  rw [nI_toInt (by omega)] at h1
  apply Int32.le_iff_toInt_le.mpr
  rw [nI_toInt hn]
  omega

