/-! the class's state and the reference's, side by side -/
theorem nI_inj {a b : Nat} (ha : a < 2 ^ 31) (hb : b < 2 ^ 31) (h : nI a = nI b) : a = b := (nI_eq ha hb).mp h
theorem okC_nI {k : Nat} (h1 : 1 ≤ k) (h8 : k ≤ 8) : okC (nI k) = true := by
  simp only [okC, decide_eq_true_eq, nI_toInt (show k < 2 ^ 31 by omega)]
  omega
theorem lvC_pos (lv : Nat → Bool) {d : Nat} (h : lv d = true) : ∀ n, d < n → 1 ≤ lvC lv n := by
  intro n
  induction n with
  | zero => intro h; omega
  | succ n ih =>
    intro hn
    show 1 ≤ lvC lv n + (if lv n then 1 else 0)
    by_cases e : d = n
    · subst e; rw [h]; simp
    · have := ih (by omega); omega
theorem lvC_out (lv : Nat → Bool) (d : Nat) (b : Bool) : ∀ n, n ≤ d → lvC (va_up lv d b) n = lvC lv n := by
  intro n
  induction n with
  | zero => intro _; rfl
  | succ n ih =>
    intro h
    show lvC (va_up lv d b) n + (if va_up lv d b n then 1 else 0) = lvC lv n + (if lv n then 1 else 0)
    rw [ih (by omega), va_up_ne _ _ (by omega)]
theorem lvC_up (lv : Nat → Bool) (d : Nat) (b : Bool) : ∀ n, d < n → lvC (va_up lv d b) n + (if lv d then 1 else 0) = lvC lv n + (if b then 1 else 0) := by
  intro n
  induction n with
  | zero => intro h; omega
  | succ n ih =>
    intro h
    show lvC (va_up lv d b) n + (if va_up lv d b n then 1 else 0) + _ = lvC lv n + (if lv n then 1 else 0) + _
    by_cases e : d = n
    · subst e; rw [lvC_out _ _ _ _ (Nat.le_refl _), va_up_self]; omega
    · have := ih (by omega)
      rw [va_up_ne _ _ (by omega)]
      omega
/-- what is divided for the check of a cell's bytes -/
def mS (bs : Nat → BitVec 8) (sp : Nat) : Nat → Bool := fun x => (decide (x < 528) && xb bs (70 * sp) x) ^^ decide (x < 32)
/-- a written cell: its words and its bytes -/
def CelR (now latest : Nat → Int64) (bs dm : Nat → BitVec 8) (sp : Nat) : Prop :=
  (∀ x, x < 560 → cb latest (sp * 9) x = xb bs (70 * sp) x) ∧ (∀ x, x < 560 → cb now (sp * 9) x = (xb bs (70 * sp) x ^^ xb dm (70 * sp) x)) ∧
  (∀ x, 560 ≤ x → x < 576 → cb now (sp * 9) x = false ∧ cb latest (sp * 9) x = false) ∧ (∀ j, j < 32 → xb bs (70 * sp) (528 + j) = !dv (mS bs sp) 528 (528 + j))
def Rel (now latest : Nat → Int64) (kd cn : Nat → Nat) (ld : Nat) (tape : Nat → Int64) (tb : Nat) (outw : Nat → Int64) (ob : Nat) (off : Bool) (wl : Int32) (wd : Int64) (mt mo : Nat → Nat) (lv wr : Nat → Bool) (bs dm : Nat → BitVec 8) (tp os : Nat) (dn lf : Int64) (mf : Bool) : Prop :=
  kdOK kd ∧ cnOK kd cn ∧ (tb ≤ 64 ∧ tp = tb) ∧ (ob ≤ 64 ∧ os = ob) ∧ (mf = off ∧ lf = wl.toInt64 ∧ dn = wd) ∧ ((off = true → wl = 0) ∧ (wl = -1 ∨ 0 ≤ wl.toInt)) ∧ ld = lvC lv 16 ∧
  (∀ di ce, di < 16 → ce < 66 → kd (di * 66 + ce) = stN lv wr dm di ce) ∧
  (∀ j, mt j < 256) ∧ (∀ x, x < 512 → cb tape 0 x = (decide (x < 8 * tb) && (mt (x / 8)).testBit (x % 8))) ∧
  (∀ j, mo j < 256) ∧ (∀ x, x < 8 * ob → cb outw 0 x = (mo (x / 8)).testBit (x % 8)) ∧
  (∀ sp, sp < 1056 → wr sp = true → CelR now latest bs dm sp)
theorem stN_lv {lv wr : Nat → Bool} {dm : Nat → BitVec 8} {di ce : Nat} (h : ¬ stN lv wr dm di ce = 0) : lv di = true := by
  unfold stN at h
  cases q : lv di
  · rw [q] at h; exact absurd rfl h
  · rfl
theorem stN_0 {lv wr : Nat → Bool} {dm : Nat → BitVec 8} {di ce : Nat} (h : stN lv wr dm di ce = 0) : lv di = false := by
  unfold stN at h
  cases q : lv di
  · rfl
  · rw [q, if_pos rfl] at h
    split at h
    · split at h <;> exact absurd h (by decide)
    · exact absurd h (by decide)
/-- written, where its kind says so -/
theorem stN_wr {lv wr : Nat → Bool} {dm : Nat → BitVec 8} {di ce : Nat} (h : 2 ≤ stN lv wr dm di ce) : lv di = true ∧ wr (66 * di + ce) = true := by
  unfold stN at h
  cases q : lv di
  · rw [q, if_neg (by decide)] at h; omega
  · cases q2 : wr (66 * di + ce)
    · rw [q, q2, if_pos rfl, if_neg (by decide)] at h; omega
    · exact ⟨rfl, rfl⟩
theorem rel_hy {now latest : Nat → Int64} {kd cn : Nat → Nat} {ld : Nat} {tape : Nat → Int64} {tb : Nat} {outw : Nat → Int64} {ob : Nat} {off : Bool} {wl : Int32} {wd : Int64} {mt mo : Nat → Nat} {lv wr : Nat → Bool} {bs dm : Nat → BitVec 8} {tp os : Nat} {dn lf : Int64} {mf : Bool} (h : Rel now latest kd cn ld tape tb outw ob off wl wd mt mo lv wr bs dm tp os dn lf mf) :
    kdOK kd ∧ cnOK kd cn ∧ tb ≤ 64 ∧ ob ≤ 64 ∧ (∀ di, di < 16 → ¬ kd (di * 66) = 0 → 1 ≤ ld) ∧ tp ≤ 64 ∧ os ≤ 64 := by
  obtain ⟨hk, hc, ⟨htb, rfl⟩, ⟨hob, rfl⟩, -, -, hld, hst, -⟩ := h
  refine ⟨hk, hc, htb, hob, fun di hd hq => ?_, htb, hob⟩
  rw [hld]
  have h1 := hst di 0 hd (by decide)
  exact lvC_pos lv (stN_lv (by rw [← h1]; exact hq)) 16 hd
theorem dv_lt {M M' : Nat → Bool} (h : ∀ x, x < 560 → M x = M' x) : ∀ n, n ≤ 528 → ∀ x, x < 560 → dv M n x = dv M' n x := by
  intro n
  induction n with
  | zero => intro _ x hx; exact h x hx
  | succ n ih =>
    intro hn x hx
    show (dv M n x ^^ (dv M n n && pD n x)) = (dv M' n x ^^ (dv M' n n && pD n x))
    rw [ih (by omega) x hx, ih (by omega) n (by omega)]
/-- two bytes with the same bits -/
theorem bits8 {a b : Nat} (ha : a < 256) (hb : b < 256) (h : ∀ i, i < 8 → a.testBit i = b.testBit i) : a = b := by
  apply Nat.eq_of_testBit_eq
  intro i
  by_cases hi : i < 8
  · exact h i hi
  · rw [Nat.testBit_lt_two_pow (Nat.lt_of_lt_of_le ha (Nat.pow_le_pow_right (n := 2) (by decide) (show 8 ≤ i by omega))), Nat.testBit_lt_two_pow (Nat.lt_of_lt_of_le hb (Nat.pow_le_pow_right (n := 2) (by decide) (show 8 ≤ i by omega)))]
theorem bA_bit (bs dm : Nat → BitVec 8) (sp k : Nat) {i : Nat} (hi : i < 8) : (bA bs dm sp k).testBit i = (xb bs (70 * sp) (8 * k + i) ^^ xb dm (70 * sp) (8 * k + i)) := by
  unfold bA xb
  show ((bs (70 * sp + k) ^^^ dm (70 * sp + k)).getLsbD i) = _
  rw [BitVec.getLsbD_xor, show (8 * k + i) / 8 = k by omega, show (8 * k + i) % 8 = i by omega]
theorem byF_bA {now latest : Nat → Int64} {bs dm : Nat → BitVec 8} {sp k : Nat} (h : CelR now latest bs dm sp) (hk : k < 70) : byF now (sp * 9) k = bA bs dm sp k := by
  refine bits8 (byF_lt _ _ _) (bA_lt _ _ _ _) (fun i hi => ?_)
  rw [byF_bit, bA_bit _ _ _ _ hi, decide_eq_true hi, Bool.true_and, h.2.1 _ (by omega)]
theorem stN_23 {lv wr : Nat → Bool} {dm : Nat → BitVec 8} {di ce : Nat} (h : 2 ≤ stN lv wr dm di ce) : stN lv wr dm di ce = 2 ∨ stN lv wr dm di ce = 3 := by
  have := stN_lt lv wr dm di ce
  omega
theorem feed_bits (mt : Nat → Nat) (v : Int64) (T k q : Nat) : ((decide (q < 8 * T) && (mt (q / 8)).testBit (q % 8)) ^^ (decide (8 * T ≤ q ∧ q < 8 * (T + k)) && lb v (q - 8 * T))) = (decide (q < 8 * (T + k)) && (if T ≤ q / 8 ∧ q / 8 < T + k then vb v (q / 8 - T) else mt (q / 8)).testBit (q % 8)) := by
  by_cases h1 : q < 8 * T
  · rw [decide_eq_true h1, decide_eq_false (show ¬ (8 * T ≤ q ∧ q < 8 * (T + k)) by omega), decide_eq_true (show q < 8 * (T + k) by omega), if_neg (show ¬ (T ≤ q / 8 ∧ q / 8 < T + k) by omega)]; simp
  · by_cases h2 : q < 8 * (T + k)
    · rw [decide_eq_false h1, decide_eq_true (show 8 * T ≤ q ∧ q < 8 * (T + k) by omega), decide_eq_true h2, if_pos (show T ≤ q / 8 ∧ q / 8 < T + k by omega), vb_bit, show 8 * (q / 8 - T) + q % 8 = q - 8 * T by omega, decide_eq_true (show q % 8 < 8 by omega)]; simp
    · rw [decide_eq_false h1, decide_eq_false (show ¬ (8 * T ≤ q ∧ q < 8 * (T + k)) by omega), decide_eq_false h2]; simp
theorem outs_eq {outw : Nat → Int64} {mo : Nat → Nat} {O k : Nat} (hk : k < O) (hO : O ≤ 64) (hmo : ∀ j, mo j < 256) (hout : ∀ x, x < 8 * O → cb outw 0 x = (mo (x / 8)).testBit (x % 8)) : oV outw (min (k + 8) O) (min (k + 8) O - k) = oM mo k (min 8 (O - k)) := by
  apply lb_ext
  intro y hy
  rw [oV_bit _ _ _ (by omega) y hy, oM_bit _ _ hmo _ (by omega) y hy]
  by_cases h1 : y < 8 * (min 8 (O - k))
  · rw [decide_eq_true h1, decide_eq_true (show y < 8 * (min (k + 8) O - k) by omega), show 8 * (min (k + 8) O - (min (k + 8) O - k)) + y = 8 * k + y by omega, hout _ (by omega), show (8 * k + y) / 8 = k + y / 8 by omega, show (8 * k + y) % 8 = y % 8 by omega]
  · rw [decide_eq_false h1, decide_eq_false (show ¬ y < 8 * (min (k + 8) O - k) by omega)]; simp
theorem stN_wr2 {lv wr : Nat → Bool} {dm : Nat → BitVec 8} {di ce : Nat} (h : stN lv wr dm di ce = 2) : lv di = true ∧ wr (66 * di + ce) = true := stN_wr (by rw [h]; exact Nat.le_refl 2)
