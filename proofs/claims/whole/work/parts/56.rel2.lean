/-! cells that are written, and cells that change -/
theorem cb_eq {f f' : Nat → Int64} {sp : Nat} (h : ∀ w, w < 9 → f' (sp * 9 + w) = f (sp * 9 + w)) {x : Nat} (hx : x < 576) : cb f' (sp * 9) x = cb f (sp * 9) x := by
  unfold cb
  rw [h (x / 64) (by omega)]
theorem xb_eq {g g' : Nat → BitVec 8} {sp : Nat} (h : ∀ k, k < 70 → g' (70 * sp + k) = g (70 * sp + k)) {x : Nat} (hx : x < 560) : xb g' (70 * sp) x = xb g (70 * sp) x := by
  unfold xb
  rw [h (x / 8) (by omega)]
theorem CelR_congr {now latest now' latest' : Nat → Int64} {bs dm bs' dm' : Nat → BitVec 8} {sp : Nat} (h1 : ∀ w, w < 9 → now' (sp * 9 + w) = now (sp * 9 + w)) (h2 : ∀ w, w < 9 → latest' (sp * 9 + w) = latest (sp * 9 + w)) (h3 : ∀ k, k < 70 → bs' (70 * sp + k) = bs (70 * sp + k)) (h4 : ∀ k, k < 70 → dm' (70 * sp + k) = dm (70 * sp + k)) (h : CelR now latest bs dm sp) : CelR now' latest' bs' dm' sp := by
  obtain ⟨a, b, c, d⟩ := h
  refine ⟨fun x hx => ?_, fun x hx => ?_, fun x hx hx2 => ?_, fun j hj => ?_⟩
  · rw [cb_eq h2 (by omega), xb_eq h3 hx]; exact a x hx
  · rw [cb_eq h1 (by omega), xb_eq h3 hx, xb_eq h4 hx]; exact b x hx
  · rw [cb_eq h1 hx2, cb_eq h2 hx2]; exact c x hx hx2
  · have e : dv (mS bs' sp) 528 (528 + j) = dv (mS bs sp) 528 (528 + j) := dv_lt (fun x hx => by unfold mS; rw [xb_eq h3 hx]) 528 (by decide) _ (by omega)
    rw [xb_eq h3 (by omega), d j hj, e]
theorem dgR_congr {dm dm' : Nat → BitVec 8} {pl : Nat} : ∀ n, (∀ k, k < n → dm' (70 * pl + k) = dm (70 * pl + k)) → dgR dm' pl n = dgR dm pl n := by
  intro n
  induction n with
  | zero => intro _; rfl
  | succ n ih =>
    intro h
    show (dgR dm' pl n || !decide (dm' (70 * pl + n) = 0)) = (dgR dm pl n || !decide (dm (70 * pl + n) = 0))
    rw [ih (fun k hk => h k (by omega)), h n (by omega)]
theorem cb_0 (f : Nat → Int64) {x : Nat} (hx : x < 512) : cb (flF f 0 8) 0 x = false := by
  unfold cb
  rw [flF_at, if_pos (by omega)]
  exact lb_0 _
/-- what is written, bit by bit: the tape, the tag -/
def wD (mt : Nat → Nat) (T tg x : Nat) : Bool := if x < 8 * T then (mt (x / 8)).testBit (x % 8) else if 512 ≤ x then tg.testBit (x - 512) else false
theorem wb_bits {bs : Nat → BitVec 8} {mt : Nat → Nat} {sp T tg x : Nat} (hmt : ∀ j, mt j < 256) (hT : T ≤ 64) (ht : tg < 65536) (hx : x < 528) : xb (wbF bs mt sp T tg 70) (70 * sp) x = wD mt T tg x := by
  unfold xb
  rw [wbF_at, if_pos (by omega), by_bit _ (Nat.mod_lt _ (by decide)), show 70 * sp + x / 8 - 70 * sp = x / 8 by omega]
  unfold wV wD
  by_cases h1 : x / 8 < T
  · rw [if_pos h1, if_pos (show x < 8 * T by omega), nI_bit (Nat.lt_trans (hmt _) (by decide))]
  · rw [if_neg h1, if_neg (show ¬ x < 8 * T by omega)]
    by_cases h2 : x / 8 = 64
    · rw [if_pos h2, if_pos (show 512 ≤ x by omega), Int32.toBitVec_and, BitVec.getLsbD_and, nI_bit (by omega), nI_bit (by decide), show x - 512 = x % 8 by omega]
      have h3 : Nat.testBit 255 (x % 8) = true := by
        rw [show (255 : Nat) = 2 ^ 8 - 1 from rfl, Nat.testBit_two_pow_sub_one]
        exact decide_eq_true (Nat.mod_lt _ (by decide))
      rw [h3, Bool.and_true]
    · rw [if_neg h2]
      by_cases h3 : x / 8 = 65
      · rw [if_pos h3, if_pos (show 512 ≤ x by omega), pk_shrN (show tg < 2 ^ 31 by omega) _ 8 (by decide), nI_bit (by omega), Nat.testBit_div_two_pow, show x - 512 = x % 8 + 8 by omega]
      · rw [if_neg h3, if_neg (show ¬ 512 ≤ x by omega), nI_bit (by decide)]
        simp
theorem pa_bits {tape now : Nat → Int64} {mt : Nat → Nat} {sp T tg x : Nat} (htape : ∀ x, x < 512 → cb tape 0 x = (decide (x < 8 * T) && (mt (x / 8)).testBit (x % 8))) (hT : T ≤ 64) (ht : tg < 65536) (hx : x < 576) : cb (ptA tape now sp tg) (sp * 9) x = if x < 528 then wD mt T tg x else false := by
  unfold cb ptA
  by_cases h1 : x < 512
  · rw [va_up_ne _ _ (by omega)]
    unfold va_cpy
    rw [if_pos (by omega), show 0 + (sp * 9 + x / 64 - sp * 9) = 0 + x / 64 by omega]
    have h2 := htape x h1
    unfold cb at h2
    rw [h2, if_pos (by omega)]
    unfold wD
    by_cases h3 : x < 8 * T
    · rw [if_pos h3, decide_eq_true h3, Bool.true_and]
    · rw [if_neg h3, decide_eq_false h3, if_neg (by omega), Bool.false_and]
  · rw [show x / 64 = 8 by omega, va_up_self, lb_nI (by omega), show x % 64 = x - 512 by omega]
    by_cases h3 : x < 528
    · rw [if_pos h3]
      unfold wD
      rw [if_neg (by omega), if_pos (by omega)]
    · rw [if_neg h3, Nat.testBit_lt_two_pow (Nat.lt_of_lt_of_le ht (Nat.pow_le_pow_right (n := 2) (by decide) (show 16 ≤ x - 512 by omega)))]
/-- a cell as it is written -/
theorem wr_cel {tape now latest : Nat → Int64} {mt : Nat → Nat} {bt : Nat → Bool} {bs dm : Nat → BitVec 8} {sp T tg : Nat} (htape : ∀ x, x < 512 → cb tape 0 x = (decide (x < 8 * T) && (mt (x / 8)).testBit (x % 8))) (hmt : ∀ j, mt j < 256) (hT : T ≤ 64) (ht : tg < 65536) :
    CelR (ptN tape now sp tg) (ptL tape now latest sp tg) (chF (wbF bs mt sp T tg 70) (70 * sp) (ckT bt (wbF bs mt sp T tg 70) (70 * sp)) 4) (wdF dm sp 70) sp := by
  obtain ⟨Wb, hWb⟩ : ∃ z, z = wbF bs mt sp T tg 70 := ⟨_, rfl⟩
  have f2 : ∀ x, x < 528 → xb Wb (70 * sp) x = wD mt T tg x := fun x hx => by rw [hWb]; exact wb_bits hmt hT ht hx
  rw [← hWb]
  obtain ⟨Z, hZ⟩ : ∃ z, z = ckT bt Wb (70 * sp) := ⟨_, rfl⟩
  rw [← hZ]
  have f1 : ∀ x, x < 528 → xb (chF Wb (70 * sp) Z 4) (70 * sp) x = wD mt T tg x := fun x hx => by
    rw [← f2 x hx]
    unfold xb
    rw [chF_at, if_neg (by omega)]
  have f3 : ∀ x, 528 ≤ x → x < 560 → xb (chF Wb (70 * sp) Z 4) (70 * sp) x = !Z x := fun x h1 h2 => by
    unfold xb
    rw [chF_at, if_pos (by omega), cB8_bit _ _ (Nat.mod_lt _ (by decide)), show 8 * (70 * sp + x / 8 - 70 * sp) + x % 8 = x by omega]
  have hM : ∀ x, x < 560 → mS (chF Wb (70 * sp) Z 4) sp x = ((decide (x < 528) && wD mt T tg x) ^^ decide (x < 32)) := fun x hx => by
    unfold mS
    by_cases h : x < 528
    · rw [f1 x h]
    · rw [decide_eq_false h, Bool.false_and, Bool.false_and]
  have f4 : ∀ x, x < 560 → Z x = dv (mS (chF Wb (70 * sp) Z 4) sp) 528 x := fun x hx => by
    have e : Z x = dv (ngF (fcF (spF bt Wb (70 * sp) 528) 32) 32) 528 x := by rw [hZ]; rfl
    rw [e]
    refine dv_lt (fun y hy => ?_) 528 (by decide) x hx
    rw [hM y hy, ngF_at, fcF_at, spF_at]
    congr 1
    by_cases h : y < 528
    · rw [if_neg (by omega), if_pos h, decide_eq_true h, Bool.true_and, f2 y h]
    · rw [if_pos (by omega), decide_eq_false h, Bool.false_and]
  have g1 : ∀ x, x < 576 → cb (ptA tape now sp tg) (sp * 9) x = if x < 528 then wD mt T tg x else false := fun x hx => pa_bits htape hT ht hx
  have g2 : ∀ x, x < 576 → cb (ptN tape now sp tg) (sp * 9) x = if x < 528 then wD mt T tg x else if x < 560 then !Z x else false := fun x hx => by
    unfold ptN
    rw [cb_up]
    by_cases h5 : x / 64 = 8
    · rw [if_pos h5, lb_or, lb_shl _ (by decide)]
      have e1 : lb (ptA tape now sp tg (sp * 9 + 8)) (x % 64) = cb (ptA tape now sp tg) (sp * 9) x := by unfold cb; rw [h5]
      rw [e1, g1 x hx]
      by_cases h : x < 528
      · rw [if_pos h, if_pos h, decide_eq_true (show x % 64 < 16 by omega)]; simp
      · rw [if_neg h, if_neg h, Bool.false_or, decide_eq_true (show x % 64 < 64 by omega), decide_eq_false (show ¬ x % 64 < 16 by omega)]
        by_cases h6 : x < 560
        · rw [if_pos h6, ckV_bit _ _ (show x % 64 - 16 < 32 by omega), show 528 + (x % 64 - 16) = x by omega, f4 x h6]
          have e2 : dv (m1 (ptA tape now sp tg) (sp * 9)) 528 x = dv (mS (chF Wb (70 * sp) Z 4) sp) 528 x := by
            refine dv_lt (fun y hy => ?_) 528 (by decide) x h6
            rw [hM y hy]
            unfold m1 m0
            congr 1
            rw [g1 y (by omega)]
            by_cases h : y < 528
            · rw [if_pos h]
            · rw [decide_eq_false h, Bool.false_and, Bool.false_and]
          rw [e2]; simp
        · rw [if_neg h6, ckV_hi _ _ (show 32 ≤ x % 64 - 16 by omega)]; simp
    · rw [if_neg h5, g1 x hx, if_pos (show x < 528 by omega), if_pos (show x < 528 by omega)]
  have g3 : ∀ x, x < 560 → cb (ptN tape now sp tg) (sp * 9) x = xb (chF Wb (70 * sp) Z 4) (70 * sp) x := fun x hx => by
    rw [g2 x (by omega)]
    by_cases h : x < 528
    · rw [if_pos h, f1 x h]
    · rw [if_neg h, if_pos hx, f3 x (by omega) hx]
  have g4 : ∀ x, x < 576 → cb (ptL tape now latest sp tg) (sp * 9) x = cb (ptN tape now sp tg) (sp * 9) x := fun x hx => by
    unfold cb ptL va_cpy
    rw [if_pos (by omega), show sp * 9 + (sp * 9 + x / 64 - sp * 9) = sp * 9 + x / 64 by omega]
  refine ⟨fun x hx => ?_, fun x hx => ?_, fun x h1 h2 => ?_, fun j hj => ?_⟩
  · rw [g4 x (by omega), g3 x hx]
  · rw [g3 x hx]
    have : xb (wdF dm sp 70) (70 * sp) x = false := by
      unfold xb
      rw [wdF_at, if_pos (by omega)]; simp
    rw [this, Bool.xor_false]
  · rw [g4 x h2, g2 x h2, if_neg (by omega), if_neg (by omega)]
    exact ⟨rfl, rfl⟩
  · rw [f3 _ (by omega) (by omega), f4 _ (by omega)]
/-- striking a cell -/
theorem sF_bits (dm : Nat → BitVec 8) {sp pl k x : Nat} (mk : Int64) (hk : k ≤ 8) (hx : x < 560) : xb (sF dm sp pl mk k) (70 * sp) x = (xb dm (70 * sp) x ^^ (decide (8 * pl ≤ x ∧ x < 8 * (pl + k)) && lb mk (x - 8 * pl))) := by
  unfold xb
  rw [sF_at]
  by_cases h : 8 * pl ≤ x ∧ x < 8 * (pl + k)
  · rw [if_pos (by omega), sV_bit _ _ (by omega) (Nat.mod_lt _ (by decide)), decide_eq_true h, Bool.true_and, show 8 * (70 * sp + x / 8 - (70 * sp + pl)) + x % 8 = x - 8 * pl by omega]
  · rw [if_neg (by omega), decide_eq_false h, Bool.false_and, Bool.xor_false]
theorem co_cel {now latest : Nat → Int64} {bs dm : Nat → BitVec 8} {sp pl k : Nat} (mk : Int64) (hk : k ≤ 8) (hp : pl + k ≤ 70) (h : CelR now latest bs dm sp) : CelR (tF now (sp * 9) pl mk k) latest bs (sF dm sp pl mk k) sp := by
  obtain ⟨a, b, c, d⟩ := h
  refine ⟨a, fun x hx => ?_, fun x h1 h2 => ?_, d⟩
  · rw [tF_bit _ _ _ _ _ hk, b x hx, sF_bits dm mk hk hx, Bool.xor_assoc]
  · rw [tF_bit _ _ _ _ _ hk, (c x h1 h2).1, decide_eq_false (by omega), Bool.false_and]
    exact ⟨rfl, (c x h1 h2).2⟩
theorem sV_sV (x : BitVec 8) (mk : Int64) {k : Nat} (hk : k < 8) : sV (sV x mk k) mk k = x := by
  apply BitVec.eq_of_getLsbD_eq
  intro i hi
  rw [sV_bit _ _ hk hi, sV_bit _ _ hk hi]
  cases x.getLsbD i <;> cases lb mk (8 * k + i) <;> rfl
theorem sF_sF (dm : Nat → BitVec 8) (sp pl : Nat) (mk : Int64) {k : Nat} (hk : k ≤ 8) : sF (sF dm sp pl mk k) sp pl mk k = dm := by
  funext j
  rw [sF_at]
  by_cases h : 70 * sp + pl ≤ j ∧ j < 70 * sp + pl + k
  · rw [if_pos h, sF_at, if_pos h, sV_sV _ _ (by omega)]
  · rw [if_neg h, sF_at, if_neg h]
theorem swOK_iff {now latest : Nat → Int64} {fr : Nat} : swOK now latest fr = true ↔ ∀ i, i < 9 → now (fr + i) = latest (fr + i) := by
  unfold swOK
  exact @decide_eq_true_iff _ (Classical.propDecidable _)
theorem co_sw {now latest : Nat → Int64} {bs dm : Nat → BitVec 8} {sp : Nat} (h : CelR now latest bs dm sp) : swOK now latest (sp * 9) = true ↔ dgR dm sp 70 = false := by
  obtain ⟨a, b, c, -⟩ := h
  rw [swOK_iff, dgR_f]
  constructor
  · intro q k hk
    apply BitVec.eq_of_getLsbD_eq
    intro i hi
    have h1 := b (8 * k + i) (by omega)
    have h2 := a (8 * k + i) (by omega)
    rw [cb_eq (f := latest) q (by omega), h2] at h1
    have h3 : xb dm (70 * sp) (8 * k + i) = false := by
      cases e : xb dm (70 * sp) (8 * k + i)
      · rfl
      · rw [e] at h1; cases e2 : xb bs (70 * sp) (8 * k + i) <;> rw [e2] at h1 <;> exact absurd h1 (by decide)
    unfold xb at h3
    rw [show (8 * k + i) / 8 = k by omega, show (8 * k + i) % 8 = i by omega] at h3
    rw [h3]; simp
  · intro q w hw
    apply lb_ext
    intro i hi
    have e : ∀ f : Nat → Int64, lb (f (sp * 9 + w)) i = cb f (sp * 9) (64 * w + i) := fun f => by
      unfold cb
      rw [show (64 * w + i) / 64 = w by omega, show (64 * w + i) % 64 = i by omega]
    rw [e, e]
    by_cases hx : 64 * w + i < 560
    · rw [a _ hx, b _ hx]
      have : xb dm (70 * sp) (64 * w + i) = false := by
        unfold xb
        rw [q _ (by omega)]; simp
      rw [this, Bool.xor_false]
    · rw [(c _ (by omega) (by omega)).1, (c _ (by omega) (by omega)).2]
theorem co_ic {now latest : Nat → Int64} {bs dm : Nat → BitVec 8} {sp : Nat} (bt : Nat → Bool) (h : CelR now latest bs dm sp) : icOK now (sp * 9) = true ↔ unR (dv (spF bt dm (70 * sp) (8 * 70)) 528) 32 = true := by
  obtain ⟨-, b, c, d⟩ := h
  have e : ∀ i, i < 64 → lb (now (sp * 9 + 8)) i = cb now (sp * 9) (512 + i) := fun i hi => by
    unfold cb
    rw [show (512 + i) / 64 = 8 by omega, show (512 + i) % 64 = i by omega]
  have h1 : icOK now (sp * 9) = true ↔ ∀ j, j < 32 → cb now (sp * 9) (528 + j) = !dv (m1 now (sp * 9)) 528 (528 + j) := by
    unfold icOK
    rw [decide_eq_true_iff]
    constructor
    · intro q j hj
      rw [← ckV_bit _ _ hj, ← q, lb_ushr _ (by decide), e _ (by omega), show 512 + (16 + j) = 528 + j by omega]
    · intro q
      apply lb_ext
      intro i hi
      rw [lb_ushr _ (by decide)]
      by_cases h3 : i < 32
      · rw [e _ (by omega), show 512 + (16 + i) = 528 + i by omega, q i h3, ckV_bit _ _ h3]
      · rw [ckV_hi _ _ (by omega)]
        by_cases h4 : 16 + i < 64
        · rw [e _ h4]; exact (c _ (by omega) (by omega)).1
        · exact lb_big (by omega)
  rw [h1, unR_t]
  -- the two halves of the damage
  have hm : ∀ x, x < 560 → dv (m1 now (sp * 9)) 528 x = (dv (mS bs sp) 528 x ^^ dv (fun y => decide (y < 528) && xb dm (70 * sp) y) 528 x) := fun x hx => by
    rw [← dv_xor]
    refine dv_lt (fun y hy => ?_) 528 (by decide) x hx
    unfold m1 m0 mS
    rw [b y hy]
    cases decide (y < 528) <;> cases decide (y < 32) <;> cases xb bs (70 * sp) y <;> cases xb dm (70 * sp) y <;> rfl
  have hd : ∀ x, x < 560 → dv (spF bt dm (70 * sp) (8 * 70)) 528 x = (dv (fun y => decide (y < 528) && xb dm (70 * sp) y) 528 x ^^ (!decide (x < 528) && xb dm (70 * sp) x)) := fun x hx => by
    have h5 := dv_low (fun y => !decide (y < 528) && xb dm (70 * sp) y) 528 (fun i hi => by rw [decide_eq_true hi]; rfl) x
    rw [← h5, ← dv_xor]
    refine dv_lt (fun y hy => ?_) 528 (by decide) x hx
    rw [spF_at, if_pos (by omega)]
    cases decide (y < 528) <;> cases xb dm (70 * sp) y <;> rfl
  have key : ∀ j, j < 32 → (cb now (sp * 9) (528 + j) = (!dv (m1 now (sp * 9)) 528 (528 + j)) ↔ dv (spF bt dm (70 * sp) (8 * 70)) 528 (528 + j) = false) := fun j hj => by
    rw [b _ (by omega), hm _ (by omega), hd _ (by omega), d j hj, decide_eq_false (show ¬ 528 + j < 528 by omega)]
    cases dv (mS bs sp) 528 (528 + j) <;> cases dv (fun y => decide (y < 528) && xb dm (70 * sp) y) 528 (528 + j) <;> cases xb dm (70 * sp) (528 + j) <;> decide
  exact ⟨fun q j hj => (key j hj).mp (q j hj), fun q j hj => (key j hj).mpr (q j hj)⟩
