/-! the reference: feeding and writing -/
theorem zr_not_t {b : Bool} (h : (!b) = true) : b = false := by cases b; rfl; exact absurd h (by decide)
theorem zr_not_f {b : Bool} (h : (!b) = false) : b = true := by cases b; exact absurd h (by decide); rfl
def vb (v : Int64) (i : Nat) : Nat := v.toBitVec.toNat / 2 ^ (8 * i) % 256
theorem vb_lt (v : Int64) (i : Nat) : vb v i < 256 := Nat.mod_lt _ (by decide)
theorem vb_bit (v : Int64) (k i : Nat) : (vb v k).testBit i = (decide (i < 8) && lb v (8 * k + i)) := by
  unfold vb lb
  rw [show (256 : Nat) = 2 ^ 8 from rfl, Nat.testBit_mod_two_pow, Nat.testBit_div_two_pow, Nat.add_comm]
  rfl
theorem vb_eq (v : Int64) {k : Nat} (hk : k < 8) : ((v >>> ((nI (8 * k)).toInt64 &&& 63)) &&& 255).toInt32 = nI (vb v k) := by
  apply Int32.toBitVec_inj.mp
  apply BitVec.eq_of_getLsbD_eq
  intro i hi
  rw [l2i_bit _ hi, nI_bit (Nat.lt_trans (vb_lt v k) (by decide)), vb_bit, lb_and, lb_255]
  by_cases h : i < 8
  · rw [lb_sshr _ (by omega)]; simp [h]
  · simp [h]
def mfF (mt : Nat → Nat) (tp : Nat) (v : Int64) : Nat → Nat → Nat
  | 0 => mt
  | i + 1 => va_up (mfF mt tp v i) (tp + i) (vb v i)
theorem mfF_at (mt : Nat → Nat) (tp : Nat) (v : Int64) : ∀ n j, mfF mt tp v n j = if tp ≤ j ∧ j < tp + n then vb v (j - tp) else mt j := by
  intro n
  induction n with
  | zero => intro j; rw [if_neg (by omega)]; rfl
  | succ n ih =>
    intro j
    show va_up (mfF mt tp v n) (tp + n) (vb v n) j = _
    by_cases e : j = tp + n
    · subst e; rw [va_up_self, if_pos (by omega), show tp + n - tp = n by omega]
    · rw [va_up_ne _ _ e, ih j]
      by_cases q : tp ≤ j ∧ j < tp + n
      · rw [if_pos q, if_pos (by omega)]
      · rw [if_neg q, if_neg (by omega)]
def wV (mt : Nat → Nat) (n1 tg k : Nat) : Int32 := if k < n1 then nI (mt k) else if k = 64 then nI tg &&& nI 255 else if k = 65 then nI tg >>> (nI 8 &&& 31) else nI 0
def wbF (bs : Nat → BitVec 8) (mt : Nat → Nat) (sp n1 tg : Nat) : Nat → Nat → BitVec 8
  | 0 => bs
  | k + 1 => va_up (wbF bs mt sp n1 tg k) (70 * sp + k) (((wV mt n1 tg k).toInt8.toInt32).toBitVec.setWidth 8)
theorem wbF_at (bs : Nat → BitVec 8) (mt : Nat → Nat) (sp n1 tg : Nat) : ∀ n j, wbF bs mt sp n1 tg n j = if 70 * sp ≤ j ∧ j < 70 * sp + n then ((wV mt n1 tg (j - 70 * sp)).toInt8.toInt32).toBitVec.setWidth 8 else bs j := by
  intro n
  induction n with
  | zero => intro j; rw [if_neg (by omega)]; rfl
  | succ n ih =>
    intro j
    show va_up (wbF bs mt sp n1 tg n) (70 * sp + n) (((wV mt n1 tg n).toInt8.toInt32).toBitVec.setWidth 8) j = _
    by_cases e : j = 70 * sp + n
    · subst e; rw [va_up_self, if_pos (by omega), show 70 * sp + n - 70 * sp = n by omega]
    · rw [va_up_ne _ _ e, ih j]
      by_cases q : 70 * sp ≤ j ∧ j < 70 * sp + n
      · rw [if_pos q, if_pos (by omega)]
      · rw [if_neg q, if_neg (by omega)]
def wdF (dm : Nat → BitVec 8) (sp : Nat) : Nat → Nat → BitVec 8
  | 0 => dm
  | k + 1 => va_up (wdF dm sp k) (70 * sp + k) ((nI 0).toBitVec.setWidth 8)
theorem wdF_at (dm : Nat → BitVec 8) (sp : Nat) : ∀ n j, wdF dm sp n j = if 70 * sp ≤ j ∧ j < 70 * sp + n then 0 else dm j := by
  intro n
  induction n with
  | zero => intro j; rw [if_neg (by omega)]; rfl
  | succ n ih =>
    intro j
    show va_up (wdF dm sp n) (70 * sp + n) ((nI 0).toBitVec.setWidth 8) j = _
    by_cases e : j = 70 * sp + n
    · subst e; rw [va_up_self, if_pos (by omega)]; rfl
    · rw [va_up_ne _ _ e, ih j]
      by_cases q : 70 * sp ≤ j ∧ j < 70 * sp + n
      · rw [if_pos q, if_pos (by omega)]
      · rw [if_neg q, if_neg (by omega)]
theorem stN_lt (lv wr : Nat → Bool) (dm : Nat → BitVec 8) (di ce : Nat) : stN lv wr dm di ce < 4 := by
  unfold stN
  split
  · split
    · split <;> decide
    · decide
  · decide
section ZR5
variable {p : Program} {l : Launch} {e : Env} {R : Room} {s : State} {m : MethodId} {args : Array Value} {below : List Frame} {meth : Method} {c : Code} {H H0 : Heap} {locs : List Loc} {cells slots : Nat} {Q : State → Prop} {cc : ByteArray} {pc : Nat} {ls : Array Slot} {rest : List Value}
theorem zr_cmp_le (hx : p.tables.exec = Jvm.exec) (hb : c.code = cc) {x y : Int64} {off : Int} {tgt : Nat} (hdg : decode cc pc = .ok (.ifCond .le off, 3)) (ht : (pc : Int) + off = (tgt : Int)) (kt : x ≤ y → W p l e R s m args below meth c H locs cells slots Q (F0 m tgt ls rest)) (kf : ¬ x ≤ y → W p l e R s m args below meth c H locs cells slots Q (F0 m (pc + 3) ls rest)) : W p l e R s m args below meth c H locs cells slots Q (F0 m pc ls (.int (lg_cmp x y) :: rest)) :=
  lv_if_le hx hb hdg ht (fun q => kt ((lg_cmp_le x y).mp q)) (fun q => kf fun z => q ((lg_cmp_le x y).mpr z))
end ZR5

