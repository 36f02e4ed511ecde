/-! pure: kinds and their counts, filling, power -/
def skC (cn kd : Nat → Nat) (sp k : Nat) : Nat → Nat := va_up (va_up cn (kd sp) (cn (kd sp) - 1)) k (va_up cn (kd sp) (cn (kd sp) - 1) k + 1)
def skK (kd : Nat → Nat) (di k : Nat) : Nat → Nat → Nat
  | 0 => kd
  | i + 1 => va_up (skK kd di k i) (di * 66 + i) k
def skN (kd cn : Nat → Nat) (di k : Nat) : Nat → Nat → Nat
  | 0 => cn
  | i + 1 => skC (skN kd cn di k i) (skK kd di k i) (di * 66 + i) k
def ctK (kd : Nat → Nat) (v : Nat) : Nat → Nat
  | 0 => 0
  | n + 1 => ctK kd v n + (if kd n = v then 1 else 0)
theorem ctK_out (kd : Nat → Nat) (v sp k : Nat) : ∀ n, n ≤ sp → ctK (va_up kd sp k) v n = ctK kd v n := by
  intro n
  induction n with
  | zero => intro _; rfl
  | succ n ih =>
    intro h
    show ctK (va_up kd sp k) v n + (if va_up kd sp k n = v then 1 else 0) = ctK kd v n + (if kd n = v then 1 else 0)
    rw [ih (by omega), va_up_ne _ _ (by omega)]
theorem ctK_up (kd : Nat → Nat) (v sp k : Nat) : ∀ n, sp < n → ctK (va_up kd sp k) v n + (if kd sp = v then 1 else 0) = ctK kd v n + (if k = v then 1 else 0) := by
  intro n
  induction n with
  | zero => intro h; omega
  | succ n ih =>
    intro h
    show ctK (va_up kd sp k) v n + (if va_up kd sp k n = v then 1 else 0) + _ = ctK kd v n + (if kd n = v then 1 else 0) + _
    by_cases e : sp = n
    · subst e
      rw [ctK_out _ _ _ _ _ (Nat.le_refl _), va_up_self]
      omega
    · have := ih (by omega)
      rw [va_up_ne _ _ (by omega)]
      omega
theorem ctK_pos (kd : Nat → Nat) (sp : Nat) : ∀ n, sp < n → 1 ≤ ctK kd (kd sp) n := by
  intro n
  induction n with
  | zero => intro h; omega
  | succ n ih =>
    intro h
    show 1 ≤ ctK kd (kd sp) n + (if kd n = kd sp then 1 else 0)
    by_cases e : sp = n
    · subst e; simp
    · have := ih (by omega); omega
theorem ctK_le (kd : Nat → Nat) (v : Nat) : ∀ n, ctK kd v n ≤ n := by
  intro n
  induction n with
  | zero => exact Nat.le_refl 0
  | succ n ih =>
    show ctK kd v n + (if kd n = v then 1 else 0) ≤ n + 1
    split <;> omega
def cnOK (kd cn : Nat → Nat) : Prop := ∀ v, v < 4 → cn v = ctK kd v 1056
theorem cnOK_pos {kd cn : Nat → Nat} (h : cnOK kd cn) {sp : Nat} (hs : sp < 1056) (hk : kd sp < 4) : 1 ≤ cn (kd sp) := by
  rw [h _ hk]; exact ctK_pos kd sp 1056 hs
theorem cnOK_up {kd cn : Nat → Nat} (h : cnOK kd cn) {sp k : Nat} (hs : sp < 1056) (hk : kd sp < 4) (h4 : k < 4) : cnOK (va_up kd sp k) (skC cn kd sp k) := by
  intro v hv
  have h1 := ctK_up kd v sp k 1056 hs
  have h2 := h v hv
  have h3 := h k h4
  have h5 := h _ hk
  have h6 := cnOK_pos h hs hk
  unfold skC
  by_cases e1 : v = k
  · subst e1
    rw [va_up_self]
    by_cases e2 : v = kd sp
    · rw [← e2, va_up_self]
      rw [← e2] at h1 h6
      simp at h1
      omega
    · rw [va_up_ne _ _ e2]
      rw [if_neg (Ne.symm e2), if_pos rfl] at h1
      omega
  · rw [va_up_ne _ _ e1]
    by_cases e2 : v = kd sp
    · rw [← e2, va_up_self]
      rw [← e2] at h1 h6
      rw [if_pos rfl, if_neg (Ne.symm e1)] at h1
      omega
    · rw [va_up_ne _ _ e2]
      rw [if_neg (Ne.symm e2), if_neg (Ne.symm e1)] at h1
      omega
def kdOK (kd : Nat → Nat) : Prop := ∀ j, kd j < 4
theorem kdOK_up {kd : Nat → Nat} (h : kdOK kd) {sp k : Nat} (h4 : k < 4) : kdOK (va_up kd sp k) := by
  intro j
  unfold va_up
  split
  · exact h4
  · exact h j
theorem sk_ok {kd cn : Nat → Nat} (hk : kdOK kd) (hc : cnOK kd cn) {di k : Nat} (hd : di < 16) (h4 : k < 4) : ∀ i, i ≤ 66 → kdOK (skK kd di k i) ∧ cnOK (skK kd di k i) (skN kd cn di k i) := by
  intro i
  induction i with
  | zero => intro _; exact ⟨hk, hc⟩
  | succ i ih =>
    intro h
    obtain ⟨h1, h2⟩ := ih (by omega)
    exact ⟨kdOK_up h1 h4, cnOK_up h2 (by omega) (h1 _) h4⟩
theorem skK_at (kd : Nat → Nat) (di k : Nat) : ∀ n j, skK kd di k n j = if di * 66 ≤ j ∧ j < di * 66 + n then k else kd j := by
  intro n
  induction n with
  | zero => intro j; rw [if_neg (by omega)]; rfl
  | succ n ih =>
    intro j
    show va_up (skK kd di k n) (di * 66 + n) k j = _
    by_cases e : j = di * 66 + n
    · subst e; rw [va_up_self, if_pos (by omega)]
    · rw [va_up_ne _ _ e, ih j]
      by_cases q : di * 66 ≤ j ∧ j < di * 66 + n
      · rw [if_pos q, if_pos (by omega)]
      · rw [if_neg q, if_neg (by omega)]
/-- filling the first n places -/
def flF {α : Type} (f : Nat → α) (v : α) : Nat → Nat → α
  | 0 => f
  | i + 1 => va_up (flF f v i) i v
theorem flF_at {α : Type} (f : Nat → α) (v : α) : ∀ n j, flF f v n j = if j < n then v else f j := by
  intro n
  induction n with
  | zero => intro j; rw [if_neg (by omega)]; rfl
  | succ n ih =>
    intro j
    show va_up (flF f v n) n v j = _
    by_cases e : j = n
    · subst e; rw [va_up_self, if_pos (by omega)]
    · rw [va_up_ne _ _ e, ih j]
      by_cases q : j < n
      · rw [if_pos q, if_pos (by omega)]
      · rw [if_neg q, if_neg (by omega)]
def dpO (off : Bool) (wl : Int32) : Bool := off || decide (wl = 0)
def dpW (off : Bool) (wl : Int32) : Int32 := if dpO off wl then wl else if wl = -1 then wl else wl - 1
noncomputable def swOK (now latest : Nat → Int64) (fr : Nat) : Bool := @decide (∀ i, i < 9 → now (fr + i) = latest (fr + i)) (Classical.propDecidable _)
theorem swOK_t {now latest : Nat → Int64} {fr : Nat} (h : ∀ i, i < 9 → now (fr + i) = latest (fr + i)) : swOK now latest fr = true := by
  unfold swOK; exact @decide_eq_true _ (Classical.propDecidable _) h
theorem swOK_f {now latest : Nat → Int64} {fr i : Nat} (hi : i < 9) (h : ¬ now (fr + i) = latest (fr + i)) : swOK now latest fr = false := by
  unfold swOK; exact @decide_eq_false _ (Classical.propDecidable _) (fun q => h (q i hi))
/-- whether the last word bears the check -/
def icOK (now : Nat → Int64) (fr : Nat) : Bool := decide (((now (fr + 8)).toUInt64 >>> ((nI 16).toInt64.toUInt64 &&& Int64.toUInt64 63)).toInt64 = ckV now fr)
section ZR2
variable {p : Program} {l : Launch} {e : Env} {R : Room} {s : State} {m : MethodId} {args : Array Value} {below : List Frame} {meth : Method} {c : Code} {H H0 : Heap} {locs : List Loc} {cells slots : Nat} {Q : State → Prop} {cc : ByteArray} {pc : Nat} {ls : Array Slot} {rest : List Value}
theorem zr_cmp_eq (hx : p.tables.exec = Jvm.exec) (hb : c.code = cc) {x y : Int64} {off : Int} {tgt : Nat} (hdg : decode cc pc = .ok (.ifCond .eq off, 3)) (ht : (pc : Int) + off = (tgt : Int)) (kt : x = y → W p l e R s m args below meth c H locs cells slots Q (F0 m tgt ls rest)) (kf : ¬ x = y → W p l e R s m args below meth c H locs cells slots Q (F0 m (pc + 3) ls rest)) : W p l e R s m args below meth c H locs cells slots Q (F0 m pc ls (.int (lg_cmp x y) :: rest)) :=
  lv_if_eq hx hb hdg ht (fun q => kt ((lg_cmp_eq x y).mp q)) (fun q => kf fun z => q ((lg_cmp_eq x y).mpr z))
theorem zr_cmp_ne (hx : p.tables.exec = Jvm.exec) (hb : c.code = cc) {x y : Int64} {off : Int} {tgt : Nat} (hdg : decode cc pc = .ok (.ifCond .ne off, 3)) (ht : (pc : Int) + off = (tgt : Int)) (kt : ¬ x = y → W p l e R s m args below meth c H locs cells slots Q (F0 m tgt ls rest)) (kf : x = y → W p l e R s m args below meth c H locs cells slots Q (F0 m (pc + 3) ls rest)) : W p l e R s m args below meth c H locs cells slots Q (F0 m pc ls (.int (lg_cmp x y) :: rest)) :=
  lv_if_ne hx hb hdg ht (fun q => kt fun z => q ((lg_cmp_eq x y).mpr z)) (fun q => kf ((lg_cmp_eq x y).mp q))
end ZR2

