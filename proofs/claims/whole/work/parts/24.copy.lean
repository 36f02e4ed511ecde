/-! copies over Nat; one step of the check -/
theorem zr_and1 (w : Int64) : w &&& 1 = 0 ↔ lb w 0 = false := by
  constructor
  · intro h
    have h1 : lb (w &&& 1) 0 = false := by rw [h]; exact lb_0 0
    rw [lb_and] at h1
    have h2 : lb 1 0 = true := by decide
    rw [h2, Bool.and_true] at h1
    exact h1
  · intro h
    apply lb_ext
    intro i hi
    rw [lb_and, lb_0, lb_ones 1 1 (by decide)]
    by_cases e : i = 0
    · subst e; rw [h]; rfl
    · have : ¬ i < 1 := by omega
      simp [this]
theorem ckS_t {w : Int64} (h : ¬ w &&& 1 = 0) : (w.toUInt64 >>> ((nI 1).toInt64.toUInt64 &&& Int64.toUInt64 63)).toInt64 ^^^ 2197175160 = ckS w := by
  have h1 : lb w 0 = true := by
    cases e : lb w 0
    · exact absurd ((zr_and1 w).mpr e) h
    · rfl
  unfold ckS
  rw [if_pos h1]
theorem ckS_f {w : Int64} (h : w &&& 1 = 0) : (w.toUInt64 >>> ((nI 1).toInt64.toUInt64 &&& Int64.toUInt64 63)).toInt64 = ckS w := by
  have h1 := (zr_and1 w).mp h
  unfold ckS
  rw [if_neg (by rw [h1]; decide)]
section ZR3
variable {p : Program} {l : Launch} {e : Env} {R : Room} {s : State} {m : MethodId} {args : Array Value} {below : List Frame} {meth : Method} {c : Code} {H H0 : Heap} {locs : List Loc} {cells slots : Nat} {Q : State → Prop} {cc : ByteArray} {pc : Nat} {ls : Array Slot} {rest : List Value} {A : Nat → Prop} {D : va_G} {cl : List vw_C} {tys : List (ClassId × FieldType)} {ws : va_W} {a : Nat}
theorem zr_copyl (hx : p.tables.exec = Jvm.exec) (hb : c.code = cc) (hml : c.maxLocals = ls.size) {own : String} {index : Nat} (hown : s.vm.findClass own = some m.cls) (hlink : (Cond.methodLink own index arraycopyName).before args s = true) (hnat : (Cond.native arraycopyName).before args s = true) (hstat : (Cond.static arraycopyName).before args s = true) (hini : (Cond.initialized "java/lang/System").before args s = true)
    (hK : va_K D cl tys s) (hP : va_P D cl ws H) (hD : va_D A ws) (hS : va_S A H0 H locs) (q0 q1 t0 : Nat) {a0 : Nat} {c0 : ClassId} {n0 n1 : Nat} {f g : Nat → Int64} (ha0 : ws[q0]? = some (a0, .inl (c0, n0, .inr (.inl f)))) (ha1 : ws[q1]? = some (a, .inl (c0, n1, .inr (.inl g)))) (ht0 : tys[t0]? = some (c0, .long))
    {sp dp n : Nat} (h4 : sp + n ≤ n0) (h5 : dp + n ≤ n1) (h6 : n0 < 2 ^ 31) (h7 : n1 < 2 ^ 31)
    (hframes : 1 ≤ R.frames) (hlocals : (rest.map fun v => v.category).sum + (nativeFrameWords "java/lang/System" "arraycopy" 5 + 11) ≤ R.locals) (hdg : decode cc pc = .ok (.invokestatic index, 3))
    (kk : ∀ (H1 : Heap) (locs1 : List Loc), va_P D cl (ws.set q1 (a, .inl (c0, n1, .inr (.inl (va_cpy f g sp dp n))))) H1 → va_D A (ws.set q1 (a, .inl (c0, n1, .inr (.inl (va_cpy f g sp dp n))))) → va_S A H0 H1 locs1 → W p l e R s m args below meth c H1 locs1 cells slots Q (F0 m (pc + 3) ls rest)) : W p l e R s m args below meth c H locs cells slots Q (F0 m pc ls (.int (nI n) :: .int (nI dp) :: .ref a :: .int (nI sp) :: .ref a0 :: rest)) := by
  have e1 := nI_clamp (show sp < 2 ^ 31 by omega)
  have e2 := nI_clamp (show dp < 2 ^ 31 by omega)
  have e3 := nI_clamp (show n < 2 ^ 31 by omega)
  refine va_copyl hx hb hml hown hlink hnat hstat hini hK hP hD hS q0 q1 t0 t0 ha0 ha1 ht0 ht0 rfl (nI_pos (by omega)) (nI_pos (by omega)) (nI_pos (by omega)) (by rw [e1, e3]; exact h4) (by rw [e2, e3]; exact h5) (fun _ _ => rfl) hframes hlocals hdg ?_
  rw [e1, e2, e3]
  exact kk
end ZR3
theorem dpW_1 {off : Bool} {wl : Int32} (h : dpO off wl = true) : dpW off wl = wl := by unfold dpW; rw [if_pos h]
theorem dpW_2 {off : Bool} {wl : Int32} (h : dpO off wl = false) (h2 : wl = -1) : dpW off wl = wl := by unfold dpW; rw [h, if_neg (by decide), if_pos h2]
theorem dpW_3 {off : Bool} {wl : Int32} (h : dpO off wl = false) (h2 : ¬ wl = -1) : dpW off wl = wl - nI 1 := by unfold dpW; rw [h, if_neg (by decide), if_neg h2]; rfl
/-! what putTape makes of the words -/
def ptA (tape now : Nat → Int64) (sp tg : Nat) : Nat → Int64 := va_up (va_cpy tape now 0 (sp * 9) 8) (sp * 9 + 8) (nI tg).toInt64
def ptN (tape now : Nat → Int64) (sp tg : Nat) : Nat → Int64 := va_up (ptA tape now sp tg) (sp * 9 + 8) (ptA tape now sp tg (sp * 9 + 8) ||| (ckV (ptA tape now sp tg) (sp * 9) <<< ((nI 16).toInt64 &&& 63)))
def ptL (tape now latest : Nat → Int64) (sp tg : Nat) : Nat → Int64 := va_cpy (ptN tape now sp tg) latest (sp * 9) (sp * 9) 9

