/-! new rows -/
def zN : Nat → Nat := fun _ => 0
def zL : Nat → Int64 := fun _ => 0
def zZ : Nat → Bool := fun _ => false
def zX : Nat → BitVec 8 := fun _ => 0
theorem zr_nJ (cA : ClassId) (n : Nat) : vp_cell cA (n, .inr (.inl zL)) = arrV cA n (fun _ => defaultValue .long) := rfl
theorem zr_nN (cA : ClassId) (n : Nat) : vp_cell cA (n, .inl (fun i9 => nI (zN i9))) = arrV cA n (fun _ => defaultValue .int) := rfl
theorem zr_nZ (cA : ClassId) (n : Nat) : vp_cell cA (n, .inl (fun i9 => bI (zZ i9))) = arrV cA n (fun _ => defaultValue .boolean) := rfl
theorem zr_nX (cA : ClassId) (n : Nat) : vp_cell cA (n, .inl (fun i9 => sx (zX i9))) = arrV cA n (fun _ => defaultValue .byte) := rfl
theorem zr_cls {D : va_G} {cl : List vw_C} {tys : List (ClassId × FieldType)} {s : State} (hK : va_K D cl tys s) (i j : Nat) {a b : ClassId} {ty : FieldType} (hi : tys[i]? = some (a, ty)) (hj : tys[j]? = some (b, ty)) (h : ∀ c, va_RA s c ty = (s.vm.findClass ("[" ++ ty.toString) = some c)) : a = b := by
  have h1 := (hK.2 i _ hi).2
  have h2 := (hK.2 j _ hj).2
  rw [h] at h1 h2
  exact Option.some.inj (h1.symm.trans h2)

