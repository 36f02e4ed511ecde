/-! what a method that catches needs of the machine -/
def xn (U : State) : Prop := va_Nc "java/lang/IllegalStateException" "java/lang/IllegalArgumentException" U ∧ va_Nc "java/util/NoSuchElementException" "java/lang/IllegalArgumentException" U
theorem xn.moved {u U : State} (hvm : u.vm.Alike U.vm) (h : xn u) : xn U := ⟨h.1.moved hvm, h.2.moved hvm⟩
/-- the class's state -/
abbrev U0 : Type := (Nat → Int64) × (Nat → Int64) × (Nat → Nat) × (Nat → Nat) × Nat × (Nat → Int64) × Nat × (Nat → Int64) × Nat × Bool × Int32 × Int64

