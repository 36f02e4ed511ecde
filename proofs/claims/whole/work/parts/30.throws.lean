/-! what a throw needs of the machine: words that the tables give, the texts, two statics of Throwable -/
def xsL : List (Nat × String) := [(62, "n is not 1 .. 8"), (69, "the tape would have more than 64 bytes"), (81, "no such cell or tag"), (86, "the disk is not live"), (114, "the OUT has no such byte"), (131, "the cell has no such byte"), (140, "no such cell or bytes"), (151, "n is below 1"), (153, "the power is off"), (155, "there is nothing of this number to look at"), (160, "no such disk"), (162, "no such cell")]
def xw (U : State) : Prop := (va_Nw (.castable "java/lang/IllegalArgumentException" "java/lang/IllegalArgumentException") U ∧ va_Nw (.castable "java/lang/IllegalStateException" "java/lang/IllegalStateException") U ∧ va_Nw (.castable "java/util/NoSuchElementException" "java/util/NoSuchElementException") U ∧ va_Nw (.declares ⟨"java/lang/RuntimeException", "<init>", "(Ljava/lang/String;)V"⟩) U ∧ va_Nw (.declares ⟨"java/lang/Exception", "<init>", "(Ljava/lang/String;)V"⟩) U ∧ va_Nw (.declares ⟨"java/lang/Throwable", "<init>", "(Ljava/lang/String;)V"⟩) U) ∧ ∀ q ∈ xsL, ∃ a, vk_R RX0 q.1 q.2 a U
theorem xw.warm {s U : State} (hW : s.WarmedH U.vm) (h : xw s) : xw U := by
  obtain ⟨⟨h1, h2, h3, h4, h5, h6⟩, h7⟩ := h
  refine ⟨⟨h1.warmC hW, h2.warmC hW, h3.warmC hW, h4.warmD hW, h5.warmD hW, h6.warmD hW⟩, fun q hq => ?_⟩
  obtain ⟨a, ha⟩ := h7 q hq
  exact ⟨a, ha.warm hW⟩
theorem xw.same {u U : State} (hv : U.vm = u.vm) (h : xw u) : xw U := by
  obtain ⟨⟨h1, h2, h3, h4, h5, h6⟩, h7⟩ := h
  refine ⟨⟨h1.same rfl hv.symm, h2.same rfl hv.symm, h3.same rfl hv.symm, h4.same rfl hv.symm, h5.same rfl hv.symm, h6.same rfl hv.symm⟩, fun q hq => ?_⟩
  obtain ⟨a, ha⟩ := h7 q hq
  exact ⟨a, ha.same hv⟩
def xz (A : Nat → Prop) (U : State) (H : Heap) : Prop := vx_Zq Bundle.tN "UNASSIGNED_STACK" Bundle.steD A U H ∧ vx_Zq Bundle.tN "SUPPRESSED_SENTINEL" Bundle.listD A U H
theorem xz.moved {A : Nat → Prop} {u U : State} {H : Heap} (hvm : u.vm.Alike U.vm) (h : xz A u H) : xz A U H := ⟨h.1.moved hvm, h.2.moved hvm⟩
theorem xz.kept {A : Nat → Prop} {U : State} {H H1 : Heap} (h : xz A U H) (hq : ∀ a : Nat, a < H.size → ¬ A a → H1[a]? = H[a]?) : xz A U H1 := ⟨h.1.kept hq, h.2.kept hq⟩
theorem xz.narrow {A B : Nat → Prop} {U : State} {H : Heap} (h : xz A U H) (hAB : ∀ q, B q → A q) : xz B U H := ⟨h.1.narrow hAB, h.2.narrow hAB⟩
theorem xz.go {A B : Nat → Prop} {s U : State} {H : Heap} {locs : List Loc} (h : xz A s s.heap) (hS : va_S A s.heap H locs) (hvm : s.vm.Alike U.vm) (hU : U.heap = H) (hAB : ∀ q, B q → A q) : xz B U U.heap := by
  rw [hU]
  exact ((h.kept hS.2.1).moved hvm).narrow hAB
