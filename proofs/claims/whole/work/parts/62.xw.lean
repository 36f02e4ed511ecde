theorem law_xw {s : State} {b : Nat} (hts : ∀ w ∈ lw_tbl, w.before #[Value.ref b] s = true) (hgv : (Jvm.Cond.and given_1 narrow_1).before #[Value.ref b] s = true) : xw s ∧ xn s ∧ xz (fun q : Nat => s.heap.size ≤ q) s s.heap := by
  have hs := flat_of_before _ hgv
  refine ⟨⟨⟨va_Nw.of rfl (hts (.castable "java/lang/IllegalArgumentException" "java/lang/IllegalArgumentException") (by decide +kernel)), va_Nw.of rfl (hts (.castable "java/lang/IllegalStateException" "java/lang/IllegalStateException") (by decide +kernel)), va_Nw.of rfl (hts (.castable "java/util/NoSuchElementException" "java/util/NoSuchElementException") (by decide +kernel)), va_Nw.of rfl (hts (.declares ⟨"java/lang/RuntimeException", "<init>", "(Ljava/lang/String;)V"⟩) (by decide +kernel)), va_Nw.of rfl (hts (.declares ⟨"java/lang/Exception", "<init>", "(Ljava/lang/String;)V"⟩) (by decide +kernel)), va_Nw.of rfl (hts (.declares ⟨"java/lang/Throwable", "<init>", "(Ljava/lang/String;)V"⟩) (by decide +kernel))⟩, fun q hq => ?_⟩, ⟨va_Nc.of (hs (.not (.castable "java/lang/IllegalStateException" "java/lang/IllegalArgumentException")) (by decide +kernel)), va_Nc.of (hs (.not (.castable "java/util/NoSuchElementException" "java/lang/IllegalArgumentException")) (by decide +kernel))⟩, vx_Zqof (hts (.laysStatic Bundle.tN "UNASSIGNED_STACK" Bundle.steD) (by decide +kernel)) (hts (.initialized Bundle.tN) (by decide +kernel)) (hs (.isRef (.static Bundle.tN "UNASSIGNED_STACK" Bundle.steD)) (by decide +kernel)) (fun a h => Nat.not_le.mpr h), vx_Zqof (hts (.laysStatic Bundle.tN "SUPPRESSED_SENTINEL" Bundle.listD) (by decide +kernel)) (hts (.initialized Bundle.tN) (by decide +kernel)) (hs (.isRef (.static Bundle.tN "SUPPRESSED_SENTINEL" Bundle.listD)) (by decide +kernel)) (fun a h => Nat.not_le.mpr h)⟩
  unfold xsL at hq
  rcases List.mem_cons.mp hq with rfl | hq
  · obtain ⟨a, c, cell, k, q1, -⟩ := Cond.exactly_spec (hs (.exactly (.string "CellRack" 62) "java/lang/String") (by decide +kernel))
    exact ⟨a, vk_R.of (hts (.stringRef "CellRack" 62 "n is not 1 .. 8") (by decide +kernel)) q1⟩
  rcases List.mem_cons.mp hq with rfl | hq
  · obtain ⟨a, c, cell, k, q1, -⟩ := Cond.exactly_spec (hs (.exactly (.string "CellRack" 69) "java/lang/String") (by decide +kernel))
    exact ⟨a, vk_R.of (hts (.stringRef "CellRack" 69 "the tape would have more than 64 bytes") (by decide +kernel)) q1⟩
  rcases List.mem_cons.mp hq with rfl | hq
  · obtain ⟨a, c, cell, k, q1, -⟩ := Cond.exactly_spec (hs (.exactly (.string "CellRack" 81) "java/lang/String") (by decide +kernel))
    exact ⟨a, vk_R.of (hts (.stringRef "CellRack" 81 "no such cell or tag") (by decide +kernel)) q1⟩
  rcases List.mem_cons.mp hq with rfl | hq
  · obtain ⟨a, c, cell, k, q1, -⟩ := Cond.exactly_spec (hs (.exactly (.string "CellRack" 86) "java/lang/String") (by decide +kernel))
    exact ⟨a, vk_R.of (hts (.stringRef "CellRack" 86 "the disk is not live") (by decide +kernel)) q1⟩
  rcases List.mem_cons.mp hq with rfl | hq
  · obtain ⟨a, c, cell, k, q1, -⟩ := Cond.exactly_spec (hs (.exactly (.string "CellRack" 114) "java/lang/String") (by decide +kernel))
    exact ⟨a, vk_R.of (hts (.stringRef "CellRack" 114 "the OUT has no such byte") (by decide +kernel)) q1⟩
  rcases List.mem_cons.mp hq with rfl | hq
  · obtain ⟨a, c, cell, k, q1, -⟩ := Cond.exactly_spec (hs (.exactly (.string "CellRack" 131) "java/lang/String") (by decide +kernel))
    exact ⟨a, vk_R.of (hts (.stringRef "CellRack" 131 "the cell has no such byte") (by decide +kernel)) q1⟩
  rcases List.mem_cons.mp hq with rfl | hq
  · obtain ⟨a, c, cell, k, q1, -⟩ := Cond.exactly_spec (hs (.exactly (.string "CellRack" 140) "java/lang/String") (by decide +kernel))
    exact ⟨a, vk_R.of (hts (.stringRef "CellRack" 140 "no such cell or bytes") (by decide +kernel)) q1⟩
  rcases List.mem_cons.mp hq with rfl | hq
  · obtain ⟨a, c, cell, k, q1, -⟩ := Cond.exactly_spec (hs (.exactly (.string "CellRack" 151) "java/lang/String") (by decide +kernel))
    exact ⟨a, vk_R.of (hts (.stringRef "CellRack" 151 "n is below 1") (by decide +kernel)) q1⟩
  rcases List.mem_cons.mp hq with rfl | hq
  · obtain ⟨a, c, cell, k, q1, -⟩ := Cond.exactly_spec (hs (.exactly (.string "CellRack" 153) "java/lang/String") (by decide +kernel))
    exact ⟨a, vk_R.of (hts (.stringRef "CellRack" 153 "the power is off") (by decide +kernel)) q1⟩
  rcases List.mem_cons.mp hq with rfl | hq
  · obtain ⟨a, c, cell, k, q1, -⟩ := Cond.exactly_spec (hs (.exactly (.string "CellRack" 155) "java/lang/String") (by decide +kernel))
    exact ⟨a, vk_R.of (hts (.stringRef "CellRack" 155 "there is nothing of this number to look at") (by decide +kernel)) q1⟩
  rcases List.mem_cons.mp hq with rfl | hq
  · obtain ⟨a, c, cell, k, q1, -⟩ := Cond.exactly_spec (hs (.exactly (.string "CellRack" 160) "java/lang/String") (by decide +kernel))
    exact ⟨a, vk_R.of (hts (.stringRef "CellRack" 160 "no such disk") (by decide +kernel)) q1⟩
  rcases List.mem_cons.mp hq with rfl | hq
  · obtain ⟨a, c, cell, k, q1, -⟩ := Cond.exactly_spec (hs (.exactly (.string "CellRack" 162) "java/lang/String") (by decide +kernel))
    exact ⟨a, vk_R.of (hts (.stringRef "CellRack" 162 "no such cell") (by decide +kernel)) q1⟩
  exact absurd hq List.not_mem_nil
