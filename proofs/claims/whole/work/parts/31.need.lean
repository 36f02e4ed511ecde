set_option maxHeartbeats 4000000 in
set_option maxRecDepth 100000 in
theorem c_X0_needDisk (l : Launch) (hl9 : l.stackTraces = false) (dC : Nat → ClassId) (dI : Nat → Nat → Nat) (sz : Nat) (x : Int32) : vx_Met l yX0_needDisk wsX0_needDisk ({ frames := 6, cells := 1, slots := 6, locals := 82 }) (va_Pc [.int x] (fun U => U.heap.size = sz ∧ va_P (dC, dI) vwCl [] U.heap ∧ va_K (dC, dI) vwCl [] U ∧ va_D (fun _ => True) [] ∧ xw U ∧ xz (va_A [] sz) U U.heap)) (va_Qv (fun (_ : Unit) => okI x 16 = true) (fun (_ : Unit) t => va_P (dC, dI) vwCl [] t.heap ∧ va_K (dC, dI) vwCl [] t ∧ va_D (va_A [] sz) []) (va_A [] sz)) (vx_X (fun (_ : Unit) => True) (fun E (_ : Unit) t => (E = "java/lang/IllegalArgumentException" ∧ okI x 16 = false) ∧ va_P (dC, dI) vwCl [] t.heap ∧ va_K (dC, dI) vwCl [] t ∧ va_D (va_A [] sz) []) (va_A [] sz)) 1 6 (va_A [] sz) := by
  refine vx_ofW (cc := cX0_needDisk) (maxL := 1) (ret := none) (by decide) rfl ?_
  intro p e s m args below meth c s₁ B hml hno hv
  obtain ⟨rfl, hsz, hP, hK, hD0, hxw, hxz⟩ := hv
  have hx := B.exec
  have hb := B.bytes
  have hr := B.returns
  have hts := atoms_spec (ws := wsX0_needDisk) B.pre
  have hown : s.vm.findClass RX0 = some m.cls := findClass_of_methodNamed B.named
  have hlocks := B.notSynchronized
  subst hsz
  have hD := hD0.self (sz := s.heap.size)
  generalize hAe : va_A [] s.heap.size = A at hD hxz ⊢
  have hA : ∀ q : Nat, s.heap.size ≤ q → A q := fun q h => by rw [← hAe]; exact Or.inr h
  generalize hH : s.heap = H at hP ⊢
  have hS : va_S A s.heap H [] := by rw [hH]; exact va_S.rf
  replace hP : va_P (dC, dI) vwCl [] H := hP
  have hl := lv_entry ([.int x]) (n := 1) (Nat.le_of_ble_eq_true rfl)
  rw [lg_entry_eq]
  generalize (lg_sl ([.int x]) ++ List.replicate (1 - (lg_sl ([.int x])).length) Slot.unset).toArray = ls at hl ⊢
  have hl : lv_has ls 1 [(0, .int x)] := hl
  have hat0 : ∀ w ∈ vx_atS RX0 64 "java/lang/IllegalArgumentException" ["java/lang/RuntimeException", "java/lang/Exception"], w.before _ s = true := vx_hat (L := vx_atS RX0 64 "java/lang/IllegalArgumentException" ["java/lang/RuntimeException", "java/lang/Exception"]) (B := [.castable "java/lang/IllegalArgumentException" "java/lang/IllegalArgumentException", .declares ⟨"java/lang/RuntimeException", "<init>", "(Ljava/lang/String;)V"⟩, .declares ⟨"java/lang/Exception", "<init>", "(Ljava/lang/String;)V"⟩, .declares ⟨"java/lang/Throwable", "<init>", "(Ljava/lang/String;)V"⟩]) (fun w hw => hts w ((by decide +kernel : ∀ w ∈ (vx_atS RX0 64 "java/lang/IllegalArgumentException" ["java/lang/RuntimeException", "java/lang/Exception"]).filter goodWord, w ∈ wsX0_needDisk) w hw)) (by decide +kernel) (vx_c (va_Nw.use rfl hxw.1.1) (vx_c (va_Nw.use rfl hxw.1.2.2.2.1) (vx_c (va_Nw.use rfl hxw.1.2.2.2.2.1) (vx_c (va_Nw.use rfl hxw.1.2.2.2.2.2) (vx_n)))))
  refine lv_iload_n hx hb dX0_needDisk_0 rfl (lv_at hl 0 rfl) ?_
  have hPc := hP.sub (ws' := []) [] rfl
  have hDc := hD.sub (ws' := []) [] (by decide) rfl
  have hKc := hK.sub (tys' := []) [] rfl
  have hFc := va_free (wc := []) hD hS hA [] rfl
  refine va_calli (va_runS (As := [.int x]) (rest := []) ⟨hx, hb, hml, hown, hts⟩ (c_X0_isDisk l dC dI H.size x) (va_cwS 1 hts gX0_needDisk_X0_isDisk rfl rfl rfl (by decide +kernel) ⟨Nat.le_of_ble_eq_true rfl, Nat.le_of_ble_eq_true rfl⟩) ⟨fun a U g mk q => by obtain ⟨q0, q1, qP, qK, qD⟩ := q; exact ⟨q0, q1, qP, va_K.moved (u := U) (U := U.calling g mk a) (Vm.Alike.refl U.vm) qK, qD⟩, fun U hU hW => ⟨rfl, by rw [hU], by rw [hU]; exact hPc, va_K.moved hW.alike hKc, hDc.weaken (fun _ _ _ _ => trivial)⟩⟩ rfl rfl hl.1 rfl (lv_room (Nat.le_of_ble_eq_true rfl)) dX0_needDisk_1 ⟨Nat.le_of_ble_eq_true rfl, Nat.le_of_ble_eq_true rfl⟩) hS (fun q _ h => hFc q h) hFc (fun r_1 u t H1 locs ht hvm hw hB hz1 hk1 hS => ?_)
  obtain ⟨hP1, hK1, hD1⟩ := hB
  rw [ht] at hP1
  obtain ⟨hPn, hDn⟩ := va_join (wr := []) (w1 := []) hP hD [] [] rfl rfl (by decide) (by decide) hk1 hFc hP1 hD1
  clear hP hD hP1 hD1 hK1 hPc hDc hKc hFc hk1 hz1 hvm ht
  generalize H1 = H at hPn hS ⊢
  have hP := hPn
  have hD := hDn
  clear hPn hDn
  replace hP : va_P (dC, dI) vwCl [] H := hP
  replace hD : va_D A [] := hD
  refine W.widen (k := 0) (n := 0) (Nat.le_refl _) (Nat.le_refl _) ?_
  obtain rfl := hw
  refine zr_ifb_ne (tgt := 17) hx hb dX0_needDisk_4 (by decide) (fun c4 => ?_) (fun c4 => ?_)
  · refine W.widen (k := 1) (n := 6) (Nat.le_of_ble_eq_true rfl) (Nat.le_of_ble_eq_true rfl) ?_
    refine vx_ret ?_
    have hP9 := hP.sub (ws' := []) [] rfl
    have hD9 := hD.sub (ws' := []) [] (by decide) rfl
    exact W.vret hx hb hr (fun t ht hW => ⟨⟨(), rfl, by assumption, by rw [ht]; exact hP9, va_K.moved hW.alike hK, hD9⟩, hS.F ht⟩) hS.2.2 dX0_needDisk_17
  · obtain ⟨sa, hstr⟩ := hxw.2 (160, "no such disk") (by decide)
    have hP9 := hP.sub (ws' := []) [] rfl
    have hD9 := hD.sub (ws' := []) [] (by decide) rfl
    exact vx_throwS (own := RX0) (cls := "java/lang/IllegalArgumentException") (names := ["java/lang/RuntimeException", "java/lang/Exception"]) hx hb hl9 hown (by decide +kernel) (by decide +kernel) (hts (.classLink RX0 60 "java/lang/IllegalArgumentException") (by decide +kernel)) (hts (.initialized "java/lang/IllegalArgumentException") (by decide +kernel)) hstr hat0 (by decide +kernel) hxz.1 hxz.2 hS (hl.1.trans hml.symm) dX0_needDisk_7 dX0_needDisk_10 dX0_needDisk_11 dX0_needDisk_13 dX0_needDisk_16 (fun x hx => (hno x hx).elim) (Nat.le_of_ble_eq_true rfl) (Nat.le_of_ble_eq_true rfl) (Nat.le_of_ble_eq_true rfl) (Nat.le_of_ble_eq_true rfl) hlocks (fun t ha hsz hk => ⟨(), trivial, ⟨⟨rfl, by assumption⟩, hP9.kept (fun k q hq => hk q.1 (hP9 k q hq).lt), va_K.moved ha hK, hD9⟩, Nat.le_trans hS.1 hsz, fun q h1 h2 => (hk q (Nat.lt_of_lt_of_le h1 hS.1)).trans (hS.2.1 q h1 h2)⟩) hS.2.2 (Nat.le_of_ble_eq_true rfl) (Nat.le_of_ble_eq_true rfl)
set_option maxHeartbeats 4000000 in
set_option maxRecDepth 100000 in
theorem c_X0_needCell (l : Launch) (hl9 : l.stackTraces = false) (dC : Nat → ClassId) (dI : Nat → Nat → Nat) (sz : Nat) (x y : Int32) : vx_Met l yX0_needCell wsX0_needCell ({ frames := 6, cells := 1, slots := 6, locals := 82 }) (va_Pc [.int x, .int y] (fun U => U.heap.size = sz ∧ va_P (dC, dI) vwCl [] U.heap ∧ va_K (dC, dI) vwCl [] U ∧ va_D (fun _ => True) [] ∧ xw U ∧ xz (va_A [] sz) U U.heap)) (va_Qv (fun (_ : Unit) => (okI x 16 && okI y 66) = true) (fun (_ : Unit) t => va_P (dC, dI) vwCl [] t.heap ∧ va_K (dC, dI) vwCl [] t ∧ va_D (va_A [] sz) []) (va_A [] sz)) (vx_X (fun (_ : Unit) => True) (fun E (_ : Unit) t => (E = "java/lang/IllegalArgumentException" ∧ (okI x 16 && okI y 66) = false) ∧ va_P (dC, dI) vwCl [] t.heap ∧ va_K (dC, dI) vwCl [] t ∧ va_D (va_A [] sz) []) (va_A [] sz)) 1 6 (va_A [] sz) := by
  refine vx_ofW (cc := cX0_needCell) (maxL := 2) (ret := none) (by decide) rfl ?_
  intro p e s m args below meth c s₁ B hml hno hv
  obtain ⟨rfl, hsz, hP, hK, hD0, hxw, hxz⟩ := hv
  have hx := B.exec
  have hb := B.bytes
  have hr := B.returns
  have hts := atoms_spec (ws := wsX0_needCell) B.pre
  have hown : s.vm.findClass RX0 = some m.cls := findClass_of_methodNamed B.named
  have hlocks := B.notSynchronized
  subst hsz
  have hD := hD0.self (sz := s.heap.size)
  generalize hAe : va_A [] s.heap.size = A at hD hxz ⊢
  have hA : ∀ q : Nat, s.heap.size ≤ q → A q := fun q h => by rw [← hAe]; exact Or.inr h
  generalize hH : s.heap = H at hP ⊢
  have hS : va_S A s.heap H [] := by rw [hH]; exact va_S.rf
  replace hP : va_P (dC, dI) vwCl [] H := hP
  have hl := lv_entry ([.int x, .int y]) (n := 2) (Nat.le_of_ble_eq_true rfl)
  rw [lg_entry_eq]
  generalize (lg_sl ([.int x, .int y]) ++ List.replicate (2 - (lg_sl ([.int x, .int y])).length) Slot.unset).toArray = ls at hl ⊢
  have hl : lv_has ls 2 [(0, .int x), (1, .int y)] := hl
  have hat0 : ∀ w ∈ vx_atS RX0 64 "java/lang/IllegalArgumentException" ["java/lang/RuntimeException", "java/lang/Exception"], w.before _ s = true := vx_hat (L := vx_atS RX0 64 "java/lang/IllegalArgumentException" ["java/lang/RuntimeException", "java/lang/Exception"]) (B := [.castable "java/lang/IllegalArgumentException" "java/lang/IllegalArgumentException", .declares ⟨"java/lang/RuntimeException", "<init>", "(Ljava/lang/String;)V"⟩, .declares ⟨"java/lang/Exception", "<init>", "(Ljava/lang/String;)V"⟩, .declares ⟨"java/lang/Throwable", "<init>", "(Ljava/lang/String;)V"⟩]) (fun w hw => hts w ((by decide +kernel : ∀ w ∈ (vx_atS RX0 64 "java/lang/IllegalArgumentException" ["java/lang/RuntimeException", "java/lang/Exception"]).filter goodWord, w ∈ wsX0_needCell) w hw)) (by decide +kernel) (vx_c (va_Nw.use rfl hxw.1.1) (vx_c (va_Nw.use rfl hxw.1.2.2.2.1) (vx_c (va_Nw.use rfl hxw.1.2.2.2.2.1) (vx_c (va_Nw.use rfl hxw.1.2.2.2.2.2) (vx_n)))))
  refine lv_iload_n hx hb dX0_needCell_0 rfl (lv_at hl 0 rfl) ?_
  refine lv_iload_n hx hb dX0_needCell_1 rfl (lv_at hl 1 rfl) ?_
  have hPc := hP.sub (ws' := []) [] rfl
  have hDc := hD.sub (ws' := []) [] (by decide) rfl
  have hKc := hK.sub (tys' := []) [] rfl
  have hFc := va_free (wc := []) hD hS hA [] rfl
  refine va_calli (va_runS (As := [.int x, .int y]) (rest := []) ⟨hx, hb, hml, hown, hts⟩ (c_X0_isCell l dC dI H.size x y) (va_cwS 2 hts gX0_needCell_X0_isCell rfl rfl rfl (by decide +kernel) ⟨Nat.le_of_ble_eq_true rfl, Nat.le_of_ble_eq_true rfl⟩) ⟨fun a U g mk q => by obtain ⟨q0, q1, qP, qK, qD⟩ := q; exact ⟨q0, q1, qP, va_K.moved (u := U) (U := U.calling g mk a) (Vm.Alike.refl U.vm) qK, qD⟩, fun U hU hW => ⟨rfl, by rw [hU], by rw [hU]; exact hPc, va_K.moved hW.alike hKc, hDc.weaken (fun _ _ _ _ => trivial)⟩⟩ rfl rfl hl.1 rfl (lv_room (Nat.le_of_ble_eq_true rfl)) dX0_needCell_2 ⟨Nat.le_of_ble_eq_true rfl, Nat.le_of_ble_eq_true rfl⟩) hS (fun q _ h => hFc q h) hFc (fun r_1 u t H1 locs ht hvm hw hB hz1 hk1 hS => ?_)
  obtain ⟨hP1, hK1, hD1⟩ := hB
  rw [ht] at hP1
  obtain ⟨hPn, hDn⟩ := va_join (wr := []) (w1 := []) hP hD [] [] rfl rfl (by decide) (by decide) hk1 hFc hP1 hD1
  clear hP hD hP1 hD1 hK1 hPc hDc hKc hFc hk1 hz1 hvm ht
  generalize H1 = H at hPn hS ⊢
  have hP := hPn
  have hD := hDn
  clear hPn hDn
  replace hP : va_P (dC, dI) vwCl [] H := hP
  replace hD : va_D A [] := hD
  refine W.widen (k := 0) (n := 0) (Nat.le_refl _) (Nat.le_refl _) ?_
  obtain rfl := hw
  refine zr_ifb_ne (tgt := 18) hx hb dX0_needCell_5 (by decide) (fun c5 => ?_) (fun c5 => ?_)
  · refine W.widen (k := 1) (n := 6) (Nat.le_of_ble_eq_true rfl) (Nat.le_of_ble_eq_true rfl) ?_
    refine vx_ret ?_
    have hP9 := hP.sub (ws' := []) [] rfl
    have hD9 := hD.sub (ws' := []) [] (by decide) rfl
    exact W.vret hx hb hr (fun t ht hW => ⟨⟨(), rfl, by assumption, by rw [ht]; exact hP9, va_K.moved hW.alike hK, hD9⟩, hS.F ht⟩) hS.2.2 dX0_needCell_18
  · obtain ⟨sa, hstr⟩ := hxw.2 (162, "no such cell") (by decide)
    have hP9 := hP.sub (ws' := []) [] rfl
    have hD9 := hD.sub (ws' := []) [] (by decide) rfl
    exact vx_throwS (own := RX0) (cls := "java/lang/IllegalArgumentException") (names := ["java/lang/RuntimeException", "java/lang/Exception"]) hx hb hl9 hown (by decide +kernel) (by decide +kernel) (hts (.classLink RX0 60 "java/lang/IllegalArgumentException") (by decide +kernel)) (hts (.initialized "java/lang/IllegalArgumentException") (by decide +kernel)) hstr hat0 (by decide +kernel) hxz.1 hxz.2 hS (hl.1.trans hml.symm) dX0_needCell_8 dX0_needCell_11 dX0_needCell_12 dX0_needCell_14 dX0_needCell_17 (fun x hx => (hno x hx).elim) (Nat.le_of_ble_eq_true rfl) (Nat.le_of_ble_eq_true rfl) (Nat.le_of_ble_eq_true rfl) (Nat.le_of_ble_eq_true rfl) hlocks (fun t ha hsz hk => ⟨(), trivial, ⟨⟨rfl, by assumption⟩, hP9.kept (fun k q hq => hk q.1 (hP9 k q hq).lt), va_K.moved ha hK, hD9⟩, Nat.le_trans hS.1 hsz, fun q h1 h2 => (hk q (Nat.lt_of_lt_of_le h1 hS.1)).trans (hS.2.1 q h1 h2)⟩) hS.2.2 (Nat.le_of_ble_eq_true rfl) (Nat.le_of_ble_eq_true rfl)
set_option maxHeartbeats 4000000 in
set_option maxRecDepth 100000 in
theorem c_X0_cell (l : Launch) (hl9 : l.stackTraces = false) (dC : Nat → ClassId) (dI : Nat → Nat → Nat) (sz : Nat) (h0 aN aL aK aC aT aO : Nat) (ld tb ob : Nat) (off : Bool) (wl : Int32) (wd : Int64) (cI : ClassId) (kd : Nat → Nat) (x y : Int32) (hk : kdOK kd) : vx_Met l yX0_cell wsX0_cell ({ frames := 7, cells := 1, slots := 6, locals := 103 }) (va_Pc [.ref h0, .int x, .int y] (fun U => U.heap.size = sz ∧ va_P (dC, dI) vwCl [(h0, .inr (0, [.ref aN, .ref aL, .ref aK, .ref aC, .int (nI ld), .ref aT, .int (nI tb), .ref aO, .int (nI ob), .int (bI off), .int wl, .long wd])), (aK, .inl (cI, 1056, .inl (fun i9 => nI (kd i9))))] U.heap ∧ va_K (dC, dI) vwCl [(cI, .int)] U ∧ va_D (fun _ => True) [(h0, .inr (0, [.ref aN, .ref aL, .ref aK, .ref aC, .int (nI ld), .ref aT, .int (nI tb), .ref aO, .int (nI ob), .int (bI off), .int wl, .long wd])), (aK, .inl (cI, 1056, .inl (fun i9 => nI (kd i9))))] ∧ xw U ∧ xz (va_A [(h0, .inr (0, [.ref aN, .ref aL, .ref aK, .ref aC, .int (nI ld), .ref aT, .int (nI tb), .ref aO, .int (nI ob), .int (bI off), .int wl, .long wd])), (aK, .inl (cI, 1056, .inl (fun i9 => nI (kd i9))))] sz) U U.heap)) (va_Qi (fun (r : Int32) (_ : Unit) => ∃ di ce : Nat, di < 16 ∧ ce < 66 ∧ x = nI di ∧ y = nI ce ∧ r = nI (kd (di * 66 + ce))) (fun (_ : Unit) t => va_P (dC, dI) vwCl [(h0, .inr (0, [.ref aN, .ref aL, .ref aK, .ref aC, .int (nI ld), .ref aT, .int (nI tb), .ref aO, .int (nI ob), .int (bI off), .int wl, .long wd])), (aK, .inl (cI, 1056, .inl (fun i9 => nI (kd i9))))] t.heap ∧ va_K (dC, dI) vwCl [(cI, .int)] t ∧ va_D (va_A [(h0, .inr (0, [.ref aN, .ref aL, .ref aK, .ref aC, .int (nI ld), .ref aT, .int (nI tb), .ref aO, .int (nI ob), .int (bI off), .int wl, .long wd])), (aK, .inl (cI, 1056, .inl (fun i9 => nI (kd i9))))] sz) [(h0, .inr (0, [.ref aN, .ref aL, .ref aK, .ref aC, .int (nI ld), .ref aT, .int (nI tb), .ref aO, .int (nI ob), .int (bI off), .int wl, .long wd])), (aK, .inl (cI, 1056, .inl (fun i9 => nI (kd i9))))]) (va_A [(h0, .inr (0, [.ref aN, .ref aL, .ref aK, .ref aC, .int (nI ld), .ref aT, .int (nI tb), .ref aO, .int (nI ob), .int (bI off), .int wl, .long wd])), (aK, .inl (cI, 1056, .inl (fun i9 => nI (kd i9))))] sz)) (vx_X (fun (_ : Unit) => True) (fun E (_ : Unit) t => (E = "java/lang/IllegalArgumentException" ∧ (okI x 16 && okI y 66) = false) ∧ va_P (dC, dI) vwCl [(h0, .inr (0, [.ref aN, .ref aL, .ref aK, .ref aC, .int (nI ld), .ref aT, .int (nI tb), .ref aO, .int (nI ob), .int (bI off), .int wl, .long wd])), (aK, .inl (cI, 1056, .inl (fun i9 => nI (kd i9))))] t.heap ∧ va_K (dC, dI) vwCl [(cI, .int)] t ∧ va_D (va_A [(h0, .inr (0, [.ref aN, .ref aL, .ref aK, .ref aC, .int (nI ld), .ref aT, .int (nI tb), .ref aO, .int (nI ob), .int (bI off), .int wl, .long wd])), (aK, .inl (cI, 1056, .inl (fun i9 => nI (kd i9))))] sz) [(h0, .inr (0, [.ref aN, .ref aL, .ref aK, .ref aC, .int (nI ld), .ref aT, .int (nI tb), .ref aO, .int (nI ob), .int (bI off), .int wl, .long wd])), (aK, .inl (cI, 1056, .inl (fun i9 => nI (kd i9))))]) (va_A [(h0, .inr (0, [.ref aN, .ref aL, .ref aK, .ref aC, .int (nI ld), .ref aT, .int (nI tb), .ref aO, .int (nI ob), .int (bI off), .int wl, .long wd])), (aK, .inl (cI, 1056, .inl (fun i9 => nI (kd i9))))] sz)) 1 6 (va_A [(h0, .inr (0, [.ref aN, .ref aL, .ref aK, .ref aC, .int (nI ld), .ref aT, .int (nI tb), .ref aO, .int (nI ob), .int (bI off), .int wl, .long wd])), (aK, .inl (cI, 1056, .inl (fun i9 => nI (kd i9))))] sz) := by
  refine vx_ofW (cc := cX0_cell) (maxL := 3) (ret := some .int) (by decide) rfl ?_
  intro p e s m args below meth c s₁ B hml hno hv
  obtain ⟨rfl, hsz, hP, hK, hD0, hxw, hxz⟩ := hv
  have hx := B.exec
  have hb := B.bytes
  have hr := B.returns
  have hts := atoms_spec (ws := wsX0_cell) B.pre
  have hown : s.vm.findClass RX0 = some m.cls := findClass_of_methodNamed B.named
  have hlocks := B.notSynchronized
  subst hsz
  have hD := hD0.self (sz := s.heap.size)
  generalize hAe : va_A [(h0, .inr (0, [.ref aN, .ref aL, .ref aK, .ref aC, .int (nI ld), .ref aT, .int (nI tb), .ref aO, .int (nI ob), .int (bI off), .int wl, .long wd])), (aK, .inl (cI, 1056, .inl (fun i9 => nI (kd i9))))] s.heap.size = A at hD hxz ⊢
  have hA : ∀ q : Nat, s.heap.size ≤ q → A q := fun q h => by rw [← hAe]; exact Or.inr h
  generalize hH : s.heap = H at hP ⊢
  have hS : va_S A s.heap H [] := by rw [hH]; exact va_S.rf
  replace hP : va_P (dC, dI) vwCl [(h0, .inr (0, [.ref aN, .ref aL, .ref aK, .ref aC, .int (nI ld), .ref aT, .int (nI tb), .ref aO, .int (nI ob), .int (bI off), .int wl, .long wd])), (aK, .inl (cI, 1056, .inl (fun i9 => nI (kd i9))))] H := hP
  have hl := lv_entry ([.ref h0, .int x, .int y]) (n := 3) (Nat.le_of_ble_eq_true rfl)
  rw [lg_entry_eq]
  generalize (lg_sl ([.ref h0, .int x, .int y]) ++ List.replicate (3 - (lg_sl ([.ref h0, .int x, .int y])).length) Slot.unset).toArray = ls at hl ⊢
  have hl : lv_has ls 3 [(0, .ref h0), (1, .int x), (2, .int y)] := hl
  have hi0 : ∀ w ∈ u_ws RX0 TX0 12, w ∈ wsX0_cell := by decide +kernel
  refine lv_iload_n hx hb dX0_cell_0 rfl (lv_at hl 1 rfl) ?_
  refine lv_iload_n hx hb dX0_cell_1 rfl (lv_at hl 2 rfl) ?_
  have hPc := hP.sub (ws' := []) [] rfl
  have hDc := hD.sub (ws' := []) [] (by decide) rfl
  have hKc := hK.sub (tys' := []) [] rfl
  have hFc := va_free (wc := []) hD hS hA [] rfl
  refine vx_callv (vx_runS (As := [.int x, .int y]) (rest := []) ⟨hx, hb, hml, hown, hts⟩ (c_X0_needCell l hl9 dC dI H.size x y) (va_cwS 2 hts gX0_cell_X0_needCell rfl rfl rfl (by decide +kernel) ⟨Nat.le_of_ble_eq_true rfl, Nat.le_of_ble_eq_true rfl⟩) ⟨fun a U g mk q => by obtain ⟨q0, q1, qP, qK, qD, qw, qz⟩ := q; exact ⟨q0, q1, qP, va_K.moved (u := U) (U := U.calling g mk a) (Vm.Alike.refl U.vm) qK, qD, xw.same (u := U) rfl qw, xz.moved (u := U) (U := U.calling g mk a) (Vm.Alike.refl U.vm) qz⟩, fun U hU hW => ⟨rfl, by rw [hU], by rw [hU]; exact hPc, va_K.moved hW.alike hKc, hDc.weaken (fun _ _ _ _ => trivial), xw.warm hW hxw, xz.go hxz hS hW.alike hU hFc⟩⟩ rfl rfl hl.1 rfl (lv_room (Nat.le_of_ble_eq_true rfl)) dX0_cell_2 ⟨Nat.le_of_ble_eq_true rfl, Nat.le_of_ble_eq_true rfl⟩) hS (fun q _ h => hFc q h) hFc (fun q _ h => hFc q h) (fun E ce q9 u t H1 locs ht hvm _hu hB hz1 hk1 hS hce hcv hcl => ?_) (fun u t H1 locs ht hvm hw hB hz1 hk1 hS => ?_)
  · obtain ⟨hxp, hP1, hK1, hD1⟩ := hB
    rw [ht] at hP1
    obtain ⟨hPn, hDn⟩ := va_join (wr := [(h0, .inr (0, [.ref aN, .ref aL, .ref aK, .ref aC, .int (nI ld), .ref aT, .int (nI tb), .ref aO, .int (nI ob), .int (bI off), .int wl, .long wd])), (aK, .inl (cI, 1056, .inl (fun i9 => nI (kd i9))))]) (w1 := []) hP hD [] [0, 1] rfl rfl (by decide) (by decide) hk1 hFc hP1 hD1
    clear hP hD hP1 hD1 hK1 hPc hDc hKc hFc hk1 hz1 hvm ht
    generalize H1 = H at hPn hS hce ⊢
    have hP := hPn
    have hD := hDn
    clear hPn hDn
    replace hP : va_P (dC, dI) vwCl [(h0, .inr (0, [.ref aN, .ref aL, .ref aK, .ref aC, .int (nI ld), .ref aT, .int (nI tb), .ref aO, .int (nI ob), .int (bI off), .int wl, .long wd])), (aK, .inl (cI, 1056, .inl (fun i9 => nI (kd i9))))] H := hP
    replace hD : va_D A [(h0, .inr (0, [.ref aN, .ref aL, .ref aK, .ref aC, .int (nI ld), .ref aT, .int (nI tb), .ref aO, .int (nI ob), .int (bI off), .int wl, .long wd])), (aK, .inl (cI, 1056, .inl (fun i9 => nI (kd i9))))] := hD
    refine vx_widen (k := 1) (n := 6) (Nat.le_refl _) (Nat.le_refl _) ?_
    have hP9 := hP.sub (ws' := [(h0, .inr (0, [.ref aN, .ref aL, .ref aK, .ref aC, .int (nI ld), .ref aT, .int (nI tb), .ref aO, .int (nI ob), .int (bI off), .int wl, .long wd])), (aK, .inl (cI, 1056, .inl (fun i9 => nI (kd i9))))]) [0, 1] rfl
    have hD9 := hD.sub (ws' := [(h0, .inr (0, [.ref aN, .ref aL, .ref aK, .ref aC, .int (nI ld), .ref aT, .int (nI tb), .ref aO, .int (nI ob), .int (bI off), .int wl, .long wd])), (aK, .inl (cI, 1056, .inl (fun i9 => nI (kd i9))))]) [0, 1] (by decide) rfl
    exact vx_out (fun x hx => (hno x hx).elim) hlocks hce hcv hcl (fun t ht ha => ⟨(), trivial, ⟨hxp, by rw [ht]; exact hP9, va_K.moved ha hK, hD9⟩, hS.F ht⟩) hS.2.2 (Nat.le_of_ble_eq_true rfl) (Nat.le_of_ble_eq_true rfl)
  · obtain ⟨hP1, hK1, hD1⟩ := hB
    rw [ht] at hP1
    obtain ⟨hPn, hDn⟩ := va_join (wr := [(h0, .inr (0, [.ref aN, .ref aL, .ref aK, .ref aC, .int (nI ld), .ref aT, .int (nI tb), .ref aO, .int (nI ob), .int (bI off), .int wl, .long wd])), (aK, .inl (cI, 1056, .inl (fun i9 => nI (kd i9))))]) (w1 := []) hP hD [] [0, 1] rfl rfl (by decide) (by decide) hk1 hFc hP1 hD1
    clear hP hD hP1 hD1 hK1 hPc hDc hKc hFc hk1 hz1 hvm ht
    generalize H1 = H at hPn hS ⊢
    have hP := hPn
    have hD := hDn
    clear hPn hDn
    replace hP : va_P (dC, dI) vwCl [(h0, .inr (0, [.ref aN, .ref aL, .ref aK, .ref aC, .int (nI ld), .ref aT, .int (nI tb), .ref aO, .int (nI ob), .int (bI off), .int wl, .long wd])), (aK, .inl (cI, 1056, .inl (fun i9 => nI (kd i9))))] H := hP
    replace hD : va_D A [(h0, .inr (0, [.ref aN, .ref aL, .ref aK, .ref aC, .int (nI ld), .ref aT, .int (nI tb), .ref aO, .int (nI ob), .int (bI off), .int wl, .long wd])), (aK, .inl (cI, 1056, .inl (fun i9 => nI (kd i9))))] := hD
    refine W.widen (k := 1) (n := 6) (Nat.le_refl _) (Nat.le_refl _) ?_
    have hcell := hw
    obtain ⟨di, hdi, rfl⟩ := okI_get (by decide) (Bool.and_eq_true_iff.mp hcell).1
    obtain ⟨ce, hce9, rfl⟩ := okI_get (by decide) (Bool.and_eq_true_iff.mp hcell).2
    refine lv_aload_n hx hb dX0_cell_5 rfl (lv_at hl 0 rfl) ?_
    refine va_get (D := (dC, dI)) (ci := 0) (v := .ref aK) (C := RX0) (T := TX0) (N := 12) hx hb hts hi0 hown hK hP 0 rfl rfl 2 (by decide) (hts (.fieldLink RX0 16 "CellRack" "kinds" "[I") (by decide +kernel)) (fun _ h9 => h9) rfl dX0_cell_6 ?_
    refine lv_iload_n hx hb dX0_cell_9 rfl (lv_at hl 1 rfl) ?_
    refine lv_iload_n hx hb dX0_cell_10 rfl (lv_at hl 2 rfl) ?_
    have hPc := hP.sub (ws' := []) [] rfl
    have hDc := hD.sub (ws' := []) [] (by decide) rfl
    have hKc := hK.sub (tys' := []) [] rfl
    have hFc := va_free (wc := []) hD hS hA [] rfl
    refine va_calli (va_runS (As := [.int (nI di), .int (nI ce)]) (rest := [.ref aK]) ⟨hx, hb, hml, hown, hts⟩ (c_X0_spotOf l dC dI H.size di ce) (va_cwS 2 hts gX0_cell_X0_spotOf rfl rfl rfl (by decide +kernel) ⟨Nat.le_of_ble_eq_true rfl, Nat.le_of_ble_eq_true rfl⟩) ⟨fun a U g mk q => by obtain ⟨q0, q1, qP, qK, qD⟩ := q; exact ⟨q0, q1, qP, va_K.moved (u := U) (U := U.calling g mk a) (Vm.Alike.refl U.vm) qK, qD⟩, fun U hU hW => ⟨rfl, by rw [hU], by rw [hU]; exact hPc, va_K.moved hW.alike hKc, hDc.weaken (fun _ _ _ _ => trivial)⟩⟩ rfl rfl hl.1 rfl (lv_room (Nat.le_of_ble_eq_true rfl)) dX0_cell_11 ⟨Nat.le_of_ble_eq_true rfl, Nat.le_of_ble_eq_true rfl⟩) hS (fun q _ h => hFc q h) hFc (fun r_2 u t H1 locs ht hvm hw hB hz1 hk1 hS => ?_)
    obtain ⟨hP1, hK1, hD1⟩ := hB
    rw [ht] at hP1
    obtain ⟨hPn, hDn⟩ := va_join (wr := [(h0, .inr (0, [.ref aN, .ref aL, .ref aK, .ref aC, .int (nI ld), .ref aT, .int (nI tb), .ref aO, .int (nI ob), .int (bI off), .int wl, .long wd])), (aK, .inl (cI, 1056, .inl (fun i9 => nI (kd i9))))]) (w1 := []) hP hD [] [0, 1] rfl rfl (by decide) (by decide) hk1 hFc hP1 hD1
    clear hP hD hP1 hD1 hK1 hPc hDc hKc hFc hk1 hz1 hvm ht
    generalize H1 = H at hPn hS ⊢
    have hP := hPn
    have hD := hDn
    clear hPn hDn
    replace hP : va_P (dC, dI) vwCl [(h0, .inr (0, [.ref aN, .ref aL, .ref aK, .ref aC, .int (nI ld), .ref aT, .int (nI tb), .ref aO, .int (nI ob), .int (bI off), .int wl, .long wd])), (aK, .inl (cI, 1056, .inl (fun i9 => nI (kd i9))))] H := hP
    replace hD : va_D A [(h0, .inr (0, [.ref aN, .ref aL, .ref aK, .ref aC, .int (nI ld), .ref aT, .int (nI tb), .ref aO, .int (nI ob), .int (bI off), .int wl, .long wd])), (aK, .inl (cI, 1056, .inl (fun i9 => nI (kd i9))))] := hD
    refine W.widen (k := 1) (n := 6) (Nat.le_refl _) (Nat.le_refl _) ?_
    obtain rfl := hw
    refine zr_nald hx hb hK hP 1 0 rfl rfl (by omega) (by omega) dX0_cell_14 ?_
    refine vx_ret ?_
    have hP9 := hP.sub (ws' := [(h0, .inr (0, [.ref aN, .ref aL, .ref aK, .ref aC, .int (nI ld), .ref aT, .int (nI tb), .ref aO, .int (nI ob), .int (bI off), .int wl, .long wd])), (aK, .inl (cI, 1056, .inl (fun i9 => nI (kd i9))))]) [0, 1] rfl
    have hD9 := hD.sub (ws' := [(h0, .inr (0, [.ref aN, .ref aL, .ref aK, .ref aC, .int (nI ld), .ref aT, .int (nI tb), .ref aO, .int (nI ob), .int (bI off), .int wl, .long wd])), (aK, .inl (cI, 1056, .inl (fun i9 => nI (kd i9))))]) [0, 1] (by decide) rfl
    exact W.iret (v := nI (kd (di * 66 + ce))) hx hb hr (fun t ht hW => ⟨⟨nI (kd (di * 66 + ce)), (), rfl, ⟨di, ce, hdi, hce9, rfl, rfl, rfl⟩, by rw [ht]; exact hP9, va_K.moved hW.alike hK, hD9⟩, hS.F ht⟩) hS.2.2 dX0_cell_15
