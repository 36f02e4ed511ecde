set_option maxHeartbeats 4000000 in
set_option maxRecDepth 100000 in
theorem c_X0_drawPower (l : Launch) (dC : Nat → ClassId) (dI : Nat → Nat → Nat) (sz : Nat) (h0 aN aL aK aC aT aO : Nat) (ld tb ob : Nat) (off : Bool) (wl : Int32) (wd : Int64) : Met l yX0_drawPower wsX0_drawPower ({ frames := 0, cells := 0, slots := 0, locals := 0 }) (va_Pc [.ref h0] (fun U => U.heap.size = sz ∧ va_P (dC, dI) vwCl [(h0, .inr (0, [.ref aN, .ref aL, .ref aK, .ref aC, .int (nI ld), .ref aT, .int (nI tb), .ref aO, .int (nI ob), .int (bI off), .int wl, .long wd]))] U.heap ∧ va_K (dC, dI) vwCl [] U ∧ va_D (fun _ => True) [(h0, .inr (0, [.ref aN, .ref aL, .ref aK, .ref aC, .int (nI ld), .ref aT, .int (nI tb), .ref aO, .int (nI ob), .int (bI off), .int wl, .long wd]))])) (va_Qi (fun (r : Int32) (_ : Unit) => r = bI (!dpO off wl)) (fun (_ : Unit) t => va_P (dC, dI) vwCl [(h0, .inr (0, [.ref aN, .ref aL, .ref aK, .ref aC, .int (nI ld), .ref aT, .int (nI tb), .ref aO, .int (nI ob), .int (bI (dpO off wl)), .int (dpW off wl), .long wd]))] t.heap ∧ va_K (dC, dI) vwCl [] t ∧ va_D (va_A [(h0, .inr (0, [.ref aN, .ref aL, .ref aK, .ref aC, .int (nI ld), .ref aT, .int (nI tb), .ref aO, .int (nI ob), .int (bI off), .int wl, .long wd]))] sz) [(h0, .inr (0, [.ref aN, .ref aL, .ref aK, .ref aC, .int (nI ld), .ref aT, .int (nI tb), .ref aO, .int (nI ob), .int (bI (dpO off wl)), .int (dpW off wl), .long wd]))]) (va_A [(h0, .inr (0, [.ref aN, .ref aL, .ref aK, .ref aC, .int (nI ld), .ref aT, .int (nI tb), .ref aO, .int (nI ob), .int (bI off), .int wl, .long wd]))] sz)) 0 0 (va_A [(h0, .inr (0, [.ref aN, .ref aL, .ref aK, .ref aC, .int (nI ld), .ref aT, .int (nI tb), .ref aO, .int (nI ob), .int (bI off), .int wl, .long wd]))] sz) := by
  refine Met.ofW (cc := cX0_drawPower) (maxL := 1) (ret := some .boolean) (by decide) rfl ?_
  intro p e s m args below meth c s₁ B hml hv
  obtain ⟨rfl, hsz, hP, hK, hD0⟩ := hv
  have hx := B.exec
  have hb := B.bytes
  have hr := B.returns
  have hts := atoms_spec (ws := wsX0_drawPower) B.pre
  have hown : s.vm.findClass RX0 = some m.cls := findClass_of_methodNamed B.named
  have hlocks := B.notSynchronized
  subst hsz
  have hD := hD0.self (sz := s.heap.size)
  generalize hAe : va_A [(h0, .inr (0, [.ref aN, .ref aL, .ref aK, .ref aC, .int (nI ld), .ref aT, .int (nI tb), .ref aO, .int (nI ob), .int (bI off), .int wl, .long wd]))] s.heap.size = A at hD ⊢
  have hA : ∀ q : Nat, s.heap.size ≤ q → A q := fun q h => by rw [← hAe]; exact Or.inr h
  generalize hH : s.heap = H at hP ⊢
  have hS : va_S A s.heap H [] := by rw [hH]; exact va_S.rf
  replace hP : va_P (dC, dI) vwCl [(h0, .inr (0, [.ref aN, .ref aL, .ref aK, .ref aC, .int (nI ld), .ref aT, .int (nI tb), .ref aO, .int (nI ob), .int (bI off), .int wl, .long wd]))] H := hP
  have hl := lv_entry ([.ref h0]) (n := 1) (Nat.le_of_ble_eq_true rfl)
  rw [lg_entry_eq]
  generalize (lg_sl ([.ref h0]) ++ List.replicate (1 - (lg_sl ([.ref h0])).length) Slot.unset).toArray = ls at hl ⊢
  have hl : lv_has ls 1 [(0, .ref h0)] := hl
  have hi0 : ∀ w ∈ u_ws RX0 TX0 12, w ∈ wsX0_drawPower := by decide +kernel
  refine lv_aload_n hx hb dX0_drawPower_0 rfl (lv_at hl 0 rfl) ?_
  refine va_get (D := (dC, dI)) (ci := 0) (v := .int wl) (C := RX0) (T := TX0) (N := 12) hx hb hts hi0 hown hK hP 0 rfl rfl 10 (by decide) (hts (.fieldLink RX0 49 "CellRack" "writesLeft" "I") (by decide +kernel)) (fun _ h9 => h9) rfl dX0_drawPower_1 ?_
  refine lv_if_ne (tgt := 12) hx hb dX0_drawPower_4 (by decide) (fun c4 => ?_) (fun c4 => ?_)
  · refine lv_aload_n hx hb dX0_drawPower_12 rfl (lv_at hl 0 rfl) ?_
    refine va_get (D := (dC, dI)) (ci := 0) (v := .int (bI off)) (C := RX0) (T := TX0) (N := 12) hx hb hts hi0 hown hK hP 0 rfl rfl 9 (by decide) (hts (.fieldLink RX0 45 "CellRack" "off" "Z") (by decide +kernel)) (fun _ h9 => h9) rfl dX0_drawPower_13 ?_
    refine zr_ifb_eq (tgt := 21) hx hb dX0_drawPower_16 (by decide) (fun c16 => ?_) (fun c16 => ?_)
    · refine lv_aload_n hx hb dX0_drawPower_21 rfl (lv_at hl 0 rfl) ?_
      refine va_get (D := (dC, dI)) (ci := 0) (v := .int wl) (C := RX0) (T := TX0) (N := 12) hx hb hts hi0 hown hK hP 0 rfl rfl 10 (by decide) (hts (.fieldLink RX0 49 "CellRack" "writesLeft" "I") (by decide +kernel)) (fun _ h9 => h9) rfl dX0_drawPower_22 ?_
      refine lv_iconst (v := (-1)) hx hb dX0_drawPower_25 (by decide) ?_
      refine lv_icmp_eq (tgt := 39) hx hb dX0_drawPower_26 (by decide) (fun c26 => ?_) (fun c26 => ?_)
      · refine lv_iconst (v := nI 1) hx hb dX0_drawPower_39 (by decide) ?_
        have e1 : dpO off wl = off := by simp [dpO, c4]
        have e2 := dpW_2 (e1.trans c16) c26
        have hP9 : va_P (dC, dI) vwCl [(h0, .inr (0, [.ref aN, .ref aL, .ref aK, .ref aC, .int (nI ld), .ref aT, .int (nI tb), .ref aO, .int (nI ob), .int (bI (dpO off wl)), .int (dpW off wl), .long wd]))] H := by rw [e1, e2]; exact hP.sub (ws' := [(h0, .inr (0, [.ref aN, .ref aL, .ref aK, .ref aC, .int (nI ld), .ref aT, .int (nI tb), .ref aO, .int (nI ob), .int (bI off), .int wl, .long wd]))]) [0] rfl
        have hD9 : va_D A [(h0, .inr (0, [.ref aN, .ref aL, .ref aK, .ref aC, .int (nI ld), .ref aT, .int (nI tb), .ref aO, .int (nI ob), .int (bI (dpO off wl)), .int (dpW off wl), .long wd]))] := by rw [e1, e2]; exact hD.sub (ws' := [(h0, .inr (0, [.ref aN, .ref aL, .ref aK, .ref aC, .int (nI ld), .ref aT, .int (nI tb), .ref aO, .int (nI ob), .int (bI off), .int wl, .long wd]))]) [0] (by decide) rfl
        exact W.zret (v := nI 1) hx hb hr (by decide) (fun t ht hW => ⟨⟨nI 1, (), rfl, by rw [e1, c16]; rfl, by rw [ht]; exact hP9, va_K.moved hW.alike hK, hD9⟩, hS.F ht⟩) hS.2.2 dX0_drawPower_40
      · refine lv_aload_n hx hb dX0_drawPower_29 rfl (lv_at hl 0 rfl) ?_
        refine lv_dup hx hb dX0_drawPower_30 rfl ?_
        refine va_get (D := (dC, dI)) (ci := 0) (v := .int wl) (C := RX0) (T := TX0) (N := 12) hx hb hts hi0 hown hK hP 0 rfl rfl 10 (by decide) (hts (.fieldLink RX0 49 "CellRack" "writesLeft" "I") (by decide +kernel)) (fun _ h9 => h9) rfl dX0_drawPower_31 ?_
        refine lv_iconst (v := nI 1) hx hb dX0_drawPower_34 (by decide) ?_
        refine lv_isub hx hb dX0_drawPower_35 ?_
        refine va_put (D := (dC, dI)) (ci := 0) (v := .int (wl - (nI 1))) (ty := .int) (C := RX0) (T := TX0) (N := 12) hx hb hts hi0 tyX0 tyX0_ok nmX0 hown hK hP hD hS 0 rfl rfl 10 (by decide) (hts (.fieldLink RX0 49 "CellRack" "writesLeft" "I") (by decide +kernel)) (fun _ h9 => h9) rfl (by decide +kernel) (rfl) (rfl) (Nat.le_of_ble_eq_true rfl) dX0_drawPower_36 (fun H locs hP hD hS => ?_)
        replace hP : va_P (dC, dI) vwCl [(h0, .inr (0, [.ref aN, .ref aL, .ref aK, .ref aC, .int (nI ld), .ref aT, .int (nI tb), .ref aO, .int (nI ob), .int (bI off), .int (wl - (nI 1)), .long wd]))] H := hP
        replace hD : va_D A [(h0, .inr (0, [.ref aN, .ref aL, .ref aK, .ref aC, .int (nI ld), .ref aT, .int (nI tb), .ref aO, .int (nI ob), .int (bI off), .int (wl - (nI 1)), .long wd]))] := hD
        refine lv_iconst (v := nI 1) hx hb dX0_drawPower_39 (by decide) ?_
        have e1 : dpO off wl = off := by simp [dpO, c4]
        have e2 := dpW_3 (e1.trans c16) c26
        have hP9 : va_P (dC, dI) vwCl [(h0, .inr (0, [.ref aN, .ref aL, .ref aK, .ref aC, .int (nI ld), .ref aT, .int (nI tb), .ref aO, .int (nI ob), .int (bI (dpO off wl)), .int (dpW off wl), .long wd]))] H := by rw [e1, e2]; exact hP.sub (ws' := [(h0, .inr (0, [.ref aN, .ref aL, .ref aK, .ref aC, .int (nI ld), .ref aT, .int (nI tb), .ref aO, .int (nI ob), .int (bI off), .int (wl - (nI 1)), .long wd]))]) [0] rfl
        have hD9 : va_D A [(h0, .inr (0, [.ref aN, .ref aL, .ref aK, .ref aC, .int (nI ld), .ref aT, .int (nI tb), .ref aO, .int (nI ob), .int (bI (dpO off wl)), .int (dpW off wl), .long wd]))] := by rw [e1, e2]; exact hD.sub (ws' := [(h0, .inr (0, [.ref aN, .ref aL, .ref aK, .ref aC, .int (nI ld), .ref aT, .int (nI tb), .ref aO, .int (nI ob), .int (bI off), .int (wl - (nI 1)), .long wd]))]) [0] (by decide) rfl
        exact W.zret (v := nI 1) hx hb hr (by decide) (fun t ht hW => ⟨⟨nI 1, (), rfl, by rw [e1, c16]; rfl, by rw [ht]; exact hP9, va_K.moved hW.alike hK, hD9⟩, hS.F ht⟩) hS.2.2 dX0_drawPower_40
    · refine lv_iconst (v := nI 0) hx hb dX0_drawPower_19 (by decide) ?_
      have e1 : dpO off wl = off := by simp [dpO, c4]
      have e2 := dpW_1 (e1.trans c16)
      have hP9 : va_P (dC, dI) vwCl [(h0, .inr (0, [.ref aN, .ref aL, .ref aK, .ref aC, .int (nI ld), .ref aT, .int (nI tb), .ref aO, .int (nI ob), .int (bI (dpO off wl)), .int (dpW off wl), .long wd]))] H := by rw [e1, e2]; exact hP.sub (ws' := [(h0, .inr (0, [.ref aN, .ref aL, .ref aK, .ref aC, .int (nI ld), .ref aT, .int (nI tb), .ref aO, .int (nI ob), .int (bI off), .int wl, .long wd]))]) [0] rfl
      have hD9 : va_D A [(h0, .inr (0, [.ref aN, .ref aL, .ref aK, .ref aC, .int (nI ld), .ref aT, .int (nI tb), .ref aO, .int (nI ob), .int (bI (dpO off wl)), .int (dpW off wl), .long wd]))] := by rw [e1, e2]; exact hD.sub (ws' := [(h0, .inr (0, [.ref aN, .ref aL, .ref aK, .ref aC, .int (nI ld), .ref aT, .int (nI tb), .ref aO, .int (nI ob), .int (bI off), .int wl, .long wd]))]) [0] (by decide) rfl
      exact W.zret (v := nI 0) hx hb hr (by decide) (fun t ht hW => ⟨⟨nI 0, (), rfl, by rw [e1, c16]; rfl, by rw [ht]; exact hP9, va_K.moved hW.alike hK, hD9⟩, hS.F ht⟩) hS.2.2 dX0_drawPower_20
  · refine lv_aload_n hx hb dX0_drawPower_7 rfl (lv_at hl 0 rfl) ?_
    refine lv_iconst (v := nI 1) hx hb dX0_drawPower_8 (by decide) ?_
    refine zr_topi (bI true) (rfl) ?_
    refine va_put (D := (dC, dI)) (ci := 0) (v := .int (bI true)) (ty := .boolean) (C := RX0) (T := TX0) (N := 12) hx hb hts hi0 tyX0 tyX0_ok nmX0 hown hK hP hD hS 0 rfl rfl 9 (by decide) (hts (.fieldLink RX0 45 "CellRack" "off" "Z") (by decide +kernel)) (fun _ h9 => h9) rfl (by decide +kernel) (zr_nar_b _) (zr_fit_b _) (Nat.le_of_ble_eq_true rfl) dX0_drawPower_9 (fun H locs hP hD hS => ?_)
    replace hP : va_P (dC, dI) vwCl [(h0, .inr (0, [.ref aN, .ref aL, .ref aK, .ref aC, .int (nI ld), .ref aT, .int (nI tb), .ref aO, .int (nI ob), .int (bI true), .int wl, .long wd]))] H := hP
    replace hD : va_D A [(h0, .inr (0, [.ref aN, .ref aL, .ref aK, .ref aC, .int (nI ld), .ref aT, .int (nI tb), .ref aO, .int (nI ob), .int (bI true), .int wl, .long wd]))] := hD
    refine lv_aload_n hx hb dX0_drawPower_12 rfl (lv_at hl 0 rfl) ?_
    refine va_get (D := (dC, dI)) (ci := 0) (v := .int (bI true)) (C := RX0) (T := TX0) (N := 12) hx hb hts hi0 hown hK hP 0 rfl rfl 9 (by decide) (hts (.fieldLink RX0 45 "CellRack" "off" "Z") (by decide +kernel)) (fun _ h9 => h9) rfl dX0_drawPower_13 ?_
    refine zr_ifb_eq (tgt := 21) hx hb dX0_drawPower_16 (by decide) (fun c16 => absurd c16 (by decide)) (fun c16 => ?_)
    refine lv_iconst (v := nI 0) hx hb dX0_drawPower_19 (by decide) ?_
    have e1 : dpO off wl = true := by simp [dpO, c4]
    have e2 := dpW_1 e1
    have hP9 : va_P (dC, dI) vwCl [(h0, .inr (0, [.ref aN, .ref aL, .ref aK, .ref aC, .int (nI ld), .ref aT, .int (nI tb), .ref aO, .int (nI ob), .int (bI (dpO off wl)), .int (dpW off wl), .long wd]))] H := by rw [e1, e2]; exact hP.sub (ws' := [(h0, .inr (0, [.ref aN, .ref aL, .ref aK, .ref aC, .int (nI ld), .ref aT, .int (nI tb), .ref aO, .int (nI ob), .int (bI true), .int wl, .long wd]))]) [0] rfl
    have hD9 : va_D A [(h0, .inr (0, [.ref aN, .ref aL, .ref aK, .ref aC, .int (nI ld), .ref aT, .int (nI tb), .ref aO, .int (nI ob), .int (bI (dpO off wl)), .int (dpW off wl), .long wd]))] := by rw [e1, e2]; exact hD.sub (ws' := [(h0, .inr (0, [.ref aN, .ref aL, .ref aK, .ref aC, .int (nI ld), .ref aT, .int (nI tb), .ref aO, .int (nI ob), .int (bI true), .int wl, .long wd]))]) [0] (by decide) rfl
    exact W.zret (v := nI 0) hx hb hr (by decide) (fun t ht hW => ⟨⟨nI 0, (), rfl, by rw [e1]; rfl, by rw [ht]; exact hP9, va_K.moved hW.alike hK, hD9⟩, hS.F ht⟩) hS.2.2 dX0_drawPower_20
set_option maxHeartbeats 4000000 in
set_option maxRecDepth 100000 in
theorem c_X0_clearTape (l : Launch) (dC : Nat → ClassId) (dI : Nat → Nat → Nat) (sz : Nat) (h0 aN aL aK aC aT aO : Nat) (ld tb ob : Nat) (off : Bool) (wl : Int32) (wd : Int64) (cJ : ClassId) (tape : Nat → Int64) : Met l yX0_clearTape wsX0_clearTape ({ frames := 1, cells := 0, slots := 0, locals := 24 }) (va_Pc [.ref h0] (fun U => U.heap.size = sz ∧ va_P (dC, dI) vwCl [(h0, .inr (0, [.ref aN, .ref aL, .ref aK, .ref aC, .int (nI ld), .ref aT, .int (nI tb), .ref aO, .int (nI ob), .int (bI off), .int wl, .long wd])), (aT, .inl (cJ, 8, .inr (.inl tape)))] U.heap ∧ va_K (dC, dI) vwCl [(cJ, .long)] U ∧ va_D (fun _ => True) [(h0, .inr (0, [.ref aN, .ref aL, .ref aK, .ref aC, .int (nI ld), .ref aT, .int (nI tb), .ref aO, .int (nI ob), .int (bI off), .int wl, .long wd])), (aT, .inl (cJ, 8, .inr (.inl tape)))])) (va_Qv (fun (_ : Unit) => True) (fun (_ : Unit) t => va_P (dC, dI) vwCl [(h0, .inr (0, [.ref aN, .ref aL, .ref aK, .ref aC, .int (nI ld), .ref aT, .int (nI 0), .ref aO, .int (nI ob), .int (bI off), .int wl, .long wd])), (aT, .inl (cJ, 8, .inr (.inl (flF tape 0 8))))] t.heap ∧ va_K (dC, dI) vwCl [(cJ, .long)] t ∧ va_D (va_A [(h0, .inr (0, [.ref aN, .ref aL, .ref aK, .ref aC, .int (nI ld), .ref aT, .int (nI tb), .ref aO, .int (nI ob), .int (bI off), .int wl, .long wd])), (aT, .inl (cJ, 8, .inr (.inl tape)))] sz) [(h0, .inr (0, [.ref aN, .ref aL, .ref aK, .ref aC, .int (nI ld), .ref aT, .int (nI 0), .ref aO, .int (nI ob), .int (bI off), .int wl, .long wd])), (aT, .inl (cJ, 8, .inr (.inl (flF tape 0 8))))]) (va_A [(h0, .inr (0, [.ref aN, .ref aL, .ref aK, .ref aC, .int (nI ld), .ref aT, .int (nI tb), .ref aO, .int (nI ob), .int (bI off), .int wl, .long wd])), (aT, .inl (cJ, 8, .inr (.inl tape)))] sz)) 0 0 (va_A [(h0, .inr (0, [.ref aN, .ref aL, .ref aK, .ref aC, .int (nI ld), .ref aT, .int (nI tb), .ref aO, .int (nI ob), .int (bI off), .int wl, .long wd])), (aT, .inl (cJ, 8, .inr (.inl tape)))] sz) := by
  refine Met.ofW (cc := cX0_clearTape) (maxL := 1) (ret := none) (by decide) rfl ?_
  intro p e s m args below meth c s₁ B hml hv
  obtain ⟨rfl, hsz, hP, hK, hD0⟩ := hv
  have hx := B.exec
  have hb := B.bytes
  have hr := B.returns
  have hts := atoms_spec (ws := wsX0_clearTape) B.pre
  have hown : s.vm.findClass RX0 = some m.cls := findClass_of_methodNamed B.named
  have hlocks := B.notSynchronized
  subst hsz
  have hD := hD0.self (sz := s.heap.size)
  generalize hAe : va_A [(h0, .inr (0, [.ref aN, .ref aL, .ref aK, .ref aC, .int (nI ld), .ref aT, .int (nI tb), .ref aO, .int (nI ob), .int (bI off), .int wl, .long wd])), (aT, .inl (cJ, 8, .inr (.inl tape)))] s.heap.size = A at hD ⊢
  have hA : ∀ q : Nat, s.heap.size ≤ q → A q := fun q h => by rw [← hAe]; exact Or.inr h
  generalize hH : s.heap = H at hP ⊢
  have hS : va_S A s.heap H [] := by rw [hH]; exact va_S.rf
  replace hP : va_P (dC, dI) vwCl [(h0, .inr (0, [.ref aN, .ref aL, .ref aK, .ref aC, .int (nI ld), .ref aT, .int (nI tb), .ref aO, .int (nI ob), .int (bI off), .int wl, .long wd])), (aT, .inl (cJ, 8, .inr (.inl tape)))] H := hP
  have hl := lv_entry ([.ref h0]) (n := 1) (Nat.le_of_ble_eq_true rfl)
  rw [lg_entry_eq]
  generalize (lg_sl ([.ref h0]) ++ List.replicate (1 - (lg_sl ([.ref h0])).length) Slot.unset).toArray = ls at hl ⊢
  have hl : lv_has ls 1 [(0, .ref h0)] := hl
  have hi0 : ∀ w ∈ u_ws RX0 TX0 12, w ∈ wsX0_clearTape := by decide +kernel
  refine lv_aload_n hx hb dX0_clearTape_0 rfl (lv_at hl 0 rfl) ?_
  refine va_get (D := (dC, dI)) (ci := 0) (v := .ref aT) (C := RX0) (T := TX0) (N := 12) hx hb hts hi0 hown hK hP 0 rfl rfl 5 (by decide) (hts (.fieldLink RX0 33 "CellRack" "tape" "[J") (by decide +kernel)) (fun _ h9 => h9) rfl dX0_clearTape_1 ?_
  refine lv_lconst (v := 0) hx hb dX0_clearTape_4 (by decide) ?_
  have hPc := hP.sub (ws' := [(aT, .inl (cJ, 8, .inr (.inl tape)))]) [1] rfl
  have hDc := hD.sub (ws' := [(aT, .inl (cJ, 8, .inr (.inl tape)))]) [1] (by decide) rfl
  have hKc := hK.sub (tys' := [(cJ, .long)]) [0] rfl
  have hFc := va_free (wc := [(aT, .inl (cJ, 8, .inr (.inl tape)))]) hD hS hA [1] rfl
  refine va_callv (va_runS (As := [.ref aT, .long 0]) (rest := []) ⟨hx, hb, hml, hown, hts⟩ (c_J7_fill_d0a16 l dC dI H.size aT cJ 8 tape 0 (by decide)) (va_cwS 2 hts gX0_clearTape_J7_fill_d0a16 rfl rfl rfl (by decide +kernel) ⟨Nat.le_of_ble_eq_true rfl, Nat.le_of_ble_eq_true rfl⟩) ⟨fun a U g mk q => by obtain ⟨q0, q1, qP, qK, qD⟩ := q; exact ⟨q0, q1, qP, va_K.moved (u := U) (U := U.calling g mk a) (Vm.Alike.refl U.vm) qK, qD⟩, fun U hU hW => ⟨rfl, by rw [hU], by rw [hU]; exact hPc, va_K.moved hW.alike hKc, hDc.weaken (fun _ _ _ _ => trivial)⟩⟩ rfl rfl hl.1 rfl (lv_room (Nat.le_of_ble_eq_true rfl)) dX0_clearTape_5 ⟨Nat.zero_le _, Nat.zero_le _⟩) hS (fun q _ h => hFc q h) hFc (fun u t H1 locs ht hvm hw hB hz1 hk1 hS => ?_)
  obtain ⟨hP1, hK1, hD1⟩ := hB
  rw [ht] at hP1
  obtain ⟨hPn, hDn⟩ := va_join (wr := [(h0, .inr (0, [.ref aN, .ref aL, .ref aK, .ref aC, .int (nI ld), .ref aT, .int (nI tb), .ref aO, .int (nI ob), .int (bI off), .int wl, .long wd]))]) (w1 := [(aT, .inl (cJ, 8, .inr (.inl (flF tape 0 8))))]) hP hD [1] [0] rfl rfl (by decide) (by decide) hk1 hFc hP1 hD1
  clear hP hD hP1 hD1 hK1 hPc hDc hKc hFc hk1 hz1 hvm ht
  generalize H1 = H at hPn hS ⊢
  have hP := hPn
  have hD := hDn
  clear hPn hDn
  replace hP : va_P (dC, dI) vwCl [(h0, .inr (0, [.ref aN, .ref aL, .ref aK, .ref aC, .int (nI ld), .ref aT, .int (nI tb), .ref aO, .int (nI ob), .int (bI off), .int wl, .long wd])), (aT, .inl (cJ, 8, .inr (.inl (flF tape 0 8))))] H := hP
  replace hD : va_D A [(h0, .inr (0, [.ref aN, .ref aL, .ref aK, .ref aC, .int (nI ld), .ref aT, .int (nI tb), .ref aO, .int (nI ob), .int (bI off), .int wl, .long wd])), (aT, .inl (cJ, 8, .inr (.inl (flF tape 0 8))))] := hD
  refine W.widen (k := 0) (n := 0) (Nat.le_refl _) (Nat.le_refl _) ?_
  refine lv_aload_n hx hb dX0_clearTape_8 rfl (lv_at hl 0 rfl) ?_
  refine lv_iconst (v := nI 0) hx hb dX0_clearTape_9 (by decide) ?_
  refine va_put (D := (dC, dI)) (ci := 0) (v := .int (nI 0)) (ty := .int) (C := RX0) (T := TX0) (N := 12) hx hb hts hi0 tyX0 tyX0_ok nmX0 hown hK hP hD hS 0 rfl rfl 6 (by decide) (hts (.fieldLink RX0 36 "CellRack" "tapeBytes" "I") (by decide +kernel)) (fun _ h9 => h9) rfl (by decide +kernel) (rfl) (rfl) (Nat.le_of_ble_eq_true rfl) dX0_clearTape_10 (fun H locs hP hD hS => ?_)
  replace hP : va_P (dC, dI) vwCl [(h0, .inr (0, [.ref aN, .ref aL, .ref aK, .ref aC, .int (nI ld), .ref aT, .int (nI 0), .ref aO, .int (nI ob), .int (bI off), .int wl, .long wd])), (aT, .inl (cJ, 8, .inr (.inl (flF tape 0 8))))] H := hP
  replace hD : va_D A [(h0, .inr (0, [.ref aN, .ref aL, .ref aK, .ref aC, .int (nI ld), .ref aT, .int (nI 0), .ref aO, .int (nI ob), .int (bI off), .int wl, .long wd])), (aT, .inl (cJ, 8, .inr (.inl (flF tape 0 8))))] := hD
  have hP9 := hP.sub (ws' := [(h0, .inr (0, [.ref aN, .ref aL, .ref aK, .ref aC, .int (nI ld), .ref aT, .int (nI 0), .ref aO, .int (nI ob), .int (bI off), .int wl, .long wd])), (aT, .inl (cJ, 8, .inr (.inl (flF tape 0 8))))]) [0, 1] rfl
  have hD9 := hD.sub (ws' := [(h0, .inr (0, [.ref aN, .ref aL, .ref aK, .ref aC, .int (nI ld), .ref aT, .int (nI 0), .ref aO, .int (nI ob), .int (bI off), .int wl, .long wd])), (aT, .inl (cJ, 8, .inr (.inl (flF tape 0 8))))]) [0, 1] (by decide) rfl
  exact W.vret hx hb hr (fun t ht hW => ⟨⟨(), rfl, trivial, by rw [ht]; exact hP9, va_K.moved hW.alike hK, hD9⟩, hS.F ht⟩) hS.2.2 dX0_clearTape_13
set_option maxHeartbeats 4000000 in
set_option maxRecDepth 100000 in
theorem lp_X0_isAsWritten {p : Program} {l : Launch} {e : Env} {R : Room} {s : State} {m : MethodId} {args : Array Value} {below : List Frame} {meth : Method} {c : Code} {cells slots : Nat} {Q : State → Prop} {A : Nat → Prop} {H0 : Heap} {dC : Nat → ClassId} {dI : Nat → Nat → Nat} (h0 aN aL aK aC aT aO : Nat) (ld tb ob : Nat) (off : Bool) (wl : Int32) (wd : Int64) (cJ : ClassId) (now latest : Nat → Int64) (fr : Nat) (hf : fr + 9 ≤ 9504) (hx : p.tables.exec = Jvm.exec) (hb : c.code = cX0_isAsWritten) (hml : c.maxLocals = 3) (hown : s.vm.findClass RX0 = some m.cls) (hts : ∀ w ∈ wsX0_isAsWritten, w.before args s = true) (hA : ∀ q : Nat, H0.size ≤ q → A q) (hK : va_K (dC, dI) vwCl [(cJ, .long)] s) (kk : ∀ (he : ∀ j, j < 9 → now (fr + j) = latest (fr + j)) (H : Heap) (locs : List Loc) (ls : Array Slot), va_P (dC, dI) vwCl [(h0, .inr (0, [.ref aN, .ref aL, .ref aK, .ref aC, .int (nI ld), .ref aT, .int (nI tb), .ref aO, .int (nI ob), .int (bI off), .int wl, .long wd])), (aN, .inl (cJ, 9504, .inr (.inl now))), (aL, .inl (cJ, 9504, .inr (.inl latest)))] H → va_D A [(h0, .inr (0, [.ref aN, .ref aL, .ref aK, .ref aC, .int (nI ld), .ref aT, .int (nI tb), .ref aO, .int (nI ob), .int (bI off), .int wl, .long wd])), (aN, .inl (cJ, 9504, .inr (.inl now))), (aL, .inl (cJ, 9504, .inr (.inl latest)))] → va_S A H0 H locs → lv_has ls 3 [(0, .ref h0)] → W p l e R s m args below meth c H locs cells slots Q (F0 m 34 ls [])) (kx : ∀ (hn : swOK now latest fr = false) (H : Heap) (locs : List Loc) (ls : Array Slot), va_P (dC, dI) vwCl [(h0, .inr (0, [.ref aN, .ref aL, .ref aK, .ref aC, .int (nI ld), .ref aT, .int (nI tb), .ref aO, .int (nI ob), .int (bI off), .int wl, .long wd])), (aN, .inl (cJ, 9504, .inr (.inl now))), (aL, .inl (cJ, 9504, .inr (.inl latest)))] H → va_D A [(h0, .inr (0, [.ref aN, .ref aL, .ref aK, .ref aC, .int (nI ld), .ref aT, .int (nI tb), .ref aO, .int (nI ob), .int (bI off), .int wl, .long wd])), (aN, .inl (cJ, 9504, .inr (.inl now))), (aL, .inl (cJ, 9504, .inr (.inl latest)))] → va_S A H0 H locs → lv_has ls 3 [(0, .ref h0)] → W p l e R s m args below meth c H locs cells slots Q (F0 m 26 ls [])) : ∀ (n : Nat) (i : Nat), 9 + 1 ≤ i + n → i ≤ 9 → (∀ j, j < i → now (fr + j) = latest (fr + j)) → ∀ (H : Heap) (locs : List Loc) (ls : Array Slot), va_P (dC, dI) vwCl [(h0, .inr (0, [.ref aN, .ref aL, .ref aK, .ref aC, .int (nI ld), .ref aT, .int (nI tb), .ref aO, .int (nI ob), .int (bI off), .int wl, .long wd])), (aN, .inl (cJ, 9504, .inr (.inl now))), (aL, .inl (cJ, 9504, .inr (.inl latest)))] H → va_D A [(h0, .inr (0, [.ref aN, .ref aL, .ref aK, .ref aC, .int (nI ld), .ref aT, .int (nI tb), .ref aO, .int (nI ob), .int (bI off), .int wl, .long wd])), (aN, .inl (cJ, 9504, .inr (.inl now))), (aL, .inl (cJ, 9504, .inr (.inl latest)))] → va_S A H0 H locs → lv_has ls 3 [(0, .ref h0), (1, .int (nI fr)), (2, .int (nI (fr + i)))] → W p l e R s m args below meth c H locs cells slots Q (F0 m 2 ls []) := by
  have hi0 : ∀ w ∈ u_ws RX0 TX0 12, w ∈ wsX0_isAsWritten := by decide +kernel
  intro n
  induction n with
  | zero => intro i  hm hi he; exact absurd hm (by omega)
  | succ n ih =>
    intro i  hm hi he H locs ls hP hD hS hl
    refine lv_iload_n hx hb dX0_isAsWritten_2 rfl (lv_at hl 2 rfl) ?_
    refine lv_iload_n hx hb dX0_isAsWritten_3 rfl (lv_at hl 1 rfl) ?_
    refine lv_bipush (v := nI 9) hx hb dX0_isAsWritten_4 (by decide) ?_
    refine zr_iadd hx hb dX0_isAsWritten_6 ?_
    refine zr_icmp_ge (tgt := 34) hx hb (by omega) (by omega) dX0_isAsWritten_7 (by decide) (fun c7 => ?_) (fun c7 => ?_)
    · obtain rfl : 9 = i := by omega
      exact kk he H locs ls (hP.sub [0, 1, 2] rfl) (hD.sub [0, 1, 2] (by decide) rfl) hS (lv_sub hl [0] rfl)
    · refine lv_aload_n hx hb dX0_isAsWritten_10 rfl (lv_at hl 0 rfl) ?_
      refine va_get (D := (dC, dI)) (ci := 0) (v := .ref aN) (C := RX0) (T := TX0) (N := 12) hx hb hts hi0 hown hK hP 0 rfl rfl 0 (by decide) (hts (.fieldLink RX0 9 "CellRack" "now" "[J") (by decide +kernel)) (fun _ h9 => h9) rfl dX0_isAsWritten_11 ?_
      refine lv_iload_n hx hb dX0_isAsWritten_14 rfl (lv_at hl 2 rfl) ?_
      refine zr_lald hx hb hK hP 1 0 rfl rfl (by omega) (by omega) dX0_isAsWritten_15 ?_
      refine lv_aload_n hx hb dX0_isAsWritten_16 rfl (lv_at hl 0 rfl) ?_
      refine va_get (D := (dC, dI)) (ci := 0) (v := .ref aL) (C := RX0) (T := TX0) (N := 12) hx hb hts hi0 hown hK hP 0 rfl rfl 1 (by decide) (hts (.fieldLink RX0 13 "CellRack" "latest" "[J") (by decide +kernel)) (fun _ h9 => h9) rfl dX0_isAsWritten_17 ?_
      refine lv_iload_n hx hb dX0_isAsWritten_20 rfl (lv_at hl 2 rfl) ?_
      refine zr_lald hx hb hK hP 2 0 rfl rfl (by omega) (by omega) dX0_isAsWritten_21 ?_
      refine W.lcmp hx hb dX0_isAsWritten_22 ?_
      refine zr_cmp_eq (tgt := 28) hx hb dX0_isAsWritten_23 (by decide) (fun c23 => ?_) (fun c23 => ?_)
      · refine lv_iinc (v := nI (fr + i + 1)) (lv' := [(2, .int (nI (fr + i + 1))), (0, .ref h0), (1, .int (nI fr))]) hx hb dX0_isAsWritten_28 hl (k := 2) rfl (nI_add (fr + i) 1) (by decide) rfl (fun ls hl => ?_)
        refine lv_goto (tgt := 2) hx hb dX0_isAsWritten_31 (by decide) ?_
        exact ih (i + 1) (by omega) (by omega) (fun j hj => by
                rcases (show j < i ∨ j = i by omega) with q | q
                · exact he j q
                · subst q; exact c23) H locs ls (hP.sub [0, 1, 2] rfl) (hD.sub [0, 1, 2] (by decide) rfl) hS (lv_sub hl [1, 2, 0] rfl)
      · exact kx (swOK_f (i := i) (by omega) c23) H locs ls (hP.sub [0, 1, 2] rfl) (hD.sub [0, 1, 2] (by decide) rfl) hS (lv_sub hl [0] rfl)
set_option maxHeartbeats 4000000 in
set_option maxRecDepth 100000 in
theorem c_X0_isAsWritten (l : Launch) (dC : Nat → ClassId) (dI : Nat → Nat → Nat) (sz : Nat) (h0 aN aL aK aC aT aO : Nat) (ld tb ob : Nat) (off : Bool) (wl : Int32) (wd : Int64) (cJ : ClassId) (now latest : Nat → Int64) (fr : Nat) (hf : fr + 9 ≤ 9504) : Met l yX0_isAsWritten wsX0_isAsWritten ({ frames := 0, cells := 0, slots := 0, locals := 0 }) (va_Pc [.ref h0, .int (nI fr)] (fun U => U.heap.size = sz ∧ va_P (dC, dI) vwCl [(h0, .inr (0, [.ref aN, .ref aL, .ref aK, .ref aC, .int (nI ld), .ref aT, .int (nI tb), .ref aO, .int (nI ob), .int (bI off), .int wl, .long wd])), (aN, .inl (cJ, 9504, .inr (.inl now))), (aL, .inl (cJ, 9504, .inr (.inl latest)))] U.heap ∧ va_K (dC, dI) vwCl [(cJ, .long)] U ∧ va_D (fun _ => True) [(h0, .inr (0, [.ref aN, .ref aL, .ref aK, .ref aC, .int (nI ld), .ref aT, .int (nI tb), .ref aO, .int (nI ob), .int (bI off), .int wl, .long wd])), (aN, .inl (cJ, 9504, .inr (.inl now))), (aL, .inl (cJ, 9504, .inr (.inl latest)))])) (va_Qi (fun (r : Int32) (_ : Unit) => r = bI (swOK now latest fr)) (fun (_ : Unit) t => va_P (dC, dI) vwCl [(h0, .inr (0, [.ref aN, .ref aL, .ref aK, .ref aC, .int (nI ld), .ref aT, .int (nI tb), .ref aO, .int (nI ob), .int (bI off), .int wl, .long wd])), (aN, .inl (cJ, 9504, .inr (.inl now))), (aL, .inl (cJ, 9504, .inr (.inl latest)))] t.heap ∧ va_K (dC, dI) vwCl [(cJ, .long)] t ∧ va_D (va_A [(h0, .inr (0, [.ref aN, .ref aL, .ref aK, .ref aC, .int (nI ld), .ref aT, .int (nI tb), .ref aO, .int (nI ob), .int (bI off), .int wl, .long wd])), (aN, .inl (cJ, 9504, .inr (.inl now))), (aL, .inl (cJ, 9504, .inr (.inl latest)))] sz) [(h0, .inr (0, [.ref aN, .ref aL, .ref aK, .ref aC, .int (nI ld), .ref aT, .int (nI tb), .ref aO, .int (nI ob), .int (bI off), .int wl, .long wd])), (aN, .inl (cJ, 9504, .inr (.inl now))), (aL, .inl (cJ, 9504, .inr (.inl latest)))]) (va_A [(h0, .inr (0, [.ref aN, .ref aL, .ref aK, .ref aC, .int (nI ld), .ref aT, .int (nI tb), .ref aO, .int (nI ob), .int (bI off), .int wl, .long wd])), (aN, .inl (cJ, 9504, .inr (.inl now))), (aL, .inl (cJ, 9504, .inr (.inl latest)))] sz)) 0 0 (va_A [(h0, .inr (0, [.ref aN, .ref aL, .ref aK, .ref aC, .int (nI ld), .ref aT, .int (nI tb), .ref aO, .int (nI ob), .int (bI off), .int wl, .long wd])), (aN, .inl (cJ, 9504, .inr (.inl now))), (aL, .inl (cJ, 9504, .inr (.inl latest)))] sz) := by
  refine Met.ofW (cc := cX0_isAsWritten) (maxL := 3) (ret := some .boolean) (by decide) rfl ?_
  intro p e s m args below meth c s₁ B hml hv
  obtain ⟨rfl, hsz, hP, hK, hD0⟩ := hv
  have hx := B.exec
  have hb := B.bytes
  have hr := B.returns
  have hts := atoms_spec (ws := wsX0_isAsWritten) B.pre
  have hown : s.vm.findClass RX0 = some m.cls := findClass_of_methodNamed B.named
  have hlocks := B.notSynchronized
  subst hsz
  have hD := hD0.self (sz := s.heap.size)
  generalize hAe : va_A [(h0, .inr (0, [.ref aN, .ref aL, .ref aK, .ref aC, .int (nI ld), .ref aT, .int (nI tb), .ref aO, .int (nI ob), .int (bI off), .int wl, .long wd])), (aN, .inl (cJ, 9504, .inr (.inl now))), (aL, .inl (cJ, 9504, .inr (.inl latest)))] s.heap.size = A at hD ⊢
  have hA : ∀ q : Nat, s.heap.size ≤ q → A q := fun q h => by rw [← hAe]; exact Or.inr h
  generalize hH : s.heap = H at hP ⊢
  have hS : va_S A s.heap H [] := by rw [hH]; exact va_S.rf
  replace hP : va_P (dC, dI) vwCl [(h0, .inr (0, [.ref aN, .ref aL, .ref aK, .ref aC, .int (nI ld), .ref aT, .int (nI tb), .ref aO, .int (nI ob), .int (bI off), .int wl, .long wd])), (aN, .inl (cJ, 9504, .inr (.inl now))), (aL, .inl (cJ, 9504, .inr (.inl latest)))] H := hP
  have hl := lv_entry ([.ref h0, .int (nI fr)]) (n := 3) (Nat.le_of_ble_eq_true rfl)
  rw [lg_entry_eq]
  generalize (lg_sl ([.ref h0, .int (nI fr)]) ++ List.replicate (3 - (lg_sl ([.ref h0, .int (nI fr)])).length) Slot.unset).toArray = ls at hl ⊢
  have hl : lv_has ls 3 [(0, .ref h0), (1, .int (nI fr))] := hl
  refine lv_iload_n hx hb dX0_isAsWritten_0 rfl (lv_at hl 1 rfl) ?_
  refine lv_istore_n (lv' := [(2, .int (nI fr)), (0, .ref h0), (1, .int (nI fr))]) hx hb dX0_isAsWritten_1 rfl hl (by decide) rfl (fun ls hl => ?_)
  refine lp_X0_isAsWritten h0 aN aL aK aC aT aO ld tb ob off wl wd cJ now latest fr hf hx hb hml hown hts hA hK (fun he  H locs ls hP hD hS hl => ?_) (fun hn  H locs ls hP hD hS hl => ?_) 10 0 (by omega) (by omega) (fun j hj => absurd hj (by omega)) _ _ _ (hP.sub [0, 1, 2] rfl) (hD.sub [0, 1, 2] (by decide) rfl) hS (lv_sub hl [1, 2, 0] rfl)
  · refine lv_iconst (v := nI 1) hx hb dX0_isAsWritten_34 (by decide) ?_
    have hP9 := hP.sub (ws' := [(h0, .inr (0, [.ref aN, .ref aL, .ref aK, .ref aC, .int (nI ld), .ref aT, .int (nI tb), .ref aO, .int (nI ob), .int (bI off), .int wl, .long wd])), (aN, .inl (cJ, 9504, .inr (.inl now))), (aL, .inl (cJ, 9504, .inr (.inl latest)))]) [0, 1, 2] rfl
    have hD9 := hD.sub (ws' := [(h0, .inr (0, [.ref aN, .ref aL, .ref aK, .ref aC, .int (nI ld), .ref aT, .int (nI tb), .ref aO, .int (nI ob), .int (bI off), .int wl, .long wd])), (aN, .inl (cJ, 9504, .inr (.inl now))), (aL, .inl (cJ, 9504, .inr (.inl latest)))]) [0, 1, 2] (by decide) rfl
    exact W.zret (v := nI 1) hx hb hr (by decide) (fun t ht hW => ⟨⟨nI 1, (), rfl, by rw [swOK_t he]; rfl, by rw [ht]; exact hP9, va_K.moved hW.alike hK, hD9⟩, hS.F ht⟩) hS.2.2 dX0_isAsWritten_35
  · refine lv_iconst (v := nI 0) hx hb dX0_isAsWritten_26 (by decide) ?_
    have hP9 := hP.sub (ws' := [(h0, .inr (0, [.ref aN, .ref aL, .ref aK, .ref aC, .int (nI ld), .ref aT, .int (nI tb), .ref aO, .int (nI ob), .int (bI off), .int wl, .long wd])), (aN, .inl (cJ, 9504, .inr (.inl now))), (aL, .inl (cJ, 9504, .inr (.inl latest)))]) [0, 1, 2] rfl
    have hD9 := hD.sub (ws' := [(h0, .inr (0, [.ref aN, .ref aL, .ref aK, .ref aC, .int (nI ld), .ref aT, .int (nI tb), .ref aO, .int (nI ob), .int (bI off), .int wl, .long wd])), (aN, .inl (cJ, 9504, .inr (.inl now))), (aL, .inl (cJ, 9504, .inr (.inl latest)))]) [0, 1, 2] (by decide) rfl
    exact W.zret (v := nI 0) hx hb hr (by decide) (fun t ht hW => ⟨⟨nI 0, (), rfl, by rw [hn]; rfl, by rw [ht]; exact hP9, va_K.moved hW.alike hK, hD9⟩, hS.F ht⟩) hS.2.2 dX0_isAsWritten_27
set_option maxHeartbeats 4000000 in
set_option maxRecDepth 100000 in
theorem lp_X0_checkOf_in {p : Program} {l : Launch} {e : Env} {R : Room} {s : State} {m : MethodId} {args : Array Value} {below : List Frame} {meth : Method} {c : Code} {cells slots : Nat} {Q : State → Prop} {A : Nat → Prop} {H0 : Heap} {dC : Nat → ClassId} {dI : Nat → Nat → Nat} (h0 aN aL aK aC aT aO : Nat) (ld tb ob : Nat) (off : Bool) (wl : Int32) (wd : Int64) (cJ : ClassId) (now : Nat → Int64) (fr : Nat) (hf : fr + 9 ≤ 9504) (w0 : Int64) (k : Nat) (hx : p.tables.exec = Jvm.exec) (hb : c.code = cX0_checkOf) (hml : c.maxLocals = 6) (hown : s.vm.findClass RX0 = some m.cls) (hts : ∀ w ∈ wsX0_checkOf, w.before args s = true) (hA : ∀ q : Nat, H0.size ≤ q → A q) (hK : va_K (dC, dI) vwCl [(cJ, .long)] s) (kk : ∀  (H : Heap) (locs : List Loc) (ls : Array Slot), va_P (dC, dI) vwCl [(h0, .inr (0, [.ref aN, .ref aL, .ref aK, .ref aC, .int (nI ld), .ref aT, .int (nI tb), .ref aO, .int (nI ob), .int (bI off), .int wl, .long wd])), (aN, .inl (cJ, 9504, .inr (.inl now)))] H → va_D A [(h0, .inr (0, [.ref aN, .ref aL, .ref aK, .ref aC, .int (nI ld), .ref aT, .int (nI tb), .ref aO, .int (nI ob), .int (bI off), .int wl, .long wd])), (aN, .inl (cJ, 9504, .inr (.inl now)))] → va_S A H0 H locs → lv_has ls 6 [(0, .ref h0), (1, .int (nI fr)), (2, .long (ckI w0 8)), (4, .int (nI k))] → W p l e R s m args below meth c H locs cells slots Q (F0 m 66 ls [])) : ∀ (n : Nat) (b : Nat), 8 + 1 ≤ b + n → b ≤ 8 → ∀ (H : Heap) (locs : List Loc) (ls : Array Slot), va_P (dC, dI) vwCl [(h0, .inr (0, [.ref aN, .ref aL, .ref aK, .ref aC, .int (nI ld), .ref aT, .int (nI tb), .ref aO, .int (nI ob), .int (bI off), .int wl, .long wd])), (aN, .inl (cJ, 9504, .inr (.inl now)))] H → va_D A [(h0, .inr (0, [.ref aN, .ref aL, .ref aK, .ref aC, .int (nI ld), .ref aT, .int (nI tb), .ref aO, .int (nI ob), .int (bI off), .int wl, .long wd])), (aN, .inl (cJ, 9504, .inr (.inl now)))] → va_S A H0 H locs → lv_has ls 6 [(0, .ref h0), (1, .int (nI fr)), (2, .long (ckI w0 b)), (4, .int (nI k)), (5, .int (nI b))] → W p l e R s m args below meth c H locs cells slots Q (F0 m 31 ls []) := by
  intro n
  induction n with
  | zero => intro b  hm hi; exact absurd hm (by omega)
  | succ n ih =>
    intro b  hm hi H locs ls hP hD hS hl
    refine lv_iload hx hb dX0_checkOf_31 (lv_at hl 4 rfl) ?_
    refine lv_bipush (v := nI 8) hx hb dX0_checkOf_33 (by decide) ?_
    refine zr_icmp_ge (tgt := 66) hx hb (by omega) (by omega) dX0_checkOf_35 (by decide) (fun c35 => ?_) (fun c35 => ?_)
    · obtain rfl : 8 = b := by omega
      exact kk  H locs ls (hP.sub [0, 1] rfl) (hD.sub [0, 1] (by decide) rfl) hS (lv_sub hl [0, 1, 2, 3] rfl)
    · refine lv_lload_n hx hb dX0_checkOf_38 rfl (lv_at hl 2 rfl) ?_
      refine lv_lconst (v := 1) hx hb dX0_checkOf_39 (by decide) ?_
      refine lv_land hx hb dX0_checkOf_40 ?_
      refine lv_lconst (v := 0) hx hb dX0_checkOf_41 (by decide) ?_
      refine W.lcmp hx hb dX0_checkOf_42 ?_
      refine zr_cmp_eq (tgt := 56) hx hb dX0_checkOf_43 (by decide) (fun c43 => ?_) (fun c43 => ?_)
      · refine lv_lload_n hx hb dX0_checkOf_56 rfl (lv_at hl 2 rfl) ?_
        refine lv_iconst (v := nI 1) hx hb dX0_checkOf_57 (by decide) ?_
        refine lv_lushr hx hb dX0_checkOf_58 rfl ?_
        refine zr_topl (ckI w0 (b + 1)) (by first | exact ckS_t c43 | exact ckS_f c43) ?_
        refine lv_lstore_n (lv' := [(2, .long (ckI w0 (b + 1))), (0, .ref h0), (1, .int (nI fr)), (4, .int (nI k)), (5, .int (nI b))]) hx hb dX0_checkOf_59 rfl hl (by decide) rfl (fun ls hl => ?_)
        refine lv_iinc (v := nI (b + 1)) (lv' := [(5, .int (nI (b + 1))), (2, .long (ckI w0 (b + 1))), (0, .ref h0), (1, .int (nI fr)), (4, .int (nI k))]) hx hb dX0_checkOf_60 hl (k := 4) rfl (nI_add (b) 1) (by decide) rfl (fun ls hl => ?_)
        refine lv_goto (tgt := 31) hx hb dX0_checkOf_63 (by decide) ?_
        exact ih (b + 1) (by omega) (by omega) H locs ls (hP.sub [0, 1] rfl) (hD.sub [0, 1] (by decide) rfl) hS (lv_sub hl [2, 3, 1, 4, 0] rfl)
      · refine lv_lload_n hx hb dX0_checkOf_46 rfl (lv_at hl 2 rfl) ?_
        refine lv_iconst (v := nI 1) hx hb dX0_checkOf_47 (by decide) ?_
        refine lv_lushr hx hb dX0_checkOf_48 rfl ?_
        refine lv_ldc2 hx hb hown (hts (.constantLong RX0 173 (2197175160)) (by decide +kernel)) dX0_checkOf_49 ?_
        refine lv_lxor hx hb dX0_checkOf_52 ?_
        refine lv_goto (tgt := 59) hx hb dX0_checkOf_53 (by decide) ?_
        refine zr_topl (ckI w0 (b + 1)) (by first | exact ckS_t c43 | exact ckS_f c43) ?_
        refine lv_lstore_n (lv' := [(2, .long (ckI w0 (b + 1))), (0, .ref h0), (1, .int (nI fr)), (4, .int (nI k)), (5, .int (nI b))]) hx hb dX0_checkOf_59 rfl hl (by decide) rfl (fun ls hl => ?_)
        refine lv_iinc (v := nI (b + 1)) (lv' := [(5, .int (nI (b + 1))), (2, .long (ckI w0 (b + 1))), (0, .ref h0), (1, .int (nI fr)), (4, .int (nI k))]) hx hb dX0_checkOf_60 hl (k := 4) rfl (nI_add (b) 1) (by decide) rfl (fun ls hl => ?_)
        refine lv_goto (tgt := 31) hx hb dX0_checkOf_63 (by decide) ?_
        exact ih (b + 1) (by omega) (by omega) H locs ls (hP.sub [0, 1] rfl) (hD.sub [0, 1] (by decide) rfl) hS (lv_sub hl [2, 3, 1, 4, 0] rfl)
set_option maxHeartbeats 4000000 in
set_option maxRecDepth 100000 in
theorem lp_X0_checkOf {p : Program} {l : Launch} {e : Env} {R : Room} {s : State} {m : MethodId} {args : Array Value} {below : List Frame} {meth : Method} {c : Code} {cells slots : Nat} {Q : State → Prop} {A : Nat → Prop} {H0 : Heap} {dC : Nat → ClassId} {dI : Nat → Nat → Nat} (h0 aN aL aK aC aT aO : Nat) (ld tb ob : Nat) (off : Bool) (wl : Int32) (wd : Int64) (cJ : ClassId) (now : Nat → Int64) (fr : Nat) (hf : fr + 9 ≤ 9504) (hx : p.tables.exec = Jvm.exec) (hb : c.code = cX0_checkOf) (hml : c.maxLocals = 6) (hown : s.vm.findClass RX0 = some m.cls) (hts : ∀ w ∈ wsX0_checkOf, w.before args s = true) (hA : ∀ q : Nat, H0.size ≤ q → A q) (hK : va_K (dC, dI) vwCl [(cJ, .long)] s) (hRf : 1 ≤ R.frames) (hRl : 22 ≤ R.locals) (hRc : cells ≤ R.cells) (hRs : slots ≤ R.slots) (kk : ∀  (H : Heap) (locs : List Loc) (ls : Array Slot), va_P (dC, dI) vwCl [(h0, .inr (0, [.ref aN, .ref aL, .ref aK, .ref aC, .int (nI ld), .ref aT, .int (nI tb), .ref aO, .int (nI ob), .int (bI off), .int wl, .long wd])), (aN, .inl (cJ, 9504, .inr (.inl now)))] H → va_D A [(h0, .inr (0, [.ref aN, .ref aL, .ref aK, .ref aC, .int (nI ld), .ref aT, .int (nI tb), .ref aO, .int (nI ob), .int (bI off), .int wl, .long wd])), (aN, .inl (cJ, 9504, .inr (.inl now)))] → va_S A H0 H locs → lv_has ls 6 [(0, .ref h0), (1, .int (nI fr)), (2, .long (ckW now fr 66)), (4, .int (nI 66))] → W p l e R s m args below meth c H locs cells slots Q (F0 m 72 ls [])) : ∀ (n : Nat) (k : Nat), 66 + 1 ≤ k + n → k ≤ 66 → ∀ (H : Heap) (locs : List Loc) (ls : Array Slot), va_P (dC, dI) vwCl [(h0, .inr (0, [.ref aN, .ref aL, .ref aK, .ref aC, .int (nI ld), .ref aT, .int (nI tb), .ref aO, .int (nI ob), .int (bI off), .int wl, .long wd])), (aN, .inl (cJ, 9504, .inr (.inl now)))] H → va_D A [(h0, .inr (0, [.ref aN, .ref aL, .ref aK, .ref aC, .int (nI ld), .ref aT, .int (nI tb), .ref aO, .int (nI ob), .int (bI off), .int wl, .long wd])), (aN, .inl (cJ, 9504, .inr (.inl now)))] → va_S A H0 H locs → lv_has ls 6 [(0, .ref h0), (1, .int (nI fr)), (2, .long (ckW now fr k)), (4, .int (nI k))] → W p l e R s m args below meth c H locs cells slots Q (F0 m 7 ls []) := by
  have hi0 : ∀ w ∈ u_ws RX0 TX0 12, w ∈ wsX0_checkOf := by decide +kernel
  intro n
  induction n with
  | zero => intro k  hm hi; exact absurd hm (by omega)
  | succ n ih =>
    intro k  hm hi H locs ls hP hD hS hl
    refine lv_iload hx hb dX0_checkOf_7 (lv_at hl 3 rfl) ?_
    refine lv_bipush (v := nI 66) hx hb dX0_checkOf_9 (by decide) ?_
    refine zr_icmp_ge (tgt := 72) hx hb (by omega) (by omega) dX0_checkOf_11 (by decide) (fun c11 => ?_) (fun c11 => ?_)
    · obtain rfl : 66 = k := by omega
      exact kk  H locs ls (hP.sub [0, 1] rfl) (hD.sub [0, 1] (by decide) rfl) hS (lv_sub hl [0, 1, 2, 3] rfl)
    · refine lv_lload_n hx hb dX0_checkOf_14 rfl (lv_at hl 2 rfl) ?_
      refine lv_aload_n hx hb dX0_checkOf_15 rfl (lv_at hl 0 rfl) ?_
      refine va_get (D := (dC, dI)) (ci := 0) (v := .ref aN) (C := RX0) (T := TX0) (N := 12) hx hb hts hi0 hown hK hP 0 rfl rfl 0 (by decide) (hts (.fieldLink RX0 9 "CellRack" "now" "[J") (by decide +kernel)) (fun _ h9 => h9) rfl dX0_checkOf_16 ?_
      refine lv_iload_n hx hb dX0_checkOf_19 rfl (lv_at hl 1 rfl) ?_
      refine lv_iload hx hb dX0_checkOf_20 (lv_at hl 3 rfl) ?_
      have hPc := hP.sub (ws' := [(aN, .inl (cJ, 9504, .inr (.inl now)))]) [1] rfl
      have hDc := hD.sub (ws' := [(aN, .inl (cJ, 9504, .inr (.inl now)))]) [1] (by decide) rfl
      have hKc := hK.sub (tys' := [(cJ, .long)]) [0] rfl
      have hFc := va_free (wc := [(aN, .inl (cJ, 9504, .inr (.inl now)))]) hD hS hA [1] rfl
      refine va_calli (va_runS (As := [.ref aN, .int (nI fr), .int (nI k)]) (rest := [.long (ckW now fr k)]) ⟨hx, hb, hml, hown, hts⟩ (c_X0_byteOf l dC dI H.size aN cJ 9504 now fr k (by decide) (by omega) (by omega)) (va_cwS 3 hts gX0_checkOf_X0_byteOf rfl rfl rfl (by decide +kernel) ⟨Nat.le_trans (by decide) hRf, Nat.le_trans (by decide) hRl⟩) ⟨fun a U g mk q => by obtain ⟨q0, q1, qP, qK, qD⟩ := q; exact ⟨q0, q1, qP, va_K.moved (u := U) (U := U.calling g mk a) (Vm.Alike.refl U.vm) qK, qD⟩, fun U hU hW => ⟨rfl, by rw [hU], by rw [hU]; exact hPc, va_K.moved hW.alike hKc, hDc.weaken (fun _ _ _ _ => trivial)⟩⟩ rfl rfl hl.1 rfl (lv_room (Nat.le_of_ble_eq_true rfl)) dX0_checkOf_22 ⟨hRc, hRs⟩) hS (fun q _ h => hFc q h) hFc (fun r_1 u t H1 locs ht hvm hw hB hz1 hk1 hS => ?_)
      obtain ⟨hP1, hK1, hD1⟩ := hB
      rw [ht] at hP1
      obtain ⟨hPn, hDn⟩ := va_join (wr := [(h0, .inr (0, [.ref aN, .ref aL, .ref aK, .ref aC, .int (nI ld), .ref aT, .int (nI tb), .ref aO, .int (nI ob), .int (bI off), .int wl, .long wd]))]) (w1 := [(aN, .inl (cJ, 9504, .inr (.inl now)))]) hP hD [1] [0] rfl rfl (by decide) (by decide) hk1 hFc hP1 hD1
      clear hP hD hP1 hD1 hK1 hPc hDc hKc hFc hk1 hz1 hvm ht
      generalize H1 = H at hPn hS ⊢
      have hP := hPn
      have hD := hDn
      clear hPn hDn
      replace hP : va_P (dC, dI) vwCl [(h0, .inr (0, [.ref aN, .ref aL, .ref aK, .ref aC, .int (nI ld), .ref aT, .int (nI tb), .ref aO, .int (nI ob), .int (bI off), .int wl, .long wd])), (aN, .inl (cJ, 9504, .inr (.inl now)))] H := hP
      replace hD : va_D A [(h0, .inr (0, [.ref aN, .ref aL, .ref aK, .ref aC, .int (nI ld), .ref aT, .int (nI tb), .ref aO, .int (nI ob), .int (bI off), .int wl, .long wd])), (aN, .inl (cJ, 9504, .inr (.inl now)))] := hD
      refine W.widen (k := cells) (n := slots) (Nat.le_refl _) (Nat.le_refl _) ?_
      obtain rfl := hw
      refine lv_i2l hx hb dX0_checkOf_25 rfl ?_
      refine lv_lxor hx hb dX0_checkOf_26 ?_
      refine lv_lstore_n (lv' := [(2, .long ((ckW now fr k) ^^^ ((nI (byF now fr k)).toInt64))), (0, .ref h0), (1, .int (nI fr)), (4, .int (nI k))]) hx hb dX0_checkOf_27 rfl hl (by decide) rfl (fun ls hl => ?_)
      refine lv_iconst (v := nI 0) hx hb dX0_checkOf_28 (by decide) ?_
      refine lv_istore (lv' := [(5, .int (nI 0)), (2, .long ((ckW now fr k) ^^^ ((nI (byF now fr k)).toInt64))), (0, .ref h0), (1, .int (nI fr)), (4, .int (nI k))]) hx hb dX0_checkOf_29 hl (by decide) rfl (fun ls hl => ?_)
      refine lp_X0_checkOf_in h0 aN aL aK aC aT aO ld tb ob off wl wd cJ now fr hf (ckW now fr k ^^^ (nI (byF now fr k)).toInt64) k hx hb hml hown hts hA hK (fun  H locs ls hP hD hS hl => ?_) 9 0 (by omega) (by omega) _ _ _ (hP.sub [0, 1] rfl) (hD.sub [0, 1] (by decide) rfl) hS (lv_sub hl [2, 3, 1, 4, 0] rfl)
      refine lv_iinc (v := nI (k + 1)) (lv' := [(4, .int (nI (k + 1))), (0, .ref h0), (1, .int (nI fr)), (2, .long (ckI (ckW now fr k ^^^ (nI (byF now fr k)).toInt64) 8))]) hx hb dX0_checkOf_66 hl (k := 3) rfl (nI_add (k) 1) (by decide) rfl (fun ls hl => ?_)
      refine lv_goto (tgt := 7) hx hb dX0_checkOf_69 (by decide) ?_
      exact ih (k + 1) (by omega) (by omega) H locs ls (hP.sub [0, 1] rfl) (hD.sub [0, 1] (by decide) rfl) hS (lv_sub hl [1, 2, 3, 0] rfl)
set_option maxHeartbeats 4000000 in
set_option maxRecDepth 100000 in
theorem c_X0_checkOf (l : Launch) (dC : Nat → ClassId) (dI : Nat → Nat → Nat) (sz : Nat) (h0 aN aL aK aC aT aO : Nat) (ld tb ob : Nat) (off : Bool) (wl : Int32) (wd : Int64) (cJ : ClassId) (now : Nat → Int64) (fr : Nat) (hf : fr + 9 ≤ 9504) : Met l yX0_checkOf wsX0_checkOf ({ frames := 1, cells := 0, slots := 0, locals := 22 }) (va_Pc [.ref h0, .int (nI fr)] (fun U => U.heap.size = sz ∧ va_P (dC, dI) vwCl [(h0, .inr (0, [.ref aN, .ref aL, .ref aK, .ref aC, .int (nI ld), .ref aT, .int (nI tb), .ref aO, .int (nI ob), .int (bI off), .int wl, .long wd])), (aN, .inl (cJ, 9504, .inr (.inl now)))] U.heap ∧ va_K (dC, dI) vwCl [(cJ, .long)] U ∧ va_D (fun _ => True) [(h0, .inr (0, [.ref aN, .ref aL, .ref aK, .ref aC, .int (nI ld), .ref aT, .int (nI tb), .ref aO, .int (nI ob), .int (bI off), .int wl, .long wd])), (aN, .inl (cJ, 9504, .inr (.inl now)))])) (va_Ql (fun (r : Int64) (_ : Unit) => r = ckV now fr) (fun (_ : Unit) t => va_P (dC, dI) vwCl [(h0, .inr (0, [.ref aN, .ref aL, .ref aK, .ref aC, .int (nI ld), .ref aT, .int (nI tb), .ref aO, .int (nI ob), .int (bI off), .int wl, .long wd])), (aN, .inl (cJ, 9504, .inr (.inl now)))] t.heap ∧ va_K (dC, dI) vwCl [(cJ, .long)] t ∧ va_D (va_A [(h0, .inr (0, [.ref aN, .ref aL, .ref aK, .ref aC, .int (nI ld), .ref aT, .int (nI tb), .ref aO, .int (nI ob), .int (bI off), .int wl, .long wd])), (aN, .inl (cJ, 9504, .inr (.inl now)))] sz) [(h0, .inr (0, [.ref aN, .ref aL, .ref aK, .ref aC, .int (nI ld), .ref aT, .int (nI tb), .ref aO, .int (nI ob), .int (bI off), .int wl, .long wd])), (aN, .inl (cJ, 9504, .inr (.inl now)))]) (va_A [(h0, .inr (0, [.ref aN, .ref aL, .ref aK, .ref aC, .int (nI ld), .ref aT, .int (nI tb), .ref aO, .int (nI ob), .int (bI off), .int wl, .long wd])), (aN, .inl (cJ, 9504, .inr (.inl now)))] sz)) 0 0 (va_A [(h0, .inr (0, [.ref aN, .ref aL, .ref aK, .ref aC, .int (nI ld), .ref aT, .int (nI tb), .ref aO, .int (nI ob), .int (bI off), .int wl, .long wd])), (aN, .inl (cJ, 9504, .inr (.inl now)))] sz) := by
  refine Met.ofW (cc := cX0_checkOf) (maxL := 6) (ret := some .long) (by decide) rfl ?_
  intro p e s m args below meth c s₁ B hml hv
  obtain ⟨rfl, hsz, hP, hK, hD0⟩ := hv
  have hx := B.exec
  have hb := B.bytes
  have hr := B.returns
  have hts := atoms_spec (ws := wsX0_checkOf) B.pre
  have hown : s.vm.findClass RX0 = some m.cls := findClass_of_methodNamed B.named
  have hlocks := B.notSynchronized
  subst hsz
  have hD := hD0.self (sz := s.heap.size)
  generalize hAe : va_A [(h0, .inr (0, [.ref aN, .ref aL, .ref aK, .ref aC, .int (nI ld), .ref aT, .int (nI tb), .ref aO, .int (nI ob), .int (bI off), .int wl, .long wd])), (aN, .inl (cJ, 9504, .inr (.inl now)))] s.heap.size = A at hD ⊢
  have hA : ∀ q : Nat, s.heap.size ≤ q → A q := fun q h => by rw [← hAe]; exact Or.inr h
  generalize hH : s.heap = H at hP ⊢
  have hS : va_S A s.heap H [] := by rw [hH]; exact va_S.rf
  replace hP : va_P (dC, dI) vwCl [(h0, .inr (0, [.ref aN, .ref aL, .ref aK, .ref aC, .int (nI ld), .ref aT, .int (nI tb), .ref aO, .int (nI ob), .int (bI off), .int wl, .long wd])), (aN, .inl (cJ, 9504, .inr (.inl now)))] H := hP
  have hl := lv_entry ([.ref h0, .int (nI fr)]) (n := 6) (Nat.le_of_ble_eq_true rfl)
  rw [lg_entry_eq]
  generalize (lg_sl ([.ref h0, .int (nI fr)]) ++ List.replicate (6 - (lg_sl ([.ref h0, .int (nI fr)])).length) Slot.unset).toArray = ls at hl ⊢
  have hl : lv_has ls 6 [(0, .ref h0), (1, .int (nI fr))] := hl
  refine lv_ldc2 hx hb hown (hts (.constantLong RX0 171 (4294967295)) (by decide +kernel)) dX0_checkOf_0 ?_
  refine lv_lstore_n (lv' := [(2, .long 4294967295), (0, .ref h0), (1, .int (nI fr))]) hx hb dX0_checkOf_3 rfl hl (by decide) rfl (fun ls hl => ?_)
  refine lv_iconst (v := nI 0) hx hb dX0_checkOf_4 (by decide) ?_
  refine lv_istore (lv' := [(4, .int (nI 0)), (2, .long 4294967295), (0, .ref h0), (1, .int (nI fr))]) hx hb dX0_checkOf_5 hl (by decide) rfl (fun ls hl => ?_)
  refine lp_X0_checkOf h0 aN aL aK aC aT aO ld tb ob off wl wd cJ now fr hf hx hb hml hown hts hA hK (Nat.le_of_ble_eq_true rfl) (Nat.le_of_ble_eq_true rfl) (Nat.zero_le _) (Nat.zero_le _) (fun  H locs ls hP hD hS hl => ?_) 67 0 (by omega) (by omega) _ _ _ (hP.sub [0, 1] rfl) (hD.sub [0, 1] (by decide) rfl) hS (lv_sub hl [2, 3, 1, 0] rfl)
  refine lv_lload_n hx hb dX0_checkOf_72 rfl (lv_at hl 2 rfl) ?_
  refine lv_ldc2 hx hb hown (hts (.constantLong RX0 171 (4294967295)) (by decide +kernel)) dX0_checkOf_73 ?_
  refine lv_lxor hx hb dX0_checkOf_76 ?_
  have hP9 := hP.sub (ws' := [(h0, .inr (0, [.ref aN, .ref aL, .ref aK, .ref aC, .int (nI ld), .ref aT, .int (nI tb), .ref aO, .int (nI ob), .int (bI off), .int wl, .long wd])), (aN, .inl (cJ, 9504, .inr (.inl now)))]) [0, 1] rfl
  have hD9 := hD.sub (ws' := [(h0, .inr (0, [.ref aN, .ref aL, .ref aK, .ref aC, .int (nI ld), .ref aT, .int (nI tb), .ref aO, .int (nI ob), .int (bI off), .int wl, .long wd])), (aN, .inl (cJ, 9504, .inr (.inl now)))]) [0, 1] (by decide) rfl
  exact W.lret (v := (ckW now fr 66) ^^^ 4294967295) hx hb hr (fun t ht hW => ⟨⟨(ckW now fr 66) ^^^ 4294967295, (), rfl, rfl, by rw [ht]; exact hP9, va_K.moved hW.alike hK, hD9⟩, hS.F ht⟩) hS.2.2 dX0_checkOf_77
set_option maxHeartbeats 4000000 in
set_option maxRecDepth 100000 in
theorem c_X0_hasItsCheck (l : Launch) (dC : Nat → ClassId) (dI : Nat → Nat → Nat) (sz : Nat) (h0 aN aL aK aC aT aO : Nat) (ld tb ob : Nat) (off : Bool) (wl : Int32) (wd : Int64) (cJ : ClassId) (now : Nat → Int64) (fr : Nat) (hf : fr + 9 ≤ 9504) : Met l yX0_hasItsCheck wsX0_hasItsCheck ({ frames := 2, cells := 0, slots := 0, locals := 47 }) (va_Pc [.ref h0, .int (nI fr)] (fun U => U.heap.size = sz ∧ va_P (dC, dI) vwCl [(h0, .inr (0, [.ref aN, .ref aL, .ref aK, .ref aC, .int (nI ld), .ref aT, .int (nI tb), .ref aO, .int (nI ob), .int (bI off), .int wl, .long wd])), (aN, .inl (cJ, 9504, .inr (.inl now)))] U.heap ∧ va_K (dC, dI) vwCl [(cJ, .long)] U ∧ va_D (fun _ => True) [(h0, .inr (0, [.ref aN, .ref aL, .ref aK, .ref aC, .int (nI ld), .ref aT, .int (nI tb), .ref aO, .int (nI ob), .int (bI off), .int wl, .long wd])), (aN, .inl (cJ, 9504, .inr (.inl now)))])) (va_Qi (fun (r : Int32) (_ : Unit) => r = bI (icOK now fr)) (fun (_ : Unit) t => va_P (dC, dI) vwCl [(h0, .inr (0, [.ref aN, .ref aL, .ref aK, .ref aC, .int (nI ld), .ref aT, .int (nI tb), .ref aO, .int (nI ob), .int (bI off), .int wl, .long wd])), (aN, .inl (cJ, 9504, .inr (.inl now)))] t.heap ∧ va_K (dC, dI) vwCl [(cJ, .long)] t ∧ va_D (va_A [(h0, .inr (0, [.ref aN, .ref aL, .ref aK, .ref aC, .int (nI ld), .ref aT, .int (nI tb), .ref aO, .int (nI ob), .int (bI off), .int wl, .long wd])), (aN, .inl (cJ, 9504, .inr (.inl now)))] sz) [(h0, .inr (0, [.ref aN, .ref aL, .ref aK, .ref aC, .int (nI ld), .ref aT, .int (nI tb), .ref aO, .int (nI ob), .int (bI off), .int wl, .long wd])), (aN, .inl (cJ, 9504, .inr (.inl now)))]) (va_A [(h0, .inr (0, [.ref aN, .ref aL, .ref aK, .ref aC, .int (nI ld), .ref aT, .int (nI tb), .ref aO, .int (nI ob), .int (bI off), .int wl, .long wd])), (aN, .inl (cJ, 9504, .inr (.inl now)))] sz)) 0 0 (va_A [(h0, .inr (0, [.ref aN, .ref aL, .ref aK, .ref aC, .int (nI ld), .ref aT, .int (nI tb), .ref aO, .int (nI ob), .int (bI off), .int wl, .long wd])), (aN, .inl (cJ, 9504, .inr (.inl now)))] sz) := by
  refine Met.ofW (cc := cX0_hasItsCheck) (maxL := 2) (ret := some .boolean) (by decide) rfl ?_
  intro p e s m args below meth c s₁ B hml hv
  obtain ⟨rfl, hsz, hP, hK, hD0⟩ := hv
  have hx := B.exec
  have hb := B.bytes
  have hr := B.returns
  have hts := atoms_spec (ws := wsX0_hasItsCheck) B.pre
  have hown : s.vm.findClass RX0 = some m.cls := findClass_of_methodNamed B.named
  have hlocks := B.notSynchronized
  subst hsz
  have hD := hD0.self (sz := s.heap.size)
  generalize hAe : va_A [(h0, .inr (0, [.ref aN, .ref aL, .ref aK, .ref aC, .int (nI ld), .ref aT, .int (nI tb), .ref aO, .int (nI ob), .int (bI off), .int wl, .long wd])), (aN, .inl (cJ, 9504, .inr (.inl now)))] s.heap.size = A at hD ⊢
  have hA : ∀ q : Nat, s.heap.size ≤ q → A q := fun q h => by rw [← hAe]; exact Or.inr h
  generalize hH : s.heap = H at hP ⊢
  have hS : va_S A s.heap H [] := by rw [hH]; exact va_S.rf
  replace hP : va_P (dC, dI) vwCl [(h0, .inr (0, [.ref aN, .ref aL, .ref aK, .ref aC, .int (nI ld), .ref aT, .int (nI tb), .ref aO, .int (nI ob), .int (bI off), .int wl, .long wd])), (aN, .inl (cJ, 9504, .inr (.inl now)))] H := hP
  have hl := lv_entry ([.ref h0, .int (nI fr)]) (n := 2) (Nat.le_of_ble_eq_true rfl)
  rw [lg_entry_eq]
  generalize (lg_sl ([.ref h0, .int (nI fr)]) ++ List.replicate (2 - (lg_sl ([.ref h0, .int (nI fr)])).length) Slot.unset).toArray = ls at hl ⊢
  have hl : lv_has ls 2 [(0, .ref h0), (1, .int (nI fr))] := hl
  have hi0 : ∀ w ∈ u_ws RX0 TX0 12, w ∈ wsX0_hasItsCheck := by decide +kernel
  refine lv_aload_n hx hb dX0_hasItsCheck_0 rfl (lv_at hl 0 rfl) ?_
  refine va_get (D := (dC, dI)) (ci := 0) (v := .ref aN) (C := RX0) (T := TX0) (N := 12) hx hb hts hi0 hown hK hP 0 rfl rfl 0 (by decide) (hts (.fieldLink RX0 9 "CellRack" "now" "[J") (by decide +kernel)) (fun _ h9 => h9) rfl dX0_hasItsCheck_1 ?_
  refine lv_iload_n hx hb dX0_hasItsCheck_4 rfl (lv_at hl 1 rfl) ?_
  refine lv_bipush (v := nI 8) hx hb dX0_hasItsCheck_5 (by decide) ?_
  refine zr_iadd hx hb dX0_hasItsCheck_7 ?_
  refine zr_lald hx hb hK hP 1 0 rfl rfl (by omega) (by omega) dX0_hasItsCheck_8 ?_
  refine lv_bipush (v := nI 16) hx hb dX0_hasItsCheck_9 (by decide) ?_
  refine lv_lushr hx hb dX0_hasItsCheck_11 rfl ?_
  refine lv_aload_n hx hb dX0_hasItsCheck_12 rfl (lv_at hl 0 rfl) ?_
  refine lv_iload_n hx hb dX0_hasItsCheck_13 rfl (lv_at hl 1 rfl) ?_
  have hPc := hP.sub (ws' := [(h0, .inr (0, [.ref aN, .ref aL, .ref aK, .ref aC, .int (nI ld), .ref aT, .int (nI tb), .ref aO, .int (nI ob), .int (bI off), .int wl, .long wd])), (aN, .inl (cJ, 9504, .inr (.inl now)))]) [0, 1] rfl
  have hDc := hD.sub (ws' := [(h0, .inr (0, [.ref aN, .ref aL, .ref aK, .ref aC, .int (nI ld), .ref aT, .int (nI tb), .ref aO, .int (nI ob), .int (bI off), .int wl, .long wd])), (aN, .inl (cJ, 9504, .inr (.inl now)))]) [0, 1] (by decide) rfl
  have hKc := hK.sub (tys' := [(cJ, .long)]) [0] rfl
  have hFc := va_free (wc := [(h0, .inr (0, [.ref aN, .ref aL, .ref aK, .ref aC, .int (nI ld), .ref aT, .int (nI tb), .ref aO, .int (nI ob), .int (bI off), .int wl, .long wd])), (aN, .inl (cJ, 9504, .inr (.inl now)))]) hD hS hA [0, 1] rfl
  refine va_calll (va_runV (As := [.int (nI fr)]) (rest := [.long (((now (fr + 8)).toUInt64 >>> ((nI 16).toInt64.toUInt64 &&& Int64.toUInt64 63)).toInt64)]) ⟨hx, hb, hml, hown, hts⟩ (c_X0_checkOf l dC dI H.size h0 aN aL aK aC aT aO ld tb ob off wl wd cJ now fr (by omega)) (cwV 1 hts gX0_hasItsCheck_X0_checkOf rfl rfl rfl (by decide +kernel) ⟨Nat.le_of_ble_eq_true rfl, Nat.le_of_ble_eq_true rfl⟩) ⟨fun a U g mk q => by obtain ⟨q0, q1, qP, qK, qD⟩ := q; exact ⟨q0, q1, qP, va_K.moved (u := U) (U := U.calling g mk a) (Vm.Alike.refl U.vm) qK, qD⟩, va_recv hKc hPc (ci := 0) (q0 := 0) rfl rfl, fun U hU hW => ⟨rfl, by rw [hU], by rw [hU]; exact hPc, va_K.moved hW.alike hKc, hDc.weaken (fun _ _ _ _ => trivial)⟩⟩ rfl rfl hl.1 rfl (lv_room (Nat.le_of_ble_eq_true rfl)) dX0_hasItsCheck_14 ⟨Nat.zero_le _, Nat.zero_le _⟩) hS (fun q _ h => hFc q h) hFc (fun r_1 u t H1 locs ht hvm hw hB hz1 hk1 hS => ?_)
  obtain ⟨hP1, hK1, hD1⟩ := hB
  rw [ht] at hP1
  obtain ⟨hPn, hDn⟩ := va_join (wr := []) (w1 := [(h0, .inr (0, [.ref aN, .ref aL, .ref aK, .ref aC, .int (nI ld), .ref aT, .int (nI tb), .ref aO, .int (nI ob), .int (bI off), .int wl, .long wd])), (aN, .inl (cJ, 9504, .inr (.inl now)))]) hP hD [0, 1] [] rfl rfl (by decide) (by decide) hk1 hFc hP1 hD1
  clear hP hD hP1 hD1 hK1 hPc hDc hKc hFc hk1 hz1 hvm ht
  generalize H1 = H at hPn hS ⊢
  have hP := hPn
  have hD := hDn
  clear hPn hDn
  replace hP : va_P (dC, dI) vwCl [(h0, .inr (0, [.ref aN, .ref aL, .ref aK, .ref aC, .int (nI ld), .ref aT, .int (nI tb), .ref aO, .int (nI ob), .int (bI off), .int wl, .long wd])), (aN, .inl (cJ, 9504, .inr (.inl now)))] H := hP
  replace hD : va_D A [(h0, .inr (0, [.ref aN, .ref aL, .ref aK, .ref aC, .int (nI ld), .ref aT, .int (nI tb), .ref aO, .int (nI ob), .int (bI off), .int wl, .long wd])), (aN, .inl (cJ, 9504, .inr (.inl now)))] := hD
  refine W.widen (k := 0) (n := 0) (Nat.le_refl _) (Nat.le_refl _) ?_
  obtain rfl := hw
  refine W.lcmp hx hb dX0_hasItsCheck_17 ?_
  refine zr_cmp_ne (tgt := 25) hx hb dX0_hasItsCheck_18 (by decide) (fun c18 => ?_) (fun c18 => ?_)
  · refine lv_iconst (v := nI 0) hx hb dX0_hasItsCheck_25 (by decide) ?_
    refine zr_topi (bI (icOK now fr)) (by rw [show icOK now fr = false from decide_eq_false c18]; rfl) ?_
    have hP9 := hP.sub (ws' := [(h0, .inr (0, [.ref aN, .ref aL, .ref aK, .ref aC, .int (nI ld), .ref aT, .int (nI tb), .ref aO, .int (nI ob), .int (bI off), .int wl, .long wd])), (aN, .inl (cJ, 9504, .inr (.inl now)))]) [0, 1] rfl
    have hD9 := hD.sub (ws' := [(h0, .inr (0, [.ref aN, .ref aL, .ref aK, .ref aC, .int (nI ld), .ref aT, .int (nI tb), .ref aO, .int (nI ob), .int (bI off), .int wl, .long wd])), (aN, .inl (cJ, 9504, .inr (.inl now)))]) [0, 1] (by decide) rfl
    exact W.zret (v := bI (icOK now fr)) hx hb hr (zr_nar_b _) (fun t ht hW => ⟨⟨bI (icOK now fr), (), rfl, rfl, by rw [ht]; exact hP9, va_K.moved hW.alike hK, hD9⟩, hS.F ht⟩) hS.2.2 dX0_hasItsCheck_26
  · refine lv_iconst (v := nI 1) hx hb dX0_hasItsCheck_21 (by decide) ?_
    refine lv_goto (tgt := 26) hx hb dX0_hasItsCheck_22 (by decide) ?_
    refine zr_topi (bI (icOK now fr)) (by rw [show icOK now fr = true from decide_eq_true c18]; rfl) ?_
    have hP9 := hP.sub (ws' := [(h0, .inr (0, [.ref aN, .ref aL, .ref aK, .ref aC, .int (nI ld), .ref aT, .int (nI tb), .ref aO, .int (nI ob), .int (bI off), .int wl, .long wd])), (aN, .inl (cJ, 9504, .inr (.inl now)))]) [0, 1] rfl
    have hD9 := hD.sub (ws' := [(h0, .inr (0, [.ref aN, .ref aL, .ref aK, .ref aC, .int (nI ld), .ref aT, .int (nI tb), .ref aO, .int (nI ob), .int (bI off), .int wl, .long wd])), (aN, .inl (cJ, 9504, .inr (.inl now)))]) [0, 1] (by decide) rfl
    exact W.zret (v := bI (icOK now fr)) hx hb hr (zr_nar_b _) (fun t ht hW => ⟨⟨bI (icOK now fr), (), rfl, rfl, by rw [ht]; exact hP9, va_K.moved hW.alike hK, hD9⟩, hS.F ht⟩) hS.2.2 dX0_hasItsCheck_26
set_option maxHeartbeats 4000000 in
set_option maxRecDepth 100000 in
theorem c_X0_putTape (l : Launch) (dC : Nat → ClassId) (dI : Nat → Nat → Nat) (sz : Nat) (h0 aN aL aK aC aT aO : Nat) (ld tb ob : Nat) (off : Bool) (wl : Int32) (wd : Int64) (cJ cI : ClassId) (now latest tape : Nat → Int64) (kd cn : Nat → Nat) (sp tg : Nat) (hs : sp < 1056) (hk : kdOK kd) (hc : cnOK kd cn) : Met l yX0_putTape wsX0_putTape ({ frames := 2, cells := 0, slots := 0, locals := 47 }) (va_Pc [.ref h0, .int (nI sp), .int (nI tg)] (fun U => U.heap.size = sz ∧ va_P (dC, dI) vwCl [(h0, .inr (0, [.ref aN, .ref aL, .ref aK, .ref aC, .int (nI ld), .ref aT, .int (nI tb), .ref aO, .int (nI ob), .int (bI off), .int wl, .long wd])), (aN, .inl (cJ, 9504, .inr (.inl now))), (aL, .inl (cJ, 9504, .inr (.inl latest))), (aK, .inl (cI, 1056, .inl (fun i9 => nI (kd i9)))), (aC, .inl (cI, 4, .inl (fun i9 => nI (cn i9)))), (aT, .inl (cJ, 8, .inr (.inl tape)))] U.heap ∧ va_K (dC, dI) vwCl [(cJ, .long), (cI, .int)] U ∧ va_D (fun _ => True) [(h0, .inr (0, [.ref aN, .ref aL, .ref aK, .ref aC, .int (nI ld), .ref aT, .int (nI tb), .ref aO, .int (nI ob), .int (bI off), .int wl, .long wd])), (aN, .inl (cJ, 9504, .inr (.inl now))), (aL, .inl (cJ, 9504, .inr (.inl latest))), (aK, .inl (cI, 1056, .inl (fun i9 => nI (kd i9)))), (aC, .inl (cI, 4, .inl (fun i9 => nI (cn i9)))), (aT, .inl (cJ, 8, .inr (.inl tape)))])) (va_Qv (fun (_ : Unit) => True) (fun (_ : Unit) t => va_P (dC, dI) vwCl [(h0, .inr (0, [.ref aN, .ref aL, .ref aK, .ref aC, .int (nI ld), .ref aT, .int (nI tb), .ref aO, .int (nI ob), .int (bI off), .int wl, .long wd])), (aN, .inl (cJ, 9504, .inr (.inl (ptN tape now sp tg)))), (aL, .inl (cJ, 9504, .inr (.inl (ptL tape now latest sp tg)))), (aK, .inl (cI, 1056, .inl (fun i9 => nI ((va_up kd sp 2) i9)))), (aC, .inl (cI, 4, .inl (fun i9 => nI ((skC cn kd sp 2) i9)))), (aT, .inl (cJ, 8, .inr (.inl tape)))] t.heap ∧ va_K (dC, dI) vwCl [(cJ, .long), (cI, .int)] t ∧ va_D (va_A [(h0, .inr (0, [.ref aN, .ref aL, .ref aK, .ref aC, .int (nI ld), .ref aT, .int (nI tb), .ref aO, .int (nI ob), .int (bI off), .int wl, .long wd])), (aN, .inl (cJ, 9504, .inr (.inl now))), (aL, .inl (cJ, 9504, .inr (.inl latest))), (aK, .inl (cI, 1056, .inl (fun i9 => nI (kd i9)))), (aC, .inl (cI, 4, .inl (fun i9 => nI (cn i9)))), (aT, .inl (cJ, 8, .inr (.inl tape)))] sz) [(h0, .inr (0, [.ref aN, .ref aL, .ref aK, .ref aC, .int (nI ld), .ref aT, .int (nI tb), .ref aO, .int (nI ob), .int (bI off), .int wl, .long wd])), (aN, .inl (cJ, 9504, .inr (.inl (ptN tape now sp tg)))), (aL, .inl (cJ, 9504, .inr (.inl (ptL tape now latest sp tg)))), (aK, .inl (cI, 1056, .inl (fun i9 => nI ((va_up kd sp 2) i9)))), (aC, .inl (cI, 4, .inl (fun i9 => nI ((skC cn kd sp 2) i9)))), (aT, .inl (cJ, 8, .inr (.inl tape)))]) (va_A [(h0, .inr (0, [.ref aN, .ref aL, .ref aK, .ref aC, .int (nI ld), .ref aT, .int (nI tb), .ref aO, .int (nI ob), .int (bI off), .int wl, .long wd])), (aN, .inl (cJ, 9504, .inr (.inl now))), (aL, .inl (cJ, 9504, .inr (.inl latest))), (aK, .inl (cI, 1056, .inl (fun i9 => nI (kd i9)))), (aC, .inl (cI, 4, .inl (fun i9 => nI (cn i9)))), (aT, .inl (cJ, 8, .inr (.inl tape)))] sz)) 0 0 (va_A [(h0, .inr (0, [.ref aN, .ref aL, .ref aK, .ref aC, .int (nI ld), .ref aT, .int (nI tb), .ref aO, .int (nI ob), .int (bI off), .int wl, .long wd])), (aN, .inl (cJ, 9504, .inr (.inl now))), (aL, .inl (cJ, 9504, .inr (.inl latest))), (aK, .inl (cI, 1056, .inl (fun i9 => nI (kd i9)))), (aC, .inl (cI, 4, .inl (fun i9 => nI (cn i9)))), (aT, .inl (cJ, 8, .inr (.inl tape)))] sz) := by
  refine Met.ofW (cc := cX0_putTape) (maxL := 4) (ret := none) (by decide) rfl ?_
  intro p e s m args below meth c s₁ B hml hv
  obtain ⟨rfl, hsz, hP, hK, hD0⟩ := hv
  have hx := B.exec
  have hb := B.bytes
  have hr := B.returns
  have hts := atoms_spec (ws := wsX0_putTape) B.pre
  have hown : s.vm.findClass RX0 = some m.cls := findClass_of_methodNamed B.named
  have hlocks := B.notSynchronized
  subst hsz
  have hD := hD0.self (sz := s.heap.size)
  generalize hAe : va_A [(h0, .inr (0, [.ref aN, .ref aL, .ref aK, .ref aC, .int (nI ld), .ref aT, .int (nI tb), .ref aO, .int (nI ob), .int (bI off), .int wl, .long wd])), (aN, .inl (cJ, 9504, .inr (.inl now))), (aL, .inl (cJ, 9504, .inr (.inl latest))), (aK, .inl (cI, 1056, .inl (fun i9 => nI (kd i9)))), (aC, .inl (cI, 4, .inl (fun i9 => nI (cn i9)))), (aT, .inl (cJ, 8, .inr (.inl tape)))] s.heap.size = A at hD ⊢
  have hA : ∀ q : Nat, s.heap.size ≤ q → A q := fun q h => by rw [← hAe]; exact Or.inr h
  generalize hH : s.heap = H at hP ⊢
  have hS : va_S A s.heap H [] := by rw [hH]; exact va_S.rf
  replace hP : va_P (dC, dI) vwCl [(h0, .inr (0, [.ref aN, .ref aL, .ref aK, .ref aC, .int (nI ld), .ref aT, .int (nI tb), .ref aO, .int (nI ob), .int (bI off), .int wl, .long wd])), (aN, .inl (cJ, 9504, .inr (.inl now))), (aL, .inl (cJ, 9504, .inr (.inl latest))), (aK, .inl (cI, 1056, .inl (fun i9 => nI (kd i9)))), (aC, .inl (cI, 4, .inl (fun i9 => nI (cn i9)))), (aT, .inl (cJ, 8, .inr (.inl tape)))] H := hP
  have hl := lv_entry ([.ref h0, .int (nI sp), .int (nI tg)]) (n := 4) (Nat.le_of_ble_eq_true rfl)
  rw [lg_entry_eq]
  generalize (lg_sl ([.ref h0, .int (nI sp), .int (nI tg)]) ++ List.replicate (4 - (lg_sl ([.ref h0, .int (nI sp), .int (nI tg)])).length) Slot.unset).toArray = ls at hl ⊢
  have hl : lv_has ls 4 [(0, .ref h0), (1, .int (nI sp)), (2, .int (nI tg))] := hl
  have hi0 : ∀ w ∈ u_ws RX0 TX0 12, w ∈ wsX0_putTape := by decide +kernel
  refine lv_iload_n hx hb dX0_putTape_0 rfl (lv_at hl 1 rfl) ?_
  refine lv_bipush (v := nI 9) hx hb dX0_putTape_1 (by decide) ?_
  refine zr_imul hx hb dX0_putTape_3 ?_
  refine lv_istore_n (lv' := [(3, .int (nI (sp * 9))), (0, .ref h0), (1, .int (nI sp)), (2, .int (nI tg))]) hx hb dX0_putTape_4 rfl hl (by decide) rfl (fun ls hl => ?_)
  refine lv_aload_n hx hb dX0_putTape_5 rfl (lv_at hl 1 rfl) ?_
  refine va_get (D := (dC, dI)) (ci := 0) (v := .ref aT) (C := RX0) (T := TX0) (N := 12) hx hb hts hi0 hown hK hP 0 rfl rfl 5 (by decide) (hts (.fieldLink RX0 33 "CellRack" "tape" "[J") (by decide +kernel)) (fun _ h9 => h9) rfl dX0_putTape_6 ?_
  refine lv_iconst (v := nI 0) hx hb dX0_putTape_9 (by decide) ?_
  refine lv_aload_n hx hb dX0_putTape_10 rfl (lv_at hl 1 rfl) ?_
  refine va_get (D := (dC, dI)) (ci := 0) (v := .ref aN) (C := RX0) (T := TX0) (N := 12) hx hb hts hi0 hown hK hP 0 rfl rfl 0 (by decide) (hts (.fieldLink RX0 9 "CellRack" "now" "[J") (by decide +kernel)) (fun _ h9 => h9) rfl dX0_putTape_11 ?_
  refine lv_iload_n hx hb dX0_putTape_14 rfl (lv_at hl 0 rfl) ?_
  refine lv_bipush (v := nI 8) hx hb dX0_putTape_15 (by decide) ?_
  refine zr_copyl hx hb (hml.trans hl.1.symm) hown (hts (.methodLink RX0 106 arraycopyName) (by decide +kernel)) (hts (.native arraycopyName) (by decide +kernel)) (hts (.static arraycopyName) (by decide +kernel)) (hts (.initialized "java/lang/System") (by decide +kernel)) hK hP hD hS 5 1 0 rfl rfl rfl (by omega) (by omega) (by decide) (by decide) (Nat.le_of_ble_eq_true rfl) (Nat.le_of_ble_eq_true rfl) dX0_putTape_17 (fun H locs hP hD hS => ?_)
  replace hP : va_P (dC, dI) vwCl [(h0, .inr (0, [.ref aN, .ref aL, .ref aK, .ref aC, .int (nI ld), .ref aT, .int (nI tb), .ref aO, .int (nI ob), .int (bI off), .int wl, .long wd])), (aN, .inl (cJ, 9504, .inr (.inl (va_cpy tape now 0 (sp * 9) 8)))), (aL, .inl (cJ, 9504, .inr (.inl latest))), (aK, .inl (cI, 1056, .inl (fun i9 => nI (kd i9)))), (aC, .inl (cI, 4, .inl (fun i9 => nI (cn i9)))), (aT, .inl (cJ, 8, .inr (.inl tape)))] H := hP
  replace hD : va_D A [(h0, .inr (0, [.ref aN, .ref aL, .ref aK, .ref aC, .int (nI ld), .ref aT, .int (nI tb), .ref aO, .int (nI ob), .int (bI off), .int wl, .long wd])), (aN, .inl (cJ, 9504, .inr (.inl (va_cpy tape now 0 (sp * 9) 8)))), (aL, .inl (cJ, 9504, .inr (.inl latest))), (aK, .inl (cI, 1056, .inl (fun i9 => nI (kd i9)))), (aC, .inl (cI, 4, .inl (fun i9 => nI (cn i9)))), (aT, .inl (cJ, 8, .inr (.inl tape)))] := hD
  refine lv_aload_n hx hb dX0_putTape_20 rfl (lv_at hl 1 rfl) ?_
  refine va_get (D := (dC, dI)) (ci := 0) (v := .ref aN) (C := RX0) (T := TX0) (N := 12) hx hb hts hi0 hown hK hP 0 rfl rfl 0 (by decide) (hts (.fieldLink RX0 9 "CellRack" "now" "[J") (by decide +kernel)) (fun _ h9 => h9) rfl dX0_putTape_21 ?_
  refine lv_iload_n hx hb dX0_putTape_24 rfl (lv_at hl 0 rfl) ?_
  refine lv_bipush (v := nI 8) hx hb dX0_putTape_25 (by decide) ?_
  refine zr_iadd hx hb dX0_putTape_27 ?_
  refine lv_iload_n hx hb dX0_putTape_28 rfl (lv_at hl 3 rfl) ?_
  refine lv_i2l hx hb dX0_putTape_29 rfl ?_
  refine zr_last hx hb hK hP hD hS 1 0 rfl rfl (by omega) (by omega) dX0_putTape_30 (fun H locs hP hD hS => ?_)
  replace hP : va_P (dC, dI) vwCl [(h0, .inr (0, [.ref aN, .ref aL, .ref aK, .ref aC, .int (nI ld), .ref aT, .int (nI tb), .ref aO, .int (nI ob), .int (bI off), .int wl, .long wd])), (aN, .inl (cJ, 9504, .inr (.inl (va_up (va_cpy tape now 0 (sp * 9) 8) ((sp * 9) + 8) ((nI tg).toInt64))))), (aL, .inl (cJ, 9504, .inr (.inl latest))), (aK, .inl (cI, 1056, .inl (fun i9 => nI (kd i9)))), (aC, .inl (cI, 4, .inl (fun i9 => nI (cn i9)))), (aT, .inl (cJ, 8, .inr (.inl tape)))] H := hP
  replace hD : va_D A [(h0, .inr (0, [.ref aN, .ref aL, .ref aK, .ref aC, .int (nI ld), .ref aT, .int (nI tb), .ref aO, .int (nI ob), .int (bI off), .int wl, .long wd])), (aN, .inl (cJ, 9504, .inr (.inl (va_up (va_cpy tape now 0 (sp * 9) 8) ((sp * 9) + 8) ((nI tg).toInt64))))), (aL, .inl (cJ, 9504, .inr (.inl latest))), (aK, .inl (cI, 1056, .inl (fun i9 => nI (kd i9)))), (aC, .inl (cI, 4, .inl (fun i9 => nI (cn i9)))), (aT, .inl (cJ, 8, .inr (.inl tape)))] := hD
  refine lv_aload_n hx hb dX0_putTape_31 rfl (lv_at hl 1 rfl) ?_
  refine va_get (D := (dC, dI)) (ci := 0) (v := .ref aN) (C := RX0) (T := TX0) (N := 12) hx hb hts hi0 hown hK hP 0 rfl rfl 0 (by decide) (hts (.fieldLink RX0 9 "CellRack" "now" "[J") (by decide +kernel)) (fun _ h9 => h9) rfl dX0_putTape_32 ?_
  refine lv_iload_n hx hb dX0_putTape_35 rfl (lv_at hl 0 rfl) ?_
  refine lv_bipush (v := nI 8) hx hb dX0_putTape_36 (by decide) ?_
  refine zr_iadd hx hb dX0_putTape_38 ?_
  refine lv_dup2_11 hx hb dX0_putTape_39 rfl rfl ?_
  refine zr_lald hx hb hK hP 1 0 rfl rfl (by omega) (by omega) dX0_putTape_40 ?_
  refine lv_aload_n hx hb dX0_putTape_41 rfl (lv_at hl 1 rfl) ?_
  refine lv_iload_n hx hb dX0_putTape_42 rfl (lv_at hl 0 rfl) ?_
  have hPc := hP.sub (ws' := [(h0, .inr (0, [.ref aN, .ref aL, .ref aK, .ref aC, .int (nI ld), .ref aT, .int (nI tb), .ref aO, .int (nI ob), .int (bI off), .int wl, .long wd])), (aN, .inl (cJ, 9504, .inr (.inl (va_up (va_cpy tape now 0 (sp * 9) 8) ((sp * 9) + 8) ((nI tg).toInt64)))))]) [0, 1] rfl
  have hDc := hD.sub (ws' := [(h0, .inr (0, [.ref aN, .ref aL, .ref aK, .ref aC, .int (nI ld), .ref aT, .int (nI tb), .ref aO, .int (nI ob), .int (bI off), .int wl, .long wd])), (aN, .inl (cJ, 9504, .inr (.inl (va_up (va_cpy tape now 0 (sp * 9) 8) ((sp * 9) + 8) ((nI tg).toInt64)))))]) [0, 1] (by decide) rfl
  have hKc := hK.sub (tys' := [(cJ, .long)]) [0] rfl
  have hFc := va_free (wc := [(h0, .inr (0, [.ref aN, .ref aL, .ref aK, .ref aC, .int (nI ld), .ref aT, .int (nI tb), .ref aO, .int (nI ob), .int (bI off), .int wl, .long wd])), (aN, .inl (cJ, 9504, .inr (.inl (va_up (va_cpy tape now 0 (sp * 9) 8) ((sp * 9) + 8) ((nI tg).toInt64)))))]) hD hS hA [0, 1] rfl
  refine va_calll (va_runV (As := [.int (nI (sp * 9))]) (rest := [.long ((va_up (va_cpy tape now 0 (sp * 9) 8) ((sp * 9) + 8) ((nI tg).toInt64)) ((sp * 9) + 8)), .int (nI ((sp * 9) + 8)), .ref aN]) ⟨hx, hb, hml, hown, hts⟩ (c_X0_checkOf l dC dI H.size h0 aN aL aK aC aT aO ld tb ob off wl wd cJ (va_up (va_cpy tape now 0 (sp * 9) 8) ((sp * 9) + 8) ((nI tg).toInt64)) (sp * 9) (by omega)) (cwV 1 hts gX0_putTape_X0_checkOf rfl rfl rfl (by decide +kernel) ⟨Nat.le_of_ble_eq_true rfl, Nat.le_of_ble_eq_true rfl⟩) ⟨fun a U g mk q => by obtain ⟨q0, q1, qP, qK, qD⟩ := q; exact ⟨q0, q1, qP, va_K.moved (u := U) (U := U.calling g mk a) (Vm.Alike.refl U.vm) qK, qD⟩, va_recv hKc hPc (ci := 0) (q0 := 0) rfl rfl, fun U hU hW => ⟨rfl, by rw [hU], by rw [hU]; exact hPc, va_K.moved hW.alike hKc, hDc.weaken (fun _ _ _ _ => trivial)⟩⟩ rfl rfl hl.1 rfl (lv_room (Nat.le_of_ble_eq_true rfl)) dX0_putTape_43 ⟨Nat.zero_le _, Nat.zero_le _⟩) hS (fun q _ h => hFc q h) hFc (fun r_1 u t H1 locs ht hvm hw hB hz1 hk1 hS => ?_)
  obtain ⟨hP1, hK1, hD1⟩ := hB
  rw [ht] at hP1
  obtain ⟨hPn, hDn⟩ := va_join (wr := [(aL, .inl (cJ, 9504, .inr (.inl latest))), (aK, .inl (cI, 1056, .inl (fun i9 => nI (kd i9)))), (aC, .inl (cI, 4, .inl (fun i9 => nI (cn i9)))), (aT, .inl (cJ, 8, .inr (.inl tape)))]) (w1 := [(h0, .inr (0, [.ref aN, .ref aL, .ref aK, .ref aC, .int (nI ld), .ref aT, .int (nI tb), .ref aO, .int (nI ob), .int (bI off), .int wl, .long wd])), (aN, .inl (cJ, 9504, .inr (.inl (va_up (va_cpy tape now 0 (sp * 9) 8) ((sp * 9) + 8) ((nI tg).toInt64)))))]) hP hD [0, 1] [2, 3, 4, 5] rfl rfl (by decide) (by decide) hk1 hFc hP1 hD1
  clear hP hD hP1 hD1 hK1 hPc hDc hKc hFc hk1 hz1 hvm ht
  generalize H1 = H at hPn hS ⊢
  have hP := hPn
  have hD := hDn
  clear hPn hDn
  replace hP : va_P (dC, dI) vwCl [(aL, .inl (cJ, 9504, .inr (.inl latest))), (aK, .inl (cI, 1056, .inl (fun i9 => nI (kd i9)))), (aC, .inl (cI, 4, .inl (fun i9 => nI (cn i9)))), (aT, .inl (cJ, 8, .inr (.inl tape))), (h0, .inr (0, [.ref aN, .ref aL, .ref aK, .ref aC, .int (nI ld), .ref aT, .int (nI tb), .ref aO, .int (nI ob), .int (bI off), .int wl, .long wd])), (aN, .inl (cJ, 9504, .inr (.inl (va_up (va_cpy tape now 0 (sp * 9) 8) ((sp * 9) + 8) ((nI tg).toInt64)))))] H := hP
  replace hD : va_D A [(aL, .inl (cJ, 9504, .inr (.inl latest))), (aK, .inl (cI, 1056, .inl (fun i9 => nI (kd i9)))), (aC, .inl (cI, 4, .inl (fun i9 => nI (cn i9)))), (aT, .inl (cJ, 8, .inr (.inl tape))), (h0, .inr (0, [.ref aN, .ref aL, .ref aK, .ref aC, .int (nI ld), .ref aT, .int (nI tb), .ref aO, .int (nI ob), .int (bI off), .int wl, .long wd])), (aN, .inl (cJ, 9504, .inr (.inl (va_up (va_cpy tape now 0 (sp * 9) 8) ((sp * 9) + 8) ((nI tg).toInt64)))))] := hD
  refine W.widen (k := 0) (n := 0) (Nat.le_refl _) (Nat.le_refl _) ?_
  obtain rfl := hw
  refine lv_bipush (v := nI 16) hx hb dX0_putTape_46 (by decide) ?_
  refine lv_lshl hx hb dX0_putTape_48 rfl ?_
  refine lv_lor hx hb dX0_putTape_49 ?_
  refine zr_last hx hb hK hP hD hS 5 0 rfl rfl (by omega) (by omega) dX0_putTape_50 (fun H locs hP hD hS => ?_)
  replace hP : va_P (dC, dI) vwCl [(aL, .inl (cJ, 9504, .inr (.inl latest))), (aK, .inl (cI, 1056, .inl (fun i9 => nI (kd i9)))), (aC, .inl (cI, 4, .inl (fun i9 => nI (cn i9)))), (aT, .inl (cJ, 8, .inr (.inl tape))), (h0, .inr (0, [.ref aN, .ref aL, .ref aK, .ref aC, .int (nI ld), .ref aT, .int (nI tb), .ref aO, .int (nI ob), .int (bI off), .int wl, .long wd])), (aN, .inl (cJ, 9504, .inr (.inl (va_up (va_up (va_cpy tape now 0 (sp * 9) 8) ((sp * 9) + 8) ((nI tg).toInt64)) ((sp * 9) + 8) (((va_up (va_cpy tape now 0 (sp * 9) 8) ((sp * 9) + 8) ((nI tg).toInt64)) ((sp * 9) + 8)) ||| ((ckV (va_up (va_cpy tape now 0 (sp * 9) 8) ((sp * 9) + 8) ((nI tg).toInt64)) (sp * 9)) <<< ((nI 16).toInt64 &&& 63)))))))] H := hP
  replace hD : va_D A [(aL, .inl (cJ, 9504, .inr (.inl latest))), (aK, .inl (cI, 1056, .inl (fun i9 => nI (kd i9)))), (aC, .inl (cI, 4, .inl (fun i9 => nI (cn i9)))), (aT, .inl (cJ, 8, .inr (.inl tape))), (h0, .inr (0, [.ref aN, .ref aL, .ref aK, .ref aC, .int (nI ld), .ref aT, .int (nI tb), .ref aO, .int (nI ob), .int (bI off), .int wl, .long wd])), (aN, .inl (cJ, 9504, .inr (.inl (va_up (va_up (va_cpy tape now 0 (sp * 9) 8) ((sp * 9) + 8) ((nI tg).toInt64)) ((sp * 9) + 8) (((va_up (va_cpy tape now 0 (sp * 9) 8) ((sp * 9) + 8) ((nI tg).toInt64)) ((sp * 9) + 8)) ||| ((ckV (va_up (va_cpy tape now 0 (sp * 9) 8) ((sp * 9) + 8) ((nI tg).toInt64)) (sp * 9)) <<< ((nI 16).toInt64 &&& 63)))))))] := hD
  refine lv_aload_n hx hb dX0_putTape_51 rfl (lv_at hl 1 rfl) ?_
  refine va_get (D := (dC, dI)) (ci := 0) (v := .ref aN) (C := RX0) (T := TX0) (N := 12) hx hb hts hi0 hown hK hP 4 rfl rfl 0 (by decide) (hts (.fieldLink RX0 9 "CellRack" "now" "[J") (by decide +kernel)) (fun _ h9 => h9) rfl dX0_putTape_52 ?_
  refine lv_iload_n hx hb dX0_putTape_55 rfl (lv_at hl 0 rfl) ?_
  refine lv_aload_n hx hb dX0_putTape_56 rfl (lv_at hl 1 rfl) ?_
  refine va_get (D := (dC, dI)) (ci := 0) (v := .ref aL) (C := RX0) (T := TX0) (N := 12) hx hb hts hi0 hown hK hP 4 rfl rfl 1 (by decide) (hts (.fieldLink RX0 13 "CellRack" "latest" "[J") (by decide +kernel)) (fun _ h9 => h9) rfl dX0_putTape_57 ?_
  refine lv_iload_n hx hb dX0_putTape_60 rfl (lv_at hl 0 rfl) ?_
  refine lv_bipush (v := nI 9) hx hb dX0_putTape_61 (by decide) ?_
  refine zr_copyl hx hb (hml.trans hl.1.symm) hown (hts (.methodLink RX0 106 arraycopyName) (by decide +kernel)) (hts (.native arraycopyName) (by decide +kernel)) (hts (.static arraycopyName) (by decide +kernel)) (hts (.initialized "java/lang/System") (by decide +kernel)) hK hP hD hS 5 0 0 rfl rfl rfl (by omega) (by omega) (by decide) (by decide) (Nat.le_of_ble_eq_true rfl) (Nat.le_of_ble_eq_true rfl) dX0_putTape_63 (fun H locs hP hD hS => ?_)
  replace hP : va_P (dC, dI) vwCl [(aL, .inl (cJ, 9504, .inr (.inl (va_cpy (va_up (va_up (va_cpy tape now 0 (sp * 9) 8) ((sp * 9) + 8) ((nI tg).toInt64)) ((sp * 9) + 8) (((va_up (va_cpy tape now 0 (sp * 9) 8) ((sp * 9) + 8) ((nI tg).toInt64)) ((sp * 9) + 8)) ||| ((ckV (va_up (va_cpy tape now 0 (sp * 9) 8) ((sp * 9) + 8) ((nI tg).toInt64)) (sp * 9)) <<< ((nI 16).toInt64 &&& 63)))) latest (sp * 9) (sp * 9) 9)))), (aK, .inl (cI, 1056, .inl (fun i9 => nI (kd i9)))), (aC, .inl (cI, 4, .inl (fun i9 => nI (cn i9)))), (aT, .inl (cJ, 8, .inr (.inl tape))), (h0, .inr (0, [.ref aN, .ref aL, .ref aK, .ref aC, .int (nI ld), .ref aT, .int (nI tb), .ref aO, .int (nI ob), .int (bI off), .int wl, .long wd])), (aN, .inl (cJ, 9504, .inr (.inl (va_up (va_up (va_cpy tape now 0 (sp * 9) 8) ((sp * 9) + 8) ((nI tg).toInt64)) ((sp * 9) + 8) (((va_up (va_cpy tape now 0 (sp * 9) 8) ((sp * 9) + 8) ((nI tg).toInt64)) ((sp * 9) + 8)) ||| ((ckV (va_up (va_cpy tape now 0 (sp * 9) 8) ((sp * 9) + 8) ((nI tg).toInt64)) (sp * 9)) <<< ((nI 16).toInt64 &&& 63)))))))] H := hP
  replace hD : va_D A [(aL, .inl (cJ, 9504, .inr (.inl (va_cpy (va_up (va_up (va_cpy tape now 0 (sp * 9) 8) ((sp * 9) + 8) ((nI tg).toInt64)) ((sp * 9) + 8) (((va_up (va_cpy tape now 0 (sp * 9) 8) ((sp * 9) + 8) ((nI tg).toInt64)) ((sp * 9) + 8)) ||| ((ckV (va_up (va_cpy tape now 0 (sp * 9) 8) ((sp * 9) + 8) ((nI tg).toInt64)) (sp * 9)) <<< ((nI 16).toInt64 &&& 63)))) latest (sp * 9) (sp * 9) 9)))), (aK, .inl (cI, 1056, .inl (fun i9 => nI (kd i9)))), (aC, .inl (cI, 4, .inl (fun i9 => nI (cn i9)))), (aT, .inl (cJ, 8, .inr (.inl tape))), (h0, .inr (0, [.ref aN, .ref aL, .ref aK, .ref aC, .int (nI ld), .ref aT, .int (nI tb), .ref aO, .int (nI ob), .int (bI off), .int wl, .long wd])), (aN, .inl (cJ, 9504, .inr (.inl (va_up (va_up (va_cpy tape now 0 (sp * 9) 8) ((sp * 9) + 8) ((nI tg).toInt64)) ((sp * 9) + 8) (((va_up (va_cpy tape now 0 (sp * 9) 8) ((sp * 9) + 8) ((nI tg).toInt64)) ((sp * 9) + 8)) ||| ((ckV (va_up (va_cpy tape now 0 (sp * 9) 8) ((sp * 9) + 8) ((nI tg).toInt64)) (sp * 9)) <<< ((nI 16).toInt64 &&& 63)))))))] := hD
  refine lv_aload_n hx hb dX0_putTape_66 rfl (lv_at hl 1 rfl) ?_
  refine lv_iload_n hx hb dX0_putTape_67 rfl (lv_at hl 2 rfl) ?_
  refine lv_iconst (v := nI 2) hx hb dX0_putTape_68 (by decide) ?_
  have hPc := hP.sub (ws' := [(h0, .inr (0, [.ref aN, .ref aL, .ref aK, .ref aC, .int (nI ld), .ref aT, .int (nI tb), .ref aO, .int (nI ob), .int (bI off), .int wl, .long wd])), (aK, .inl (cI, 1056, .inl (fun i9 => nI (kd i9)))), (aC, .inl (cI, 4, .inl (fun i9 => nI (cn i9))))]) [4, 1, 2] rfl
  have hDc := hD.sub (ws' := [(h0, .inr (0, [.ref aN, .ref aL, .ref aK, .ref aC, .int (nI ld), .ref aT, .int (nI tb), .ref aO, .int (nI ob), .int (bI off), .int wl, .long wd])), (aK, .inl (cI, 1056, .inl (fun i9 => nI (kd i9)))), (aC, .inl (cI, 4, .inl (fun i9 => nI (cn i9))))]) [4, 1, 2] (by decide) rfl
  have hKc := hK.sub (tys' := [(cI, .int)]) [1] rfl
  have hFc := va_free (wc := [(h0, .inr (0, [.ref aN, .ref aL, .ref aK, .ref aC, .int (nI ld), .ref aT, .int (nI tb), .ref aO, .int (nI ob), .int (bI off), .int wl, .long wd])), (aK, .inl (cI, 1056, .inl (fun i9 => nI (kd i9)))), (aC, .inl (cI, 4, .inl (fun i9 => nI (cn i9))))]) hD hS hA [4, 1, 2] rfl
  refine va_callv (va_runV (As := [.int (nI sp), .int (nI 2)]) (rest := []) ⟨hx, hb, hml, hown, hts⟩ (c_X0_setKind l dC dI H.size h0 aN aL aK aC aT aO ld tb ob off wl wd cI kd cn sp 2 hs (by decide) hk (cnOK_pos hc hs (hk _))) (cwV 2 hts gX0_putTape_X0_setKind rfl rfl rfl (by decide +kernel) ⟨Nat.le_of_ble_eq_true rfl, Nat.le_of_ble_eq_true rfl⟩) ⟨fun a U g mk q => by obtain ⟨q0, q1, qP, qK, qD⟩ := q; exact ⟨q0, q1, qP, va_K.moved (u := U) (U := U.calling g mk a) (Vm.Alike.refl U.vm) qK, qD⟩, va_recv hKc hPc (ci := 0) (q0 := 0) rfl rfl, fun U hU hW => ⟨rfl, by rw [hU], by rw [hU]; exact hPc, va_K.moved hW.alike hKc, hDc.weaken (fun _ _ _ _ => trivial)⟩⟩ rfl rfl hl.1 rfl (lv_room (Nat.le_of_ble_eq_true rfl)) dX0_putTape_69 ⟨Nat.zero_le _, Nat.zero_le _⟩) hS (fun q _ h => hFc q h) hFc (fun u t H1 locs ht hvm hw hB hz1 hk1 hS => ?_)
  obtain ⟨hP1, hK1, hD1⟩ := hB
  rw [ht] at hP1
  obtain ⟨hPn, hDn⟩ := va_join (wr := [(aL, .inl (cJ, 9504, .inr (.inl (va_cpy (va_up (va_up (va_cpy tape now 0 (sp * 9) 8) ((sp * 9) + 8) ((nI tg).toInt64)) ((sp * 9) + 8) (((va_up (va_cpy tape now 0 (sp * 9) 8) ((sp * 9) + 8) ((nI tg).toInt64)) ((sp * 9) + 8)) ||| ((ckV (va_up (va_cpy tape now 0 (sp * 9) 8) ((sp * 9) + 8) ((nI tg).toInt64)) (sp * 9)) <<< ((nI 16).toInt64 &&& 63)))) latest (sp * 9) (sp * 9) 9)))), (aT, .inl (cJ, 8, .inr (.inl tape))), (aN, .inl (cJ, 9504, .inr (.inl (va_up (va_up (va_cpy tape now 0 (sp * 9) 8) ((sp * 9) + 8) ((nI tg).toInt64)) ((sp * 9) + 8) (((va_up (va_cpy tape now 0 (sp * 9) 8) ((sp * 9) + 8) ((nI tg).toInt64)) ((sp * 9) + 8)) ||| ((ckV (va_up (va_cpy tape now 0 (sp * 9) 8) ((sp * 9) + 8) ((nI tg).toInt64)) (sp * 9)) <<< ((nI 16).toInt64 &&& 63)))))))]) (w1 := [(h0, .inr (0, [.ref aN, .ref aL, .ref aK, .ref aC, .int (nI ld), .ref aT, .int (nI tb), .ref aO, .int (nI ob), .int (bI off), .int wl, .long wd])), (aK, .inl (cI, 1056, .inl (fun i9 => nI ((va_up kd sp 2) i9)))), (aC, .inl (cI, 4, .inl (fun i9 => nI ((skC cn kd sp 2) i9))))]) hP hD [4, 1, 2] [0, 3, 5] rfl rfl (by decide) (by decide) hk1 hFc hP1 hD1
  clear hP hD hP1 hD1 hK1 hPc hDc hKc hFc hk1 hz1 hvm ht
  generalize H1 = H at hPn hS ⊢
  have hP := hPn
  have hD := hDn
  clear hPn hDn
  replace hP : va_P (dC, dI) vwCl [(aL, .inl (cJ, 9504, .inr (.inl (va_cpy (va_up (va_up (va_cpy tape now 0 (sp * 9) 8) ((sp * 9) + 8) ((nI tg).toInt64)) ((sp * 9) + 8) (((va_up (va_cpy tape now 0 (sp * 9) 8) ((sp * 9) + 8) ((nI tg).toInt64)) ((sp * 9) + 8)) ||| ((ckV (va_up (va_cpy tape now 0 (sp * 9) 8) ((sp * 9) + 8) ((nI tg).toInt64)) (sp * 9)) <<< ((nI 16).toInt64 &&& 63)))) latest (sp * 9) (sp * 9) 9)))), (aT, .inl (cJ, 8, .inr (.inl tape))), (aN, .inl (cJ, 9504, .inr (.inl (va_up (va_up (va_cpy tape now 0 (sp * 9) 8) ((sp * 9) + 8) ((nI tg).toInt64)) ((sp * 9) + 8) (((va_up (va_cpy tape now 0 (sp * 9) 8) ((sp * 9) + 8) ((nI tg).toInt64)) ((sp * 9) + 8)) ||| ((ckV (va_up (va_cpy tape now 0 (sp * 9) 8) ((sp * 9) + 8) ((nI tg).toInt64)) (sp * 9)) <<< ((nI 16).toInt64 &&& 63))))))), (h0, .inr (0, [.ref aN, .ref aL, .ref aK, .ref aC, .int (nI ld), .ref aT, .int (nI tb), .ref aO, .int (nI ob), .int (bI off), .int wl, .long wd])), (aK, .inl (cI, 1056, .inl (fun i9 => nI ((va_up kd sp 2) i9)))), (aC, .inl (cI, 4, .inl (fun i9 => nI ((skC cn kd sp 2) i9))))] H := hP
  replace hD : va_D A [(aL, .inl (cJ, 9504, .inr (.inl (va_cpy (va_up (va_up (va_cpy tape now 0 (sp * 9) 8) ((sp * 9) + 8) ((nI tg).toInt64)) ((sp * 9) + 8) (((va_up (va_cpy tape now 0 (sp * 9) 8) ((sp * 9) + 8) ((nI tg).toInt64)) ((sp * 9) + 8)) ||| ((ckV (va_up (va_cpy tape now 0 (sp * 9) 8) ((sp * 9) + 8) ((nI tg).toInt64)) (sp * 9)) <<< ((nI 16).toInt64 &&& 63)))) latest (sp * 9) (sp * 9) 9)))), (aT, .inl (cJ, 8, .inr (.inl tape))), (aN, .inl (cJ, 9504, .inr (.inl (va_up (va_up (va_cpy tape now 0 (sp * 9) 8) ((sp * 9) + 8) ((nI tg).toInt64)) ((sp * 9) + 8) (((va_up (va_cpy tape now 0 (sp * 9) 8) ((sp * 9) + 8) ((nI tg).toInt64)) ((sp * 9) + 8)) ||| ((ckV (va_up (va_cpy tape now 0 (sp * 9) 8) ((sp * 9) + 8) ((nI tg).toInt64)) (sp * 9)) <<< ((nI 16).toInt64 &&& 63))))))), (h0, .inr (0, [.ref aN, .ref aL, .ref aK, .ref aC, .int (nI ld), .ref aT, .int (nI tb), .ref aO, .int (nI ob), .int (bI off), .int wl, .long wd])), (aK, .inl (cI, 1056, .inl (fun i9 => nI ((va_up kd sp 2) i9)))), (aC, .inl (cI, 4, .inl (fun i9 => nI ((skC cn kd sp 2) i9))))] := hD
  refine W.widen (k := 0) (n := 0) (Nat.le_refl _) (Nat.le_refl _) ?_
  have hP9 := hP.sub (ws' := [(h0, .inr (0, [.ref aN, .ref aL, .ref aK, .ref aC, .int (nI ld), .ref aT, .int (nI tb), .ref aO, .int (nI ob), .int (bI off), .int wl, .long wd])), (aN, .inl (cJ, 9504, .inr (.inl (ptN tape now sp tg)))), (aL, .inl (cJ, 9504, .inr (.inl (ptL tape now latest sp tg)))), (aK, .inl (cI, 1056, .inl (fun i9 => nI ((va_up kd sp 2) i9)))), (aC, .inl (cI, 4, .inl (fun i9 => nI ((skC cn kd sp 2) i9)))), (aT, .inl (cJ, 8, .inr (.inl tape)))]) [3, 2, 0, 4, 5, 1] rfl
  have hD9 := hD.sub (ws' := [(h0, .inr (0, [.ref aN, .ref aL, .ref aK, .ref aC, .int (nI ld), .ref aT, .int (nI tb), .ref aO, .int (nI ob), .int (bI off), .int wl, .long wd])), (aN, .inl (cJ, 9504, .inr (.inl (ptN tape now sp tg)))), (aL, .inl (cJ, 9504, .inr (.inl (ptL tape now latest sp tg)))), (aK, .inl (cI, 1056, .inl (fun i9 => nI ((va_up kd sp 2) i9)))), (aC, .inl (cI, 4, .inl (fun i9 => nI ((skC cn kd sp 2) i9)))), (aT, .inl (cJ, 8, .inr (.inl tape)))]) [3, 2, 0, 4, 5, 1] (by decide) rfl
  exact W.vret hx hb hr (fun t ht hW => ⟨⟨(), rfl, trivial, by rw [ht]; exact hP9, va_K.moved hW.alike hK, hD9⟩, hS.F ht⟩) hS.2.2 dX0_putTape_72
