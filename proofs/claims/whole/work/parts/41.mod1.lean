set_option maxHeartbeats 4000000 in
set_option maxRecDepth 100000 in
theorem c_X1_within (l : Launch) (dC : Nat → ClassId) (dI : Nat → Nat → Nat) (sz : Nat) (v a b : Int32) : Met l yX1_within wsX1_within ({ frames := 0, cells := 0, slots := 0, locals := 0 }) (va_Pc [.int v, .int a, .int b] (fun U => U.heap.size = sz ∧ va_P (dC, dI) vwCl [] U.heap ∧ va_K (dC, dI) vwCl [] U ∧ va_D (fun _ => True) [])) (va_Qi (fun (r : Int32) (_ : Unit) => r = bI (inB v a b)) (fun (_ : Unit) t => va_P (dC, dI) vwCl [] t.heap ∧ va_K (dC, dI) vwCl [] t ∧ va_D (va_A [] sz) []) (va_A [] sz)) 0 0 (va_A [] sz) := by
  refine Met.ofW (cc := cX1_within) (maxL := 3) (ret := some .boolean) (by decide) rfl ?_
  intro p e s m args below meth c s₁ B hml hv
  obtain ⟨rfl, hsz, hP, hK, hD0⟩ := hv
  have hx := B.exec
  have hb := B.bytes
  have hr := B.returns
  have hts := atoms_spec (ws := wsX1_within) B.pre
  have hown : s.vm.findClass RX1 = some m.cls := findClass_of_methodNamed B.named
  have hlocks := B.notSynchronized
  subst hsz
  have hD := hD0.self (sz := s.heap.size)
  generalize hAe : va_A [] s.heap.size = A at hD ⊢
  have hA : ∀ q : Nat, s.heap.size ≤ q → A q := fun q h => by rw [← hAe]; exact Or.inr h
  generalize hH : s.heap = H at hP ⊢
  have hS : va_S A s.heap H [] := by rw [hH]; exact va_S.rf
  replace hP : va_P (dC, dI) vwCl [] H := hP
  have hl := lv_entry ([.int v, .int a, .int b]) (n := 3) (Nat.le_of_ble_eq_true rfl)
  rw [lg_entry_eq]
  generalize (lg_sl ([.int v, .int a, .int b]) ++ List.replicate (3 - (lg_sl ([.int v, .int a, .int b])).length) Slot.unset).toArray = ls at hl ⊢
  have hl : lv_has ls 3 [(0, .int v), (1, .int a), (2, .int b)] := hl
  refine lv_iload_n hx hb dX1_within_0 rfl (lv_at hl 0 rfl) ?_
  refine lv_iload_n hx hb dX1_within_1 rfl (lv_at hl 1 rfl) ?_
  refine lv_icmp_lt (tgt := 14) hx hb dX1_within_2 (by decide) (fun c2 => ?_) (fun c2 => ?_)
  · refine lv_iconst (v := nI 0) hx hb dX1_within_14 (by decide) ?_
    refine zr_topi (bI (inB v a b)) (by first | rw [inB_f1 (by assumption)]; rfl | rw [inB_f2 (by assumption)]; rfl) ?_
    have hP9 := hP.sub (ws' := []) [] rfl
    have hD9 := hD.sub (ws' := []) [] (by decide) rfl
    exact W.zret (v := bI (inB v a b)) hx hb hr (zr_nar_b _) (fun t ht hW => ⟨⟨bI (inB v a b), (), rfl, rfl, by rw [ht]; exact hP9, va_K.moved hW.alike hK, hD9⟩, hS.F ht⟩) hS.2.2 dX1_within_15
  · refine lv_iload_n hx hb dX1_within_5 rfl (lv_at hl 0 rfl) ?_
    refine lv_iload_n hx hb dX1_within_6 rfl (lv_at hl 2 rfl) ?_
    refine lv_icmp_gt (tgt := 14) hx hb dX1_within_7 (by decide) (fun c7 => ?_) (fun c7 => ?_)
    · refine lv_iconst (v := nI 0) hx hb dX1_within_14 (by decide) ?_
      refine zr_topi (bI (inB v a b)) (by first | rw [inB_f1 (by assumption)]; rfl | rw [inB_f2 (by assumption)]; rfl) ?_
      have hP9 := hP.sub (ws' := []) [] rfl
      have hD9 := hD.sub (ws' := []) [] (by decide) rfl
      exact W.zret (v := bI (inB v a b)) hx hb hr (zr_nar_b _) (fun t ht hW => ⟨⟨bI (inB v a b), (), rfl, rfl, by rw [ht]; exact hP9, va_K.moved hW.alike hK, hD9⟩, hS.F ht⟩) hS.2.2 dX1_within_15
    · refine lv_iconst (v := nI 1) hx hb dX1_within_10 (by decide) ?_
      refine lv_goto (tgt := 15) hx hb dX1_within_11 (by decide) ?_
      refine zr_topi (bI (inB v a b)) (by rw [inB_t (by assumption) (by assumption)]; rfl) ?_
      have hP9 := hP.sub (ws' := []) [] rfl
      have hD9 := hD.sub (ws' := []) [] (by decide) rfl
      exact W.zret (v := bI (inB v a b)) hx hb hr (zr_nar_b _) (fun t ht hW => ⟨⟨bI (inB v a b), (), rfl, rfl, by rw [ht]; exact hP9, va_K.moved hW.alike hK, hD9⟩, hS.F ht⟩) hS.2.2 dX1_within_15
set_option maxHeartbeats 4000000 in
set_option maxRecDepth 100000 in
theorem c_X1_none (l : Launch) (dC : Nat → ClassId) (dI : Nat → Nat → Nat) (sz : Nat) (x y : Int32) : Met l yX1_none wsX1_none ({ frames := 1, cells := 0, slots := 0, locals := 22 }) (va_Pc [.int x, .int y] (fun U => U.heap.size = sz ∧ va_P (dC, dI) vwCl [] U.heap ∧ va_K (dC, dI) vwCl [] U ∧ va_D (fun _ => True) [])) (va_Qi (fun (r : Int32) (_ : Unit) => r = bI (!(okI x 16 && okI y 66))) (fun (_ : Unit) t => va_P (dC, dI) vwCl [] t.heap ∧ va_K (dC, dI) vwCl [] t ∧ va_D (va_A [] sz) []) (va_A [] sz)) 0 0 (va_A [] sz) := by
  refine Met.ofW (cc := cX1_none) (maxL := 2) (ret := some .boolean) (by decide) rfl ?_
  intro p e s m args below meth c s₁ B hml hv
  obtain ⟨rfl, hsz, hP, hK, hD0⟩ := hv
  have hx := B.exec
  have hb := B.bytes
  have hr := B.returns
  have hts := atoms_spec (ws := wsX1_none) B.pre
  have hown : s.vm.findClass RX1 = some m.cls := findClass_of_methodNamed B.named
  have hlocks := B.notSynchronized
  subst hsz
  have hD := hD0.self (sz := s.heap.size)
  generalize hAe : va_A [] s.heap.size = A at hD ⊢
  have hA : ∀ q : Nat, s.heap.size ≤ q → A q := fun q h => by rw [← hAe]; exact Or.inr h
  generalize hH : s.heap = H at hP ⊢
  have hS : va_S A s.heap H [] := by rw [hH]; exact va_S.rf
  replace hP : va_P (dC, dI) vwCl [] H := hP
  have hl := lv_entry ([.int x, .int y]) (n := 2) (Nat.le_of_ble_eq_true rfl)
  rw [lg_entry_eq]
  generalize (lg_sl ([.int x, .int y]) ++ List.replicate (2 - (lg_sl ([.int x, .int y])).length) Slot.unset).toArray = ls at hl ⊢
  have hl : lv_has ls 2 [(0, .int x), (1, .int y)] := hl
  refine lv_iload_n hx hb dX1_none_0 rfl (lv_at hl 0 rfl) ?_
  refine lv_iconst (v := nI 0) hx hb dX1_none_1 (by decide) ?_
  refine lv_bipush (v := nI 15) hx hb dX1_none_2 (by decide) ?_
  have hPc := hP.sub (ws' := []) [] rfl
  have hDc := hD.sub (ws' := []) [] (by decide) rfl
  have hKc := hK.sub (tys' := []) [] rfl
  have hFc := va_free (wc := []) hD hS hA [] rfl
  refine va_calli (va_runS (As := [.int x, .int (nI 0), .int (nI 15)]) (rest := []) ⟨hx, hb, hml, hown, hts⟩ (c_X1_within l dC dI H.size x (nI 0) (nI 15)) (va_cwS 3 hts gX1_none_X1_within rfl rfl rfl (by decide +kernel) ⟨Nat.le_of_ble_eq_true rfl, Nat.le_of_ble_eq_true rfl⟩) ⟨fun a U g mk q => by obtain ⟨q0, q1, qP, qK, qD⟩ := q; exact ⟨q0, q1, qP, va_K.moved (u := U) (U := U.calling g mk a) (Vm.Alike.refl U.vm) qK, qD⟩, fun U hU hW => ⟨rfl, by rw [hU], by rw [hU]; exact hPc, va_K.moved hW.alike hKc, hDc.weaken (fun _ _ _ _ => trivial)⟩⟩ rfl rfl hl.1 rfl (lv_room (Nat.le_of_ble_eq_true rfl)) dX1_none_4 ⟨Nat.zero_le _, Nat.zero_le _⟩) hS (fun q _ h => hFc q h) hFc (fun r_1 u t H1 locs ht hvm hw hB hz1 hk1 hS => ?_)
  obtain ⟨hP1, hK1, hD1⟩ := hB
  rw [ht] at hP1
  obtain ⟨hPn, hDn⟩ := va_join (wr := []) (w1 := []) hP hD [] [] rfl rfl (by decide) (by decide) hk1 hFc hP1 hD1
  clear hP hD hP1 hD1 hK1 hPc hDc hKc hFc hk1 hz1 hvm ht
  generalize H1 = H at hPn hS ⊢
  have hP := hPn
  have hD := hDn
  clear hPn hDn
  replace hP : va_P (dC, dI) vwCl [] H := hP
  replace hD : va_D A [] := hD
  refine W.widen (k := 0) (n := 0) (Nat.le_refl _) (Nat.le_refl _) ?_
  obtain rfl := hw
  refine zr_topi (bI (okI x 16)) (by rw [inB_ok _ (by decide)]) ?_
  refine zr_ifb_eq (tgt := 20) hx hb dX1_none_7 (by decide) (fun c7 => ?_) (fun c7 => ?_)
  · refine lv_iconst (v := nI 1) hx hb dX1_none_20 (by decide) ?_
    refine lv_goto (tgt := 25) hx hb dX1_none_21 (by decide) ?_
    refine zr_topi (bI (!(okI x 16 && okI y 66))) (by first | rw [show okI x 16 = false from c7]; rfl | rw [show okI y 66 = false from c17, Bool.and_false]; rfl) ?_
    have hP9 := hP.sub (ws' := []) [] rfl
    have hD9 := hD.sub (ws' := []) [] (by decide) rfl
    exact W.zret (v := bI (!(okI x 16 && okI y 66))) hx hb hr (zr_nar_b _) (fun t ht hW => ⟨⟨bI (!(okI x 16 && okI y 66)), (), rfl, rfl, by rw [ht]; exact hP9, va_K.moved hW.alike hK, hD9⟩, hS.F ht⟩) hS.2.2 dX1_none_25
  · refine lv_iload_n hx hb dX1_none_10 rfl (lv_at hl 1 rfl) ?_
    refine lv_iconst (v := nI 0) hx hb dX1_none_11 (by decide) ?_
    refine lv_bipush (v := nI 65) hx hb dX1_none_12 (by decide) ?_
    have hPc := hP.sub (ws' := []) [] rfl
    have hDc := hD.sub (ws' := []) [] (by decide) rfl
    have hKc := hK.sub (tys' := []) [] rfl
    have hFc := va_free (wc := []) hD hS hA [] rfl
    refine va_calli (va_runS (As := [.int y, .int (nI 0), .int (nI 65)]) (rest := []) ⟨hx, hb, hml, hown, hts⟩ (c_X1_within l dC dI H.size y (nI 0) (nI 65)) (va_cwS 3 hts gX1_none_X1_within rfl rfl rfl (by decide +kernel) ⟨Nat.le_of_ble_eq_true rfl, Nat.le_of_ble_eq_true rfl⟩) ⟨fun a U g mk q => by obtain ⟨q0, q1, qP, qK, qD⟩ := q; exact ⟨q0, q1, qP, va_K.moved (u := U) (U := U.calling g mk a) (Vm.Alike.refl U.vm) qK, qD⟩, fun U hU hW => ⟨rfl, by rw [hU], by rw [hU]; exact hPc, va_K.moved hW.alike hKc, hDc.weaken (fun _ _ _ _ => trivial)⟩⟩ rfl rfl hl.1 rfl (lv_room (Nat.le_of_ble_eq_true rfl)) dX1_none_14 ⟨Nat.zero_le _, Nat.zero_le _⟩) hS (fun q _ h => hFc q h) hFc (fun r_2 u t H1 locs ht hvm hw hB hz1 hk1 hS => ?_)
    obtain ⟨hP1, hK1, hD1⟩ := hB
    rw [ht] at hP1
    obtain ⟨hPn, hDn⟩ := va_join (wr := []) (w1 := []) hP hD [] [] rfl rfl (by decide) (by decide) hk1 hFc hP1 hD1
    clear hP hD hP1 hD1 hK1 hPc hDc hKc hFc hk1 hz1 hvm ht
    generalize H1 = H at hPn hS ⊢
    have hP := hPn
    have hD := hDn
    clear hPn hDn
    replace hP : va_P (dC, dI) vwCl [] H := hP
    replace hD : va_D A [] := hD
    refine W.widen (k := 0) (n := 0) (Nat.le_refl _) (Nat.le_refl _) ?_
    obtain rfl := hw
    refine zr_topi (bI (okI y 66)) (by rw [inB_ok _ (by decide)]) ?_
    refine zr_ifb_ne (tgt := 24) hx hb dX1_none_17 (by decide) (fun c17 => ?_) (fun c17 => ?_)
    · refine lv_iconst (v := nI 0) hx hb dX1_none_24 (by decide) ?_
      refine zr_topi (bI (!(okI x 16 && okI y 66))) (by rw [show okI x 16 = true from c7, show okI y 66 = true from c17]; rfl) ?_
      have hP9 := hP.sub (ws' := []) [] rfl
      have hD9 := hD.sub (ws' := []) [] (by decide) rfl
      exact W.zret (v := bI (!(okI x 16 && okI y 66))) hx hb hr (zr_nar_b _) (fun t ht hW => ⟨⟨bI (!(okI x 16 && okI y 66)), (), rfl, rfl, by rw [ht]; exact hP9, va_K.moved hW.alike hK, hD9⟩, hS.F ht⟩) hS.2.2 dX1_none_25
    · refine lv_iconst (v := nI 1) hx hb dX1_none_20 (by decide) ?_
      refine lv_goto (tgt := 25) hx hb dX1_none_21 (by decide) ?_
      refine zr_topi (bI (!(okI x 16 && okI y 66))) (by first | rw [show okI x 16 = false from c7]; rfl | rw [show okI y 66 = false from c17, Bool.and_false]; rfl) ?_
      have hP9 := hP.sub (ws' := []) [] rfl
      have hD9 := hD.sub (ws' := []) [] (by decide) rfl
      exact W.zret (v := bI (!(okI x 16 && okI y 66))) hx hb hr (zr_nar_b _) (fun t ht hW => ⟨⟨bI (!(okI x 16 && okI y 66)), (), rfl, rfl, by rw [ht]; exact hP9, va_K.moved hW.alike hK, hD9⟩, hS.F ht⟩) hS.2.2 dX1_none_25
set_option maxHeartbeats 4000000 in
set_option maxRecDepth 100000 in
theorem c_X1_noDisk (l : Launch) (dC : Nat → ClassId) (dI : Nat → Nat → Nat) (sz : Nat) (x : Int32) : Met l yX1_noDisk wsX1_noDisk ({ frames := 1, cells := 0, slots := 0, locals := 22 }) (va_Pc [.int x] (fun U => U.heap.size = sz ∧ va_P (dC, dI) vwCl [] U.heap ∧ va_K (dC, dI) vwCl [] U ∧ va_D (fun _ => True) [])) (va_Qi (fun (r : Int32) (_ : Unit) => r = bI (!okI x 16)) (fun (_ : Unit) t => va_P (dC, dI) vwCl [] t.heap ∧ va_K (dC, dI) vwCl [] t ∧ va_D (va_A [] sz) []) (va_A [] sz)) 0 0 (va_A [] sz) := by
  refine Met.ofW (cc := cX1_noDisk) (maxL := 1) (ret := some .boolean) (by decide) rfl ?_
  intro p e s m args below meth c s₁ B hml hv
  obtain ⟨rfl, hsz, hP, hK, hD0⟩ := hv
  have hx := B.exec
  have hb := B.bytes
  have hr := B.returns
  have hts := atoms_spec (ws := wsX1_noDisk) B.pre
  have hown : s.vm.findClass RX1 = some m.cls := findClass_of_methodNamed B.named
  have hlocks := B.notSynchronized
  subst hsz
  have hD := hD0.self (sz := s.heap.size)
  generalize hAe : va_A [] s.heap.size = A at hD ⊢
  have hA : ∀ q : Nat, s.heap.size ≤ q → A q := fun q h => by rw [← hAe]; exact Or.inr h
  generalize hH : s.heap = H at hP ⊢
  have hS : va_S A s.heap H [] := by rw [hH]; exact va_S.rf
  replace hP : va_P (dC, dI) vwCl [] H := hP
  have hl := lv_entry ([.int x]) (n := 1) (Nat.le_of_ble_eq_true rfl)
  rw [lg_entry_eq]
  generalize (lg_sl ([.int x]) ++ List.replicate (1 - (lg_sl ([.int x])).length) Slot.unset).toArray = ls at hl ⊢
  have hl : lv_has ls 1 [(0, .int x)] := hl
  refine lv_iload_n hx hb dX1_noDisk_0 rfl (lv_at hl 0 rfl) ?_
  refine lv_iconst (v := nI 0) hx hb dX1_noDisk_1 (by decide) ?_
  refine lv_bipush (v := nI 15) hx hb dX1_noDisk_2 (by decide) ?_
  have hPc := hP.sub (ws' := []) [] rfl
  have hDc := hD.sub (ws' := []) [] (by decide) rfl
  have hKc := hK.sub (tys' := []) [] rfl
  have hFc := va_free (wc := []) hD hS hA [] rfl
  refine va_calli (va_runS (As := [.int x, .int (nI 0), .int (nI 15)]) (rest := []) ⟨hx, hb, hml, hown, hts⟩ (c_X1_within l dC dI H.size x (nI 0) (nI 15)) (va_cwS 3 hts gX1_noDisk_X1_within rfl rfl rfl (by decide +kernel) ⟨Nat.le_of_ble_eq_true rfl, Nat.le_of_ble_eq_true rfl⟩) ⟨fun a U g mk q => by obtain ⟨q0, q1, qP, qK, qD⟩ := q; exact ⟨q0, q1, qP, va_K.moved (u := U) (U := U.calling g mk a) (Vm.Alike.refl U.vm) qK, qD⟩, fun U hU hW => ⟨rfl, by rw [hU], by rw [hU]; exact hPc, va_K.moved hW.alike hKc, hDc.weaken (fun _ _ _ _ => trivial)⟩⟩ rfl rfl hl.1 rfl (lv_room (Nat.le_of_ble_eq_true rfl)) dX1_noDisk_4 ⟨Nat.zero_le _, Nat.zero_le _⟩) hS (fun q _ h => hFc q h) hFc (fun r_1 u t H1 locs ht hvm hw hB hz1 hk1 hS => ?_)
  obtain ⟨hP1, hK1, hD1⟩ := hB
  rw [ht] at hP1
  obtain ⟨hPn, hDn⟩ := va_join (wr := []) (w1 := []) hP hD [] [] rfl rfl (by decide) (by decide) hk1 hFc hP1 hD1
  clear hP hD hP1 hD1 hK1 hPc hDc hKc hFc hk1 hz1 hvm ht
  generalize H1 = H at hPn hS ⊢
  have hP := hPn
  have hD := hDn
  clear hPn hDn
  replace hP : va_P (dC, dI) vwCl [] H := hP
  replace hD : va_D A [] := hD
  refine W.widen (k := 0) (n := 0) (Nat.le_refl _) (Nat.le_refl _) ?_
  obtain rfl := hw
  refine zr_topi (bI (okI x 16)) (by rw [inB_ok _ (by decide)]) ?_
  refine zr_ifb_ne (tgt := 14) hx hb dX1_noDisk_7 (by decide) (fun c7 => ?_) (fun c7 => ?_)
  · refine lv_iconst (v := nI 0) hx hb dX1_noDisk_14 (by decide) ?_
    refine zr_topi (bI (!okI x 16)) (by rw [show okI x 16 = true from c7]; rfl) ?_
    have hP9 := hP.sub (ws' := []) [] rfl
    have hD9 := hD.sub (ws' := []) [] (by decide) rfl
    exact W.zret (v := bI (!okI x 16)) hx hb hr (zr_nar_b _) (fun t ht hW => ⟨⟨bI (!okI x 16), (), rfl, rfl, by rw [ht]; exact hP9, va_K.moved hW.alike hK, hD9⟩, hS.F ht⟩) hS.2.2 dX1_noDisk_15
  · refine lv_iconst (v := nI 1) hx hb dX1_noDisk_10 (by decide) ?_
    refine lv_goto (tgt := 15) hx hb dX1_noDisk_11 (by decide) ?_
    refine zr_topi (bI (!okI x 16)) (by rw [show okI x 16 = false from c7]; rfl) ?_
    have hP9 := hP.sub (ws' := []) [] rfl
    have hD9 := hD.sub (ws' := []) [] (by decide) rfl
    exact W.zret (v := bI (!okI x 16)) hx hb hr (zr_nar_b _) (fun t ht hW => ⟨⟨bI (!okI x 16), (), rfl, rfl, by rw [ht]; exact hP9, va_K.moved hW.alike hK, hD9⟩, hS.F ht⟩) hS.2.2 dX1_noDisk_15
set_option maxHeartbeats 4000000 in
set_option maxRecDepth 100000 in
theorem c_X1_spot (l : Launch) (dC : Nat → ClassId) (dI : Nat → Nat → Nat) (sz : Nat) (di ce : Nat) : Met l yX1_spot wsX1_spot ({ frames := 0, cells := 0, slots := 0, locals := 0 }) (va_Pc [.int (nI di), .int (nI ce)] (fun U => U.heap.size = sz ∧ va_P (dC, dI) vwCl [] U.heap ∧ va_K (dC, dI) vwCl [] U ∧ va_D (fun _ => True) [])) (va_Qi (fun (r : Int32) (_ : Unit) => r = nI (66 * di + ce)) (fun (_ : Unit) t => va_P (dC, dI) vwCl [] t.heap ∧ va_K (dC, dI) vwCl [] t ∧ va_D (va_A [] sz) []) (va_A [] sz)) 0 0 (va_A [] sz) := by
  refine Met.ofW (cc := cX1_spot) (maxL := 2) (ret := some .int) (by decide) rfl ?_
  intro p e s m args below meth c s₁ B hml hv
  obtain ⟨rfl, hsz, hP, hK, hD0⟩ := hv
  have hx := B.exec
  have hb := B.bytes
  have hr := B.returns
  have hts := atoms_spec (ws := wsX1_spot) B.pre
  have hown : s.vm.findClass RX1 = some m.cls := findClass_of_methodNamed B.named
  have hlocks := B.notSynchronized
  subst hsz
  have hD := hD0.self (sz := s.heap.size)
  generalize hAe : va_A [] s.heap.size = A at hD ⊢
  have hA : ∀ q : Nat, s.heap.size ≤ q → A q := fun q h => by rw [← hAe]; exact Or.inr h
  generalize hH : s.heap = H at hP ⊢
  have hS : va_S A s.heap H [] := by rw [hH]; exact va_S.rf
  replace hP : va_P (dC, dI) vwCl [] H := hP
  have hl := lv_entry ([.int (nI di), .int (nI ce)]) (n := 2) (Nat.le_of_ble_eq_true rfl)
  rw [lg_entry_eq]
  generalize (lg_sl ([.int (nI di), .int (nI ce)]) ++ List.replicate (2 - (lg_sl ([.int (nI di), .int (nI ce)])).length) Slot.unset).toArray = ls at hl ⊢
  have hl : lv_has ls 2 [(0, .int (nI di)), (1, .int (nI ce))] := hl
  refine lv_bipush (v := nI 66) hx hb dX1_spot_0 (by decide) ?_
  refine lv_iload_n hx hb dX1_spot_2 rfl (lv_at hl 0 rfl) ?_
  refine zr_imul hx hb dX1_spot_3 ?_
  refine lv_iload_n hx hb dX1_spot_4 rfl (lv_at hl 1 rfl) ?_
  refine zr_iadd hx hb dX1_spot_5 ?_
  have hP9 := hP.sub (ws' := []) [] rfl
  have hD9 := hD.sub (ws' := []) [] (by decide) rfl
  exact W.iret (v := nI ((66 * di) + ce)) hx hb hr (fun t ht hW => ⟨⟨nI ((66 * di) + ce), (), rfl, rfl, by rw [ht]; exact hP9, va_K.moved hW.alike hK, hD9⟩, hS.F ht⟩) hS.2.2 dX1_spot_6
set_option maxHeartbeats 4000000 in
set_option maxRecDepth 100000 in
theorem c_X1_thrown (l : Launch) (dC : Nat → ClassId) (dI : Nat → Nat → Nat) (sz : Nat) (g0 bT bO bL bW bB bD bX : Nat) (th tp os : Nat) (dn lf : Int64) (mf : Bool) : Met l yX1_thrown wsX1_thrown ({ frames := 0, cells := 0, slots := 0, locals := 0 }) (va_Pc [.ref g0] (fun U => U.heap.size = sz ∧ va_P (dC, dI) vwCl [(g0, .inr (1, [.int (nI th), .ref bT, .int (nI tp), .ref bO, .int (nI os), .ref bL, .ref bW, .ref bB, .ref bD, .long dn, .long lf, .int (bI mf), .ref bX]))] U.heap ∧ va_K (dC, dI) vwCl [] U ∧ va_D (fun _ => True) [(g0, .inr (1, [.int (nI th), .ref bT, .int (nI tp), .ref bO, .int (nI os), .ref bL, .ref bW, .ref bB, .ref bD, .long dn, .long lf, .int (bI mf), .ref bX]))])) (va_Qi (fun (r : Int32) (_ : Unit) => r = nI th) (fun (_ : Unit) t => va_P (dC, dI) vwCl [(g0, .inr (1, [.int (nI th), .ref bT, .int (nI tp), .ref bO, .int (nI os), .ref bL, .ref bW, .ref bB, .ref bD, .long dn, .long lf, .int (bI mf), .ref bX]))] t.heap ∧ va_K (dC, dI) vwCl [] t ∧ va_D (va_A [(g0, .inr (1, [.int (nI th), .ref bT, .int (nI tp), .ref bO, .int (nI os), .ref bL, .ref bW, .ref bB, .ref bD, .long dn, .long lf, .int (bI mf), .ref bX]))] sz) [(g0, .inr (1, [.int (nI th), .ref bT, .int (nI tp), .ref bO, .int (nI os), .ref bL, .ref bW, .ref bB, .ref bD, .long dn, .long lf, .int (bI mf), .ref bX]))]) (va_A [(g0, .inr (1, [.int (nI th), .ref bT, .int (nI tp), .ref bO, .int (nI os), .ref bL, .ref bW, .ref bB, .ref bD, .long dn, .long lf, .int (bI mf), .ref bX]))] sz)) 0 0 (va_A [(g0, .inr (1, [.int (nI th), .ref bT, .int (nI tp), .ref bO, .int (nI os), .ref bL, .ref bW, .ref bB, .ref bD, .long dn, .long lf, .int (bI mf), .ref bX]))] sz) := by
  refine Met.ofW (cc := cX1_thrown) (maxL := 1) (ret := some .int) (by decide) rfl ?_
  intro p e s m args below meth c s₁ B hml hv
  obtain ⟨rfl, hsz, hP, hK, hD0⟩ := hv
  have hx := B.exec
  have hb := B.bytes
  have hr := B.returns
  have hts := atoms_spec (ws := wsX1_thrown) B.pre
  have hown : s.vm.findClass RX1 = some m.cls := findClass_of_methodNamed B.named
  have hlocks := B.notSynchronized
  subst hsz
  have hD := hD0.self (sz := s.heap.size)
  generalize hAe : va_A [(g0, .inr (1, [.int (nI th), .ref bT, .int (nI tp), .ref bO, .int (nI os), .ref bL, .ref bW, .ref bB, .ref bD, .long dn, .long lf, .int (bI mf), .ref bX]))] s.heap.size = A at hD ⊢
  have hA : ∀ q : Nat, s.heap.size ≤ q → A q := fun q h => by rw [← hAe]; exact Or.inr h
  generalize hH : s.heap = H at hP ⊢
  have hS : va_S A s.heap H [] := by rw [hH]; exact va_S.rf
  replace hP : va_P (dC, dI) vwCl [(g0, .inr (1, [.int (nI th), .ref bT, .int (nI tp), .ref bO, .int (nI os), .ref bL, .ref bW, .ref bB, .ref bD, .long dn, .long lf, .int (bI mf), .ref bX]))] H := hP
  have hl := lv_entry ([.ref g0]) (n := 1) (Nat.le_of_ble_eq_true rfl)
  rw [lg_entry_eq]
  generalize (lg_sl ([.ref g0]) ++ List.replicate (1 - (lg_sl ([.ref g0])).length) Slot.unset).toArray = ls at hl ⊢
  have hl : lv_has ls 1 [(0, .ref g0)] := hl
  have hi1 : ∀ w ∈ u_ws RX1 TX1 13, w ∈ wsX1_thrown := by decide +kernel
  refine lv_aload_n hx hb dX1_thrown_0 rfl (lv_at hl 0 rfl) ?_
  refine va_get (D := (dC, dI)) (ci := 1) (v := .int (nI th)) (C := RX1) (T := TX1) (N := 13) hx hb hts hi1 hown hK hP 0 rfl rfl 0 (by decide) (hts (.fieldLink RX1 40 "CellRackModel" "thrown" "I") (by decide +kernel)) (fun _ h9 => h9) rfl dX1_thrown_1 ?_
  have hP9 := hP.sub (ws' := [(g0, .inr (1, [.int (nI th), .ref bT, .int (nI tp), .ref bO, .int (nI os), .ref bL, .ref bW, .ref bB, .ref bD, .long dn, .long lf, .int (bI mf), .ref bX]))]) [0] rfl
  have hD9 := hD.sub (ws' := [(g0, .inr (1, [.int (nI th), .ref bT, .int (nI tp), .ref bO, .int (nI os), .ref bL, .ref bW, .ref bB, .ref bD, .long dn, .long lf, .int (bI mf), .ref bX]))]) [0] (by decide) rfl
  exact W.iret (v := nI th) hx hb hr (fun t ht hW => ⟨⟨nI th, (), rfl, rfl, by rw [ht]; exact hP9, va_K.moved hW.alike hK, hD9⟩, hS.F ht⟩) hS.2.2 dX1_thrown_4
set_option maxHeartbeats 4000000 in
set_option maxRecDepth 100000 in
theorem c_X1_fails (l : Launch) (dC : Nat → ClassId) (dI : Nat → Nat → Nat) (sz : Nat) (g0 bT bO bL bW bB bD bX : Nat) (th tp os : Nat) (dn lf : Int64) (mf : Bool) (bad : Bool) (cd : Nat) : Met l yX1_fails wsX1_fails ({ frames := 0, cells := 0, slots := 0, locals := 0 }) (va_Pc [.ref g0, .int (bI bad), .int (nI cd)] (fun U => U.heap.size = sz ∧ va_P (dC, dI) vwCl [(g0, .inr (1, [.int (nI th), .ref bT, .int (nI tp), .ref bO, .int (nI os), .ref bL, .ref bW, .ref bB, .ref bD, .long dn, .long lf, .int (bI mf), .ref bX]))] U.heap ∧ va_K (dC, dI) vwCl [] U ∧ va_D (fun _ => True) [(g0, .inr (1, [.int (nI th), .ref bT, .int (nI tp), .ref bO, .int (nI os), .ref bL, .ref bW, .ref bB, .ref bD, .long dn, .long lf, .int (bI mf), .ref bX]))])) (va_Qi (fun (r : Int32) (_ : Unit) => r = bI bad) (fun (_ : Unit) t => va_P (dC, dI) vwCl [(g0, .inr (1, [.int (nI (cond bad cd 0)), .ref bT, .int (nI tp), .ref bO, .int (nI os), .ref bL, .ref bW, .ref bB, .ref bD, .long dn, .long lf, .int (bI mf), .ref bX]))] t.heap ∧ va_K (dC, dI) vwCl [] t ∧ va_D (va_A [(g0, .inr (1, [.int (nI th), .ref bT, .int (nI tp), .ref bO, .int (nI os), .ref bL, .ref bW, .ref bB, .ref bD, .long dn, .long lf, .int (bI mf), .ref bX]))] sz) [(g0, .inr (1, [.int (nI (cond bad cd 0)), .ref bT, .int (nI tp), .ref bO, .int (nI os), .ref bL, .ref bW, .ref bB, .ref bD, .long dn, .long lf, .int (bI mf), .ref bX]))]) (va_A [(g0, .inr (1, [.int (nI th), .ref bT, .int (nI tp), .ref bO, .int (nI os), .ref bL, .ref bW, .ref bB, .ref bD, .long dn, .long lf, .int (bI mf), .ref bX]))] sz)) 0 0 (va_A [(g0, .inr (1, [.int (nI th), .ref bT, .int (nI tp), .ref bO, .int (nI os), .ref bL, .ref bW, .ref bB, .ref bD, .long dn, .long lf, .int (bI mf), .ref bX]))] sz) := by
  refine Met.ofW (cc := cX1_fails) (maxL := 3) (ret := some .boolean) (by decide) rfl ?_
  intro p e s m args below meth c s₁ B hml hv
  obtain ⟨rfl, hsz, hP, hK, hD0⟩ := hv
  have hx := B.exec
  have hb := B.bytes
  have hr := B.returns
  have hts := atoms_spec (ws := wsX1_fails) B.pre
  have hown : s.vm.findClass RX1 = some m.cls := findClass_of_methodNamed B.named
  have hlocks := B.notSynchronized
  subst hsz
  have hD := hD0.self (sz := s.heap.size)
  generalize hAe : va_A [(g0, .inr (1, [.int (nI th), .ref bT, .int (nI tp), .ref bO, .int (nI os), .ref bL, .ref bW, .ref bB, .ref bD, .long dn, .long lf, .int (bI mf), .ref bX]))] s.heap.size = A at hD ⊢
  have hA : ∀ q : Nat, s.heap.size ≤ q → A q := fun q h => by rw [← hAe]; exact Or.inr h
  generalize hH : s.heap = H at hP ⊢
  have hS : va_S A s.heap H [] := by rw [hH]; exact va_S.rf
  replace hP : va_P (dC, dI) vwCl [(g0, .inr (1, [.int (nI th), .ref bT, .int (nI tp), .ref bO, .int (nI os), .ref bL, .ref bW, .ref bB, .ref bD, .long dn, .long lf, .int (bI mf), .ref bX]))] H := hP
  have hl := lv_entry ([.ref g0, .int (bI bad), .int (nI cd)]) (n := 3) (Nat.le_of_ble_eq_true rfl)
  rw [lg_entry_eq]
  generalize (lg_sl ([.ref g0, .int (bI bad), .int (nI cd)]) ++ List.replicate (3 - (lg_sl ([.ref g0, .int (bI bad), .int (nI cd)])).length) Slot.unset).toArray = ls at hl ⊢
  have hl : lv_has ls 3 [(0, .ref g0), (1, .int (bI bad)), (2, .int (nI cd))] := hl
  have hi1 : ∀ w ∈ u_ws RX1 TX1 13, w ∈ wsX1_fails := by decide +kernel
  refine lv_aload_n hx hb dX1_fails_0 rfl (lv_at hl 0 rfl) ?_
  refine lv_iload_n hx hb dX1_fails_1 rfl (lv_at hl 1 rfl) ?_
  refine zr_ifb_eq (tgt := 9) hx hb dX1_fails_2 (by decide) (fun c2 => ?_) (fun c2 => ?_)
  · refine lv_iconst (v := nI 0) hx hb dX1_fails_9 (by decide) ?_
    refine va_put (D := (dC, dI)) (ci := 1) (v := .int (nI 0)) (ty := .int) (C := RX1) (T := TX1) (N := 13) hx hb hts hi1 tyX1 tyX1_ok nmX1 hown hK hP hD hS 0 rfl rfl 0 (by decide) (hts (.fieldLink RX1 40 "CellRackModel" "thrown" "I") (by decide +kernel)) (fun _ h9 => h9) rfl (by decide +kernel) (rfl) (rfl) (Nat.le_of_ble_eq_true rfl) dX1_fails_10 (fun H locs hP hD hS => ?_)
    replace hP : va_P (dC, dI) vwCl [(g0, .inr (1, [.int (nI 0), .ref bT, .int (nI tp), .ref bO, .int (nI os), .ref bL, .ref bW, .ref bB, .ref bD, .long dn, .long lf, .int (bI mf), .ref bX]))] H := hP
    replace hD : va_D A [(g0, .inr (1, [.int (nI 0), .ref bT, .int (nI tp), .ref bO, .int (nI os), .ref bL, .ref bW, .ref bB, .ref bD, .long dn, .long lf, .int (bI mf), .ref bX]))] := hD
    refine lv_iload_n hx hb dX1_fails_13 rfl (lv_at hl 1 rfl) ?_
    have hP9 : va_P (dC, dI) vwCl [(g0, .inr (1, [.int (nI (cond bad cd 0)), .ref bT, .int (nI tp), .ref bO, .int (nI os), .ref bL, .ref bW, .ref bB, .ref bD, .long dn, .long lf, .int (bI mf), .ref bX]))] H := by rw [c2]; exact hP.sub (ws' := [(g0, .inr (1, [.int (nI 0), .ref bT, .int (nI tp), .ref bO, .int (nI os), .ref bL, .ref bW, .ref bB, .ref bD, .long dn, .long lf, .int (bI mf), .ref bX]))]) [0] rfl
    have hD9 : va_D A [(g0, .inr (1, [.int (nI (cond bad cd 0)), .ref bT, .int (nI tp), .ref bO, .int (nI os), .ref bL, .ref bW, .ref bB, .ref bD, .long dn, .long lf, .int (bI mf), .ref bX]))] := by rw [c2]; exact hD.sub (ws' := [(g0, .inr (1, [.int (nI 0), .ref bT, .int (nI tp), .ref bO, .int (nI os), .ref bL, .ref bW, .ref bB, .ref bD, .long dn, .long lf, .int (bI mf), .ref bX]))]) [0] (by decide) rfl
    exact W.zret (v := bI bad) hx hb hr (zr_nar_b _) (fun t ht hW => ⟨⟨bI bad, (), rfl, rfl, by rw [ht]; exact hP9, va_K.moved hW.alike hK, hD9⟩, hS.F ht⟩) hS.2.2 dX1_fails_14
  · refine lv_iload_n hx hb dX1_fails_5 rfl (lv_at hl 2 rfl) ?_
    refine lv_goto (tgt := 10) hx hb dX1_fails_6 (by decide) ?_
    refine va_put (D := (dC, dI)) (ci := 1) (v := .int (nI cd)) (ty := .int) (C := RX1) (T := TX1) (N := 13) hx hb hts hi1 tyX1 tyX1_ok nmX1 hown hK hP hD hS 0 rfl rfl 0 (by decide) (hts (.fieldLink RX1 40 "CellRackModel" "thrown" "I") (by decide +kernel)) (fun _ h9 => h9) rfl (by decide +kernel) (rfl) (rfl) (Nat.le_of_ble_eq_true rfl) dX1_fails_10 (fun H locs hP hD hS => ?_)
    replace hP : va_P (dC, dI) vwCl [(g0, .inr (1, [.int (nI cd), .ref bT, .int (nI tp), .ref bO, .int (nI os), .ref bL, .ref bW, .ref bB, .ref bD, .long dn, .long lf, .int (bI mf), .ref bX]))] H := hP
    replace hD : va_D A [(g0, .inr (1, [.int (nI cd), .ref bT, .int (nI tp), .ref bO, .int (nI os), .ref bL, .ref bW, .ref bB, .ref bD, .long dn, .long lf, .int (bI mf), .ref bX]))] := hD
    refine lv_iload_n hx hb dX1_fails_13 rfl (lv_at hl 1 rfl) ?_
    have hP9 : va_P (dC, dI) vwCl [(g0, .inr (1, [.int (nI (cond bad cd 0)), .ref bT, .int (nI tp), .ref bO, .int (nI os), .ref bL, .ref bW, .ref bB, .ref bD, .long dn, .long lf, .int (bI mf), .ref bX]))] H := by rw [c2]; exact hP.sub (ws' := [(g0, .inr (1, [.int (nI cd), .ref bT, .int (nI tp), .ref bO, .int (nI os), .ref bL, .ref bW, .ref bB, .ref bD, .long dn, .long lf, .int (bI mf), .ref bX]))]) [0] rfl
    have hD9 : va_D A [(g0, .inr (1, [.int (nI (cond bad cd 0)), .ref bT, .int (nI tp), .ref bO, .int (nI os), .ref bL, .ref bW, .ref bB, .ref bD, .long dn, .long lf, .int (bI mf), .ref bX]))] := by rw [c2]; exact hD.sub (ws' := [(g0, .inr (1, [.int (nI cd), .ref bT, .int (nI tp), .ref bO, .int (nI os), .ref bL, .ref bW, .ref bB, .ref bD, .long dn, .long lf, .int (bI mf), .ref bX]))]) [0] (by decide) rfl
    exact W.zret (v := bI bad) hx hb hr (zr_nar_b _) (fun t ht hW => ⟨⟨bI bad, (), rfl, rfl, by rw [ht]; exact hP9, va_K.moved hW.alike hK, hD9⟩, hS.F ht⟩) hS.2.2 dX1_fails_14
set_option maxHeartbeats 4000000 in
set_option maxRecDepth 100000 in
theorem lp_X1_divide_in {p : Program} {l : Launch} {e : Env} {R : Room} {s : State} {m : MethodId} {args : Array Value} {below : List Frame} {meth : Method} {c : Code} {cells slots : Nat} {Q : State → Prop} {A : Nat → Prop} {H0 : Heap} {dC : Nat → ClassId} {dI : Nat → Nat → Nat} (g0 bT bO bL bW bB bD bX : Nat) (th tp os : Nat) (dn lf : Int64) (mf : Bool) (cZ : ClassId) (b : Nat → Bool) (i : Nat) (hi5 : i < 528) (hx : p.tables.exec = Jvm.exec) (hb : c.code = cX1_divide) (hml : c.maxLocals = 4) (hown : s.vm.findClass RX1 = some m.cls) (hts : ∀ w ∈ wsX1_divide, w.before args s = true) (hA : ∀ q : Nat, H0.size ≤ q → A q) (hK : va_K (dC, dI) vwCl [(cZ, .boolean)] s) (kk : ∀  (H : Heap) (locs : List Loc) (ls : Array Slot), va_P (dC, dI) vwCl [(g0, .inr (1, [.int (nI th), .ref bT, .int (nI tp), .ref bO, .int (nI os), .ref bL, .ref bW, .ref bB, .ref bD, .long dn, .long lf, .int (bI mf), .ref bX])), (bX, .inl (cZ, 560, .inl (fun i9 => bI ((diF b i 33) i9))))] H → va_D A [(g0, .inr (1, [.int (nI th), .ref bT, .int (nI tp), .ref bO, .int (nI os), .ref bL, .ref bW, .ref bB, .ref bD, .long dn, .long lf, .int (bI mf), .ref bX])), (bX, .inl (cZ, 560, .inl (fun i9 => bI ((diF b i 33) i9))))] → va_S A H0 H locs → lv_has ls 4 [(0, .ref g0), (1, .int (nI 560)), (2, .int (nI i))] → W p l e R s m args below meth c H locs cells slots Q (F0 m 64 ls [])) : ∀ (n : Nat) (k : Nat), 33 + 1 ≤ k + n → k ≤ 33 → ∀ (H : Heap) (locs : List Loc) (ls : Array Slot), va_P (dC, dI) vwCl [(g0, .inr (1, [.int (nI th), .ref bT, .int (nI tp), .ref bO, .int (nI os), .ref bL, .ref bW, .ref bB, .ref bD, .long dn, .long lf, .int (bI mf), .ref bX])), (bX, .inl (cZ, 560, .inl (fun i9 => bI ((diF b i k) i9))))] H → va_D A [(g0, .inr (1, [.int (nI th), .ref bT, .int (nI tp), .ref bO, .int (nI os), .ref bL, .ref bW, .ref bB, .ref bD, .long dn, .long lf, .int (bI mf), .ref bX])), (bX, .inl (cZ, 560, .inl (fun i9 => bI ((diF b i k) i9))))] → va_S A H0 H locs → lv_has ls 4 [(0, .ref g0), (1, .int (nI 560)), (2, .int (nI i)), (3, .int (nI k))] → W p l e R s m args below meth c H locs cells slots Q (F0 m 24 ls []) := by
  have hi1 : ∀ w ∈ u_ws RX1 TX1 13, w ∈ wsX1_divide := by decide +kernel
  intro n
  induction n with
  | zero => intro k  hm hi; exact absurd hm (by omega)
  | succ n ih =>
    intro k  hm hi H locs ls hP hD hS hl
    refine lv_iload_n hx hb dX1_divide_24 rfl (lv_at hl 3 rfl) ?_
    refine lv_bipush (v := nI 33) hx hb dX1_divide_25 (by decide) ?_
    refine zr_icmp_ge (tgt := 64) hx hb (by omega) (by omega) dX1_divide_27 (by decide) (fun c27 => ?_) (fun c27 => ?_)
    · obtain rfl : 33 = k := by omega
      exact kk  H locs ls (hP.sub [0, 1] rfl) (hD.sub [0, 1] (by decide) rfl) hS (lv_sub hl [0, 1, 2] rfl)
    · refine lv_aload_n hx hb dX1_divide_30 rfl (lv_at hl 0 rfl) ?_
      refine va_get (D := (dC, dI)) (ci := 1) (v := .ref bX) (C := RX1) (T := TX1) (N := 13) hx hb hts hi1 hown hK hP 0 rfl rfl 12 (by decide) (hts (.fieldLink RX1 37 "CellRackModel" "bits" "[Z") (by decide +kernel)) (fun _ h9 => h9) rfl dX1_divide_31 ?_
      refine lv_iload_n hx hb dX1_divide_34 rfl (lv_at hl 2 rfl) ?_
      refine lv_iload_n hx hb dX1_divide_35 rfl (lv_at hl 3 rfl) ?_
      refine zr_iadd hx hb dX1_divide_36 ?_
      refine lv_dup2_11 hx hb dX1_divide_37 rfl rfl ?_
      refine zr_zald hx hb hK hP 1 0 rfl rfl (by omega) (by omega) dX1_divide_38 ?_
      refine lv_ldc2 hx hb hown (hts (.constantLong RX1 48 (4394350321)) (by decide +kernel)) dX1_divide_39 ?_
      refine lv_iload_n hx hb dX1_divide_42 rfl (lv_at hl 3 rfl) ?_
      refine lv_lshr hx hb dX1_divide_43 rfl ?_
      refine lv_lconst (v := 1) hx hb dX1_divide_44 (by decide) ?_
      refine lv_land hx hb dX1_divide_45 ?_
      refine lv_lconst (v := 1) hx hb dX1_divide_46 (by decide) ?_
      refine W.lcmp hx hb dX1_divide_47 ?_
      refine zr_cmp_ne (tgt := 55) hx hb dX1_divide_48 (by decide) (fun c48 => ?_) (fun c48 => ?_)
      · refine lv_iconst (v := nI 0) hx hb dX1_divide_55 (by decide) ?_
        refine lv_ixor hx hb dX1_divide_56 ?_
        refine zr_topi (bI (diF b i k (i + k) ^^ pB k)) (by rw [show pB k = false from Bool.eq_false_iff.mpr (fun q => c48 ((pB_sh k (by omega)).mpr q)), ← zr_xorb]; rfl) ?_
        refine zr_zast hx hb hK hP hD hS 1 0 rfl rfl (by omega) (by omega) dX1_divide_57 (fun H locs hP hD hS => ?_)
        replace hP : va_P (dC, dI) vwCl [(g0, .inr (1, [.int (nI th), .ref bT, .int (nI tp), .ref bO, .int (nI os), .ref bL, .ref bW, .ref bB, .ref bD, .long dn, .long lf, .int (bI mf), .ref bX])), (bX, .inl (cZ, 560, .inl (fun i9 => bI ((va_up (diF b i k) (i + k) (diF b i k (i + k) ^^ pB k)) i9))))] H := hP
        replace hD : va_D A [(g0, .inr (1, [.int (nI th), .ref bT, .int (nI tp), .ref bO, .int (nI os), .ref bL, .ref bW, .ref bB, .ref bD, .long dn, .long lf, .int (bI mf), .ref bX])), (bX, .inl (cZ, 560, .inl (fun i9 => bI ((va_up (diF b i k) (i + k) (diF b i k (i + k) ^^ pB k)) i9))))] := hD
        refine lv_iinc (v := nI (k + 1)) (lv' := [(3, .int (nI (k + 1))), (0, .ref g0), (1, .int (nI 560)), (2, .int (nI i))]) hx hb dX1_divide_58 hl (k := 3) rfl (nI_add (k) 1) (by decide) rfl (fun ls hl => ?_)
        refine lv_goto (tgt := 24) hx hb dX1_divide_61 (by decide) ?_
        exact ih (k + 1) (by omega) (by omega) H locs ls (hP.sub [0, 1] rfl) (hD.sub [0, 1] (by decide) rfl) hS (lv_sub hl [1, 2, 3, 0] rfl)
      · refine lv_iconst (v := nI 1) hx hb dX1_divide_51 (by decide) ?_
        refine lv_goto (tgt := 56) hx hb dX1_divide_52 (by decide) ?_
        refine lv_ixor hx hb dX1_divide_56 ?_
        refine zr_topi (bI (diF b i k (i + k) ^^ pB k)) (by rw [(pB_sh k (by omega)).mp c48, ← zr_xorb]; rfl) ?_
        refine zr_zast hx hb hK hP hD hS 1 0 rfl rfl (by omega) (by omega) dX1_divide_57 (fun H locs hP hD hS => ?_)
        replace hP : va_P (dC, dI) vwCl [(g0, .inr (1, [.int (nI th), .ref bT, .int (nI tp), .ref bO, .int (nI os), .ref bL, .ref bW, .ref bB, .ref bD, .long dn, .long lf, .int (bI mf), .ref bX])), (bX, .inl (cZ, 560, .inl (fun i9 => bI ((va_up (diF b i k) (i + k) (diF b i k (i + k) ^^ pB k)) i9))))] H := hP
        replace hD : va_D A [(g0, .inr (1, [.int (nI th), .ref bT, .int (nI tp), .ref bO, .int (nI os), .ref bL, .ref bW, .ref bB, .ref bD, .long dn, .long lf, .int (bI mf), .ref bX])), (bX, .inl (cZ, 560, .inl (fun i9 => bI ((va_up (diF b i k) (i + k) (diF b i k (i + k) ^^ pB k)) i9))))] := hD
        refine lv_iinc (v := nI (k + 1)) (lv' := [(3, .int (nI (k + 1))), (0, .ref g0), (1, .int (nI 560)), (2, .int (nI i))]) hx hb dX1_divide_58 hl (k := 3) rfl (nI_add (k) 1) (by decide) rfl (fun ls hl => ?_)
        refine lv_goto (tgt := 24) hx hb dX1_divide_61 (by decide) ?_
        exact ih (k + 1) (by omega) (by omega) H locs ls (hP.sub [0, 1] rfl) (hD.sub [0, 1] (by decide) rfl) hS (lv_sub hl [1, 2, 3, 0] rfl)
set_option maxHeartbeats 4000000 in
set_option maxRecDepth 100000 in
theorem lp_X1_divide {p : Program} {l : Launch} {e : Env} {R : Room} {s : State} {m : MethodId} {args : Array Value} {below : List Frame} {meth : Method} {c : Code} {cells slots : Nat} {Q : State → Prop} {A : Nat → Prop} {H0 : Heap} {dC : Nat → ClassId} {dI : Nat → Nat → Nat} (g0 bT bO bL bW bB bD bX : Nat) (th tp os : Nat) (dn lf : Int64) (mf : Bool) (cZ : ClassId) (b : Nat → Bool) (hx : p.tables.exec = Jvm.exec) (hb : c.code = cX1_divide) (hml : c.maxLocals = 4) (hown : s.vm.findClass RX1 = some m.cls) (hts : ∀ w ∈ wsX1_divide, w.before args s = true) (hA : ∀ q : Nat, H0.size ≤ q → A q) (hK : va_K (dC, dI) vwCl [(cZ, .boolean)] s) (kk : ∀  (H : Heap) (locs : List Loc) (ls : Array Slot), va_P (dC, dI) vwCl [(g0, .inr (1, [.int (nI th), .ref bT, .int (nI tp), .ref bO, .int (nI os), .ref bL, .ref bW, .ref bB, .ref bD, .long dn, .long lf, .int (bI mf), .ref bX])), (bX, .inl (cZ, 560, .inl (fun i9 => bI ((dv b 528) i9))))] H → va_D A [(g0, .inr (1, [.int (nI th), .ref bT, .int (nI tp), .ref bO, .int (nI os), .ref bL, .ref bW, .ref bB, .ref bD, .long dn, .long lf, .int (bI mf), .ref bX])), (bX, .inl (cZ, 560, .inl (fun i9 => bI ((dv b 528) i9))))] → va_S A H0 H locs → lv_has ls 4 [(0, .ref g0), (1, .int (nI 560)), (2, .int (nI 528))] → W p l e R s m args below meth c H locs cells slots Q (F0 m 70 ls [])) : ∀ (n : Nat) (i : Nat), 528 + 1 ≤ i + n → i ≤ 528 → ∀ (H : Heap) (locs : List Loc) (ls : Array Slot), va_P (dC, dI) vwCl [(g0, .inr (1, [.int (nI th), .ref bT, .int (nI tp), .ref bO, .int (nI os), .ref bL, .ref bW, .ref bB, .ref bD, .long dn, .long lf, .int (bI mf), .ref bX])), (bX, .inl (cZ, 560, .inl (fun i9 => bI ((dv b i) i9))))] H → va_D A [(g0, .inr (1, [.int (nI th), .ref bT, .int (nI tp), .ref bO, .int (nI os), .ref bL, .ref bW, .ref bB, .ref bD, .long dn, .long lf, .int (bI mf), .ref bX])), (bX, .inl (cZ, 560, .inl (fun i9 => bI ((dv b i) i9))))] → va_S A H0 H locs → lv_has ls 4 [(0, .ref g0), (1, .int (nI 560)), (2, .int (nI i))] → W p l e R s m args below meth c H locs cells slots Q (F0 m 2 ls []) := by
  have hi1 : ∀ w ∈ u_ws RX1 TX1 13, w ∈ wsX1_divide := by decide +kernel
  intro n
  induction n with
  | zero => intro i  hm hi; exact absurd hm (by omega)
  | succ n ih =>
    intro i  hm hi H locs ls hP hD hS hl
    refine lv_iload_n hx hb dX1_divide_2 rfl (lv_at hl 2 rfl) ?_
    refine lv_bipush (v := nI 32) hx hb dX1_divide_3 (by decide) ?_
    refine zr_iadd hx hb dX1_divide_5 ?_
    refine lv_iload_n hx hb dX1_divide_6 rfl (lv_at hl 1 rfl) ?_
    refine zr_icmp_ge (tgt := 70) hx hb (by omega) (by omega) dX1_divide_7 (by decide) (fun c7 => ?_) (fun c7 => ?_)
    · obtain rfl : 528 = i := by omega
      exact kk  H locs ls (hP.sub [0, 1] rfl) (hD.sub [0, 1] (by decide) rfl) hS (lv_sub hl [0, 1, 2] rfl)
    · refine lv_aload_n hx hb dX1_divide_10 rfl (lv_at hl 0 rfl) ?_
      refine va_get (D := (dC, dI)) (ci := 1) (v := .ref bX) (C := RX1) (T := TX1) (N := 13) hx hb hts hi1 hown hK hP 0 rfl rfl 12 (by decide) (hts (.fieldLink RX1 37 "CellRackModel" "bits" "[Z") (by decide +kernel)) (fun _ h9 => h9) rfl dX1_divide_11 ?_
      refine lv_iload_n hx hb dX1_divide_14 rfl (lv_at hl 2 rfl) ?_
      refine zr_zald hx hb hK hP 1 0 rfl rfl (by omega) (by omega) dX1_divide_15 ?_
      refine zr_ifb_ne (tgt := 22) hx hb dX1_divide_16 (by decide) (fun c16 => ?_) (fun c16 => ?_)
      · refine lv_iconst (v := nI 0) hx hb dX1_divide_22 (by decide) ?_
        refine lv_istore_n (lv' := [(3, .int (nI 0)), (0, .ref g0), (1, .int (nI 560)), (2, .int (nI i))]) hx hb dX1_divide_23 rfl hl (by decide) rfl (fun ls hl => ?_)
        refine lp_X1_divide_in g0 bT bO bL bW bB bD bX th tp os dn lf mf cZ (dv b i) i (by omega) hx hb hml hown hts hA hK (fun  H locs ls hP hD hS hl => ?_) 34 0 (by omega) (by omega) _ _ _ (hP.sub [0, 1] rfl) (hD.sub [0, 1] (by decide) rfl) hS (lv_sub hl [1, 2, 3, 0] rfl)
        rw [diF_dv c16] at hP hD
        replace hP : va_P (dC, dI) vwCl [(g0, .inr (1, [.int (nI th), .ref bT, .int (nI tp), .ref bO, .int (nI os), .ref bL, .ref bW, .ref bB, .ref bD, .long dn, .long lf, .int (bI mf), .ref bX])), (bX, .inl (cZ, 560, .inl (fun i9 => bI ((dv b (i + 1)) i9))))] H := hP
        replace hD : va_D A [(g0, .inr (1, [.int (nI th), .ref bT, .int (nI tp), .ref bO, .int (nI os), .ref bL, .ref bW, .ref bB, .ref bD, .long dn, .long lf, .int (bI mf), .ref bX])), (bX, .inl (cZ, 560, .inl (fun i9 => bI ((dv b (i + 1)) i9))))] := hD
        refine lv_iinc (v := nI (i + 1)) (lv' := [(2, .int (nI (i + 1))), (0, .ref g0), (1, .int (nI 560))]) hx hb dX1_divide_64 hl (k := 2) rfl (nI_add (i) 1) (by decide) rfl (fun ls hl => ?_)
        refine lv_goto (tgt := 2) hx hb dX1_divide_67 (by decide) ?_
        exact ih (i + 1) (by omega) (by omega) H locs ls (hP.sub [0, 1] rfl) (hD.sub [0, 1] (by decide) rfl) hS (lv_sub hl [1, 2, 0] rfl)
      · refine lv_goto (tgt := 64) hx hb dX1_divide_19 (by decide) ?_
        rw [dv_skip c16] at hP hD
        replace hP : va_P (dC, dI) vwCl [(g0, .inr (1, [.int (nI th), .ref bT, .int (nI tp), .ref bO, .int (nI os), .ref bL, .ref bW, .ref bB, .ref bD, .long dn, .long lf, .int (bI mf), .ref bX])), (bX, .inl (cZ, 560, .inl (fun i9 => bI ((dv b (i + 1)) i9))))] H := hP
        replace hD : va_D A [(g0, .inr (1, [.int (nI th), .ref bT, .int (nI tp), .ref bO, .int (nI os), .ref bL, .ref bW, .ref bB, .ref bD, .long dn, .long lf, .int (bI mf), .ref bX])), (bX, .inl (cZ, 560, .inl (fun i9 => bI ((dv b (i + 1)) i9))))] := hD
        refine lv_iinc (v := nI (i + 1)) (lv' := [(2, .int (nI (i + 1))), (0, .ref g0), (1, .int (nI 560))]) hx hb dX1_divide_64 hl (k := 2) rfl (nI_add (i) 1) (by decide) rfl (fun ls hl => ?_)
        refine lv_goto (tgt := 2) hx hb dX1_divide_67 (by decide) ?_
        exact ih (i + 1) (by omega) (by omega) H locs ls (hP.sub [0, 1] rfl) (hD.sub [0, 1] (by decide) rfl) hS (lv_sub hl [1, 2, 0] rfl)
set_option maxHeartbeats 4000000 in
set_option maxRecDepth 100000 in
theorem c_X1_divide (l : Launch) (dC : Nat → ClassId) (dI : Nat → Nat → Nat) (sz : Nat) (g0 bT bO bL bW bB bD bX : Nat) (th tp os : Nat) (dn lf : Int64) (mf : Bool) (cZ : ClassId) (b : Nat → Bool) : Met l yX1_divide wsX1_divide ({ frames := 0, cells := 0, slots := 0, locals := 0 }) (va_Pc [.ref g0, .int (nI 560)] (fun U => U.heap.size = sz ∧ va_P (dC, dI) vwCl [(g0, .inr (1, [.int (nI th), .ref bT, .int (nI tp), .ref bO, .int (nI os), .ref bL, .ref bW, .ref bB, .ref bD, .long dn, .long lf, .int (bI mf), .ref bX])), (bX, .inl (cZ, 560, .inl (fun i9 => bI (b i9))))] U.heap ∧ va_K (dC, dI) vwCl [(cZ, .boolean)] U ∧ va_D (fun _ => True) [(g0, .inr (1, [.int (nI th), .ref bT, .int (nI tp), .ref bO, .int (nI os), .ref bL, .ref bW, .ref bB, .ref bD, .long dn, .long lf, .int (bI mf), .ref bX])), (bX, .inl (cZ, 560, .inl (fun i9 => bI (b i9))))])) (va_Qv (fun (_ : Unit) => True) (fun (_ : Unit) t => va_P (dC, dI) vwCl [(g0, .inr (1, [.int (nI th), .ref bT, .int (nI tp), .ref bO, .int (nI os), .ref bL, .ref bW, .ref bB, .ref bD, .long dn, .long lf, .int (bI mf), .ref bX])), (bX, .inl (cZ, 560, .inl (fun i9 => bI ((dv b 528) i9))))] t.heap ∧ va_K (dC, dI) vwCl [(cZ, .boolean)] t ∧ va_D (va_A [(g0, .inr (1, [.int (nI th), .ref bT, .int (nI tp), .ref bO, .int (nI os), .ref bL, .ref bW, .ref bB, .ref bD, .long dn, .long lf, .int (bI mf), .ref bX])), (bX, .inl (cZ, 560, .inl (fun i9 => bI (b i9))))] sz) [(g0, .inr (1, [.int (nI th), .ref bT, .int (nI tp), .ref bO, .int (nI os), .ref bL, .ref bW, .ref bB, .ref bD, .long dn, .long lf, .int (bI mf), .ref bX])), (bX, .inl (cZ, 560, .inl (fun i9 => bI ((dv b 528) i9))))]) (va_A [(g0, .inr (1, [.int (nI th), .ref bT, .int (nI tp), .ref bO, .int (nI os), .ref bL, .ref bW, .ref bB, .ref bD, .long dn, .long lf, .int (bI mf), .ref bX])), (bX, .inl (cZ, 560, .inl (fun i9 => bI (b i9))))] sz)) 0 0 (va_A [(g0, .inr (1, [.int (nI th), .ref bT, .int (nI tp), .ref bO, .int (nI os), .ref bL, .ref bW, .ref bB, .ref bD, .long dn, .long lf, .int (bI mf), .ref bX])), (bX, .inl (cZ, 560, .inl (fun i9 => bI (b i9))))] sz) := by
  refine Met.ofW (cc := cX1_divide) (maxL := 4) (ret := none) (by decide) rfl ?_
  intro p e s m args below meth c s₁ B hml hv
  obtain ⟨rfl, hsz, hP, hK, hD0⟩ := hv
  have hx := B.exec
  have hb := B.bytes
  have hr := B.returns
  have hts := atoms_spec (ws := wsX1_divide) B.pre
  have hown : s.vm.findClass RX1 = some m.cls := findClass_of_methodNamed B.named
  have hlocks := B.notSynchronized
  subst hsz
  have hD := hD0.self (sz := s.heap.size)
  generalize hAe : va_A [(g0, .inr (1, [.int (nI th), .ref bT, .int (nI tp), .ref bO, .int (nI os), .ref bL, .ref bW, .ref bB, .ref bD, .long dn, .long lf, .int (bI mf), .ref bX])), (bX, .inl (cZ, 560, .inl (fun i9 => bI (b i9))))] s.heap.size = A at hD ⊢
  have hA : ∀ q : Nat, s.heap.size ≤ q → A q := fun q h => by rw [← hAe]; exact Or.inr h
  generalize hH : s.heap = H at hP ⊢
  have hS : va_S A s.heap H [] := by rw [hH]; exact va_S.rf
  replace hP : va_P (dC, dI) vwCl [(g0, .inr (1, [.int (nI th), .ref bT, .int (nI tp), .ref bO, .int (nI os), .ref bL, .ref bW, .ref bB, .ref bD, .long dn, .long lf, .int (bI mf), .ref bX])), (bX, .inl (cZ, 560, .inl (fun i9 => bI (b i9))))] H := hP
  have hl := lv_entry ([.ref g0, .int (nI 560)]) (n := 4) (Nat.le_of_ble_eq_true rfl)
  rw [lg_entry_eq]
  generalize (lg_sl ([.ref g0, .int (nI 560)]) ++ List.replicate (4 - (lg_sl ([.ref g0, .int (nI 560)])).length) Slot.unset).toArray = ls at hl ⊢
  have hl : lv_has ls 4 [(0, .ref g0), (1, .int (nI 560))] := hl
  refine lv_iconst (v := nI 0) hx hb dX1_divide_0 (by decide) ?_
  refine lv_istore_n (lv' := [(2, .int (nI 0)), (0, .ref g0), (1, .int (nI 560))]) hx hb dX1_divide_1 rfl hl (by decide) rfl (fun ls hl => ?_)
  refine lp_X1_divide g0 bT bO bL bW bB bD bX th tp os dn lf mf cZ b hx hb hml hown hts hA hK (fun  H locs ls hP hD hS hl => ?_) 529 0 (by omega) (by omega) _ _ _ (hP.sub [0, 1] rfl) (hD.sub [0, 1] (by decide) rfl) hS (lv_sub hl [1, 2, 0] rfl)
  have hP9 := hP.sub (ws' := [(g0, .inr (1, [.int (nI th), .ref bT, .int (nI tp), .ref bO, .int (nI os), .ref bL, .ref bW, .ref bB, .ref bD, .long dn, .long lf, .int (bI mf), .ref bX])), (bX, .inl (cZ, 560, .inl (fun i9 => bI ((dv b 528) i9))))]) [0, 1] rfl
  have hD9 := hD.sub (ws' := [(g0, .inr (1, [.int (nI th), .ref bT, .int (nI tp), .ref bO, .int (nI os), .ref bL, .ref bW, .ref bB, .ref bD, .long dn, .long lf, .int (bI mf), .ref bX])), (bX, .inl (cZ, 560, .inl (fun i9 => bI ((dv b 528) i9))))]) [0, 1] (by decide) rfl
  exact W.vret hx hb hr (fun t ht hW => ⟨⟨(), rfl, trivial, by rw [ht]; exact hP9, va_K.moved hW.alike hK, hD9⟩, hS.F ht⟩) hS.2.2 dX1_divide_70
set_option maxHeartbeats 4000000 in
set_option maxRecDepth 100000 in
theorem lp_X1_spread {p : Program} {l : Launch} {e : Env} {R : Room} {s : State} {m : MethodId} {args : Array Value} {below : List Frame} {meth : Method} {c : Code} {cells slots : Nat} {Q : State → Prop} {A : Nat → Prop} {H0 : Heap} {dC : Nat → ClassId} {dI : Nat → Nat → Nat} (g0 bT bO bL bW bB bD bX : Nat) (th tp os : Nat) (dn lf : Int64) (mf : Bool) (cZ cB : ClassId) (a0 : Nat) (g : Nat → BitVec 8) (bt : Nat → Bool) (fr nb : Nat) (hn : nb ≤ 70) (hf : fr + nb ≤ 73920) (hx : p.tables.exec = Jvm.exec) (hb : c.code = cX1_spread) (hml : c.maxLocals = 5) (hown : s.vm.findClass RX1 = some m.cls) (hts : ∀ w ∈ wsX1_spread, w.before args s = true) (hA : ∀ q : Nat, H0.size ≤ q → A q) (hK : va_K (dC, dI) vwCl [(cZ, .boolean), (cB, .byte)] s) (kk : ∀  (H : Heap) (locs : List Loc) (ls : Array Slot), va_P (dC, dI) vwCl [(g0, .inr (1, [.int (nI th), .ref bT, .int (nI tp), .ref bO, .int (nI os), .ref bL, .ref bW, .ref bB, .ref bD, .long dn, .long lf, .int (bI mf), .ref bX])), (bX, .inl (cZ, 560, .inl (fun i9 => bI ((spF bt g fr (8 * nb)) i9)))), (a0, .inl (cB, 73920, .inl (fun i9 => sx (g i9))))] H → va_D A [(g0, .inr (1, [.int (nI th), .ref bT, .int (nI tp), .ref bO, .int (nI os), .ref bL, .ref bW, .ref bB, .ref bD, .long dn, .long lf, .int (bI mf), .ref bX])), (bX, .inl (cZ, 560, .inl (fun i9 => bI ((spF bt g fr (8 * nb)) i9)))), (a0, .inl (cB, 73920, .inl (fun i9 => sx (g i9))))] → va_S A H0 H locs → lv_has ls 5 [(0, .ref g0), (1, .ref a0), (2, .int (nI fr)), (3, .int (nI nb)), (4, .int (nI (8 * nb)))] → W p l e R s m args below meth c H locs cells slots Q (F0 m 51 ls [])) : ∀ (n : Nat) (i : Nat), 8 * nb + 1 ≤ i + n → i ≤ 8 * nb → ∀ (H : Heap) (locs : List Loc) (ls : Array Slot), va_P (dC, dI) vwCl [(g0, .inr (1, [.int (nI th), .ref bT, .int (nI tp), .ref bO, .int (nI os), .ref bL, .ref bW, .ref bB, .ref bD, .long dn, .long lf, .int (bI mf), .ref bX])), (bX, .inl (cZ, 560, .inl (fun i9 => bI ((spF bt g fr i) i9)))), (a0, .inl (cB, 73920, .inl (fun i9 => sx (g i9))))] H → va_D A [(g0, .inr (1, [.int (nI th), .ref bT, .int (nI tp), .ref bO, .int (nI os), .ref bL, .ref bW, .ref bB, .ref bD, .long dn, .long lf, .int (bI mf), .ref bX])), (bX, .inl (cZ, 560, .inl (fun i9 => bI ((spF bt g fr i) i9)))), (a0, .inl (cB, 73920, .inl (fun i9 => sx (g i9))))] → va_S A H0 H locs → lv_has ls 5 [(0, .ref g0), (1, .ref a0), (2, .int (nI fr)), (3, .int (nI nb)), (4, .int (nI i))] → W p l e R s m args below meth c H locs cells slots Q (F0 m 3 ls []) := by
  have hi1 : ∀ w ∈ u_ws RX1 TX1 13, w ∈ wsX1_spread := by decide +kernel
  intro n
  induction n with
  | zero => intro i  hm hi; exact absurd hm (by omega)
  | succ n ih =>
    intro i  hm hi H locs ls hP hD hS hl
    refine lv_iload hx hb dX1_spread_3 (lv_at hl 4 rfl) ?_
    refine lv_bipush (v := nI 8) hx hb dX1_spread_5 (by decide) ?_
    refine lv_iload_n hx hb dX1_spread_7 rfl (lv_at hl 3 rfl) ?_
    refine zr_imul hx hb dX1_spread_8 ?_
    refine zr_icmp_ge (tgt := 51) hx hb (by omega) (by omega) dX1_spread_9 (by decide) (fun c9 => ?_) (fun c9 => ?_)
    · obtain rfl : 8 * nb = i := by omega
      exact kk  H locs ls (hP.sub [0, 1, 2] rfl) (hD.sub [0, 1, 2] (by decide) rfl) hS (lv_sub hl [0, 1, 2, 3, 4] rfl)
    · refine lv_aload_n hx hb dX1_spread_12 rfl (lv_at hl 0 rfl) ?_
      refine va_get (D := (dC, dI)) (ci := 1) (v := .ref bX) (C := RX1) (T := TX1) (N := 13) hx hb hts hi1 hown hK hP 0 rfl rfl 12 (by decide) (hts (.fieldLink RX1 37 "CellRackModel" "bits" "[Z") (by decide +kernel)) (fun _ h9 => h9) rfl dX1_spread_13 ?_
      refine lv_iload hx hb dX1_spread_16 (lv_at hl 4 rfl) ?_
      refine lv_aload_n hx hb dX1_spread_18 rfl (lv_at hl 1 rfl) ?_
      refine lv_iload_n hx hb dX1_spread_19 rfl (lv_at hl 2 rfl) ?_
      refine lv_iload hx hb dX1_spread_20 (lv_at hl 4 rfl) ?_
      refine lv_bipush (v := nI 8) hx hb dX1_spread_22 (by decide) ?_
      refine zr_idiv hx hb (by omega) (by omega) (by omega) dX1_spread_24 ?_
      refine zr_iadd hx hb dX1_spread_25 ?_
      refine zr_xald hx hb hK hP 2 1 rfl rfl (by omega) (by omega) dX1_spread_26 ?_
      refine lv_iload hx hb dX1_spread_27 (lv_at hl 4 rfl) ?_
      refine lv_bipush (v := nI 8) hx hb dX1_spread_29 (by decide) ?_
      refine zr_irem hx hb (by omega) (by omega) (by omega) dX1_spread_31 ?_
      refine lv_ishr hx hb dX1_spread_32 ?_
      refine lv_iconst (v := nI 1) hx hb dX1_spread_33 (by decide) ?_
      refine lv_iand hx hb dX1_spread_34 ?_
      refine lv_iconst (v := nI 1) hx hb dX1_spread_35 (by decide) ?_
      refine lv_icmp_ne (tgt := 43) hx hb dX1_spread_36 (by decide) (fun c36 => ?_) (fun c36 => ?_)
      · refine lv_iconst (v := nI 0) hx hb dX1_spread_43 (by decide) ?_
        refine zr_topi (bI (xb g fr i)) (by first | rw [xb_t c36]; rfl | rw [xb_f c36]; rfl) ?_
        refine zr_zast hx hb hK hP hD hS 1 0 rfl rfl (by omega) (by omega) dX1_spread_44 (fun H locs hP hD hS => ?_)
        replace hP : va_P (dC, dI) vwCl [(g0, .inr (1, [.int (nI th), .ref bT, .int (nI tp), .ref bO, .int (nI os), .ref bL, .ref bW, .ref bB, .ref bD, .long dn, .long lf, .int (bI mf), .ref bX])), (bX, .inl (cZ, 560, .inl (fun i9 => bI ((va_up (spF bt g fr i) i (xb g fr i)) i9)))), (a0, .inl (cB, 73920, .inl (fun i9 => sx (g i9))))] H := hP
        replace hD : va_D A [(g0, .inr (1, [.int (nI th), .ref bT, .int (nI tp), .ref bO, .int (nI os), .ref bL, .ref bW, .ref bB, .ref bD, .long dn, .long lf, .int (bI mf), .ref bX])), (bX, .inl (cZ, 560, .inl (fun i9 => bI ((va_up (spF bt g fr i) i (xb g fr i)) i9)))), (a0, .inl (cB, 73920, .inl (fun i9 => sx (g i9))))] := hD
        refine lv_iinc (v := nI (i + 1)) (lv' := [(4, .int (nI (i + 1))), (0, .ref g0), (1, .ref a0), (2, .int (nI fr)), (3, .int (nI nb))]) hx hb dX1_spread_45 hl (k := 4) rfl (nI_add (i) 1) (by decide) rfl (fun ls hl => ?_)
        refine lv_goto (tgt := 3) hx hb dX1_spread_48 (by decide) ?_
        exact ih (i + 1) (by omega) (by omega) H locs ls (hP.sub [0, 1, 2] rfl) (hD.sub [0, 1, 2] (by decide) rfl) hS (lv_sub hl [1, 2, 3, 4, 0] rfl)
      · refine lv_iconst (v := nI 1) hx hb dX1_spread_39 (by decide) ?_
        refine lv_goto (tgt := 44) hx hb dX1_spread_40 (by decide) ?_
        refine zr_topi (bI (xb g fr i)) (by first | rw [xb_t c36]; rfl | rw [xb_f c36]; rfl) ?_
        refine zr_zast hx hb hK hP hD hS 1 0 rfl rfl (by omega) (by omega) dX1_spread_44 (fun H locs hP hD hS => ?_)
        replace hP : va_P (dC, dI) vwCl [(g0, .inr (1, [.int (nI th), .ref bT, .int (nI tp), .ref bO, .int (nI os), .ref bL, .ref bW, .ref bB, .ref bD, .long dn, .long lf, .int (bI mf), .ref bX])), (bX, .inl (cZ, 560, .inl (fun i9 => bI ((va_up (spF bt g fr i) i (xb g fr i)) i9)))), (a0, .inl (cB, 73920, .inl (fun i9 => sx (g i9))))] H := hP
        replace hD : va_D A [(g0, .inr (1, [.int (nI th), .ref bT, .int (nI tp), .ref bO, .int (nI os), .ref bL, .ref bW, .ref bB, .ref bD, .long dn, .long lf, .int (bI mf), .ref bX])), (bX, .inl (cZ, 560, .inl (fun i9 => bI ((va_up (spF bt g fr i) i (xb g fr i)) i9)))), (a0, .inl (cB, 73920, .inl (fun i9 => sx (g i9))))] := hD
        refine lv_iinc (v := nI (i + 1)) (lv' := [(4, .int (nI (i + 1))), (0, .ref g0), (1, .ref a0), (2, .int (nI fr)), (3, .int (nI nb))]) hx hb dX1_spread_45 hl (k := 4) rfl (nI_add (i) 1) (by decide) rfl (fun ls hl => ?_)
        refine lv_goto (tgt := 3) hx hb dX1_spread_48 (by decide) ?_
        exact ih (i + 1) (by omega) (by omega) H locs ls (hP.sub [0, 1, 2] rfl) (hD.sub [0, 1, 2] (by decide) rfl) hS (lv_sub hl [1, 2, 3, 4, 0] rfl)
set_option maxHeartbeats 4000000 in
set_option maxRecDepth 100000 in
theorem c_X1_spread (l : Launch) (dC : Nat → ClassId) (dI : Nat → Nat → Nat) (sz : Nat) (g0 bT bO bL bW bB bD bX : Nat) (th tp os : Nat) (dn lf : Int64) (mf : Bool) (cZ cB : ClassId) (a0 : Nat) (g : Nat → BitVec 8) (bt : Nat → Bool) (fr nb : Nat) (hn : nb ≤ 70) (hf : fr + nb ≤ 73920) : Met l yX1_spread wsX1_spread ({ frames := 0, cells := 0, slots := 0, locals := 0 }) (va_Pc [.ref g0, .ref a0, .int (nI fr), .int (nI nb)] (fun U => U.heap.size = sz ∧ va_P (dC, dI) vwCl [(g0, .inr (1, [.int (nI th), .ref bT, .int (nI tp), .ref bO, .int (nI os), .ref bL, .ref bW, .ref bB, .ref bD, .long dn, .long lf, .int (bI mf), .ref bX])), (bX, .inl (cZ, 560, .inl (fun i9 => bI (bt i9)))), (a0, .inl (cB, 73920, .inl (fun i9 => sx (g i9))))] U.heap ∧ va_K (dC, dI) vwCl [(cZ, .boolean), (cB, .byte)] U ∧ va_D (fun _ => True) [(g0, .inr (1, [.int (nI th), .ref bT, .int (nI tp), .ref bO, .int (nI os), .ref bL, .ref bW, .ref bB, .ref bD, .long dn, .long lf, .int (bI mf), .ref bX])), (bX, .inl (cZ, 560, .inl (fun i9 => bI (bt i9)))), (a0, .inl (cB, 73920, .inl (fun i9 => sx (g i9))))])) (va_Qv (fun (_ : Unit) => True) (fun (_ : Unit) t => va_P (dC, dI) vwCl [(g0, .inr (1, [.int (nI th), .ref bT, .int (nI tp), .ref bO, .int (nI os), .ref bL, .ref bW, .ref bB, .ref bD, .long dn, .long lf, .int (bI mf), .ref bX])), (bX, .inl (cZ, 560, .inl (fun i9 => bI ((spF bt g fr (8 * nb)) i9)))), (a0, .inl (cB, 73920, .inl (fun i9 => sx (g i9))))] t.heap ∧ va_K (dC, dI) vwCl [(cZ, .boolean), (cB, .byte)] t ∧ va_D (va_A [(g0, .inr (1, [.int (nI th), .ref bT, .int (nI tp), .ref bO, .int (nI os), .ref bL, .ref bW, .ref bB, .ref bD, .long dn, .long lf, .int (bI mf), .ref bX])), (bX, .inl (cZ, 560, .inl (fun i9 => bI (bt i9)))), (a0, .inl (cB, 73920, .inl (fun i9 => sx (g i9))))] sz) [(g0, .inr (1, [.int (nI th), .ref bT, .int (nI tp), .ref bO, .int (nI os), .ref bL, .ref bW, .ref bB, .ref bD, .long dn, .long lf, .int (bI mf), .ref bX])), (bX, .inl (cZ, 560, .inl (fun i9 => bI ((spF bt g fr (8 * nb)) i9)))), (a0, .inl (cB, 73920, .inl (fun i9 => sx (g i9))))]) (va_A [(g0, .inr (1, [.int (nI th), .ref bT, .int (nI tp), .ref bO, .int (nI os), .ref bL, .ref bW, .ref bB, .ref bD, .long dn, .long lf, .int (bI mf), .ref bX])), (bX, .inl (cZ, 560, .inl (fun i9 => bI (bt i9)))), (a0, .inl (cB, 73920, .inl (fun i9 => sx (g i9))))] sz)) 0 0 (va_A [(g0, .inr (1, [.int (nI th), .ref bT, .int (nI tp), .ref bO, .int (nI os), .ref bL, .ref bW, .ref bB, .ref bD, .long dn, .long lf, .int (bI mf), .ref bX])), (bX, .inl (cZ, 560, .inl (fun i9 => bI (bt i9)))), (a0, .inl (cB, 73920, .inl (fun i9 => sx (g i9))))] sz) := by
  refine Met.ofW (cc := cX1_spread) (maxL := 5) (ret := none) (by decide) rfl ?_
  intro p e s m args below meth c s₁ B hml hv
  obtain ⟨rfl, hsz, hP, hK, hD0⟩ := hv
  have hx := B.exec
  have hb := B.bytes
  have hr := B.returns
  have hts := atoms_spec (ws := wsX1_spread) B.pre
  have hown : s.vm.findClass RX1 = some m.cls := findClass_of_methodNamed B.named
  have hlocks := B.notSynchronized
  subst hsz
  have hD := hD0.self (sz := s.heap.size)
  generalize hAe : va_A [(g0, .inr (1, [.int (nI th), .ref bT, .int (nI tp), .ref bO, .int (nI os), .ref bL, .ref bW, .ref bB, .ref bD, .long dn, .long lf, .int (bI mf), .ref bX])), (bX, .inl (cZ, 560, .inl (fun i9 => bI (bt i9)))), (a0, .inl (cB, 73920, .inl (fun i9 => sx (g i9))))] s.heap.size = A at hD ⊢
  have hA : ∀ q : Nat, s.heap.size ≤ q → A q := fun q h => by rw [← hAe]; exact Or.inr h
  generalize hH : s.heap = H at hP ⊢
  have hS : va_S A s.heap H [] := by rw [hH]; exact va_S.rf
  replace hP : va_P (dC, dI) vwCl [(g0, .inr (1, [.int (nI th), .ref bT, .int (nI tp), .ref bO, .int (nI os), .ref bL, .ref bW, .ref bB, .ref bD, .long dn, .long lf, .int (bI mf), .ref bX])), (bX, .inl (cZ, 560, .inl (fun i9 => bI (bt i9)))), (a0, .inl (cB, 73920, .inl (fun i9 => sx (g i9))))] H := hP
  have hl := lv_entry ([.ref g0, .ref a0, .int (nI fr), .int (nI nb)]) (n := 5) (Nat.le_of_ble_eq_true rfl)
  rw [lg_entry_eq]
  generalize (lg_sl ([.ref g0, .ref a0, .int (nI fr), .int (nI nb)]) ++ List.replicate (5 - (lg_sl ([.ref g0, .ref a0, .int (nI fr), .int (nI nb)])).length) Slot.unset).toArray = ls at hl ⊢
  have hl : lv_has ls 5 [(0, .ref g0), (1, .ref a0), (2, .int (nI fr)), (3, .int (nI nb))] := hl
  refine lv_iconst (v := nI 0) hx hb dX1_spread_0 (by decide) ?_
  refine lv_istore (lv' := [(4, .int (nI 0)), (0, .ref g0), (1, .ref a0), (2, .int (nI fr)), (3, .int (nI nb))]) hx hb dX1_spread_1 hl (by decide) rfl (fun ls hl => ?_)
  refine lp_X1_spread g0 bT bO bL bW bB bD bX th tp os dn lf mf cZ cB a0 g bt fr nb hn hf hx hb hml hown hts hA hK (fun  H locs ls hP hD hS hl => ?_) (8 * nb + 1) 0 (by omega) (by omega) _ _ _ (hP.sub [0, 1, 2] rfl) (hD.sub [0, 1, 2] (by decide) rfl) hS (lv_sub hl [1, 2, 3, 4, 0] rfl)
  have hP9 := hP.sub (ws' := [(g0, .inr (1, [.int (nI th), .ref bT, .int (nI tp), .ref bO, .int (nI os), .ref bL, .ref bW, .ref bB, .ref bD, .long dn, .long lf, .int (bI mf), .ref bX])), (bX, .inl (cZ, 560, .inl (fun i9 => bI ((spF bt g fr (8 * nb)) i9)))), (a0, .inl (cB, 73920, .inl (fun i9 => sx (g i9))))]) [0, 1, 2] rfl
  have hD9 := hD.sub (ws' := [(g0, .inr (1, [.int (nI th), .ref bT, .int (nI tp), .ref bO, .int (nI os), .ref bL, .ref bW, .ref bB, .ref bD, .long dn, .long lf, .int (bI mf), .ref bX])), (bX, .inl (cZ, 560, .inl (fun i9 => bI ((spF bt g fr (8 * nb)) i9)))), (a0, .inl (cB, 73920, .inl (fun i9 => sx (g i9))))]) [0, 1, 2] (by decide) rfl
  exact W.vret hx hb hr (fun t ht hW => ⟨⟨(), rfl, trivial, by rw [ht]; exact hP9, va_K.moved hW.alike hK, hD9⟩, hS.F ht⟩) hS.2.2 dX1_spread_51
