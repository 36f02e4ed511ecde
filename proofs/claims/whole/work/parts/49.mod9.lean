set_option maxHeartbeats 4000000 in
set_option maxRecDepth 100000 in
theorem c_X1_fail (l : Launch) (dC : Nat → ClassId) (dI : Nat → Nat → Nat) (sz : Nat) (g0 bT bO bL bW bB bD bX : Nat) (th tp os : Nat) (dn lf : Int64) (mf : Bool) (cZ : ClassId) (lv : Nat → Bool) (x : Int32) : Met l yX1_fail wsX1_fail ({ frames := 2, cells := 0, slots := 0, locals := 42 }) (va_Pc [.ref g0, .int x] (fun U => U.heap.size = sz ∧ va_P (dC, dI) vwCl [(g0, .inr (1, [.int (nI th), .ref bT, .int (nI tp), .ref bO, .int (nI os), .ref bL, .ref bW, .ref bB, .ref bD, .long dn, .long lf, .int (bI mf), .ref bX])), (bL, .inl (cZ, 16, .inl (fun i9 => bI (lv i9))))] U.heap ∧ va_K (dC, dI) vwCl [(cZ, .boolean)] U ∧ va_D (fun _ => True) [(g0, .inr (1, [.int (nI th), .ref bT, .int (nI tp), .ref bO, .int (nI os), .ref bL, .ref bW, .ref bB, .ref bD, .long dn, .long lf, .int (bI mf), .ref bX])), (bL, .inl (cZ, 16, .inl (fun i9 => bI (lv i9))))])) (va_Qi (fun (r : Int32) (u : Nat × (Nat → Bool)) => match u with | (h2, l2) => (okI x 16 = false ∧ r = bI false ∧ h2 = 1 ∧ l2 = lv) ∨ (∃ di : Nat, di < 16 ∧ x = nI di ∧ h2 = 0 ∧ ((lv di = true ∧ r = bI true ∧ l2 = va_up lv di false) ∨ (lv di = false ∧ r = bI false ∧ l2 = lv)))) (fun (u : Nat × (Nat → Bool)) t => match u with | (h2, l2) => va_P (dC, dI) vwCl [(g0, .inr (1, [.int (nI h2), .ref bT, .int (nI tp), .ref bO, .int (nI os), .ref bL, .ref bW, .ref bB, .ref bD, .long dn, .long lf, .int (bI mf), .ref bX])), (bL, .inl (cZ, 16, .inl (fun i9 => bI (l2 i9))))] t.heap ∧ va_K (dC, dI) vwCl [(cZ, .boolean)] t ∧ va_D (va_A [(g0, .inr (1, [.int (nI th), .ref bT, .int (nI tp), .ref bO, .int (nI os), .ref bL, .ref bW, .ref bB, .ref bD, .long dn, .long lf, .int (bI mf), .ref bX])), (bL, .inl (cZ, 16, .inl (fun i9 => bI (lv i9))))] sz) [(g0, .inr (1, [.int (nI h2), .ref bT, .int (nI tp), .ref bO, .int (nI os), .ref bL, .ref bW, .ref bB, .ref bD, .long dn, .long lf, .int (bI mf), .ref bX])), (bL, .inl (cZ, 16, .inl (fun i9 => bI (l2 i9))))]) (va_A [(g0, .inr (1, [.int (nI th), .ref bT, .int (nI tp), .ref bO, .int (nI os), .ref bL, .ref bW, .ref bB, .ref bD, .long dn, .long lf, .int (bI mf), .ref bX])), (bL, .inl (cZ, 16, .inl (fun i9 => bI (lv i9))))] sz)) 0 0 (va_A [(g0, .inr (1, [.int (nI th), .ref bT, .int (nI tp), .ref bO, .int (nI os), .ref bL, .ref bW, .ref bB, .ref bD, .long dn, .long lf, .int (bI mf), .ref bX])), (bL, .inl (cZ, 16, .inl (fun i9 => bI (lv i9))))] sz) := by
  refine Met.ofW (cc := cX1_fail) (maxL := 2) (ret := some .boolean) (by decide) rfl ?_
  intro p e s m args below meth c s₁ B hml hv
  obtain ⟨rfl, hsz, hP, hK, hD0⟩ := hv
  have hx := B.exec
  have hb := B.bytes
  have hr := B.returns
  have hts := atoms_spec (ws := wsX1_fail) B.pre
  have hown : s.vm.findClass RX1 = some m.cls := findClass_of_methodNamed B.named
  have hlocks := B.notSynchronized
  subst hsz
  have hD := hD0.self (sz := s.heap.size)
  generalize hAe : va_A [(g0, .inr (1, [.int (nI th), .ref bT, .int (nI tp), .ref bO, .int (nI os), .ref bL, .ref bW, .ref bB, .ref bD, .long dn, .long lf, .int (bI mf), .ref bX])), (bL, .inl (cZ, 16, .inl (fun i9 => bI (lv i9))))] s.heap.size = A at hD ⊢
  have hA : ∀ q : Nat, s.heap.size ≤ q → A q := fun q h => by rw [← hAe]; exact Or.inr h
  generalize hH : s.heap = H at hP ⊢
  have hS : va_S A s.heap H [] := by rw [hH]; exact va_S.rf
  replace hP : va_P (dC, dI) vwCl [(g0, .inr (1, [.int (nI th), .ref bT, .int (nI tp), .ref bO, .int (nI os), .ref bL, .ref bW, .ref bB, .ref bD, .long dn, .long lf, .int (bI mf), .ref bX])), (bL, .inl (cZ, 16, .inl (fun i9 => bI (lv i9))))] H := hP
  have hl := lv_entry ([.ref g0, .int x]) (n := 2) (Nat.le_of_ble_eq_true rfl)
  rw [lg_entry_eq]
  generalize (lg_sl ([.ref g0, .int x]) ++ List.replicate (2 - (lg_sl ([.ref g0, .int x])).length) Slot.unset).toArray = ls at hl ⊢
  have hl : lv_has ls 2 [(0, .ref g0), (1, .int x)] := hl
  have hi1 : ∀ w ∈ u_ws RX1 TX1 13, w ∈ wsX1_fail := by decide +kernel
  refine lv_aload_n hx hb dX1_fail_0 rfl (lv_at hl 0 rfl) ?_
  refine lv_iload_n hx hb dX1_fail_1 rfl (lv_at hl 1 rfl) ?_
  have hPc := hP.sub (ws' := []) [] rfl
  have hDc := hD.sub (ws' := []) [] (by decide) rfl
  have hKc := hK.sub (tys' := []) [] rfl
  have hFc := va_free (wc := []) hD hS hA [] rfl
  refine va_calli (va_runS (As := [.int x]) (rest := [.ref g0]) ⟨hx, hb, hml, hown, hts⟩ (c_X1_noDisk l dC dI H.size x) (va_cwS 1 hts gX1_fail_X1_noDisk rfl rfl rfl (by decide +kernel) ⟨Nat.le_of_ble_eq_true rfl, Nat.le_of_ble_eq_true rfl⟩) ⟨fun a U g mk q => by obtain ⟨q0, q1, qP, qK, qD⟩ := q; exact ⟨q0, q1, qP, va_K.moved (u := U) (U := U.calling g mk a) (Vm.Alike.refl U.vm) qK, qD⟩, fun U hU hW => ⟨rfl, by rw [hU], by rw [hU]; exact hPc, va_K.moved hW.alike hKc, hDc.weaken (fun _ _ _ _ => trivial)⟩⟩ rfl rfl hl.1 rfl (lv_room (Nat.le_of_ble_eq_true rfl)) dX1_fail_2 ⟨Nat.zero_le _, Nat.zero_le _⟩) hS (fun q _ h => hFc q h) hFc (fun r_1 u t H1 locs ht hvm hw hB hz1 hk1 hS => ?_)
  obtain ⟨hP1, hK1, hD1⟩ := hB
  rw [ht] at hP1
  obtain ⟨hPn, hDn⟩ := va_join (wr := [(g0, .inr (1, [.int (nI th), .ref bT, .int (nI tp), .ref bO, .int (nI os), .ref bL, .ref bW, .ref bB, .ref bD, .long dn, .long lf, .int (bI mf), .ref bX])), (bL, .inl (cZ, 16, .inl (fun i9 => bI (lv i9))))]) (w1 := []) hP hD [] [0, 1] rfl rfl (by decide) (by decide) hk1 hFc hP1 hD1
  clear hP hD hP1 hD1 hK1 hPc hDc hKc hFc hk1 hz1 hvm ht
  generalize H1 = H at hPn hS ⊢
  have hP := hPn
  have hD := hDn
  clear hPn hDn
  replace hP : va_P (dC, dI) vwCl [(g0, .inr (1, [.int (nI th), .ref bT, .int (nI tp), .ref bO, .int (nI os), .ref bL, .ref bW, .ref bB, .ref bD, .long dn, .long lf, .int (bI mf), .ref bX])), (bL, .inl (cZ, 16, .inl (fun i9 => bI (lv i9))))] H := hP
  replace hD : va_D A [(g0, .inr (1, [.int (nI th), .ref bT, .int (nI tp), .ref bO, .int (nI os), .ref bL, .ref bW, .ref bB, .ref bD, .long dn, .long lf, .int (bI mf), .ref bX])), (bL, .inl (cZ, 16, .inl (fun i9 => bI (lv i9))))] := hD
  refine W.widen (k := 0) (n := 0) (Nat.le_refl _) (Nat.le_refl _) ?_
  obtain rfl := hw
  refine lv_iconst (v := nI 1) hx hb dX1_fail_5 (by decide) ?_
  have hPc := hP.sub (ws' := [(g0, .inr (1, [.int (nI th), .ref bT, .int (nI tp), .ref bO, .int (nI os), .ref bL, .ref bW, .ref bB, .ref bD, .long dn, .long lf, .int (bI mf), .ref bX]))]) [0] rfl
  have hDc := hD.sub (ws' := [(g0, .inr (1, [.int (nI th), .ref bT, .int (nI tp), .ref bO, .int (nI os), .ref bL, .ref bW, .ref bB, .ref bD, .long dn, .long lf, .int (bI mf), .ref bX]))]) [0] (by decide) rfl
  have hKc := hK.sub (tys' := []) [] rfl
  have hFc := va_free (wc := [(g0, .inr (1, [.int (nI th), .ref bT, .int (nI tp), .ref bO, .int (nI os), .ref bL, .ref bW, .ref bB, .ref bD, .long dn, .long lf, .int (bI mf), .ref bX]))]) hD hS hA [0] rfl
  refine va_calli (va_runV (As := [.int (bI (!okI x 16)), .int (nI 1)]) (rest := []) ⟨hx, hb, hml, hown, hts⟩ (c_X1_fails l dC dI H.size g0 bT bO bL bW bB bD bX th tp os dn lf mf (!okI x 16) 1) (cwV 2 hts gX1_fail_X1_fails rfl rfl rfl (by decide +kernel) ⟨Nat.le_of_ble_eq_true rfl, Nat.le_of_ble_eq_true rfl⟩) ⟨fun a U g mk q => by obtain ⟨q0, q1, qP, qK, qD⟩ := q; exact ⟨q0, q1, qP, va_K.moved (u := U) (U := U.calling g mk a) (Vm.Alike.refl U.vm) qK, qD⟩, va_recv hKc hPc (ci := 1) (q0 := 0) rfl rfl, fun U hU hW => ⟨rfl, by rw [hU], by rw [hU]; exact hPc, va_K.moved hW.alike hKc, hDc.weaken (fun _ _ _ _ => trivial)⟩⟩ rfl rfl hl.1 rfl (lv_room (Nat.le_of_ble_eq_true rfl)) dX1_fail_6 ⟨Nat.zero_le _, Nat.zero_le _⟩) hS (fun q _ h => hFc q h) hFc (fun r_2 u t H1 locs ht hvm hw hB hz1 hk1 hS => ?_)
  obtain ⟨hP1, hK1, hD1⟩ := hB
  rw [ht] at hP1
  obtain ⟨hPn, hDn⟩ := va_join (wr := [(bL, .inl (cZ, 16, .inl (fun i9 => bI (lv i9))))]) (w1 := [(g0, .inr (1, [.int (nI (cond (!okI x 16) 1 0)), .ref bT, .int (nI tp), .ref bO, .int (nI os), .ref bL, .ref bW, .ref bB, .ref bD, .long dn, .long lf, .int (bI mf), .ref bX]))]) hP hD [0] [1] rfl rfl (by decide) (by decide) hk1 hFc hP1 hD1
  clear hP hD hP1 hD1 hK1 hPc hDc hKc hFc hk1 hz1 hvm ht
  generalize H1 = H at hPn hS ⊢
  have hP := hPn
  have hD := hDn
  clear hPn hDn
  replace hP : va_P (dC, dI) vwCl [(bL, .inl (cZ, 16, .inl (fun i9 => bI (lv i9)))), (g0, .inr (1, [.int (nI (cond (!okI x 16) 1 0)), .ref bT, .int (nI tp), .ref bO, .int (nI os), .ref bL, .ref bW, .ref bB, .ref bD, .long dn, .long lf, .int (bI mf), .ref bX]))] H := hP
  replace hD : va_D A [(bL, .inl (cZ, 16, .inl (fun i9 => bI (lv i9)))), (g0, .inr (1, [.int (nI (cond (!okI x 16) 1 0)), .ref bT, .int (nI tp), .ref bO, .int (nI os), .ref bL, .ref bW, .ref bB, .ref bD, .long dn, .long lf, .int (bI mf), .ref bX]))] := hD
  refine W.widen (k := 0) (n := 0) (Nat.le_refl _) (Nat.le_refl _) ?_
  obtain rfl := hw
  refine zr_ifb_ne (tgt := 21) hx hb dX1_fail_9 (by decide) (fun c9 => ?_) (fun c9 => ?_)
  · rw [c9] at hP hD
    replace hP : va_P (dC, dI) vwCl [(bL, .inl (cZ, 16, .inl (fun i9 => bI (lv i9)))), (g0, .inr (1, [.int (nI 1), .ref bT, .int (nI tp), .ref bO, .int (nI os), .ref bL, .ref bW, .ref bB, .ref bD, .long dn, .long lf, .int (bI mf), .ref bX]))] H := hP
    replace hD : va_D A [(bL, .inl (cZ, 16, .inl (fun i9 => bI (lv i9)))), (g0, .inr (1, [.int (nI 1), .ref bT, .int (nI tp), .ref bO, .int (nI os), .ref bL, .ref bW, .ref bB, .ref bD, .long dn, .long lf, .int (bI mf), .ref bX]))] := hD
    refine lv_iconst (v := nI 0) hx hb dX1_fail_21 (by decide) ?_
    have hP9 := hP.sub (ws' := [(g0, .inr (1, [.int (nI 1), .ref bT, .int (nI tp), .ref bO, .int (nI os), .ref bL, .ref bW, .ref bB, .ref bD, .long dn, .long lf, .int (bI mf), .ref bX])), (bL, .inl (cZ, 16, .inl (fun i9 => bI (lv i9))))]) [1, 0] rfl
    have hD9 := hD.sub (ws' := [(g0, .inr (1, [.int (nI 1), .ref bT, .int (nI tp), .ref bO, .int (nI os), .ref bL, .ref bW, .ref bB, .ref bD, .long dn, .long lf, .int (bI mf), .ref bX])), (bL, .inl (cZ, 16, .inl (fun i9 => bI (lv i9))))]) [1, 0] (by decide) rfl
    exact W.zret (v := nI 0) hx hb hr (by decide) (fun t ht hW => ⟨⟨nI 0, (1, lv), rfl, Or.inl ⟨zr_not_t c9, rfl, rfl, rfl⟩, by rw [ht]; exact hP9, va_K.moved hW.alike hK, hD9⟩, hS.F ht⟩) hS.2.2 dX1_fail_22
  · rw [c9] at hP hD
    replace hP : va_P (dC, dI) vwCl [(bL, .inl (cZ, 16, .inl (fun i9 => bI (lv i9)))), (g0, .inr (1, [.int (nI 0), .ref bT, .int (nI tp), .ref bO, .int (nI os), .ref bL, .ref bW, .ref bB, .ref bD, .long dn, .long lf, .int (bI mf), .ref bX]))] H := hP
    replace hD : va_D A [(bL, .inl (cZ, 16, .inl (fun i9 => bI (lv i9)))), (g0, .inr (1, [.int (nI 0), .ref bT, .int (nI tp), .ref bO, .int (nI os), .ref bL, .ref bW, .ref bB, .ref bD, .long dn, .long lf, .int (bI mf), .ref bX]))] := hD
    obtain ⟨di, hdi, rfl⟩ := okI_get (by decide) (zr_not_f c9)
    refine lv_aload_n hx hb dX1_fail_12 rfl (lv_at hl 0 rfl) ?_
    refine va_get (D := (dC, dI)) (ci := 1) (v := .ref bL) (C := RX1) (T := TX1) (N := 13) hx hb hts hi1 hown hK hP 1 rfl rfl 5 (by decide) (hts (.fieldLink RX1 16 "CellRackModel" "live" "[Z") (by decide +kernel)) (fun _ h9 => h9) rfl dX1_fail_13 ?_
    refine lv_iload_n hx hb dX1_fail_16 rfl (lv_at hl 1 rfl) ?_
    refine zr_zald hx hb hK hP 0 0 rfl rfl (by omega) (by omega) dX1_fail_17 ?_
    refine zr_ifb_ne (tgt := 23) hx hb dX1_fail_18 (by decide) (fun c18 => ?_) (fun c18 => ?_)
    · refine lv_aload_n hx hb dX1_fail_23 rfl (lv_at hl 0 rfl) ?_
      refine va_get (D := (dC, dI)) (ci := 1) (v := .ref bL) (C := RX1) (T := TX1) (N := 13) hx hb hts hi1 hown hK hP 1 rfl rfl 5 (by decide) (hts (.fieldLink RX1 16 "CellRackModel" "live" "[Z") (by decide +kernel)) (fun _ h9 => h9) rfl dX1_fail_24 ?_
      refine lv_iload_n hx hb dX1_fail_27 rfl (lv_at hl 1 rfl) ?_
      refine lv_iconst (v := nI 0) hx hb dX1_fail_28 (by decide) ?_
      refine zr_topi (bI false) (rfl) ?_
      refine zr_zast hx hb hK hP hD hS 0 0 rfl rfl (by omega) (by omega) dX1_fail_29 (fun H locs hP hD hS => ?_)
      replace hP : va_P (dC, dI) vwCl [(bL, .inl (cZ, 16, .inl (fun i9 => bI ((va_up lv di false) i9)))), (g0, .inr (1, [.int (nI 0), .ref bT, .int (nI tp), .ref bO, .int (nI os), .ref bL, .ref bW, .ref bB, .ref bD, .long dn, .long lf, .int (bI mf), .ref bX]))] H := hP
      replace hD : va_D A [(bL, .inl (cZ, 16, .inl (fun i9 => bI ((va_up lv di false) i9)))), (g0, .inr (1, [.int (nI 0), .ref bT, .int (nI tp), .ref bO, .int (nI os), .ref bL, .ref bW, .ref bB, .ref bD, .long dn, .long lf, .int (bI mf), .ref bX]))] := hD
      refine lv_iconst (v := nI 1) hx hb dX1_fail_30 (by decide) ?_
      have hP9 := hP.sub (ws' := [(g0, .inr (1, [.int (nI 0), .ref bT, .int (nI tp), .ref bO, .int (nI os), .ref bL, .ref bW, .ref bB, .ref bD, .long dn, .long lf, .int (bI mf), .ref bX])), (bL, .inl (cZ, 16, .inl (fun i9 => bI ((va_up lv di false) i9))))]) [1, 0] rfl
      have hD9 := hD.sub (ws' := [(g0, .inr (1, [.int (nI 0), .ref bT, .int (nI tp), .ref bO, .int (nI os), .ref bL, .ref bW, .ref bB, .ref bD, .long dn, .long lf, .int (bI mf), .ref bX])), (bL, .inl (cZ, 16, .inl (fun i9 => bI ((va_up lv di false) i9))))]) [1, 0] (by decide) rfl
      exact W.zret (v := nI 1) hx hb hr (by decide) (fun t ht hW => ⟨⟨nI 1, (0, va_up lv di false), rfl, Or.inr ⟨di, hdi, rfl, rfl, Or.inl ⟨c18, rfl, rfl⟩⟩, by rw [ht]; exact hP9, va_K.moved hW.alike hK, hD9⟩, hS.F ht⟩) hS.2.2 dX1_fail_31
    · refine lv_iconst (v := nI 0) hx hb dX1_fail_21 (by decide) ?_
      have hP9 := hP.sub (ws' := [(g0, .inr (1, [.int (nI 0), .ref bT, .int (nI tp), .ref bO, .int (nI os), .ref bL, .ref bW, .ref bB, .ref bD, .long dn, .long lf, .int (bI mf), .ref bX])), (bL, .inl (cZ, 16, .inl (fun i9 => bI (lv i9))))]) [1, 0] rfl
      have hD9 := hD.sub (ws' := [(g0, .inr (1, [.int (nI 0), .ref bT, .int (nI tp), .ref bO, .int (nI os), .ref bL, .ref bW, .ref bB, .ref bD, .long dn, .long lf, .int (bI mf), .ref bX])), (bL, .inl (cZ, 16, .inl (fun i9 => bI (lv i9))))]) [1, 0] (by decide) rfl
      exact W.zret (v := nI 0) hx hb hr (by decide) (fun t ht hW => ⟨⟨nI 0, (0, lv), rfl, Or.inr ⟨di, hdi, rfl, rfl, Or.inr ⟨c18, rfl, rfl⟩⟩, by rw [ht]; exact hP9, va_K.moved hW.alike hK, hD9⟩, hS.F ht⟩) hS.2.2 dX1_fail_22
set_option maxHeartbeats 4000000 in
set_option maxRecDepth 100000 in
theorem lp_X1_replace {p : Program} {l : Launch} {e : Env} {R : Room} {s : State} {m : MethodId} {args : Array Value} {below : List Frame} {meth : Method} {c : Code} {cells slots : Nat} {Q : State → Prop} {A : Nat → Prop} {H0 : Heap} {dC : Nat → ClassId} {dI : Nat → Nat → Nat} (g0 bT bO bL bW bB bD bX : Nat) (th tp os : Nat) (dn lf : Int64) (mf : Bool) (cZ : ClassId) (lv wr : Nat → Bool) (di : Nat) (hdi : di < 16) (hx : p.tables.exec = Jvm.exec) (hb : c.code = cX1_replace) (hml : c.maxLocals = 3) (hown : s.vm.findClass RX1 = some m.cls) (hts : ∀ w ∈ wsX1_replace, w.before args s = true) (hA : ∀ q : Nat, H0.size ≤ q → A q) (hK : va_K (dC, dI) vwCl [(cZ, .boolean)] s) (hRf : 1 ≤ R.frames) (hRl : 21 ≤ R.locals) (hRc : cells ≤ R.cells) (hRs : slots ≤ R.slots) (kk : ∀  (H : Heap) (locs : List Loc) (ls : Array Slot), va_P (dC, dI) vwCl [(g0, .inr (1, [.int (nI th), .ref bT, .int (nI tp), .ref bO, .int (nI os), .ref bL, .ref bW, .ref bB, .ref bD, .long dn, .long lf, .int (bI mf), .ref bX])), (bL, .inl (cZ, 16, .inl (fun i9 => bI (lv i9)))), (bW, .inl (cZ, 1056, .inl (fun i9 => bI ((rpF wr di 66) i9))))] H → va_D A [(g0, .inr (1, [.int (nI th), .ref bT, .int (nI tp), .ref bO, .int (nI os), .ref bL, .ref bW, .ref bB, .ref bD, .long dn, .long lf, .int (bI mf), .ref bX])), (bL, .inl (cZ, 16, .inl (fun i9 => bI (lv i9)))), (bW, .inl (cZ, 1056, .inl (fun i9 => bI ((rpF wr di 66) i9))))] → va_S A H0 H locs → lv_has ls 3 [(0, .ref g0)] → W p l e R s m args below meth c H locs cells slots Q (F0 m 55 ls [])) : ∀ (n : Nat) (c9 : Nat), 66 + 1 ≤ c9 + n → c9 ≤ 66 → ∀ (H : Heap) (locs : List Loc) (ls : Array Slot), va_P (dC, dI) vwCl [(g0, .inr (1, [.int (nI th), .ref bT, .int (nI tp), .ref bO, .int (nI os), .ref bL, .ref bW, .ref bB, .ref bD, .long dn, .long lf, .int (bI mf), .ref bX])), (bL, .inl (cZ, 16, .inl (fun i9 => bI (lv i9)))), (bW, .inl (cZ, 1056, .inl (fun i9 => bI ((rpF wr di c9) i9))))] H → va_D A [(g0, .inr (1, [.int (nI th), .ref bT, .int (nI tp), .ref bO, .int (nI os), .ref bL, .ref bW, .ref bB, .ref bD, .long dn, .long lf, .int (bI mf), .ref bX])), (bL, .inl (cZ, 16, .inl (fun i9 => bI (lv i9)))), (bW, .inl (cZ, 1056, .inl (fun i9 => bI ((rpF wr di c9) i9))))] → va_S A H0 H locs → lv_has ls 3 [(0, .ref g0), (1, .int (nI di)), (2, .int (nI c9))] → W p l e R s m args below meth c H locs cells slots Q (F0 m 32 ls []) := by
  have hi1 : ∀ w ∈ u_ws RX1 TX1 13, w ∈ wsX1_replace := by decide +kernel
  intro n
  induction n with
  | zero => intro c9  hm hi; exact absurd hm (by omega)
  | succ n ih =>
    intro c9  hm hi H locs ls hP hD hS hl
    refine lv_iload_n hx hb dX1_replace_32 rfl (lv_at hl 2 rfl) ?_
    refine lv_bipush (v := nI 66) hx hb dX1_replace_33 (by decide) ?_
    refine zr_icmp_ge (tgt := 55) hx hb (by omega) (by omega) dX1_replace_35 (by decide) (fun c35 => ?_) (fun c35 => ?_)
    · obtain rfl : 66 = c9 := by omega
      exact kk  H locs ls (hP.sub [0, 1, 2] rfl) (hD.sub [0, 1, 2] (by decide) rfl) hS (lv_sub hl [0] rfl)
    · refine lv_aload_n hx hb dX1_replace_38 rfl (lv_at hl 0 rfl) ?_
      refine va_get (D := (dC, dI)) (ci := 1) (v := .ref bW) (C := RX1) (T := TX1) (N := 13) hx hb hts hi1 hown hK hP 0 rfl rfl 6 (by decide) (hts (.fieldLink RX1 20 "CellRackModel" "written" "[Z") (by decide +kernel)) (fun _ h9 => h9) rfl dX1_replace_39 ?_
      refine lv_iload_n hx hb dX1_replace_42 rfl (lv_at hl 1 rfl) ?_
      refine lv_iload_n hx hb dX1_replace_43 rfl (lv_at hl 2 rfl) ?_
      have hPc := hP.sub (ws' := []) [] rfl
      have hDc := hD.sub (ws' := []) [] (by decide) rfl
      have hKc := hK.sub (tys' := []) [] rfl
      have hFc := va_free (wc := []) hD hS hA [] rfl
      refine va_calli (va_runS (As := [.int (nI di), .int (nI c9)]) (rest := [.ref bW]) ⟨hx, hb, hml, hown, hts⟩ (c_X1_spot l dC dI H.size di c9) (va_cwS 2 hts gX1_replace_X1_spot rfl rfl rfl (by decide +kernel) ⟨Nat.le_trans (by decide) hRf, Nat.le_trans (by decide) hRl⟩) ⟨fun a U g mk q => by obtain ⟨q0, q1, qP, qK, qD⟩ := q; exact ⟨q0, q1, qP, va_K.moved (u := U) (U := U.calling g mk a) (Vm.Alike.refl U.vm) qK, qD⟩, fun U hU hW => ⟨rfl, by rw [hU], by rw [hU]; exact hPc, va_K.moved hW.alike hKc, hDc.weaken (fun _ _ _ _ => trivial)⟩⟩ rfl rfl hl.1 rfl (lv_room (Nat.le_of_ble_eq_true rfl)) dX1_replace_44 ⟨hRc, hRs⟩) hS (fun q _ h => hFc q h) hFc (fun r_1 u t H1 locs ht hvm hw hB hz1 hk1 hS => ?_)
      obtain ⟨hP1, hK1, hD1⟩ := hB
      rw [ht] at hP1
      obtain ⟨hPn, hDn⟩ := va_join (wr := [(g0, .inr (1, [.int (nI th), .ref bT, .int (nI tp), .ref bO, .int (nI os), .ref bL, .ref bW, .ref bB, .ref bD, .long dn, .long lf, .int (bI mf), .ref bX])), (bL, .inl (cZ, 16, .inl (fun i9 => bI (lv i9)))), (bW, .inl (cZ, 1056, .inl (fun i9 => bI ((rpF wr di c9) i9))))]) (w1 := []) hP hD [] [0, 1, 2] rfl rfl (by decide) (by decide) hk1 hFc hP1 hD1
      clear hP hD hP1 hD1 hK1 hPc hDc hKc hFc hk1 hz1 hvm ht
      generalize H1 = H at hPn hS ⊢
      have hP := hPn
      have hD := hDn
      clear hPn hDn
      replace hP : va_P (dC, dI) vwCl [(g0, .inr (1, [.int (nI th), .ref bT, .int (nI tp), .ref bO, .int (nI os), .ref bL, .ref bW, .ref bB, .ref bD, .long dn, .long lf, .int (bI mf), .ref bX])), (bL, .inl (cZ, 16, .inl (fun i9 => bI (lv i9)))), (bW, .inl (cZ, 1056, .inl (fun i9 => bI ((rpF wr di c9) i9))))] H := hP
      replace hD : va_D A [(g0, .inr (1, [.int (nI th), .ref bT, .int (nI tp), .ref bO, .int (nI os), .ref bL, .ref bW, .ref bB, .ref bD, .long dn, .long lf, .int (bI mf), .ref bX])), (bL, .inl (cZ, 16, .inl (fun i9 => bI (lv i9)))), (bW, .inl (cZ, 1056, .inl (fun i9 => bI ((rpF wr di c9) i9))))] := hD
      refine W.widen (k := cells) (n := slots) (Nat.le_refl _) (Nat.le_refl _) ?_
      obtain rfl := hw
      refine lv_iconst (v := nI 0) hx hb dX1_replace_47 (by decide) ?_
      refine zr_topi (bI false) (rfl) ?_
      refine zr_zast hx hb hK hP hD hS 2 0 rfl rfl (by omega) (by omega) dX1_replace_48 (fun H locs hP hD hS => ?_)
      replace hP : va_P (dC, dI) vwCl [(g0, .inr (1, [.int (nI th), .ref bT, .int (nI tp), .ref bO, .int (nI os), .ref bL, .ref bW, .ref bB, .ref bD, .long dn, .long lf, .int (bI mf), .ref bX])), (bL, .inl (cZ, 16, .inl (fun i9 => bI (lv i9)))), (bW, .inl (cZ, 1056, .inl (fun i9 => bI ((va_up (rpF wr di c9) (66 * di + c9) false) i9))))] H := hP
      replace hD : va_D A [(g0, .inr (1, [.int (nI th), .ref bT, .int (nI tp), .ref bO, .int (nI os), .ref bL, .ref bW, .ref bB, .ref bD, .long dn, .long lf, .int (bI mf), .ref bX])), (bL, .inl (cZ, 16, .inl (fun i9 => bI (lv i9)))), (bW, .inl (cZ, 1056, .inl (fun i9 => bI ((va_up (rpF wr di c9) (66 * di + c9) false) i9))))] := hD
      refine lv_iinc (v := nI (c9 + 1)) (lv' := [(2, .int (nI (c9 + 1))), (0, .ref g0), (1, .int (nI di))]) hx hb dX1_replace_49 hl (k := 2) rfl (nI_add (c9) 1) (by decide) rfl (fun ls hl => ?_)
      refine lv_goto (tgt := 32) hx hb dX1_replace_52 (by decide) ?_
      exact ih (c9 + 1) (by omega) (by omega) H locs ls (hP.sub [0, 1, 2] rfl) (hD.sub [0, 1, 2] (by decide) rfl) hS (lv_sub hl [1, 2, 0] rfl)
set_option maxHeartbeats 4000000 in
set_option maxRecDepth 100000 in
theorem c_X1_replace (l : Launch) (dC : Nat → ClassId) (dI : Nat → Nat → Nat) (sz : Nat) (g0 bT bO bL bW bB bD bX : Nat) (th tp os : Nat) (dn lf : Int64) (mf : Bool) (cZ : ClassId) (lv wr : Nat → Bool) (x : Int32) : Met l yX1_replace wsX1_replace ({ frames := 2, cells := 0, slots := 0, locals := 42 }) (va_Pc [.ref g0, .int x] (fun U => U.heap.size = sz ∧ va_P (dC, dI) vwCl [(g0, .inr (1, [.int (nI th), .ref bT, .int (nI tp), .ref bO, .int (nI os), .ref bL, .ref bW, .ref bB, .ref bD, .long dn, .long lf, .int (bI mf), .ref bX])), (bL, .inl (cZ, 16, .inl (fun i9 => bI (lv i9)))), (bW, .inl (cZ, 1056, .inl (fun i9 => bI (wr i9))))] U.heap ∧ va_K (dC, dI) vwCl [(cZ, .boolean)] U ∧ va_D (fun _ => True) [(g0, .inr (1, [.int (nI th), .ref bT, .int (nI tp), .ref bO, .int (nI os), .ref bL, .ref bW, .ref bB, .ref bD, .long dn, .long lf, .int (bI mf), .ref bX])), (bL, .inl (cZ, 16, .inl (fun i9 => bI (lv i9)))), (bW, .inl (cZ, 1056, .inl (fun i9 => bI (wr i9))))])) (va_Qi (fun (r : Int32) (u : Nat × (Nat → Bool) × (Nat → Bool)) => match u with | (h2, l2, w2) => (okI x 16 = false ∧ r = bI false ∧ h2 = 1 ∧ l2 = lv ∧ w2 = wr) ∨ (∃ di : Nat, di < 16 ∧ x = nI di ∧ h2 = 0 ∧ ((lv di = false ∧ r = bI true ∧ l2 = va_up lv di true ∧ w2 = rpF wr di 66) ∨ (lv di = true ∧ r = bI false ∧ l2 = lv ∧ w2 = wr)))) (fun (u : Nat × (Nat → Bool) × (Nat → Bool)) t => match u with | (h2, l2, w2) => va_P (dC, dI) vwCl [(g0, .inr (1, [.int (nI h2), .ref bT, .int (nI tp), .ref bO, .int (nI os), .ref bL, .ref bW, .ref bB, .ref bD, .long dn, .long lf, .int (bI mf), .ref bX])), (bL, .inl (cZ, 16, .inl (fun i9 => bI (l2 i9)))), (bW, .inl (cZ, 1056, .inl (fun i9 => bI (w2 i9))))] t.heap ∧ va_K (dC, dI) vwCl [(cZ, .boolean)] t ∧ va_D (va_A [(g0, .inr (1, [.int (nI th), .ref bT, .int (nI tp), .ref bO, .int (nI os), .ref bL, .ref bW, .ref bB, .ref bD, .long dn, .long lf, .int (bI mf), .ref bX])), (bL, .inl (cZ, 16, .inl (fun i9 => bI (lv i9)))), (bW, .inl (cZ, 1056, .inl (fun i9 => bI (wr i9))))] sz) [(g0, .inr (1, [.int (nI h2), .ref bT, .int (nI tp), .ref bO, .int (nI os), .ref bL, .ref bW, .ref bB, .ref bD, .long dn, .long lf, .int (bI mf), .ref bX])), (bL, .inl (cZ, 16, .inl (fun i9 => bI (l2 i9)))), (bW, .inl (cZ, 1056, .inl (fun i9 => bI (w2 i9))))]) (va_A [(g0, .inr (1, [.int (nI th), .ref bT, .int (nI tp), .ref bO, .int (nI os), .ref bL, .ref bW, .ref bB, .ref bD, .long dn, .long lf, .int (bI mf), .ref bX])), (bL, .inl (cZ, 16, .inl (fun i9 => bI (lv i9)))), (bW, .inl (cZ, 1056, .inl (fun i9 => bI (wr i9))))] sz)) 0 0 (va_A [(g0, .inr (1, [.int (nI th), .ref bT, .int (nI tp), .ref bO, .int (nI os), .ref bL, .ref bW, .ref bB, .ref bD, .long dn, .long lf, .int (bI mf), .ref bX])), (bL, .inl (cZ, 16, .inl (fun i9 => bI (lv i9)))), (bW, .inl (cZ, 1056, .inl (fun i9 => bI (wr i9))))] sz) := by
  refine Met.ofW (cc := cX1_replace) (maxL := 3) (ret := some .boolean) (by decide) rfl ?_
  intro p e s m args below meth c s₁ B hml hv
  obtain ⟨rfl, hsz, hP, hK, hD0⟩ := hv
  have hx := B.exec
  have hb := B.bytes
  have hr := B.returns
  have hts := atoms_spec (ws := wsX1_replace) B.pre
  have hown : s.vm.findClass RX1 = some m.cls := findClass_of_methodNamed B.named
  have hlocks := B.notSynchronized
  subst hsz
  have hD := hD0.self (sz := s.heap.size)
  generalize hAe : va_A [(g0, .inr (1, [.int (nI th), .ref bT, .int (nI tp), .ref bO, .int (nI os), .ref bL, .ref bW, .ref bB, .ref bD, .long dn, .long lf, .int (bI mf), .ref bX])), (bL, .inl (cZ, 16, .inl (fun i9 => bI (lv i9)))), (bW, .inl (cZ, 1056, .inl (fun i9 => bI (wr i9))))] s.heap.size = A at hD ⊢
  have hA : ∀ q : Nat, s.heap.size ≤ q → A q := fun q h => by rw [← hAe]; exact Or.inr h
  generalize hH : s.heap = H at hP ⊢
  have hS : va_S A s.heap H [] := by rw [hH]; exact va_S.rf
  replace hP : va_P (dC, dI) vwCl [(g0, .inr (1, [.int (nI th), .ref bT, .int (nI tp), .ref bO, .int (nI os), .ref bL, .ref bW, .ref bB, .ref bD, .long dn, .long lf, .int (bI mf), .ref bX])), (bL, .inl (cZ, 16, .inl (fun i9 => bI (lv i9)))), (bW, .inl (cZ, 1056, .inl (fun i9 => bI (wr i9))))] H := hP
  have hl := lv_entry ([.ref g0, .int x]) (n := 3) (Nat.le_of_ble_eq_true rfl)
  rw [lg_entry_eq]
  generalize (lg_sl ([.ref g0, .int x]) ++ List.replicate (3 - (lg_sl ([.ref g0, .int x])).length) Slot.unset).toArray = ls at hl ⊢
  have hl : lv_has ls 3 [(0, .ref g0), (1, .int x)] := hl
  have hi1 : ∀ w ∈ u_ws RX1 TX1 13, w ∈ wsX1_replace := by decide +kernel
  refine lv_aload_n hx hb dX1_replace_0 rfl (lv_at hl 0 rfl) ?_
  refine lv_iload_n hx hb dX1_replace_1 rfl (lv_at hl 1 rfl) ?_
  have hPc := hP.sub (ws' := []) [] rfl
  have hDc := hD.sub (ws' := []) [] (by decide) rfl
  have hKc := hK.sub (tys' := []) [] rfl
  have hFc := va_free (wc := []) hD hS hA [] rfl
  refine va_calli (va_runS (As := [.int x]) (rest := [.ref g0]) ⟨hx, hb, hml, hown, hts⟩ (c_X1_noDisk l dC dI H.size x) (va_cwS 1 hts gX1_replace_X1_noDisk rfl rfl rfl (by decide +kernel) ⟨Nat.le_of_ble_eq_true rfl, Nat.le_of_ble_eq_true rfl⟩) ⟨fun a U g mk q => by obtain ⟨q0, q1, qP, qK, qD⟩ := q; exact ⟨q0, q1, qP, va_K.moved (u := U) (U := U.calling g mk a) (Vm.Alike.refl U.vm) qK, qD⟩, fun U hU hW => ⟨rfl, by rw [hU], by rw [hU]; exact hPc, va_K.moved hW.alike hKc, hDc.weaken (fun _ _ _ _ => trivial)⟩⟩ rfl rfl hl.1 rfl (lv_room (Nat.le_of_ble_eq_true rfl)) dX1_replace_2 ⟨Nat.zero_le _, Nat.zero_le _⟩) hS (fun q _ h => hFc q h) hFc (fun r_1 u t H1 locs ht hvm hw hB hz1 hk1 hS => ?_)
  obtain ⟨hP1, hK1, hD1⟩ := hB
  rw [ht] at hP1
  obtain ⟨hPn, hDn⟩ := va_join (wr := [(g0, .inr (1, [.int (nI th), .ref bT, .int (nI tp), .ref bO, .int (nI os), .ref bL, .ref bW, .ref bB, .ref bD, .long dn, .long lf, .int (bI mf), .ref bX])), (bL, .inl (cZ, 16, .inl (fun i9 => bI (lv i9)))), (bW, .inl (cZ, 1056, .inl (fun i9 => bI (wr i9))))]) (w1 := []) hP hD [] [0, 1, 2] rfl rfl (by decide) (by decide) hk1 hFc hP1 hD1
  clear hP hD hP1 hD1 hK1 hPc hDc hKc hFc hk1 hz1 hvm ht
  generalize H1 = H at hPn hS ⊢
  have hP := hPn
  have hD := hDn
  clear hPn hDn
  replace hP : va_P (dC, dI) vwCl [(g0, .inr (1, [.int (nI th), .ref bT, .int (nI tp), .ref bO, .int (nI os), .ref bL, .ref bW, .ref bB, .ref bD, .long dn, .long lf, .int (bI mf), .ref bX])), (bL, .inl (cZ, 16, .inl (fun i9 => bI (lv i9)))), (bW, .inl (cZ, 1056, .inl (fun i9 => bI (wr i9))))] H := hP
  replace hD : va_D A [(g0, .inr (1, [.int (nI th), .ref bT, .int (nI tp), .ref bO, .int (nI os), .ref bL, .ref bW, .ref bB, .ref bD, .long dn, .long lf, .int (bI mf), .ref bX])), (bL, .inl (cZ, 16, .inl (fun i9 => bI (lv i9)))), (bW, .inl (cZ, 1056, .inl (fun i9 => bI (wr i9))))] := hD
  refine W.widen (k := 0) (n := 0) (Nat.le_refl _) (Nat.le_refl _) ?_
  obtain rfl := hw
  refine lv_iconst (v := nI 1) hx hb dX1_replace_5 (by decide) ?_
  have hPc := hP.sub (ws' := [(g0, .inr (1, [.int (nI th), .ref bT, .int (nI tp), .ref bO, .int (nI os), .ref bL, .ref bW, .ref bB, .ref bD, .long dn, .long lf, .int (bI mf), .ref bX]))]) [0] rfl
  have hDc := hD.sub (ws' := [(g0, .inr (1, [.int (nI th), .ref bT, .int (nI tp), .ref bO, .int (nI os), .ref bL, .ref bW, .ref bB, .ref bD, .long dn, .long lf, .int (bI mf), .ref bX]))]) [0] (by decide) rfl
  have hKc := hK.sub (tys' := []) [] rfl
  have hFc := va_free (wc := [(g0, .inr (1, [.int (nI th), .ref bT, .int (nI tp), .ref bO, .int (nI os), .ref bL, .ref bW, .ref bB, .ref bD, .long dn, .long lf, .int (bI mf), .ref bX]))]) hD hS hA [0] rfl
  refine va_calli (va_runV (As := [.int (bI (!okI x 16)), .int (nI 1)]) (rest := []) ⟨hx, hb, hml, hown, hts⟩ (c_X1_fails l dC dI H.size g0 bT bO bL bW bB bD bX th tp os dn lf mf (!okI x 16) 1) (cwV 2 hts gX1_replace_X1_fails rfl rfl rfl (by decide +kernel) ⟨Nat.le_of_ble_eq_true rfl, Nat.le_of_ble_eq_true rfl⟩) ⟨fun a U g mk q => by obtain ⟨q0, q1, qP, qK, qD⟩ := q; exact ⟨q0, q1, qP, va_K.moved (u := U) (U := U.calling g mk a) (Vm.Alike.refl U.vm) qK, qD⟩, va_recv hKc hPc (ci := 1) (q0 := 0) rfl rfl, fun U hU hW => ⟨rfl, by rw [hU], by rw [hU]; exact hPc, va_K.moved hW.alike hKc, hDc.weaken (fun _ _ _ _ => trivial)⟩⟩ rfl rfl hl.1 rfl (lv_room (Nat.le_of_ble_eq_true rfl)) dX1_replace_6 ⟨Nat.zero_le _, Nat.zero_le _⟩) hS (fun q _ h => hFc q h) hFc (fun r_2 u t H1 locs ht hvm hw hB hz1 hk1 hS => ?_)
  obtain ⟨hP1, hK1, hD1⟩ := hB
  rw [ht] at hP1
  obtain ⟨hPn, hDn⟩ := va_join (wr := [(bL, .inl (cZ, 16, .inl (fun i9 => bI (lv i9)))), (bW, .inl (cZ, 1056, .inl (fun i9 => bI (wr i9))))]) (w1 := [(g0, .inr (1, [.int (nI (cond (!okI x 16) 1 0)), .ref bT, .int (nI tp), .ref bO, .int (nI os), .ref bL, .ref bW, .ref bB, .ref bD, .long dn, .long lf, .int (bI mf), .ref bX]))]) hP hD [0] [1, 2] rfl rfl (by decide) (by decide) hk1 hFc hP1 hD1
  clear hP hD hP1 hD1 hK1 hPc hDc hKc hFc hk1 hz1 hvm ht
  generalize H1 = H at hPn hS ⊢
  have hP := hPn
  have hD := hDn
  clear hPn hDn
  replace hP : va_P (dC, dI) vwCl [(bL, .inl (cZ, 16, .inl (fun i9 => bI (lv i9)))), (bW, .inl (cZ, 1056, .inl (fun i9 => bI (wr i9)))), (g0, .inr (1, [.int (nI (cond (!okI x 16) 1 0)), .ref bT, .int (nI tp), .ref bO, .int (nI os), .ref bL, .ref bW, .ref bB, .ref bD, .long dn, .long lf, .int (bI mf), .ref bX]))] H := hP
  replace hD : va_D A [(bL, .inl (cZ, 16, .inl (fun i9 => bI (lv i9)))), (bW, .inl (cZ, 1056, .inl (fun i9 => bI (wr i9)))), (g0, .inr (1, [.int (nI (cond (!okI x 16) 1 0)), .ref bT, .int (nI tp), .ref bO, .int (nI os), .ref bL, .ref bW, .ref bB, .ref bD, .long dn, .long lf, .int (bI mf), .ref bX]))] := hD
  refine W.widen (k := 0) (n := 0) (Nat.le_refl _) (Nat.le_refl _) ?_
  obtain rfl := hw
  refine zr_ifb_ne (tgt := 21) hx hb dX1_replace_9 (by decide) (fun c9 => ?_) (fun c9 => ?_)
  · rw [c9] at hP hD
    replace hP : va_P (dC, dI) vwCl [(bL, .inl (cZ, 16, .inl (fun i9 => bI (lv i9)))), (bW, .inl (cZ, 1056, .inl (fun i9 => bI (wr i9)))), (g0, .inr (1, [.int (nI 1), .ref bT, .int (nI tp), .ref bO, .int (nI os), .ref bL, .ref bW, .ref bB, .ref bD, .long dn, .long lf, .int (bI mf), .ref bX]))] H := hP
    replace hD : va_D A [(bL, .inl (cZ, 16, .inl (fun i9 => bI (lv i9)))), (bW, .inl (cZ, 1056, .inl (fun i9 => bI (wr i9)))), (g0, .inr (1, [.int (nI 1), .ref bT, .int (nI tp), .ref bO, .int (nI os), .ref bL, .ref bW, .ref bB, .ref bD, .long dn, .long lf, .int (bI mf), .ref bX]))] := hD
    refine lv_iconst (v := nI 0) hx hb dX1_replace_21 (by decide) ?_
    have hP9 := hP.sub (ws' := [(g0, .inr (1, [.int (nI 1), .ref bT, .int (nI tp), .ref bO, .int (nI os), .ref bL, .ref bW, .ref bB, .ref bD, .long dn, .long lf, .int (bI mf), .ref bX])), (bL, .inl (cZ, 16, .inl (fun i9 => bI (lv i9)))), (bW, .inl (cZ, 1056, .inl (fun i9 => bI (wr i9))))]) [2, 0, 1] rfl
    have hD9 := hD.sub (ws' := [(g0, .inr (1, [.int (nI 1), .ref bT, .int (nI tp), .ref bO, .int (nI os), .ref bL, .ref bW, .ref bB, .ref bD, .long dn, .long lf, .int (bI mf), .ref bX])), (bL, .inl (cZ, 16, .inl (fun i9 => bI (lv i9)))), (bW, .inl (cZ, 1056, .inl (fun i9 => bI (wr i9))))]) [2, 0, 1] (by decide) rfl
    exact W.zret (v := nI 0) hx hb hr (by decide) (fun t ht hW => ⟨⟨nI 0, (1, lv, wr), rfl, Or.inl ⟨zr_not_t c9, rfl, rfl, rfl, rfl⟩, by rw [ht]; exact hP9, va_K.moved hW.alike hK, hD9⟩, hS.F ht⟩) hS.2.2 dX1_replace_22
  · rw [c9] at hP hD
    replace hP : va_P (dC, dI) vwCl [(bL, .inl (cZ, 16, .inl (fun i9 => bI (lv i9)))), (bW, .inl (cZ, 1056, .inl (fun i9 => bI (wr i9)))), (g0, .inr (1, [.int (nI 0), .ref bT, .int (nI tp), .ref bO, .int (nI os), .ref bL, .ref bW, .ref bB, .ref bD, .long dn, .long lf, .int (bI mf), .ref bX]))] H := hP
    replace hD : va_D A [(bL, .inl (cZ, 16, .inl (fun i9 => bI (lv i9)))), (bW, .inl (cZ, 1056, .inl (fun i9 => bI (wr i9)))), (g0, .inr (1, [.int (nI 0), .ref bT, .int (nI tp), .ref bO, .int (nI os), .ref bL, .ref bW, .ref bB, .ref bD, .long dn, .long lf, .int (bI mf), .ref bX]))] := hD
    obtain ⟨di, hdi, rfl⟩ := okI_get (by decide) (zr_not_f c9)
    refine lv_aload_n hx hb dX1_replace_12 rfl (lv_at hl 0 rfl) ?_
    refine va_get (D := (dC, dI)) (ci := 1) (v := .ref bL) (C := RX1) (T := TX1) (N := 13) hx hb hts hi1 hown hK hP 2 rfl rfl 5 (by decide) (hts (.fieldLink RX1 16 "CellRackModel" "live" "[Z") (by decide +kernel)) (fun _ h9 => h9) rfl dX1_replace_13 ?_
    refine lv_iload_n hx hb dX1_replace_16 rfl (lv_at hl 1 rfl) ?_
    refine zr_zald hx hb hK hP 0 0 rfl rfl (by omega) (by omega) dX1_replace_17 ?_
    refine zr_ifb_eq (tgt := 23) hx hb dX1_replace_18 (by decide) (fun c18 => ?_) (fun c18 => ?_)
    · refine lv_aload_n hx hb dX1_replace_23 rfl (lv_at hl 0 rfl) ?_
      refine va_get (D := (dC, dI)) (ci := 1) (v := .ref bL) (C := RX1) (T := TX1) (N := 13) hx hb hts hi1 hown hK hP 2 rfl rfl 5 (by decide) (hts (.fieldLink RX1 16 "CellRackModel" "live" "[Z") (by decide +kernel)) (fun _ h9 => h9) rfl dX1_replace_24 ?_
      refine lv_iload_n hx hb dX1_replace_27 rfl (lv_at hl 1 rfl) ?_
      refine lv_iconst (v := nI 1) hx hb dX1_replace_28 (by decide) ?_
      refine zr_topi (bI true) (rfl) ?_
      refine zr_zast hx hb hK hP hD hS 0 0 rfl rfl (by omega) (by omega) dX1_replace_29 (fun H locs hP hD hS => ?_)
      replace hP : va_P (dC, dI) vwCl [(bL, .inl (cZ, 16, .inl (fun i9 => bI ((va_up lv di true) i9)))), (bW, .inl (cZ, 1056, .inl (fun i9 => bI (wr i9)))), (g0, .inr (1, [.int (nI 0), .ref bT, .int (nI tp), .ref bO, .int (nI os), .ref bL, .ref bW, .ref bB, .ref bD, .long dn, .long lf, .int (bI mf), .ref bX]))] H := hP
      replace hD : va_D A [(bL, .inl (cZ, 16, .inl (fun i9 => bI ((va_up lv di true) i9)))), (bW, .inl (cZ, 1056, .inl (fun i9 => bI (wr i9)))), (g0, .inr (1, [.int (nI 0), .ref bT, .int (nI tp), .ref bO, .int (nI os), .ref bL, .ref bW, .ref bB, .ref bD, .long dn, .long lf, .int (bI mf), .ref bX]))] := hD
      refine lv_iconst (v := nI 0) hx hb dX1_replace_30 (by decide) ?_
      refine lv_istore_n (lv' := [(2, .int (nI 0)), (0, .ref g0), (1, .int (nI di))]) hx hb dX1_replace_31 rfl hl (by decide) rfl (fun ls hl => ?_)
      refine lp_X1_replace g0 bT bO bL bW bB bD bX 0 tp os dn lf mf cZ (va_up lv di true) wr di hdi hx hb hml hown hts hA hK (Nat.le_of_ble_eq_true rfl) (Nat.le_of_ble_eq_true rfl) (Nat.zero_le _) (Nat.zero_le _) (fun  H locs ls hP hD hS hl => ?_) 67 0 (by omega) (by omega) _ _ _ (hP.sub [2, 0, 1] rfl) (hD.sub [2, 0, 1] (by decide) rfl) hS (lv_sub hl [1, 2, 0] rfl)
      refine lv_iconst (v := nI 1) hx hb dX1_replace_55 (by decide) ?_
      have hP9 := hP.sub (ws' := [(g0, .inr (1, [.int (nI 0), .ref bT, .int (nI tp), .ref bO, .int (nI os), .ref bL, .ref bW, .ref bB, .ref bD, .long dn, .long lf, .int (bI mf), .ref bX])), (bL, .inl (cZ, 16, .inl (fun i9 => bI (((va_up lv di true)) i9)))), (bW, .inl (cZ, 1056, .inl (fun i9 => bI ((rpF wr di 66) i9))))]) [0, 1, 2] rfl
      have hD9 := hD.sub (ws' := [(g0, .inr (1, [.int (nI 0), .ref bT, .int (nI tp), .ref bO, .int (nI os), .ref bL, .ref bW, .ref bB, .ref bD, .long dn, .long lf, .int (bI mf), .ref bX])), (bL, .inl (cZ, 16, .inl (fun i9 => bI (((va_up lv di true)) i9)))), (bW, .inl (cZ, 1056, .inl (fun i9 => bI ((rpF wr di 66) i9))))]) [0, 1, 2] (by decide) rfl
      exact W.zret (v := nI 1) hx hb hr (by decide) (fun t ht hW => ⟨⟨nI 1, (0, (va_up lv di true), rpF wr di 66), rfl, Or.inr ⟨di, hdi, rfl, rfl, Or.inl ⟨c18, rfl, rfl, rfl⟩⟩, by rw [ht]; exact hP9, va_K.moved hW.alike hK, hD9⟩, hS.F ht⟩) hS.2.2 dX1_replace_56
    · refine lv_iconst (v := nI 0) hx hb dX1_replace_21 (by decide) ?_
      have hP9 := hP.sub (ws' := [(g0, .inr (1, [.int (nI 0), .ref bT, .int (nI tp), .ref bO, .int (nI os), .ref bL, .ref bW, .ref bB, .ref bD, .long dn, .long lf, .int (bI mf), .ref bX])), (bL, .inl (cZ, 16, .inl (fun i9 => bI (lv i9)))), (bW, .inl (cZ, 1056, .inl (fun i9 => bI (wr i9))))]) [2, 0, 1] rfl
      have hD9 := hD.sub (ws' := [(g0, .inr (1, [.int (nI 0), .ref bT, .int (nI tp), .ref bO, .int (nI os), .ref bL, .ref bW, .ref bB, .ref bD, .long dn, .long lf, .int (bI mf), .ref bX])), (bL, .inl (cZ, 16, .inl (fun i9 => bI (lv i9)))), (bW, .inl (cZ, 1056, .inl (fun i9 => bI (wr i9))))]) [2, 0, 1] (by decide) rfl
      exact W.zret (v := nI 0) hx hb hr (by decide) (fun t ht hW => ⟨⟨nI 0, (0, lv, wr), rfl, Or.inr ⟨di, hdi, rfl, rfl, Or.inr ⟨c18, rfl, rfl, rfl⟩⟩, by rw [ht]; exact hP9, va_K.moved hW.alike hK, hD9⟩, hS.F ht⟩) hS.2.2 dX1_replace_22
set_option maxHeartbeats 4000000 in
set_option maxRecDepth 100000 in
theorem c_X1_corrupt (l : Launch) (dC : Nat → ClassId) (dI : Nat → Nat → Nat) (sz : Nat) (g0 bT bO bL bW bB bD bX : Nat) (th tp os : Nat) (dn lf : Int64) (mf : Bool) (cZ cB : ClassId) (lv wr bt : Nat → Bool) (dm : Nat → BitVec 8) (x y z : Int32) (mk : Int64) (v : Int32) : Met l yX1_corrupt wsX1_corrupt ({ frames := 2, cells := 0, slots := 0, locals := 47 }) (va_Pc [.ref g0, .int x, .int y, .int z, .long mk, .int v] (fun U => U.heap.size = sz ∧ va_P (dC, dI) vwCl [(g0, .inr (1, [.int (nI th), .ref bT, .int (nI tp), .ref bO, .int (nI os), .ref bL, .ref bW, .ref bB, .ref bD, .long dn, .long lf, .int (bI mf), .ref bX])), (bL, .inl (cZ, 16, .inl (fun i9 => bI (lv i9)))), (bW, .inl (cZ, 1056, .inl (fun i9 => bI (wr i9)))), (bD, .inl (cB, 73920, .inl (fun i9 => sx (dm i9)))), (bX, .inl (cZ, 560, .inl (fun i9 => bI (bt i9))))] U.heap ∧ va_K (dC, dI) vwCl [(cZ, .boolean), (cB, .byte)] U ∧ va_D (fun _ => True) [(g0, .inr (1, [.int (nI th), .ref bT, .int (nI tp), .ref bO, .int (nI os), .ref bL, .ref bW, .ref bB, .ref bD, .long dn, .long lf, .int (bI mf), .ref bX])), (bL, .inl (cZ, 16, .inl (fun i9 => bI (lv i9)))), (bW, .inl (cZ, 1056, .inl (fun i9 => bI (wr i9)))), (bD, .inl (cB, 73920, .inl (fun i9 => sx (dm i9)))), (bX, .inl (cZ, 560, .inl (fun i9 => bI (bt i9))))])) (va_Qi (fun (r : Int32) (u : Nat × (Nat → BitVec 8) × (Nat → Bool)) => match u with | (h2, m2, t2) => (((okI x 16 && okI y 66) = false ∨ okC v = false ∨ ∃ k : Nat, 1 ≤ k ∧ k ≤ 8 ∧ v = nI k ∧ okI z (70 - k + 1) = false) ∧ r = bI false ∧ h2 = 1 ∧ m2 = dm) ∨ (∃ di ce pl k : Nat, di < 16 ∧ ce < 66 ∧ 1 ≤ k ∧ k ≤ 8 ∧ pl + k ≤ 70 ∧ x = nI di ∧ y = nI ce ∧ z = nI pl ∧ v = nI k ∧ h2 = 0 ∧ ((stN lv wr dm di ce < 2 ∧ r = bI false ∧ m2 = dm) ∨ (2 ≤ stN lv wr dm di ce ∧ (dgR (sF dm (66 * di + ce) pl mk k) (66 * di + ce) 70 = false ∨ unR (dv (spF bt (sF dm (66 * di + ce) pl mk k) (70 * (66 * di + ce)) (8 * 70)) 528) 32 = false) ∧ r = bI true ∧ m2 = sF dm (66 * di + ce) pl mk k) ∨ (2 ≤ stN lv wr dm di ce ∧ dgR (sF dm (66 * di + ce) pl mk k) (66 * di + ce) 70 = true ∧ unR (dv (spF bt (sF dm (66 * di + ce) pl mk k) (70 * (66 * di + ce)) (8 * 70)) 528) 32 = true ∧ r = bI false ∧ m2 = sF (sF dm (66 * di + ce) pl mk k) (66 * di + ce) pl mk k)))) (fun (u : Nat × (Nat → BitVec 8) × (Nat → Bool)) t => match u with | (h2, m2, t2) => va_P (dC, dI) vwCl [(g0, .inr (1, [.int (nI h2), .ref bT, .int (nI tp), .ref bO, .int (nI os), .ref bL, .ref bW, .ref bB, .ref bD, .long dn, .long lf, .int (bI mf), .ref bX])), (bL, .inl (cZ, 16, .inl (fun i9 => bI (lv i9)))), (bW, .inl (cZ, 1056, .inl (fun i9 => bI (wr i9)))), (bD, .inl (cB, 73920, .inl (fun i9 => sx (m2 i9)))), (bX, .inl (cZ, 560, .inl (fun i9 => bI (t2 i9))))] t.heap ∧ va_K (dC, dI) vwCl [(cZ, .boolean), (cB, .byte)] t ∧ va_D (va_A [(g0, .inr (1, [.int (nI th), .ref bT, .int (nI tp), .ref bO, .int (nI os), .ref bL, .ref bW, .ref bB, .ref bD, .long dn, .long lf, .int (bI mf), .ref bX])), (bL, .inl (cZ, 16, .inl (fun i9 => bI (lv i9)))), (bW, .inl (cZ, 1056, .inl (fun i9 => bI (wr i9)))), (bD, .inl (cB, 73920, .inl (fun i9 => sx (dm i9)))), (bX, .inl (cZ, 560, .inl (fun i9 => bI (bt i9))))] sz) [(g0, .inr (1, [.int (nI h2), .ref bT, .int (nI tp), .ref bO, .int (nI os), .ref bL, .ref bW, .ref bB, .ref bD, .long dn, .long lf, .int (bI mf), .ref bX])), (bL, .inl (cZ, 16, .inl (fun i9 => bI (lv i9)))), (bW, .inl (cZ, 1056, .inl (fun i9 => bI (wr i9)))), (bD, .inl (cB, 73920, .inl (fun i9 => sx (m2 i9)))), (bX, .inl (cZ, 560, .inl (fun i9 => bI (t2 i9))))]) (va_A [(g0, .inr (1, [.int (nI th), .ref bT, .int (nI tp), .ref bO, .int (nI os), .ref bL, .ref bW, .ref bB, .ref bD, .long dn, .long lf, .int (bI mf), .ref bX])), (bL, .inl (cZ, 16, .inl (fun i9 => bI (lv i9)))), (bW, .inl (cZ, 1056, .inl (fun i9 => bI (wr i9)))), (bD, .inl (cB, 73920, .inl (fun i9 => sx (dm i9)))), (bX, .inl (cZ, 560, .inl (fun i9 => bI (bt i9))))] sz)) 0 0 (va_A [(g0, .inr (1, [.int (nI th), .ref bT, .int (nI tp), .ref bO, .int (nI os), .ref bL, .ref bW, .ref bB, .ref bD, .long dn, .long lf, .int (bI mf), .ref bX])), (bL, .inl (cZ, 16, .inl (fun i9 => bI (lv i9)))), (bW, .inl (cZ, 1056, .inl (fun i9 => bI (wr i9)))), (bD, .inl (cB, 73920, .inl (fun i9 => sx (dm i9)))), (bX, .inl (cZ, 560, .inl (fun i9 => bI (bt i9))))] sz) := by
  refine Met.ofW (cc := cX1_corrupt) (maxL := 8) (ret := some .boolean) (by decide) rfl ?_
  intro p e s m args below meth c s₁ B hml hv
  obtain ⟨rfl, hsz, hP, hK, hD0⟩ := hv
  have hx := B.exec
  have hb := B.bytes
  have hr := B.returns
  have hts := atoms_spec (ws := wsX1_corrupt) B.pre
  have hown : s.vm.findClass RX1 = some m.cls := findClass_of_methodNamed B.named
  have hlocks := B.notSynchronized
  subst hsz
  have hD := hD0.self (sz := s.heap.size)
  generalize hAe : va_A [(g0, .inr (1, [.int (nI th), .ref bT, .int (nI tp), .ref bO, .int (nI os), .ref bL, .ref bW, .ref bB, .ref bD, .long dn, .long lf, .int (bI mf), .ref bX])), (bL, .inl (cZ, 16, .inl (fun i9 => bI (lv i9)))), (bW, .inl (cZ, 1056, .inl (fun i9 => bI (wr i9)))), (bD, .inl (cB, 73920, .inl (fun i9 => sx (dm i9)))), (bX, .inl (cZ, 560, .inl (fun i9 => bI (bt i9))))] s.heap.size = A at hD ⊢
  have hA : ∀ q : Nat, s.heap.size ≤ q → A q := fun q h => by rw [← hAe]; exact Or.inr h
  generalize hH : s.heap = H at hP ⊢
  have hS : va_S A s.heap H [] := by rw [hH]; exact va_S.rf
  replace hP : va_P (dC, dI) vwCl [(g0, .inr (1, [.int (nI th), .ref bT, .int (nI tp), .ref bO, .int (nI os), .ref bL, .ref bW, .ref bB, .ref bD, .long dn, .long lf, .int (bI mf), .ref bX])), (bL, .inl (cZ, 16, .inl (fun i9 => bI (lv i9)))), (bW, .inl (cZ, 1056, .inl (fun i9 => bI (wr i9)))), (bD, .inl (cB, 73920, .inl (fun i9 => sx (dm i9)))), (bX, .inl (cZ, 560, .inl (fun i9 => bI (bt i9))))] H := hP
  have hl := lv_entry ([.ref g0, .int x, .int y, .int z, .long mk, .int v]) (n := 8) (Nat.le_of_ble_eq_true rfl)
  rw [lg_entry_eq]
  generalize (lg_sl ([.ref g0, .int x, .int y, .int z, .long mk, .int v]) ++ List.replicate (8 - (lg_sl ([.ref g0, .int x, .int y, .int z, .long mk, .int v])).length) Slot.unset).toArray = ls at hl ⊢
  have hl : lv_has ls 8 [(0, .ref g0), (1, .int x), (2, .int y), (3, .int z), (4, .long mk), (6, .int v)] := hl
  have hi1 : ∀ w ∈ u_ws RX1 TX1 13, w ∈ wsX1_corrupt := by decide +kernel
  refine lv_aload_n hx hb dX1_corrupt_0 rfl (lv_at hl 0 rfl) ?_
  refine lv_iload_n hx hb dX1_corrupt_1 rfl (lv_at hl 1 rfl) ?_
  refine lv_iload_n hx hb dX1_corrupt_2 rfl (lv_at hl 2 rfl) ?_
  have hPc := hP.sub (ws' := []) [] rfl
  have hDc := hD.sub (ws' := []) [] (by decide) rfl
  have hKc := hK.sub (tys' := []) [] rfl
  have hFc := va_free (wc := []) hD hS hA [] rfl
  refine va_calli (va_runS (As := [.int x, .int y]) (rest := [.ref g0]) ⟨hx, hb, hml, hown, hts⟩ (c_X1_none l dC dI H.size x y) (va_cwS 2 hts gX1_corrupt_X1_none rfl rfl rfl (by decide +kernel) ⟨Nat.le_of_ble_eq_true rfl, Nat.le_of_ble_eq_true rfl⟩) ⟨fun a U g mk q => by obtain ⟨q0, q1, qP, qK, qD⟩ := q; exact ⟨q0, q1, qP, va_K.moved (u := U) (U := U.calling g mk a) (Vm.Alike.refl U.vm) qK, qD⟩, fun U hU hW => ⟨rfl, by rw [hU], by rw [hU]; exact hPc, va_K.moved hW.alike hKc, hDc.weaken (fun _ _ _ _ => trivial)⟩⟩ rfl rfl hl.1 rfl (lv_room (Nat.le_of_ble_eq_true rfl)) dX1_corrupt_3 ⟨Nat.zero_le _, Nat.zero_le _⟩) hS (fun q _ h => hFc q h) hFc (fun r_1 u t H1 locs ht hvm hw hB hz1 hk1 hS => ?_)
  obtain ⟨hP1, hK1, hD1⟩ := hB
  rw [ht] at hP1
  obtain ⟨hPn, hDn⟩ := va_join (wr := [(g0, .inr (1, [.int (nI th), .ref bT, .int (nI tp), .ref bO, .int (nI os), .ref bL, .ref bW, .ref bB, .ref bD, .long dn, .long lf, .int (bI mf), .ref bX])), (bL, .inl (cZ, 16, .inl (fun i9 => bI (lv i9)))), (bW, .inl (cZ, 1056, .inl (fun i9 => bI (wr i9)))), (bD, .inl (cB, 73920, .inl (fun i9 => sx (dm i9)))), (bX, .inl (cZ, 560, .inl (fun i9 => bI (bt i9))))]) (w1 := []) hP hD [] [0, 1, 2, 3, 4] rfl rfl (by decide) (by decide) hk1 hFc hP1 hD1
  clear hP hD hP1 hD1 hK1 hPc hDc hKc hFc hk1 hz1 hvm ht
  generalize H1 = H at hPn hS ⊢
  have hP := hPn
  have hD := hDn
  clear hPn hDn
  replace hP : va_P (dC, dI) vwCl [(g0, .inr (1, [.int (nI th), .ref bT, .int (nI tp), .ref bO, .int (nI os), .ref bL, .ref bW, .ref bB, .ref bD, .long dn, .long lf, .int (bI mf), .ref bX])), (bL, .inl (cZ, 16, .inl (fun i9 => bI (lv i9)))), (bW, .inl (cZ, 1056, .inl (fun i9 => bI (wr i9)))), (bD, .inl (cB, 73920, .inl (fun i9 => sx (dm i9)))), (bX, .inl (cZ, 560, .inl (fun i9 => bI (bt i9))))] H := hP
  replace hD : va_D A [(g0, .inr (1, [.int (nI th), .ref bT, .int (nI tp), .ref bO, .int (nI os), .ref bL, .ref bW, .ref bB, .ref bD, .long dn, .long lf, .int (bI mf), .ref bX])), (bL, .inl (cZ, 16, .inl (fun i9 => bI (lv i9)))), (bW, .inl (cZ, 1056, .inl (fun i9 => bI (wr i9)))), (bD, .inl (cB, 73920, .inl (fun i9 => sx (dm i9)))), (bX, .inl (cZ, 560, .inl (fun i9 => bI (bt i9))))] := hD
  refine W.widen (k := 0) (n := 0) (Nat.le_refl _) (Nat.le_refl _) ?_
  obtain rfl := hw
  refine zr_ifb_ne (tgt := 33) hx hb dX1_corrupt_6 (by decide) (fun c6 => ?_) (fun c6 => ?_)
  · refine lv_iconst (v := nI 1) hx hb dX1_corrupt_33 (by decide) ?_
    refine lv_goto (tgt := 38) hx hb dX1_corrupt_34 (by decide) ?_
    refine zr_topi (bI true) (rfl) ?_
    refine lv_iconst (v := nI 1) hx hb dX1_corrupt_38 (by decide) ?_
    have hPc := hP.sub (ws' := [(g0, .inr (1, [.int (nI th), .ref bT, .int (nI tp), .ref bO, .int (nI os), .ref bL, .ref bW, .ref bB, .ref bD, .long dn, .long lf, .int (bI mf), .ref bX]))]) [0] rfl
    have hDc := hD.sub (ws' := [(g0, .inr (1, [.int (nI th), .ref bT, .int (nI tp), .ref bO, .int (nI os), .ref bL, .ref bW, .ref bB, .ref bD, .long dn, .long lf, .int (bI mf), .ref bX]))]) [0] (by decide) rfl
    have hKc := hK.sub (tys' := []) [] rfl
    have hFc := va_free (wc := [(g0, .inr (1, [.int (nI th), .ref bT, .int (nI tp), .ref bO, .int (nI os), .ref bL, .ref bW, .ref bB, .ref bD, .long dn, .long lf, .int (bI mf), .ref bX]))]) hD hS hA [0] rfl
    refine va_calli (va_runV (As := [.int (bI true), .int (nI 1)]) (rest := []) ⟨hx, hb, hml, hown, hts⟩ (c_X1_fails l dC dI H.size g0 bT bO bL bW bB bD bX th tp os dn lf mf true 1) (cwV 2 hts gX1_corrupt_X1_fails rfl rfl rfl (by decide +kernel) ⟨Nat.le_of_ble_eq_true rfl, Nat.le_of_ble_eq_true rfl⟩) ⟨fun a U g mk q => by obtain ⟨q0, q1, qP, qK, qD⟩ := q; exact ⟨q0, q1, qP, va_K.moved (u := U) (U := U.calling g mk a) (Vm.Alike.refl U.vm) qK, qD⟩, va_recv hKc hPc (ci := 1) (q0 := 0) rfl rfl, fun U hU hW => ⟨rfl, by rw [hU], by rw [hU]; exact hPc, va_K.moved hW.alike hKc, hDc.weaken (fun _ _ _ _ => trivial)⟩⟩ rfl rfl hl.1 rfl (lv_room (Nat.le_of_ble_eq_true rfl)) dX1_corrupt_39 ⟨Nat.zero_le _, Nat.zero_le _⟩) hS (fun q _ h => hFc q h) hFc (fun r_2 u t H1 locs ht hvm hw hB hz1 hk1 hS => ?_)
    obtain ⟨hP1, hK1, hD1⟩ := hB
    rw [ht] at hP1
    obtain ⟨hPn, hDn⟩ := va_join (wr := [(bL, .inl (cZ, 16, .inl (fun i9 => bI (lv i9)))), (bW, .inl (cZ, 1056, .inl (fun i9 => bI (wr i9)))), (bD, .inl (cB, 73920, .inl (fun i9 => sx (dm i9)))), (bX, .inl (cZ, 560, .inl (fun i9 => bI (bt i9))))]) (w1 := [(g0, .inr (1, [.int (nI (cond true 1 0)), .ref bT, .int (nI tp), .ref bO, .int (nI os), .ref bL, .ref bW, .ref bB, .ref bD, .long dn, .long lf, .int (bI mf), .ref bX]))]) hP hD [0] [1, 2, 3, 4] rfl rfl (by decide) (by decide) hk1 hFc hP1 hD1
    clear hP hD hP1 hD1 hK1 hPc hDc hKc hFc hk1 hz1 hvm ht
    generalize H1 = H at hPn hS ⊢
    have hP := hPn
    have hD := hDn
    clear hPn hDn
    replace hP : va_P (dC, dI) vwCl [(bL, .inl (cZ, 16, .inl (fun i9 => bI (lv i9)))), (bW, .inl (cZ, 1056, .inl (fun i9 => bI (wr i9)))), (bD, .inl (cB, 73920, .inl (fun i9 => sx (dm i9)))), (bX, .inl (cZ, 560, .inl (fun i9 => bI (bt i9)))), (g0, .inr (1, [.int (nI (cond true 1 0)), .ref bT, .int (nI tp), .ref bO, .int (nI os), .ref bL, .ref bW, .ref bB, .ref bD, .long dn, .long lf, .int (bI mf), .ref bX]))] H := hP
    replace hD : va_D A [(bL, .inl (cZ, 16, .inl (fun i9 => bI (lv i9)))), (bW, .inl (cZ, 1056, .inl (fun i9 => bI (wr i9)))), (bD, .inl (cB, 73920, .inl (fun i9 => sx (dm i9)))), (bX, .inl (cZ, 560, .inl (fun i9 => bI (bt i9)))), (g0, .inr (1, [.int (nI (cond true 1 0)), .ref bT, .int (nI tp), .ref bO, .int (nI os), .ref bL, .ref bW, .ref bB, .ref bD, .long dn, .long lf, .int (bI mf), .ref bX]))] := hD
    refine W.widen (k := 0) (n := 0) (Nat.le_refl _) (Nat.le_refl _) ?_
    obtain rfl := hw
    replace hP : va_P (dC, dI) vwCl [(bL, .inl (cZ, 16, .inl (fun i9 => bI (lv i9)))), (bW, .inl (cZ, 1056, .inl (fun i9 => bI (wr i9)))), (bD, .inl (cB, 73920, .inl (fun i9 => sx (dm i9)))), (bX, .inl (cZ, 560, .inl (fun i9 => bI (bt i9)))), (g0, .inr (1, [.int (nI 1), .ref bT, .int (nI tp), .ref bO, .int (nI os), .ref bL, .ref bW, .ref bB, .ref bD, .long dn, .long lf, .int (bI mf), .ref bX]))] H := hP
    replace hD : va_D A [(bL, .inl (cZ, 16, .inl (fun i9 => bI (lv i9)))), (bW, .inl (cZ, 1056, .inl (fun i9 => bI (wr i9)))), (bD, .inl (cB, 73920, .inl (fun i9 => sx (dm i9)))), (bX, .inl (cZ, 560, .inl (fun i9 => bI (bt i9)))), (g0, .inr (1, [.int (nI 1), .ref bT, .int (nI tp), .ref bO, .int (nI os), .ref bL, .ref bW, .ref bB, .ref bD, .long dn, .long lf, .int (bI mf), .ref bX]))] := hD
    refine zr_ifb_ne (tgt := 55) hx hb dX1_corrupt_42 (by decide) (fun c42 => ?_) (fun c42 => absurd c42 (by decide))
    refine lv_iconst (v := nI 0) hx hb dX1_corrupt_55 (by decide) ?_
    have hP9 := hP.sub (ws' := [(g0, .inr (1, [.int (nI 1), .ref bT, .int (nI tp), .ref bO, .int (nI os), .ref bL, .ref bW, .ref bB, .ref bD, .long dn, .long lf, .int (bI mf), .ref bX])), (bL, .inl (cZ, 16, .inl (fun i9 => bI (lv i9)))), (bW, .inl (cZ, 1056, .inl (fun i9 => bI (wr i9)))), (bD, .inl (cB, 73920, .inl (fun i9 => sx (dm i9)))), (bX, .inl (cZ, 560, .inl (fun i9 => bI (bt i9))))]) [4, 0, 1, 2, 3] rfl
    have hD9 := hD.sub (ws' := [(g0, .inr (1, [.int (nI 1), .ref bT, .int (nI tp), .ref bO, .int (nI os), .ref bL, .ref bW, .ref bB, .ref bD, .long dn, .long lf, .int (bI mf), .ref bX])), (bL, .inl (cZ, 16, .inl (fun i9 => bI (lv i9)))), (bW, .inl (cZ, 1056, .inl (fun i9 => bI (wr i9)))), (bD, .inl (cB, 73920, .inl (fun i9 => sx (dm i9)))), (bX, .inl (cZ, 560, .inl (fun i9 => bI (bt i9))))]) [4, 0, 1, 2, 3] (by decide) rfl
    exact W.zret (v := nI 0) hx hb hr (by decide) (fun t ht hW => ⟨⟨nI 0, (1, dm, bt), rfl, Or.inl ⟨by first | exact Or.inl (zr_not_t c6) | exact Or.inr (Or.inl c17) | exact Or.inr (Or.inr ⟨k, hk1, hk8, rfl, c30⟩), rfl, rfl, rfl⟩, by rw [ht]; exact hP9, va_K.moved hW.alike hK, hD9⟩, hS.F ht⟩) hS.2.2 dX1_corrupt_56
  · refine lv_iload hx hb dX1_corrupt_9 (lv_at hl 5 rfl) ?_
    refine lv_iconst (v := nI 1) hx hb dX1_corrupt_11 (by decide) ?_
    refine lv_bipush (v := nI 8) hx hb dX1_corrupt_12 (by decide) ?_
    have hPc := hP.sub (ws' := []) [] rfl
    have hDc := hD.sub (ws' := []) [] (by decide) rfl
    have hKc := hK.sub (tys' := []) [] rfl
    have hFc := va_free (wc := []) hD hS hA [] rfl
    refine va_calli (va_runS (As := [.int v, .int (nI 1), .int (nI 8)]) (rest := [.ref g0]) ⟨hx, hb, hml, hown, hts⟩ (c_X1_within l dC dI H.size v (nI 1) (nI 8)) (va_cwS 3 hts gX1_corrupt_X1_within rfl rfl rfl (by decide +kernel) ⟨Nat.le_of_ble_eq_true rfl, Nat.le_of_ble_eq_true rfl⟩) ⟨fun a U g mk q => by obtain ⟨q0, q1, qP, qK, qD⟩ := q; exact ⟨q0, q1, qP, va_K.moved (u := U) (U := U.calling g mk a) (Vm.Alike.refl U.vm) qK, qD⟩, fun U hU hW => ⟨rfl, by rw [hU], by rw [hU]; exact hPc, va_K.moved hW.alike hKc, hDc.weaken (fun _ _ _ _ => trivial)⟩⟩ rfl rfl hl.1 rfl (lv_room (Nat.le_of_ble_eq_true rfl)) dX1_corrupt_14 ⟨Nat.zero_le _, Nat.zero_le _⟩) hS (fun q _ h => hFc q h) hFc (fun r_3 u t H1 locs ht hvm hw hB hz1 hk1 hS => ?_)
    obtain ⟨hP1, hK1, hD1⟩ := hB
    rw [ht] at hP1
    obtain ⟨hPn, hDn⟩ := va_join (wr := [(g0, .inr (1, [.int (nI th), .ref bT, .int (nI tp), .ref bO, .int (nI os), .ref bL, .ref bW, .ref bB, .ref bD, .long dn, .long lf, .int (bI mf), .ref bX])), (bL, .inl (cZ, 16, .inl (fun i9 => bI (lv i9)))), (bW, .inl (cZ, 1056, .inl (fun i9 => bI (wr i9)))), (bD, .inl (cB, 73920, .inl (fun i9 => sx (dm i9)))), (bX, .inl (cZ, 560, .inl (fun i9 => bI (bt i9))))]) (w1 := []) hP hD [] [0, 1, 2, 3, 4] rfl rfl (by decide) (by decide) hk1 hFc hP1 hD1
    clear hP hD hP1 hD1 hK1 hPc hDc hKc hFc hk1 hz1 hvm ht
    generalize H1 = H at hPn hS ⊢
    have hP := hPn
    have hD := hDn
    clear hPn hDn
    replace hP : va_P (dC, dI) vwCl [(g0, .inr (1, [.int (nI th), .ref bT, .int (nI tp), .ref bO, .int (nI os), .ref bL, .ref bW, .ref bB, .ref bD, .long dn, .long lf, .int (bI mf), .ref bX])), (bL, .inl (cZ, 16, .inl (fun i9 => bI (lv i9)))), (bW, .inl (cZ, 1056, .inl (fun i9 => bI (wr i9)))), (bD, .inl (cB, 73920, .inl (fun i9 => sx (dm i9)))), (bX, .inl (cZ, 560, .inl (fun i9 => bI (bt i9))))] H := hP
    replace hD : va_D A [(g0, .inr (1, [.int (nI th), .ref bT, .int (nI tp), .ref bO, .int (nI os), .ref bL, .ref bW, .ref bB, .ref bD, .long dn, .long lf, .int (bI mf), .ref bX])), (bL, .inl (cZ, 16, .inl (fun i9 => bI (lv i9)))), (bW, .inl (cZ, 1056, .inl (fun i9 => bI (wr i9)))), (bD, .inl (cB, 73920, .inl (fun i9 => sx (dm i9)))), (bX, .inl (cZ, 560, .inl (fun i9 => bI (bt i9))))] := hD
    refine W.widen (k := 0) (n := 0) (Nat.le_refl _) (Nat.le_refl _) ?_
    obtain rfl := hw
    refine zr_topi (bI (okC v)) (by rw [inB_okC]) ?_
    refine zr_ifb_eq (tgt := 33) hx hb dX1_corrupt_17 (by decide) (fun c17 => ?_) (fun c17 => ?_)
    · refine lv_iconst (v := nI 1) hx hb dX1_corrupt_33 (by decide) ?_
      refine lv_goto (tgt := 38) hx hb dX1_corrupt_34 (by decide) ?_
      refine zr_topi (bI true) (rfl) ?_
      refine lv_iconst (v := nI 1) hx hb dX1_corrupt_38 (by decide) ?_
      have hPc := hP.sub (ws' := [(g0, .inr (1, [.int (nI th), .ref bT, .int (nI tp), .ref bO, .int (nI os), .ref bL, .ref bW, .ref bB, .ref bD, .long dn, .long lf, .int (bI mf), .ref bX]))]) [0] rfl
      have hDc := hD.sub (ws' := [(g0, .inr (1, [.int (nI th), .ref bT, .int (nI tp), .ref bO, .int (nI os), .ref bL, .ref bW, .ref bB, .ref bD, .long dn, .long lf, .int (bI mf), .ref bX]))]) [0] (by decide) rfl
      have hKc := hK.sub (tys' := []) [] rfl
      have hFc := va_free (wc := [(g0, .inr (1, [.int (nI th), .ref bT, .int (nI tp), .ref bO, .int (nI os), .ref bL, .ref bW, .ref bB, .ref bD, .long dn, .long lf, .int (bI mf), .ref bX]))]) hD hS hA [0] rfl
      refine va_calli (va_runV (As := [.int (bI true), .int (nI 1)]) (rest := []) ⟨hx, hb, hml, hown, hts⟩ (c_X1_fails l dC dI H.size g0 bT bO bL bW bB bD bX th tp os dn lf mf true 1) (cwV 2 hts gX1_corrupt_X1_fails rfl rfl rfl (by decide +kernel) ⟨Nat.le_of_ble_eq_true rfl, Nat.le_of_ble_eq_true rfl⟩) ⟨fun a U g mk q => by obtain ⟨q0, q1, qP, qK, qD⟩ := q; exact ⟨q0, q1, qP, va_K.moved (u := U) (U := U.calling g mk a) (Vm.Alike.refl U.vm) qK, qD⟩, va_recv hKc hPc (ci := 1) (q0 := 0) rfl rfl, fun U hU hW => ⟨rfl, by rw [hU], by rw [hU]; exact hPc, va_K.moved hW.alike hKc, hDc.weaken (fun _ _ _ _ => trivial)⟩⟩ rfl rfl hl.1 rfl (lv_room (Nat.le_of_ble_eq_true rfl)) dX1_corrupt_39 ⟨Nat.zero_le _, Nat.zero_le _⟩) hS (fun q _ h => hFc q h) hFc (fun r_4 u t H1 locs ht hvm hw hB hz1 hk1 hS => ?_)
      obtain ⟨hP1, hK1, hD1⟩ := hB
      rw [ht] at hP1
      obtain ⟨hPn, hDn⟩ := va_join (wr := [(bL, .inl (cZ, 16, .inl (fun i9 => bI (lv i9)))), (bW, .inl (cZ, 1056, .inl (fun i9 => bI (wr i9)))), (bD, .inl (cB, 73920, .inl (fun i9 => sx (dm i9)))), (bX, .inl (cZ, 560, .inl (fun i9 => bI (bt i9))))]) (w1 := [(g0, .inr (1, [.int (nI (cond true 1 0)), .ref bT, .int (nI tp), .ref bO, .int (nI os), .ref bL, .ref bW, .ref bB, .ref bD, .long dn, .long lf, .int (bI mf), .ref bX]))]) hP hD [0] [1, 2, 3, 4] rfl rfl (by decide) (by decide) hk1 hFc hP1 hD1
      clear hP hD hP1 hD1 hK1 hPc hDc hKc hFc hk1 hz1 hvm ht
      generalize H1 = H at hPn hS ⊢
      have hP := hPn
      have hD := hDn
      clear hPn hDn
      replace hP : va_P (dC, dI) vwCl [(bL, .inl (cZ, 16, .inl (fun i9 => bI (lv i9)))), (bW, .inl (cZ, 1056, .inl (fun i9 => bI (wr i9)))), (bD, .inl (cB, 73920, .inl (fun i9 => sx (dm i9)))), (bX, .inl (cZ, 560, .inl (fun i9 => bI (bt i9)))), (g0, .inr (1, [.int (nI (cond true 1 0)), .ref bT, .int (nI tp), .ref bO, .int (nI os), .ref bL, .ref bW, .ref bB, .ref bD, .long dn, .long lf, .int (bI mf), .ref bX]))] H := hP
      replace hD : va_D A [(bL, .inl (cZ, 16, .inl (fun i9 => bI (lv i9)))), (bW, .inl (cZ, 1056, .inl (fun i9 => bI (wr i9)))), (bD, .inl (cB, 73920, .inl (fun i9 => sx (dm i9)))), (bX, .inl (cZ, 560, .inl (fun i9 => bI (bt i9)))), (g0, .inr (1, [.int (nI (cond true 1 0)), .ref bT, .int (nI tp), .ref bO, .int (nI os), .ref bL, .ref bW, .ref bB, .ref bD, .long dn, .long lf, .int (bI mf), .ref bX]))] := hD
      refine W.widen (k := 0) (n := 0) (Nat.le_refl _) (Nat.le_refl _) ?_
      obtain rfl := hw
      replace hP : va_P (dC, dI) vwCl [(bL, .inl (cZ, 16, .inl (fun i9 => bI (lv i9)))), (bW, .inl (cZ, 1056, .inl (fun i9 => bI (wr i9)))), (bD, .inl (cB, 73920, .inl (fun i9 => sx (dm i9)))), (bX, .inl (cZ, 560, .inl (fun i9 => bI (bt i9)))), (g0, .inr (1, [.int (nI 1), .ref bT, .int (nI tp), .ref bO, .int (nI os), .ref bL, .ref bW, .ref bB, .ref bD, .long dn, .long lf, .int (bI mf), .ref bX]))] H := hP
      replace hD : va_D A [(bL, .inl (cZ, 16, .inl (fun i9 => bI (lv i9)))), (bW, .inl (cZ, 1056, .inl (fun i9 => bI (wr i9)))), (bD, .inl (cB, 73920, .inl (fun i9 => sx (dm i9)))), (bX, .inl (cZ, 560, .inl (fun i9 => bI (bt i9)))), (g0, .inr (1, [.int (nI 1), .ref bT, .int (nI tp), .ref bO, .int (nI os), .ref bL, .ref bW, .ref bB, .ref bD, .long dn, .long lf, .int (bI mf), .ref bX]))] := hD
      refine zr_ifb_ne (tgt := 55) hx hb dX1_corrupt_42 (by decide) (fun c42 => ?_) (fun c42 => absurd c42 (by decide))
      refine lv_iconst (v := nI 0) hx hb dX1_corrupt_55 (by decide) ?_
      have hP9 := hP.sub (ws' := [(g0, .inr (1, [.int (nI 1), .ref bT, .int (nI tp), .ref bO, .int (nI os), .ref bL, .ref bW, .ref bB, .ref bD, .long dn, .long lf, .int (bI mf), .ref bX])), (bL, .inl (cZ, 16, .inl (fun i9 => bI (lv i9)))), (bW, .inl (cZ, 1056, .inl (fun i9 => bI (wr i9)))), (bD, .inl (cB, 73920, .inl (fun i9 => sx (dm i9)))), (bX, .inl (cZ, 560, .inl (fun i9 => bI (bt i9))))]) [4, 0, 1, 2, 3] rfl
      have hD9 := hD.sub (ws' := [(g0, .inr (1, [.int (nI 1), .ref bT, .int (nI tp), .ref bO, .int (nI os), .ref bL, .ref bW, .ref bB, .ref bD, .long dn, .long lf, .int (bI mf), .ref bX])), (bL, .inl (cZ, 16, .inl (fun i9 => bI (lv i9)))), (bW, .inl (cZ, 1056, .inl (fun i9 => bI (wr i9)))), (bD, .inl (cB, 73920, .inl (fun i9 => sx (dm i9)))), (bX, .inl (cZ, 560, .inl (fun i9 => bI (bt i9))))]) [4, 0, 1, 2, 3] (by decide) rfl
      exact W.zret (v := nI 0) hx hb hr (by decide) (fun t ht hW => ⟨⟨nI 0, (1, dm, bt), rfl, Or.inl ⟨by first | exact Or.inl (zr_not_t c6) | exact Or.inr (Or.inl c17) | exact Or.inr (Or.inr ⟨k, hk1, hk8, rfl, c30⟩), rfl, rfl, rfl⟩, by rw [ht]; exact hP9, va_K.moved hW.alike hK, hD9⟩, hS.F ht⟩) hS.2.2 dX1_corrupt_56
    · obtain ⟨k, hk1, hk8, rfl⟩ := okC_get c17
      refine lv_iload_n hx hb dX1_corrupt_20 rfl (lv_at hl 3 rfl) ?_
      refine lv_iconst (v := nI 0) hx hb dX1_corrupt_21 (by decide) ?_
      refine lv_bipush (v := nI 70) hx hb dX1_corrupt_22 (by decide) ?_
      refine lv_iload hx hb dX1_corrupt_24 (lv_at hl 5 rfl) ?_
      refine zr_isub hx hb (by omega) dX1_corrupt_26 ?_
      have hPc := hP.sub (ws' := []) [] rfl
      have hDc := hD.sub (ws' := []) [] (by decide) rfl
      have hKc := hK.sub (tys' := []) [] rfl
      have hFc := va_free (wc := []) hD hS hA [] rfl
      refine va_calli (va_runS (As := [.int z, .int (nI 0), .int (nI (70 - k))]) (rest := [.ref g0]) ⟨hx, hb, hml, hown, hts⟩ (c_X1_within l dC dI H.size z (nI 0) (nI (70 - k))) (va_cwS 3 hts gX1_corrupt_X1_within rfl rfl rfl (by decide +kernel) ⟨Nat.le_of_ble_eq_true rfl, Nat.le_of_ble_eq_true rfl⟩) ⟨fun a U g mk q => by obtain ⟨q0, q1, qP, qK, qD⟩ := q; exact ⟨q0, q1, qP, va_K.moved (u := U) (U := U.calling g mk a) (Vm.Alike.refl U.vm) qK, qD⟩, fun U hU hW => ⟨rfl, by rw [hU], by rw [hU]; exact hPc, va_K.moved hW.alike hKc, hDc.weaken (fun _ _ _ _ => trivial)⟩⟩ rfl rfl hl.1 rfl (lv_room (Nat.le_of_ble_eq_true rfl)) dX1_corrupt_27 ⟨Nat.zero_le _, Nat.zero_le _⟩) hS (fun q _ h => hFc q h) hFc (fun r_5 u t H1 locs ht hvm hw hB hz1 hk1 hS => ?_)
      obtain ⟨hP1, hK1, hD1⟩ := hB
      rw [ht] at hP1
      obtain ⟨hPn, hDn⟩ := va_join (wr := [(g0, .inr (1, [.int (nI th), .ref bT, .int (nI tp), .ref bO, .int (nI os), .ref bL, .ref bW, .ref bB, .ref bD, .long dn, .long lf, .int (bI mf), .ref bX])), (bL, .inl (cZ, 16, .inl (fun i9 => bI (lv i9)))), (bW, .inl (cZ, 1056, .inl (fun i9 => bI (wr i9)))), (bD, .inl (cB, 73920, .inl (fun i9 => sx (dm i9)))), (bX, .inl (cZ, 560, .inl (fun i9 => bI (bt i9))))]) (w1 := []) hP hD [] [0, 1, 2, 3, 4] rfl rfl (by decide) (by decide) hk1 hFc hP1 hD1
      clear hP hD hP1 hD1 hK1 hPc hDc hKc hFc hk1 hz1 hvm ht
      generalize H1 = H at hPn hS ⊢
      have hP := hPn
      have hD := hDn
      clear hPn hDn
      replace hP : va_P (dC, dI) vwCl [(g0, .inr (1, [.int (nI th), .ref bT, .int (nI tp), .ref bO, .int (nI os), .ref bL, .ref bW, .ref bB, .ref bD, .long dn, .long lf, .int (bI mf), .ref bX])), (bL, .inl (cZ, 16, .inl (fun i9 => bI (lv i9)))), (bW, .inl (cZ, 1056, .inl (fun i9 => bI (wr i9)))), (bD, .inl (cB, 73920, .inl (fun i9 => sx (dm i9)))), (bX, .inl (cZ, 560, .inl (fun i9 => bI (bt i9))))] H := hP
      replace hD : va_D A [(g0, .inr (1, [.int (nI th), .ref bT, .int (nI tp), .ref bO, .int (nI os), .ref bL, .ref bW, .ref bB, .ref bD, .long dn, .long lf, .int (bI mf), .ref bX])), (bL, .inl (cZ, 16, .inl (fun i9 => bI (lv i9)))), (bW, .inl (cZ, 1056, .inl (fun i9 => bI (wr i9)))), (bD, .inl (cB, 73920, .inl (fun i9 => sx (dm i9)))), (bX, .inl (cZ, 560, .inl (fun i9 => bI (bt i9))))] := hD
      refine W.widen (k := 0) (n := 0) (Nat.le_refl _) (Nat.le_refl _) ?_
      obtain rfl := hw
      refine zr_topi (bI (okI z (70 - k + 1))) (by rw [inB_ok _ (by omega)]) ?_
      refine zr_ifb_ne (tgt := 37) hx hb dX1_corrupt_30 (by decide) (fun c30 => ?_) (fun c30 => ?_)
      · obtain ⟨di, hdi, rfl⟩ := okI_get (by decide) (Bool.and_eq_true_iff.mp (zr_not_f c6)).1
        obtain ⟨ce, hce9, rfl⟩ := okI_get (by decide) (Bool.and_eq_true_iff.mp (zr_not_f c6)).2
        obtain ⟨pl, hpl, rfl⟩ := okI_get (by omega) c30
        refine lv_iconst (v := nI 0) hx hb dX1_corrupt_37 (by decide) ?_
        refine zr_topi (bI false) (rfl) ?_
        refine lv_iconst (v := nI 1) hx hb dX1_corrupt_38 (by decide) ?_
        have hPc := hP.sub (ws' := [(g0, .inr (1, [.int (nI th), .ref bT, .int (nI tp), .ref bO, .int (nI os), .ref bL, .ref bW, .ref bB, .ref bD, .long dn, .long lf, .int (bI mf), .ref bX]))]) [0] rfl
        have hDc := hD.sub (ws' := [(g0, .inr (1, [.int (nI th), .ref bT, .int (nI tp), .ref bO, .int (nI os), .ref bL, .ref bW, .ref bB, .ref bD, .long dn, .long lf, .int (bI mf), .ref bX]))]) [0] (by decide) rfl
        have hKc := hK.sub (tys' := []) [] rfl
        have hFc := va_free (wc := [(g0, .inr (1, [.int (nI th), .ref bT, .int (nI tp), .ref bO, .int (nI os), .ref bL, .ref bW, .ref bB, .ref bD, .long dn, .long lf, .int (bI mf), .ref bX]))]) hD hS hA [0] rfl
        refine va_calli (va_runV (As := [.int (bI false), .int (nI 1)]) (rest := []) ⟨hx, hb, hml, hown, hts⟩ (c_X1_fails l dC dI H.size g0 bT bO bL bW bB bD bX th tp os dn lf mf false 1) (cwV 2 hts gX1_corrupt_X1_fails rfl rfl rfl (by decide +kernel) ⟨Nat.le_of_ble_eq_true rfl, Nat.le_of_ble_eq_true rfl⟩) ⟨fun a U g mk q => by obtain ⟨q0, q1, qP, qK, qD⟩ := q; exact ⟨q0, q1, qP, va_K.moved (u := U) (U := U.calling g mk a) (Vm.Alike.refl U.vm) qK, qD⟩, va_recv hKc hPc (ci := 1) (q0 := 0) rfl rfl, fun U hU hW => ⟨rfl, by rw [hU], by rw [hU]; exact hPc, va_K.moved hW.alike hKc, hDc.weaken (fun _ _ _ _ => trivial)⟩⟩ rfl rfl hl.1 rfl (lv_room (Nat.le_of_ble_eq_true rfl)) dX1_corrupt_39 ⟨Nat.zero_le _, Nat.zero_le _⟩) hS (fun q _ h => hFc q h) hFc (fun r_6 u t H1 locs ht hvm hw hB hz1 hk1 hS => ?_)
        obtain ⟨hP1, hK1, hD1⟩ := hB
        rw [ht] at hP1
        obtain ⟨hPn, hDn⟩ := va_join (wr := [(bL, .inl (cZ, 16, .inl (fun i9 => bI (lv i9)))), (bW, .inl (cZ, 1056, .inl (fun i9 => bI (wr i9)))), (bD, .inl (cB, 73920, .inl (fun i9 => sx (dm i9)))), (bX, .inl (cZ, 560, .inl (fun i9 => bI (bt i9))))]) (w1 := [(g0, .inr (1, [.int (nI (cond false 1 0)), .ref bT, .int (nI tp), .ref bO, .int (nI os), .ref bL, .ref bW, .ref bB, .ref bD, .long dn, .long lf, .int (bI mf), .ref bX]))]) hP hD [0] [1, 2, 3, 4] rfl rfl (by decide) (by decide) hk1 hFc hP1 hD1
        clear hP hD hP1 hD1 hK1 hPc hDc hKc hFc hk1 hz1 hvm ht
        generalize H1 = H at hPn hS ⊢
        have hP := hPn
        have hD := hDn
        clear hPn hDn
        replace hP : va_P (dC, dI) vwCl [(bL, .inl (cZ, 16, .inl (fun i9 => bI (lv i9)))), (bW, .inl (cZ, 1056, .inl (fun i9 => bI (wr i9)))), (bD, .inl (cB, 73920, .inl (fun i9 => sx (dm i9)))), (bX, .inl (cZ, 560, .inl (fun i9 => bI (bt i9)))), (g0, .inr (1, [.int (nI (cond false 1 0)), .ref bT, .int (nI tp), .ref bO, .int (nI os), .ref bL, .ref bW, .ref bB, .ref bD, .long dn, .long lf, .int (bI mf), .ref bX]))] H := hP
        replace hD : va_D A [(bL, .inl (cZ, 16, .inl (fun i9 => bI (lv i9)))), (bW, .inl (cZ, 1056, .inl (fun i9 => bI (wr i9)))), (bD, .inl (cB, 73920, .inl (fun i9 => sx (dm i9)))), (bX, .inl (cZ, 560, .inl (fun i9 => bI (bt i9)))), (g0, .inr (1, [.int (nI (cond false 1 0)), .ref bT, .int (nI tp), .ref bO, .int (nI os), .ref bL, .ref bW, .ref bB, .ref bD, .long dn, .long lf, .int (bI mf), .ref bX]))] := hD
        refine W.widen (k := 0) (n := 0) (Nat.le_refl _) (Nat.le_refl _) ?_
        obtain rfl := hw
        replace hP : va_P (dC, dI) vwCl [(bL, .inl (cZ, 16, .inl (fun i9 => bI (lv i9)))), (bW, .inl (cZ, 1056, .inl (fun i9 => bI (wr i9)))), (bD, .inl (cB, 73920, .inl (fun i9 => sx (dm i9)))), (bX, .inl (cZ, 560, .inl (fun i9 => bI (bt i9)))), (g0, .inr (1, [.int (nI 0), .ref bT, .int (nI tp), .ref bO, .int (nI os), .ref bL, .ref bW, .ref bB, .ref bD, .long dn, .long lf, .int (bI mf), .ref bX]))] H := hP
        replace hD : va_D A [(bL, .inl (cZ, 16, .inl (fun i9 => bI (lv i9)))), (bW, .inl (cZ, 1056, .inl (fun i9 => bI (wr i9)))), (bD, .inl (cB, 73920, .inl (fun i9 => sx (dm i9)))), (bX, .inl (cZ, 560, .inl (fun i9 => bI (bt i9)))), (g0, .inr (1, [.int (nI 0), .ref bT, .int (nI tp), .ref bO, .int (nI os), .ref bL, .ref bW, .ref bB, .ref bD, .long dn, .long lf, .int (bI mf), .ref bX]))] := hD
        refine zr_ifb_ne (tgt := 55) hx hb dX1_corrupt_42 (by decide) (fun c42 => absurd c42 (by decide)) (fun c42 => ?_)
        refine lv_aload_n hx hb dX1_corrupt_45 rfl (lv_at hl 0 rfl) ?_
        refine lv_iload_n hx hb dX1_corrupt_46 rfl (lv_at hl 1 rfl) ?_
        refine lv_iload_n hx hb dX1_corrupt_47 rfl (lv_at hl 2 rfl) ?_
        have hPc := hP.sub (ws' := [(g0, .inr (1, [.int (nI 0), .ref bT, .int (nI tp), .ref bO, .int (nI os), .ref bL, .ref bW, .ref bB, .ref bD, .long dn, .long lf, .int (bI mf), .ref bX])), (bL, .inl (cZ, 16, .inl (fun i9 => bI (lv i9)))), (bW, .inl (cZ, 1056, .inl (fun i9 => bI (wr i9)))), (bD, .inl (cB, 73920, .inl (fun i9 => sx (dm i9))))]) [4, 0, 1, 2] rfl
        have hDc := hD.sub (ws' := [(g0, .inr (1, [.int (nI 0), .ref bT, .int (nI tp), .ref bO, .int (nI os), .ref bL, .ref bW, .ref bB, .ref bD, .long dn, .long lf, .int (bI mf), .ref bX])), (bL, .inl (cZ, 16, .inl (fun i9 => bI (lv i9)))), (bW, .inl (cZ, 1056, .inl (fun i9 => bI (wr i9)))), (bD, .inl (cB, 73920, .inl (fun i9 => sx (dm i9))))]) [4, 0, 1, 2] (by decide) rfl
        have hKc := hK.sub (tys' := [(cZ, .boolean), (cB, .byte)]) [0, 1] rfl
        have hFc := va_free (wc := [(g0, .inr (1, [.int (nI 0), .ref bT, .int (nI tp), .ref bO, .int (nI os), .ref bL, .ref bW, .ref bB, .ref bD, .long dn, .long lf, .int (bI mf), .ref bX])), (bL, .inl (cZ, 16, .inl (fun i9 => bI (lv i9)))), (bW, .inl (cZ, 1056, .inl (fun i9 => bI (wr i9)))), (bD, .inl (cB, 73920, .inl (fun i9 => sx (dm i9))))]) hD hS hA [4, 0, 1, 2] rfl
        refine va_calli (va_runV (As := [.int (nI di), .int (nI ce)]) (rest := []) ⟨hx, hb, hml, hown, hts⟩ (c_X1_stateOf l dC dI H.size g0 bT bO bL bW bB bD bX 0 tp os dn lf mf cZ cB lv wr dm di ce (by omega) (by omega)) (cwV 2 hts gX1_corrupt_X1_stateOf rfl rfl rfl (by decide +kernel) ⟨Nat.le_of_ble_eq_true rfl, Nat.le_of_ble_eq_true rfl⟩) ⟨fun a U g mk q => by obtain ⟨q0, q1, qP, qK, qD⟩ := q; exact ⟨q0, q1, qP, va_K.moved (u := U) (U := U.calling g mk a) (Vm.Alike.refl U.vm) qK, qD⟩, va_recv hKc hPc (ci := 1) (q0 := 0) rfl rfl, fun U hU hW => ⟨rfl, by rw [hU], by rw [hU]; exact hPc, va_K.moved hW.alike hKc, hDc.weaken (fun _ _ _ _ => trivial)⟩⟩ rfl rfl hl.1 rfl (lv_room (Nat.le_of_ble_eq_true rfl)) dX1_corrupt_48 ⟨Nat.zero_le _, Nat.zero_le _⟩) hS (fun q _ h => hFc q h) hFc (fun r_7 u t H1 locs ht hvm hw hB hz1 hk1 hS => ?_)
        obtain ⟨hP1, hK1, hD1⟩ := hB
        rw [ht] at hP1
        obtain ⟨hPn, hDn⟩ := va_join (wr := [(bX, .inl (cZ, 560, .inl (fun i9 => bI (bt i9))))]) (w1 := [(g0, .inr (1, [.int (nI 0), .ref bT, .int (nI tp), .ref bO, .int (nI os), .ref bL, .ref bW, .ref bB, .ref bD, .long dn, .long lf, .int (bI mf), .ref bX])), (bL, .inl (cZ, 16, .inl (fun i9 => bI (lv i9)))), (bW, .inl (cZ, 1056, .inl (fun i9 => bI (wr i9)))), (bD, .inl (cB, 73920, .inl (fun i9 => sx (dm i9))))]) hP hD [4, 0, 1, 2] [3] rfl rfl (by decide) (by decide) hk1 hFc hP1 hD1
        clear hP hD hP1 hD1 hK1 hPc hDc hKc hFc hk1 hz1 hvm ht
        generalize H1 = H at hPn hS ⊢
        have hP := hPn
        have hD := hDn
        clear hPn hDn
        replace hP : va_P (dC, dI) vwCl [(bX, .inl (cZ, 560, .inl (fun i9 => bI (bt i9)))), (g0, .inr (1, [.int (nI 0), .ref bT, .int (nI tp), .ref bO, .int (nI os), .ref bL, .ref bW, .ref bB, .ref bD, .long dn, .long lf, .int (bI mf), .ref bX])), (bL, .inl (cZ, 16, .inl (fun i9 => bI (lv i9)))), (bW, .inl (cZ, 1056, .inl (fun i9 => bI (wr i9)))), (bD, .inl (cB, 73920, .inl (fun i9 => sx (dm i9))))] H := hP
        replace hD : va_D A [(bX, .inl (cZ, 560, .inl (fun i9 => bI (bt i9)))), (g0, .inr (1, [.int (nI 0), .ref bT, .int (nI tp), .ref bO, .int (nI os), .ref bL, .ref bW, .ref bB, .ref bD, .long dn, .long lf, .int (bI mf), .ref bX])), (bL, .inl (cZ, 16, .inl (fun i9 => bI (lv i9)))), (bW, .inl (cZ, 1056, .inl (fun i9 => bI (wr i9)))), (bD, .inl (cB, 73920, .inl (fun i9 => sx (dm i9))))] := hD
        refine W.widen (k := 0) (n := 0) (Nat.le_refl _) (Nat.le_refl _) ?_
        obtain rfl := hw
        refine lv_iconst (v := nI 2) hx hb dX1_corrupt_51 (by decide) ?_
        refine zr_icmp_ge (tgt := 57) hx hb (Nat.lt_trans (stN_lt _ _ _ _ _) (by decide)) (by omega) dX1_corrupt_52 (by decide) (fun c52 => ?_) (fun c52 => ?_)
        · refine lv_iload_n hx hb dX1_corrupt_57 rfl (lv_at hl 1 rfl) ?_
          refine lv_iload_n hx hb dX1_corrupt_58 rfl (lv_at hl 2 rfl) ?_
          have hPc := hP.sub (ws' := []) [] rfl
          have hDc := hD.sub (ws' := []) [] (by decide) rfl
          have hKc := hK.sub (tys' := []) [] rfl
          have hFc := va_free (wc := []) hD hS hA [] rfl
          refine va_calli (va_runS (As := [.int (nI di), .int (nI ce)]) (rest := []) ⟨hx, hb, hml, hown, hts⟩ (c_X1_spot l dC dI H.size di ce) (va_cwS 2 hts gX1_corrupt_X1_spot rfl rfl rfl (by decide +kernel) ⟨Nat.le_of_ble_eq_true rfl, Nat.le_of_ble_eq_true rfl⟩) ⟨fun a U g mk q => by obtain ⟨q0, q1, qP, qK, qD⟩ := q; exact ⟨q0, q1, qP, va_K.moved (u := U) (U := U.calling g mk a) (Vm.Alike.refl U.vm) qK, qD⟩, fun U hU hW => ⟨rfl, by rw [hU], by rw [hU]; exact hPc, va_K.moved hW.alike hKc, hDc.weaken (fun _ _ _ _ => trivial)⟩⟩ rfl rfl hl.1 rfl (lv_room (Nat.le_of_ble_eq_true rfl)) dX1_corrupt_59 ⟨Nat.zero_le _, Nat.zero_le _⟩) hS (fun q _ h => hFc q h) hFc (fun r_8 u t H1 locs ht hvm hw hB hz1 hk1 hS => ?_)
          obtain ⟨hP1, hK1, hD1⟩ := hB
          rw [ht] at hP1
          obtain ⟨hPn, hDn⟩ := va_join (wr := [(bX, .inl (cZ, 560, .inl (fun i9 => bI (bt i9)))), (g0, .inr (1, [.int (nI 0), .ref bT, .int (nI tp), .ref bO, .int (nI os), .ref bL, .ref bW, .ref bB, .ref bD, .long dn, .long lf, .int (bI mf), .ref bX])), (bL, .inl (cZ, 16, .inl (fun i9 => bI (lv i9)))), (bW, .inl (cZ, 1056, .inl (fun i9 => bI (wr i9)))), (bD, .inl (cB, 73920, .inl (fun i9 => sx (dm i9))))]) (w1 := []) hP hD [] [0, 1, 2, 3, 4] rfl rfl (by decide) (by decide) hk1 hFc hP1 hD1
          clear hP hD hP1 hD1 hK1 hPc hDc hKc hFc hk1 hz1 hvm ht
          generalize H1 = H at hPn hS ⊢
          have hP := hPn
          have hD := hDn
          clear hPn hDn
          replace hP : va_P (dC, dI) vwCl [(bX, .inl (cZ, 560, .inl (fun i9 => bI (bt i9)))), (g0, .inr (1, [.int (nI 0), .ref bT, .int (nI tp), .ref bO, .int (nI os), .ref bL, .ref bW, .ref bB, .ref bD, .long dn, .long lf, .int (bI mf), .ref bX])), (bL, .inl (cZ, 16, .inl (fun i9 => bI (lv i9)))), (bW, .inl (cZ, 1056, .inl (fun i9 => bI (wr i9)))), (bD, .inl (cB, 73920, .inl (fun i9 => sx (dm i9))))] H := hP
          replace hD : va_D A [(bX, .inl (cZ, 560, .inl (fun i9 => bI (bt i9)))), (g0, .inr (1, [.int (nI 0), .ref bT, .int (nI tp), .ref bO, .int (nI os), .ref bL, .ref bW, .ref bB, .ref bD, .long dn, .long lf, .int (bI mf), .ref bX])), (bL, .inl (cZ, 16, .inl (fun i9 => bI (lv i9)))), (bW, .inl (cZ, 1056, .inl (fun i9 => bI (wr i9)))), (bD, .inl (cB, 73920, .inl (fun i9 => sx (dm i9))))] := hD
          refine W.widen (k := 0) (n := 0) (Nat.le_refl _) (Nat.le_refl _) ?_
          obtain rfl := hw
          refine lv_istore (lv' := [(7, .int (nI (66 * di + ce))), (0, .ref g0), (1, .int (nI di)), (2, .int (nI ce)), (3, .int (nI pl)), (4, .long mk), (6, .int (nI k))]) hx hb dX1_corrupt_62 hl (by decide) rfl (fun ls hl => ?_)
          refine lv_aload_n hx hb dX1_corrupt_64 rfl (lv_at hl 1 rfl) ?_
          refine lv_iload hx hb dX1_corrupt_65 (lv_at hl 0 rfl) ?_
          refine lv_iload_n hx hb dX1_corrupt_67 rfl (lv_at hl 4 rfl) ?_
          refine lv_lload hx hb dX1_corrupt_68 (lv_at hl 5 rfl) ?_
          refine lv_iload hx hb dX1_corrupt_70 (lv_at hl 6 rfl) ?_
          have hPc := hP.sub (ws' := [(g0, .inr (1, [.int (nI 0), .ref bT, .int (nI tp), .ref bO, .int (nI os), .ref bL, .ref bW, .ref bB, .ref bD, .long dn, .long lf, .int (bI mf), .ref bX])), (bD, .inl (cB, 73920, .inl (fun i9 => sx (dm i9))))]) [1, 4] rfl
          have hDc := hD.sub (ws' := [(g0, .inr (1, [.int (nI 0), .ref bT, .int (nI tp), .ref bO, .int (nI os), .ref bL, .ref bW, .ref bB, .ref bD, .long dn, .long lf, .int (bI mf), .ref bX])), (bD, .inl (cB, 73920, .inl (fun i9 => sx (dm i9))))]) [1, 4] (by decide) rfl
          have hKc := hK.sub (tys' := [(cB, .byte)]) [1] rfl
          have hFc := va_free (wc := [(g0, .inr (1, [.int (nI 0), .ref bT, .int (nI tp), .ref bO, .int (nI os), .ref bL, .ref bW, .ref bB, .ref bD, .long dn, .long lf, .int (bI mf), .ref bX])), (bD, .inl (cB, 73920, .inl (fun i9 => sx (dm i9))))]) hD hS hA [1, 4] rfl
          refine va_callv (va_runV (As := [.int (nI (66 * di + ce)), .int (nI pl), .long mk, .int (nI k)]) (rest := []) ⟨hx, hb, hml, hown, hts⟩ (c_X1_strike l dC dI H.size g0 bT bO bL bW bB bD bX 0 tp os dn lf mf cB dm (66 * di + ce) pl mk k (by omega) (by omega) (by omega)) (cwV 4 hts gX1_corrupt_X1_strike rfl rfl rfl (by decide +kernel) ⟨Nat.le_of_ble_eq_true rfl, Nat.le_of_ble_eq_true rfl⟩) ⟨fun a U g mk q => by obtain ⟨q0, q1, qP, qK, qD⟩ := q; exact ⟨q0, q1, qP, va_K.moved (u := U) (U := U.calling g mk a) (Vm.Alike.refl U.vm) qK, qD⟩, va_recv hKc hPc (ci := 1) (q0 := 0) rfl rfl, fun U hU hW => ⟨rfl, by rw [hU], by rw [hU]; exact hPc, va_K.moved hW.alike hKc, hDc.weaken (fun _ _ _ _ => trivial)⟩⟩ rfl rfl hl.1 rfl (lv_room (Nat.le_of_ble_eq_true rfl)) dX1_corrupt_72 ⟨Nat.zero_le _, Nat.zero_le _⟩) hS (fun q _ h => hFc q h) hFc (fun u t H1 locs ht hvm hw hB hz1 hk1 hS => ?_)
          obtain ⟨hP1, hK1, hD1⟩ := hB
          rw [ht] at hP1
          obtain ⟨hPn, hDn⟩ := va_join (wr := [(bX, .inl (cZ, 560, .inl (fun i9 => bI (bt i9)))), (bL, .inl (cZ, 16, .inl (fun i9 => bI (lv i9)))), (bW, .inl (cZ, 1056, .inl (fun i9 => bI (wr i9))))]) (w1 := [(g0, .inr (1, [.int (nI 0), .ref bT, .int (nI tp), .ref bO, .int (nI os), .ref bL, .ref bW, .ref bB, .ref bD, .long dn, .long lf, .int (bI mf), .ref bX])), (bD, .inl (cB, 73920, .inl (fun i9 => sx ((sF dm (66 * di + ce) pl mk k) i9))))]) hP hD [1, 4] [0, 2, 3] rfl rfl (by decide) (by decide) hk1 hFc hP1 hD1
          clear hP hD hP1 hD1 hK1 hPc hDc hKc hFc hk1 hz1 hvm ht
          generalize H1 = H at hPn hS ⊢
          have hP := hPn
          have hD := hDn
          clear hPn hDn
          replace hP : va_P (dC, dI) vwCl [(bX, .inl (cZ, 560, .inl (fun i9 => bI (bt i9)))), (bL, .inl (cZ, 16, .inl (fun i9 => bI (lv i9)))), (bW, .inl (cZ, 1056, .inl (fun i9 => bI (wr i9)))), (g0, .inr (1, [.int (nI 0), .ref bT, .int (nI tp), .ref bO, .int (nI os), .ref bL, .ref bW, .ref bB, .ref bD, .long dn, .long lf, .int (bI mf), .ref bX])), (bD, .inl (cB, 73920, .inl (fun i9 => sx ((sF dm (66 * di + ce) pl mk k) i9))))] H := hP
          replace hD : va_D A [(bX, .inl (cZ, 560, .inl (fun i9 => bI (bt i9)))), (bL, .inl (cZ, 16, .inl (fun i9 => bI (lv i9)))), (bW, .inl (cZ, 1056, .inl (fun i9 => bI (wr i9)))), (g0, .inr (1, [.int (nI 0), .ref bT, .int (nI tp), .ref bO, .int (nI os), .ref bL, .ref bW, .ref bB, .ref bD, .long dn, .long lf, .int (bI mf), .ref bX])), (bD, .inl (cB, 73920, .inl (fun i9 => sx ((sF dm (66 * di + ce) pl mk k) i9))))] := hD
          refine W.widen (k := 0) (n := 0) (Nat.le_refl _) (Nat.le_refl _) ?_
          refine lv_aload_n hx hb dX1_corrupt_75 rfl (lv_at hl 1 rfl) ?_
          refine lv_iload hx hb dX1_corrupt_76 (lv_at hl 0 rfl) ?_
          have hPc := hP.sub (ws' := [(g0, .inr (1, [.int (nI 0), .ref bT, .int (nI tp), .ref bO, .int (nI os), .ref bL, .ref bW, .ref bB, .ref bD, .long dn, .long lf, .int (bI mf), .ref bX])), (bD, .inl (cB, 73920, .inl (fun i9 => sx ((sF dm (66 * di + ce) pl mk k) i9))))]) [3, 4] rfl
          have hDc := hD.sub (ws' := [(g0, .inr (1, [.int (nI 0), .ref bT, .int (nI tp), .ref bO, .int (nI os), .ref bL, .ref bW, .ref bB, .ref bD, .long dn, .long lf, .int (bI mf), .ref bX])), (bD, .inl (cB, 73920, .inl (fun i9 => sx ((sF dm (66 * di + ce) pl mk k) i9))))]) [3, 4] (by decide) rfl
          have hKc := hK.sub (tys' := [(cB, .byte)]) [1] rfl
          have hFc := va_free (wc := [(g0, .inr (1, [.int (nI 0), .ref bT, .int (nI tp), .ref bO, .int (nI os), .ref bL, .ref bW, .ref bB, .ref bD, .long dn, .long lf, .int (bI mf), .ref bX])), (bD, .inl (cB, 73920, .inl (fun i9 => sx ((sF dm (66 * di + ce) pl mk k) i9))))]) hD hS hA [3, 4] rfl
          refine va_calli (va_runV (As := [.int (nI (66 * di + ce))]) (rest := []) ⟨hx, hb, hml, hown, hts⟩ (c_X1_isDamaged l dC dI H.size g0 bT bO bL bW bB bD bX 0 tp os dn lf mf cB (sF dm (66 * di + ce) pl mk k) (66 * di + ce) (by omega)) (cwV 1 hts gX1_corrupt_X1_isDamaged rfl rfl rfl (by decide +kernel) ⟨Nat.le_of_ble_eq_true rfl, Nat.le_of_ble_eq_true rfl⟩) ⟨fun a U g mk q => by obtain ⟨q0, q1, qP, qK, qD⟩ := q; exact ⟨q0, q1, qP, va_K.moved (u := U) (U := U.calling g mk a) (Vm.Alike.refl U.vm) qK, qD⟩, va_recv hKc hPc (ci := 1) (q0 := 0) rfl rfl, fun U hU hW => ⟨rfl, by rw [hU], by rw [hU]; exact hPc, va_K.moved hW.alike hKc, hDc.weaken (fun _ _ _ _ => trivial)⟩⟩ rfl rfl hl.1 rfl (lv_room (Nat.le_of_ble_eq_true rfl)) dX1_corrupt_78 ⟨Nat.zero_le _, Nat.zero_le _⟩) hS (fun q _ h => hFc q h) hFc (fun r_10 u t H1 locs ht hvm hw hB hz1 hk1 hS => ?_)
          obtain ⟨hP1, hK1, hD1⟩ := hB
          rw [ht] at hP1
          obtain ⟨hPn, hDn⟩ := va_join (wr := [(bX, .inl (cZ, 560, .inl (fun i9 => bI (bt i9)))), (bL, .inl (cZ, 16, .inl (fun i9 => bI (lv i9)))), (bW, .inl (cZ, 1056, .inl (fun i9 => bI (wr i9))))]) (w1 := [(g0, .inr (1, [.int (nI 0), .ref bT, .int (nI tp), .ref bO, .int (nI os), .ref bL, .ref bW, .ref bB, .ref bD, .long dn, .long lf, .int (bI mf), .ref bX])), (bD, .inl (cB, 73920, .inl (fun i9 => sx ((sF dm (66 * di + ce) pl mk k) i9))))]) hP hD [3, 4] [0, 1, 2] rfl rfl (by decide) (by decide) hk1 hFc hP1 hD1
          clear hP hD hP1 hD1 hK1 hPc hDc hKc hFc hk1 hz1 hvm ht
          generalize H1 = H at hPn hS ⊢
          have hP := hPn
          have hD := hDn
          clear hPn hDn
          replace hP : va_P (dC, dI) vwCl [(bX, .inl (cZ, 560, .inl (fun i9 => bI (bt i9)))), (bL, .inl (cZ, 16, .inl (fun i9 => bI (lv i9)))), (bW, .inl (cZ, 1056, .inl (fun i9 => bI (wr i9)))), (g0, .inr (1, [.int (nI 0), .ref bT, .int (nI tp), .ref bO, .int (nI os), .ref bL, .ref bW, .ref bB, .ref bD, .long dn, .long lf, .int (bI mf), .ref bX])), (bD, .inl (cB, 73920, .inl (fun i9 => sx ((sF dm (66 * di + ce) pl mk k) i9))))] H := hP
          replace hD : va_D A [(bX, .inl (cZ, 560, .inl (fun i9 => bI (bt i9)))), (bL, .inl (cZ, 16, .inl (fun i9 => bI (lv i9)))), (bW, .inl (cZ, 1056, .inl (fun i9 => bI (wr i9)))), (g0, .inr (1, [.int (nI 0), .ref bT, .int (nI tp), .ref bO, .int (nI os), .ref bL, .ref bW, .ref bB, .ref bD, .long dn, .long lf, .int (bI mf), .ref bX])), (bD, .inl (cB, 73920, .inl (fun i9 => sx ((sF dm (66 * di + ce) pl mk k) i9))))] := hD
          refine W.widen (k := 0) (n := 0) (Nat.le_refl _) (Nat.le_refl _) ?_
          obtain rfl := hw
          refine zr_ifb_eq (tgt := 93) hx hb dX1_corrupt_81 (by decide) (fun c81 => ?_) (fun c81 => ?_)
          · refine lv_iconst (v := nI 1) hx hb dX1_corrupt_93 (by decide) ?_
            have hP9 := hP.sub (ws' := [(g0, .inr (1, [.int (nI 0), .ref bT, .int (nI tp), .ref bO, .int (nI os), .ref bL, .ref bW, .ref bB, .ref bD, .long dn, .long lf, .int (bI mf), .ref bX])), (bL, .inl (cZ, 16, .inl (fun i9 => bI (lv i9)))), (bW, .inl (cZ, 1056, .inl (fun i9 => bI (wr i9)))), (bD, .inl (cB, 73920, .inl (fun i9 => sx ((sF dm (66 * di + ce) pl mk k) i9)))), (bX, .inl (cZ, 560, .inl (fun i9 => bI (bt i9))))]) [3, 1, 2, 4, 0] rfl
            have hD9 := hD.sub (ws' := [(g0, .inr (1, [.int (nI 0), .ref bT, .int (nI tp), .ref bO, .int (nI os), .ref bL, .ref bW, .ref bB, .ref bD, .long dn, .long lf, .int (bI mf), .ref bX])), (bL, .inl (cZ, 16, .inl (fun i9 => bI (lv i9)))), (bW, .inl (cZ, 1056, .inl (fun i9 => bI (wr i9)))), (bD, .inl (cB, 73920, .inl (fun i9 => sx ((sF dm (66 * di + ce) pl mk k) i9)))), (bX, .inl (cZ, 560, .inl (fun i9 => bI (bt i9))))]) [3, 1, 2, 4, 0] (by decide) rfl
            exact W.zret (v := nI 1) hx hb hr (by decide) (fun t ht hW => ⟨⟨nI 1, (0, sF dm (66 * di + ce) pl mk k, bt), rfl, Or.inr ⟨di, ce, pl, k, hdi, hce9, hk1, hk8, by omega, rfl, rfl, rfl, rfl, rfl, Or.inr (Or.inl ⟨c52, by first | exact Or.inl c81 | exact Or.inr c90, rfl, rfl⟩)⟩, by rw [ht]; exact hP9, va_K.moved hW.alike hK, hD9⟩, hS.F ht⟩) hS.2.2 dX1_corrupt_94
          · refine lv_aload_n hx hb dX1_corrupt_84 rfl (lv_at hl 1 rfl) ?_
            refine lv_iload hx hb dX1_corrupt_85 (lv_at hl 0 rfl) ?_
            have hPc := hP.sub (ws' := [(g0, .inr (1, [.int (nI 0), .ref bT, .int (nI tp), .ref bO, .int (nI os), .ref bL, .ref bW, .ref bB, .ref bD, .long dn, .long lf, .int (bI mf), .ref bX])), (bX, .inl (cZ, 560, .inl (fun i9 => bI (bt i9)))), (bD, .inl (cB, 73920, .inl (fun i9 => sx ((sF dm (66 * di + ce) pl mk k) i9))))]) [3, 0, 4] rfl
            have hDc := hD.sub (ws' := [(g0, .inr (1, [.int (nI 0), .ref bT, .int (nI tp), .ref bO, .int (nI os), .ref bL, .ref bW, .ref bB, .ref bD, .long dn, .long lf, .int (bI mf), .ref bX])), (bX, .inl (cZ, 560, .inl (fun i9 => bI (bt i9)))), (bD, .inl (cB, 73920, .inl (fun i9 => sx ((sF dm (66 * di + ce) pl mk k) i9))))]) [3, 0, 4] (by decide) rfl
            have hKc := hK.sub (tys' := [(cZ, .boolean), (cB, .byte)]) [0, 1] rfl
            have hFc := va_free (wc := [(g0, .inr (1, [.int (nI 0), .ref bT, .int (nI tp), .ref bO, .int (nI os), .ref bL, .ref bW, .ref bB, .ref bD, .long dn, .long lf, .int (bI mf), .ref bX])), (bX, .inl (cZ, 560, .inl (fun i9 => bI (bt i9)))), (bD, .inl (cB, 73920, .inl (fun i9 => sx ((sF dm (66 * di + ce) pl mk k) i9))))]) hD hS hA [3, 0, 4] rfl
            refine va_calli (va_runV (As := [.int (nI (66 * di + ce))]) (rest := []) ⟨hx, hb, hml, hown, hts⟩ (c_X1_isUnseen l dC dI H.size g0 bT bO bL bW bB bD bX 0 tp os dn lf mf cZ cB bt (sF dm (66 * di + ce) pl mk k) (66 * di + ce) (by omega)) (cwV 1 hts gX1_corrupt_X1_isUnseen rfl rfl rfl (by decide +kernel) ⟨Nat.le_of_ble_eq_true rfl, Nat.le_of_ble_eq_true rfl⟩) ⟨fun a U g mk q => by obtain ⟨q0, q1, qP, qK, qD⟩ := q; exact ⟨q0, q1, qP, va_K.moved (u := U) (U := U.calling g mk a) (Vm.Alike.refl U.vm) qK, qD⟩, va_recv hKc hPc (ci := 1) (q0 := 0) rfl rfl, fun U hU hW => ⟨rfl, by rw [hU], by rw [hU]; exact hPc, va_K.moved hW.alike hKc, hDc.weaken (fun _ _ _ _ => trivial)⟩⟩ rfl rfl hl.1 rfl (lv_room (Nat.le_of_ble_eq_true rfl)) dX1_corrupt_87 ⟨Nat.zero_le _, Nat.zero_le _⟩) hS (fun q _ h => hFc q h) hFc (fun r_11 u t H1 locs ht hvm hw hB hz1 hk1 hS => ?_)
            obtain ⟨hP1, hK1, hD1⟩ := hB
            rw [ht] at hP1
            obtain ⟨hPn, hDn⟩ := va_join (wr := [(bL, .inl (cZ, 16, .inl (fun i9 => bI (lv i9)))), (bW, .inl (cZ, 1056, .inl (fun i9 => bI (wr i9))))]) (w1 := [(g0, .inr (1, [.int (nI 0), .ref bT, .int (nI tp), .ref bO, .int (nI os), .ref bL, .ref bW, .ref bB, .ref bD, .long dn, .long lf, .int (bI mf), .ref bX])), (bX, .inl (cZ, 560, .inl (fun i9 => bI ((dv (spF bt (sF dm (66 * di + ce) pl mk k) (70 * (66 * di + ce)) (8 * 70)) 528) i9)))), (bD, .inl (cB, 73920, .inl (fun i9 => sx ((sF dm (66 * di + ce) pl mk k) i9))))]) hP hD [3, 0, 4] [1, 2] rfl rfl (by decide) (by decide) hk1 hFc hP1 hD1
            clear hP hD hP1 hD1 hK1 hPc hDc hKc hFc hk1 hz1 hvm ht
            generalize H1 = H at hPn hS ⊢
            have hP := hPn
            have hD := hDn
            clear hPn hDn
            replace hP : va_P (dC, dI) vwCl [(bL, .inl (cZ, 16, .inl (fun i9 => bI (lv i9)))), (bW, .inl (cZ, 1056, .inl (fun i9 => bI (wr i9)))), (g0, .inr (1, [.int (nI 0), .ref bT, .int (nI tp), .ref bO, .int (nI os), .ref bL, .ref bW, .ref bB, .ref bD, .long dn, .long lf, .int (bI mf), .ref bX])), (bX, .inl (cZ, 560, .inl (fun i9 => bI ((dv (spF bt (sF dm (66 * di + ce) pl mk k) (70 * (66 * di + ce)) (8 * 70)) 528) i9)))), (bD, .inl (cB, 73920, .inl (fun i9 => sx ((sF dm (66 * di + ce) pl mk k) i9))))] H := hP
            replace hD : va_D A [(bL, .inl (cZ, 16, .inl (fun i9 => bI (lv i9)))), (bW, .inl (cZ, 1056, .inl (fun i9 => bI (wr i9)))), (g0, .inr (1, [.int (nI 0), .ref bT, .int (nI tp), .ref bO, .int (nI os), .ref bL, .ref bW, .ref bB, .ref bD, .long dn, .long lf, .int (bI mf), .ref bX])), (bX, .inl (cZ, 560, .inl (fun i9 => bI ((dv (spF bt (sF dm (66 * di + ce) pl mk k) (70 * (66 * di + ce)) (8 * 70)) 528) i9)))), (bD, .inl (cB, 73920, .inl (fun i9 => sx ((sF dm (66 * di + ce) pl mk k) i9))))] := hD
            refine W.widen (k := 0) (n := 0) (Nat.le_refl _) (Nat.le_refl _) ?_
            obtain rfl := hw
            refine zr_ifb_ne (tgt := 95) hx hb dX1_corrupt_90 (by decide) (fun c90 => ?_) (fun c90 => ?_)
            · refine lv_aload_n hx hb dX1_corrupt_95 rfl (lv_at hl 1 rfl) ?_
              refine lv_iload hx hb dX1_corrupt_96 (lv_at hl 0 rfl) ?_
              refine lv_iload_n hx hb dX1_corrupt_98 rfl (lv_at hl 4 rfl) ?_
              refine lv_lload hx hb dX1_corrupt_99 (lv_at hl 5 rfl) ?_
              refine lv_iload hx hb dX1_corrupt_101 (lv_at hl 6 rfl) ?_
              have hPc := hP.sub (ws' := [(g0, .inr (1, [.int (nI 0), .ref bT, .int (nI tp), .ref bO, .int (nI os), .ref bL, .ref bW, .ref bB, .ref bD, .long dn, .long lf, .int (bI mf), .ref bX])), (bD, .inl (cB, 73920, .inl (fun i9 => sx ((sF dm (66 * di + ce) pl mk k) i9))))]) [2, 4] rfl
              have hDc := hD.sub (ws' := [(g0, .inr (1, [.int (nI 0), .ref bT, .int (nI tp), .ref bO, .int (nI os), .ref bL, .ref bW, .ref bB, .ref bD, .long dn, .long lf, .int (bI mf), .ref bX])), (bD, .inl (cB, 73920, .inl (fun i9 => sx ((sF dm (66 * di + ce) pl mk k) i9))))]) [2, 4] (by decide) rfl
              have hKc := hK.sub (tys' := [(cB, .byte)]) [1] rfl
              have hFc := va_free (wc := [(g0, .inr (1, [.int (nI 0), .ref bT, .int (nI tp), .ref bO, .int (nI os), .ref bL, .ref bW, .ref bB, .ref bD, .long dn, .long lf, .int (bI mf), .ref bX])), (bD, .inl (cB, 73920, .inl (fun i9 => sx ((sF dm (66 * di + ce) pl mk k) i9))))]) hD hS hA [2, 4] rfl
              refine va_callv (va_runV (As := [.int (nI (66 * di + ce)), .int (nI pl), .long mk, .int (nI k)]) (rest := []) ⟨hx, hb, hml, hown, hts⟩ (c_X1_strike l dC dI H.size g0 bT bO bL bW bB bD bX 0 tp os dn lf mf cB (sF dm (66 * di + ce) pl mk k) (66 * di + ce) pl mk k (by omega) (by omega) (by omega)) (cwV 4 hts gX1_corrupt_X1_strike rfl rfl rfl (by decide +kernel) ⟨Nat.le_of_ble_eq_true rfl, Nat.le_of_ble_eq_true rfl⟩) ⟨fun a U g mk q => by obtain ⟨q0, q1, qP, qK, qD⟩ := q; exact ⟨q0, q1, qP, va_K.moved (u := U) (U := U.calling g mk a) (Vm.Alike.refl U.vm) qK, qD⟩, va_recv hKc hPc (ci := 1) (q0 := 0) rfl rfl, fun U hU hW => ⟨rfl, by rw [hU], by rw [hU]; exact hPc, va_K.moved hW.alike hKc, hDc.weaken (fun _ _ _ _ => trivial)⟩⟩ rfl rfl hl.1 rfl (lv_room (Nat.le_of_ble_eq_true rfl)) dX1_corrupt_103 ⟨Nat.zero_le _, Nat.zero_le _⟩) hS (fun q _ h => hFc q h) hFc (fun u t H1 locs ht hvm hw hB hz1 hk1 hS => ?_)
              obtain ⟨hP1, hK1, hD1⟩ := hB
              rw [ht] at hP1
              obtain ⟨hPn, hDn⟩ := va_join (wr := [(bL, .inl (cZ, 16, .inl (fun i9 => bI (lv i9)))), (bW, .inl (cZ, 1056, .inl (fun i9 => bI (wr i9)))), (bX, .inl (cZ, 560, .inl (fun i9 => bI ((dv (spF bt (sF dm (66 * di + ce) pl mk k) (70 * (66 * di + ce)) (8 * 70)) 528) i9))))]) (w1 := [(g0, .inr (1, [.int (nI 0), .ref bT, .int (nI tp), .ref bO, .int (nI os), .ref bL, .ref bW, .ref bB, .ref bD, .long dn, .long lf, .int (bI mf), .ref bX])), (bD, .inl (cB, 73920, .inl (fun i9 => sx ((sF (sF dm (66 * di + ce) pl mk k) (66 * di + ce) pl mk k) i9))))]) hP hD [2, 4] [0, 1, 3] rfl rfl (by decide) (by decide) hk1 hFc hP1 hD1
              clear hP hD hP1 hD1 hK1 hPc hDc hKc hFc hk1 hz1 hvm ht
              generalize H1 = H at hPn hS ⊢
              have hP := hPn
              have hD := hDn
              clear hPn hDn
              replace hP : va_P (dC, dI) vwCl [(bL, .inl (cZ, 16, .inl (fun i9 => bI (lv i9)))), (bW, .inl (cZ, 1056, .inl (fun i9 => bI (wr i9)))), (bX, .inl (cZ, 560, .inl (fun i9 => bI ((dv (spF bt (sF dm (66 * di + ce) pl mk k) (70 * (66 * di + ce)) (8 * 70)) 528) i9)))), (g0, .inr (1, [.int (nI 0), .ref bT, .int (nI tp), .ref bO, .int (nI os), .ref bL, .ref bW, .ref bB, .ref bD, .long dn, .long lf, .int (bI mf), .ref bX])), (bD, .inl (cB, 73920, .inl (fun i9 => sx ((sF (sF dm (66 * di + ce) pl mk k) (66 * di + ce) pl mk k) i9))))] H := hP
              replace hD : va_D A [(bL, .inl (cZ, 16, .inl (fun i9 => bI (lv i9)))), (bW, .inl (cZ, 1056, .inl (fun i9 => bI (wr i9)))), (bX, .inl (cZ, 560, .inl (fun i9 => bI ((dv (spF bt (sF dm (66 * di + ce) pl mk k) (70 * (66 * di + ce)) (8 * 70)) 528) i9)))), (g0, .inr (1, [.int (nI 0), .ref bT, .int (nI tp), .ref bO, .int (nI os), .ref bL, .ref bW, .ref bB, .ref bD, .long dn, .long lf, .int (bI mf), .ref bX])), (bD, .inl (cB, 73920, .inl (fun i9 => sx ((sF (sF dm (66 * di + ce) pl mk k) (66 * di + ce) pl mk k) i9))))] := hD
              refine W.widen (k := 0) (n := 0) (Nat.le_refl _) (Nat.le_refl _) ?_
              refine lv_iconst (v := nI 0) hx hb dX1_corrupt_106 (by decide) ?_
              have hP9 := hP.sub (ws' := [(g0, .inr (1, [.int (nI 0), .ref bT, .int (nI tp), .ref bO, .int (nI os), .ref bL, .ref bW, .ref bB, .ref bD, .long dn, .long lf, .int (bI mf), .ref bX])), (bL, .inl (cZ, 16, .inl (fun i9 => bI (lv i9)))), (bW, .inl (cZ, 1056, .inl (fun i9 => bI (wr i9)))), (bD, .inl (cB, 73920, .inl (fun i9 => sx ((sF (sF dm (66 * di + ce) pl mk k) (66 * di + ce) pl mk k) i9)))), (bX, .inl (cZ, 560, .inl (fun i9 => bI ((dv (spF bt (sF dm (66 * di + ce) pl mk k) (70 * (66 * di + ce)) (8 * 70)) 528) i9))))]) [3, 0, 1, 4, 2] rfl
              have hD9 := hD.sub (ws' := [(g0, .inr (1, [.int (nI 0), .ref bT, .int (nI tp), .ref bO, .int (nI os), .ref bL, .ref bW, .ref bB, .ref bD, .long dn, .long lf, .int (bI mf), .ref bX])), (bL, .inl (cZ, 16, .inl (fun i9 => bI (lv i9)))), (bW, .inl (cZ, 1056, .inl (fun i9 => bI (wr i9)))), (bD, .inl (cB, 73920, .inl (fun i9 => sx ((sF (sF dm (66 * di + ce) pl mk k) (66 * di + ce) pl mk k) i9)))), (bX, .inl (cZ, 560, .inl (fun i9 => bI ((dv (spF bt (sF dm (66 * di + ce) pl mk k) (70 * (66 * di + ce)) (8 * 70)) 528) i9))))]) [3, 0, 1, 4, 2] (by decide) rfl
              exact W.zret (v := nI 0) hx hb hr (by decide) (fun t ht hW => ⟨⟨nI 0, (0, sF (sF dm (66 * di + ce) pl mk k) (66 * di + ce) pl mk k, dv (spF bt (sF dm (66 * di + ce) pl mk k) (70 * (66 * di + ce)) (8 * 70)) 528), rfl, Or.inr ⟨di, ce, pl, k, hdi, hce9, hk1, hk8, by omega, rfl, rfl, rfl, rfl, rfl, Or.inr (Or.inr ⟨c52, c81, c90, rfl, rfl⟩)⟩, by rw [ht]; exact hP9, va_K.moved hW.alike hK, hD9⟩, hS.F ht⟩) hS.2.2 dX1_corrupt_107
            · refine lv_iconst (v := nI 1) hx hb dX1_corrupt_93 (by decide) ?_
              have hP9 := hP.sub (ws' := [(g0, .inr (1, [.int (nI 0), .ref bT, .int (nI tp), .ref bO, .int (nI os), .ref bL, .ref bW, .ref bB, .ref bD, .long dn, .long lf, .int (bI mf), .ref bX])), (bL, .inl (cZ, 16, .inl (fun i9 => bI (lv i9)))), (bW, .inl (cZ, 1056, .inl (fun i9 => bI (wr i9)))), (bD, .inl (cB, 73920, .inl (fun i9 => sx ((sF dm (66 * di + ce) pl mk k) i9)))), (bX, .inl (cZ, 560, .inl (fun i9 => bI ((dv (spF bt (sF dm (66 * di + ce) pl mk k) (70 * (66 * di + ce)) (8 * 70)) 528) i9))))]) [2, 0, 1, 4, 3] rfl
              have hD9 := hD.sub (ws' := [(g0, .inr (1, [.int (nI 0), .ref bT, .int (nI tp), .ref bO, .int (nI os), .ref bL, .ref bW, .ref bB, .ref bD, .long dn, .long lf, .int (bI mf), .ref bX])), (bL, .inl (cZ, 16, .inl (fun i9 => bI (lv i9)))), (bW, .inl (cZ, 1056, .inl (fun i9 => bI (wr i9)))), (bD, .inl (cB, 73920, .inl (fun i9 => sx ((sF dm (66 * di + ce) pl mk k) i9)))), (bX, .inl (cZ, 560, .inl (fun i9 => bI ((dv (spF bt (sF dm (66 * di + ce) pl mk k) (70 * (66 * di + ce)) (8 * 70)) 528) i9))))]) [2, 0, 1, 4, 3] (by decide) rfl
              exact W.zret (v := nI 1) hx hb hr (by decide) (fun t ht hW => ⟨⟨nI 1, (0, sF dm (66 * di + ce) pl mk k, dv (spF bt (sF dm (66 * di + ce) pl mk k) (70 * (66 * di + ce)) (8 * 70)) 528), rfl, Or.inr ⟨di, ce, pl, k, hdi, hce9, hk1, hk8, by omega, rfl, rfl, rfl, rfl, rfl, Or.inr (Or.inl ⟨c52, by first | exact Or.inl c81 | exact Or.inr c90, rfl, rfl⟩)⟩, by rw [ht]; exact hP9, va_K.moved hW.alike hK, hD9⟩, hS.F ht⟩) hS.2.2 dX1_corrupt_94
        · refine lv_iconst (v := nI 0) hx hb dX1_corrupt_55 (by decide) ?_
          have hP9 := hP.sub (ws' := [(g0, .inr (1, [.int (nI 0), .ref bT, .int (nI tp), .ref bO, .int (nI os), .ref bL, .ref bW, .ref bB, .ref bD, .long dn, .long lf, .int (bI mf), .ref bX])), (bL, .inl (cZ, 16, .inl (fun i9 => bI (lv i9)))), (bW, .inl (cZ, 1056, .inl (fun i9 => bI (wr i9)))), (bD, .inl (cB, 73920, .inl (fun i9 => sx (dm i9)))), (bX, .inl (cZ, 560, .inl (fun i9 => bI (bt i9))))]) [1, 2, 3, 4, 0] rfl
          have hD9 := hD.sub (ws' := [(g0, .inr (1, [.int (nI 0), .ref bT, .int (nI tp), .ref bO, .int (nI os), .ref bL, .ref bW, .ref bB, .ref bD, .long dn, .long lf, .int (bI mf), .ref bX])), (bL, .inl (cZ, 16, .inl (fun i9 => bI (lv i9)))), (bW, .inl (cZ, 1056, .inl (fun i9 => bI (wr i9)))), (bD, .inl (cB, 73920, .inl (fun i9 => sx (dm i9)))), (bX, .inl (cZ, 560, .inl (fun i9 => bI (bt i9))))]) [1, 2, 3, 4, 0] (by decide) rfl
          exact W.zret (v := nI 0) hx hb hr (by decide) (fun t ht hW => ⟨⟨nI 0, (0, dm, bt), rfl, Or.inr ⟨di, ce, pl, k, hdi, hce9, hk1, hk8, by omega, rfl, rfl, rfl, rfl, rfl, Or.inl ⟨c52, rfl, rfl⟩⟩, by rw [ht]; exact hP9, va_K.moved hW.alike hK, hD9⟩, hS.F ht⟩) hS.2.2 dX1_corrupt_56
      · refine lv_iconst (v := nI 1) hx hb dX1_corrupt_33 (by decide) ?_
        refine lv_goto (tgt := 38) hx hb dX1_corrupt_34 (by decide) ?_
        refine zr_topi (bI true) (rfl) ?_
        refine lv_iconst (v := nI 1) hx hb dX1_corrupt_38 (by decide) ?_
        have hPc := hP.sub (ws' := [(g0, .inr (1, [.int (nI th), .ref bT, .int (nI tp), .ref bO, .int (nI os), .ref bL, .ref bW, .ref bB, .ref bD, .long dn, .long lf, .int (bI mf), .ref bX]))]) [0] rfl
        have hDc := hD.sub (ws' := [(g0, .inr (1, [.int (nI th), .ref bT, .int (nI tp), .ref bO, .int (nI os), .ref bL, .ref bW, .ref bB, .ref bD, .long dn, .long lf, .int (bI mf), .ref bX]))]) [0] (by decide) rfl
        have hKc := hK.sub (tys' := []) [] rfl
        have hFc := va_free (wc := [(g0, .inr (1, [.int (nI th), .ref bT, .int (nI tp), .ref bO, .int (nI os), .ref bL, .ref bW, .ref bB, .ref bD, .long dn, .long lf, .int (bI mf), .ref bX]))]) hD hS hA [0] rfl
        refine va_calli (va_runV (As := [.int (bI true), .int (nI 1)]) (rest := []) ⟨hx, hb, hml, hown, hts⟩ (c_X1_fails l dC dI H.size g0 bT bO bL bW bB bD bX th tp os dn lf mf true 1) (cwV 2 hts gX1_corrupt_X1_fails rfl rfl rfl (by decide +kernel) ⟨Nat.le_of_ble_eq_true rfl, Nat.le_of_ble_eq_true rfl⟩) ⟨fun a U g mk q => by obtain ⟨q0, q1, qP, qK, qD⟩ := q; exact ⟨q0, q1, qP, va_K.moved (u := U) (U := U.calling g mk a) (Vm.Alike.refl U.vm) qK, qD⟩, va_recv hKc hPc (ci := 1) (q0 := 0) rfl rfl, fun U hU hW => ⟨rfl, by rw [hU], by rw [hU]; exact hPc, va_K.moved hW.alike hKc, hDc.weaken (fun _ _ _ _ => trivial)⟩⟩ rfl rfl hl.1 rfl (lv_room (Nat.le_of_ble_eq_true rfl)) dX1_corrupt_39 ⟨Nat.zero_le _, Nat.zero_le _⟩) hS (fun q _ h => hFc q h) hFc (fun r_13 u t H1 locs ht hvm hw hB hz1 hk1 hS => ?_)
        obtain ⟨hP1, hK1, hD1⟩ := hB
        rw [ht] at hP1
        obtain ⟨hPn, hDn⟩ := va_join (wr := [(bL, .inl (cZ, 16, .inl (fun i9 => bI (lv i9)))), (bW, .inl (cZ, 1056, .inl (fun i9 => bI (wr i9)))), (bD, .inl (cB, 73920, .inl (fun i9 => sx (dm i9)))), (bX, .inl (cZ, 560, .inl (fun i9 => bI (bt i9))))]) (w1 := [(g0, .inr (1, [.int (nI (cond true 1 0)), .ref bT, .int (nI tp), .ref bO, .int (nI os), .ref bL, .ref bW, .ref bB, .ref bD, .long dn, .long lf, .int (bI mf), .ref bX]))]) hP hD [0] [1, 2, 3, 4] rfl rfl (by decide) (by decide) hk1 hFc hP1 hD1
        clear hP hD hP1 hD1 hK1 hPc hDc hKc hFc hk1 hz1 hvm ht
        generalize H1 = H at hPn hS ⊢
        have hP := hPn
        have hD := hDn
        clear hPn hDn
        replace hP : va_P (dC, dI) vwCl [(bL, .inl (cZ, 16, .inl (fun i9 => bI (lv i9)))), (bW, .inl (cZ, 1056, .inl (fun i9 => bI (wr i9)))), (bD, .inl (cB, 73920, .inl (fun i9 => sx (dm i9)))), (bX, .inl (cZ, 560, .inl (fun i9 => bI (bt i9)))), (g0, .inr (1, [.int (nI (cond true 1 0)), .ref bT, .int (nI tp), .ref bO, .int (nI os), .ref bL, .ref bW, .ref bB, .ref bD, .long dn, .long lf, .int (bI mf), .ref bX]))] H := hP
        replace hD : va_D A [(bL, .inl (cZ, 16, .inl (fun i9 => bI (lv i9)))), (bW, .inl (cZ, 1056, .inl (fun i9 => bI (wr i9)))), (bD, .inl (cB, 73920, .inl (fun i9 => sx (dm i9)))), (bX, .inl (cZ, 560, .inl (fun i9 => bI (bt i9)))), (g0, .inr (1, [.int (nI (cond true 1 0)), .ref bT, .int (nI tp), .ref bO, .int (nI os), .ref bL, .ref bW, .ref bB, .ref bD, .long dn, .long lf, .int (bI mf), .ref bX]))] := hD
        refine W.widen (k := 0) (n := 0) (Nat.le_refl _) (Nat.le_refl _) ?_
        obtain rfl := hw
        replace hP : va_P (dC, dI) vwCl [(bL, .inl (cZ, 16, .inl (fun i9 => bI (lv i9)))), (bW, .inl (cZ, 1056, .inl (fun i9 => bI (wr i9)))), (bD, .inl (cB, 73920, .inl (fun i9 => sx (dm i9)))), (bX, .inl (cZ, 560, .inl (fun i9 => bI (bt i9)))), (g0, .inr (1, [.int (nI 1), .ref bT, .int (nI tp), .ref bO, .int (nI os), .ref bL, .ref bW, .ref bB, .ref bD, .long dn, .long lf, .int (bI mf), .ref bX]))] H := hP
        replace hD : va_D A [(bL, .inl (cZ, 16, .inl (fun i9 => bI (lv i9)))), (bW, .inl (cZ, 1056, .inl (fun i9 => bI (wr i9)))), (bD, .inl (cB, 73920, .inl (fun i9 => sx (dm i9)))), (bX, .inl (cZ, 560, .inl (fun i9 => bI (bt i9)))), (g0, .inr (1, [.int (nI 1), .ref bT, .int (nI tp), .ref bO, .int (nI os), .ref bL, .ref bW, .ref bB, .ref bD, .long dn, .long lf, .int (bI mf), .ref bX]))] := hD
        refine zr_ifb_ne (tgt := 55) hx hb dX1_corrupt_42 (by decide) (fun c42 => ?_) (fun c42 => absurd c42 (by decide))
        refine lv_iconst (v := nI 0) hx hb dX1_corrupt_55 (by decide) ?_
        have hP9 := hP.sub (ws' := [(g0, .inr (1, [.int (nI 1), .ref bT, .int (nI tp), .ref bO, .int (nI os), .ref bL, .ref bW, .ref bB, .ref bD, .long dn, .long lf, .int (bI mf), .ref bX])), (bL, .inl (cZ, 16, .inl (fun i9 => bI (lv i9)))), (bW, .inl (cZ, 1056, .inl (fun i9 => bI (wr i9)))), (bD, .inl (cB, 73920, .inl (fun i9 => sx (dm i9)))), (bX, .inl (cZ, 560, .inl (fun i9 => bI (bt i9))))]) [4, 0, 1, 2, 3] rfl
        have hD9 := hD.sub (ws' := [(g0, .inr (1, [.int (nI 1), .ref bT, .int (nI tp), .ref bO, .int (nI os), .ref bL, .ref bW, .ref bB, .ref bD, .long dn, .long lf, .int (bI mf), .ref bX])), (bL, .inl (cZ, 16, .inl (fun i9 => bI (lv i9)))), (bW, .inl (cZ, 1056, .inl (fun i9 => bI (wr i9)))), (bD, .inl (cB, 73920, .inl (fun i9 => sx (dm i9)))), (bX, .inl (cZ, 560, .inl (fun i9 => bI (bt i9))))]) [4, 0, 1, 2, 3] (by decide) rfl
        exact W.zret (v := nI 0) hx hb hr (by decide) (fun t ht hW => ⟨⟨nI 0, (1, dm, bt), rfl, Or.inl ⟨by first | exact Or.inl (zr_not_t c6) | exact Or.inr (Or.inl c17) | exact Or.inr (Or.inr ⟨k, hk1, hk8, rfl, c30⟩), rfl, rfl, rfl⟩, by rw [ht]; exact hP9, va_K.moved hW.alike hK, hD9⟩, hS.F ht⟩) hS.2.2 dX1_corrupt_56
set_option maxHeartbeats 4000000 in
set_option maxRecDepth 100000 in
theorem c_X1_lose (l : Launch) (dC : Nat → ClassId) (dI : Nat → Nat → Nat) (sz : Nat) (g0 bT bO bL bW bB bD bX : Nat) (th tp os : Nat) (dn lf : Int64) (mf : Bool) (x : Int32) : Met l yX1_lose wsX1_lose ({ frames := 1, cells := 0, slots := 0, locals := 22 }) (va_Pc [.ref g0, .int x] (fun U => U.heap.size = sz ∧ va_P (dC, dI) vwCl [(g0, .inr (1, [.int (nI th), .ref bT, .int (nI tp), .ref bO, .int (nI os), .ref bL, .ref bW, .ref bB, .ref bD, .long dn, .long lf, .int (bI mf), .ref bX]))] U.heap ∧ va_K (dC, dI) vwCl [] U ∧ va_D (fun _ => True) [(g0, .inr (1, [.int (nI th), .ref bT, .int (nI tp), .ref bO, .int (nI os), .ref bL, .ref bW, .ref bB, .ref bD, .long dn, .long lf, .int (bI mf), .ref bX]))])) (va_Qv (fun (u : Nat × Int64) => match u with | (h2, l2) => (¬ nI 1 ≤ x ∧ h2 = 1 ∧ l2 = lf) ∨ (nI 1 ≤ x ∧ mf = true ∧ h2 = 2 ∧ l2 = lf) ∨ (nI 1 ≤ x ∧ mf = false ∧ h2 = 0 ∧ l2 = x.toInt64 - 1)) (fun (u : Nat × Int64) t => match u with | (h2, l2) => va_P (dC, dI) vwCl [(g0, .inr (1, [.int (nI h2), .ref bT, .int (nI tp), .ref bO, .int (nI os), .ref bL, .ref bW, .ref bB, .ref bD, .long dn, .long l2, .int (bI mf), .ref bX]))] t.heap ∧ va_K (dC, dI) vwCl [] t ∧ va_D (va_A [(g0, .inr (1, [.int (nI th), .ref bT, .int (nI tp), .ref bO, .int (nI os), .ref bL, .ref bW, .ref bB, .ref bD, .long dn, .long lf, .int (bI mf), .ref bX]))] sz) [(g0, .inr (1, [.int (nI h2), .ref bT, .int (nI tp), .ref bO, .int (nI os), .ref bL, .ref bW, .ref bB, .ref bD, .long dn, .long l2, .int (bI mf), .ref bX]))]) (va_A [(g0, .inr (1, [.int (nI th), .ref bT, .int (nI tp), .ref bO, .int (nI os), .ref bL, .ref bW, .ref bB, .ref bD, .long dn, .long lf, .int (bI mf), .ref bX]))] sz)) 0 0 (va_A [(g0, .inr (1, [.int (nI th), .ref bT, .int (nI tp), .ref bO, .int (nI os), .ref bL, .ref bW, .ref bB, .ref bD, .long dn, .long lf, .int (bI mf), .ref bX]))] sz) := by
  refine Met.ofW (cc := cX1_lose) (maxL := 2) (ret := none) (by decide) rfl ?_
  intro p e s m args below meth c s₁ B hml hv
  obtain ⟨rfl, hsz, hP, hK, hD0⟩ := hv
  have hx := B.exec
  have hb := B.bytes
  have hr := B.returns
  have hts := atoms_spec (ws := wsX1_lose) B.pre
  have hown : s.vm.findClass RX1 = some m.cls := findClass_of_methodNamed B.named
  have hlocks := B.notSynchronized
  subst hsz
  have hD := hD0.self (sz := s.heap.size)
  generalize hAe : va_A [(g0, .inr (1, [.int (nI th), .ref bT, .int (nI tp), .ref bO, .int (nI os), .ref bL, .ref bW, .ref bB, .ref bD, .long dn, .long lf, .int (bI mf), .ref bX]))] s.heap.size = A at hD ⊢
  have hA : ∀ q : Nat, s.heap.size ≤ q → A q := fun q h => by rw [← hAe]; exact Or.inr h
  generalize hH : s.heap = H at hP ⊢
  have hS : va_S A s.heap H [] := by rw [hH]; exact va_S.rf
  replace hP : va_P (dC, dI) vwCl [(g0, .inr (1, [.int (nI th), .ref bT, .int (nI tp), .ref bO, .int (nI os), .ref bL, .ref bW, .ref bB, .ref bD, .long dn, .long lf, .int (bI mf), .ref bX]))] H := hP
  have hl := lv_entry ([.ref g0, .int x]) (n := 2) (Nat.le_of_ble_eq_true rfl)
  rw [lg_entry_eq]
  generalize (lg_sl ([.ref g0, .int x]) ++ List.replicate (2 - (lg_sl ([.ref g0, .int x])).length) Slot.unset).toArray = ls at hl ⊢
  have hl : lv_has ls 2 [(0, .ref g0), (1, .int x)] := hl
  have hi1 : ∀ w ∈ u_ws RX1 TX1 13, w ∈ wsX1_lose := by decide +kernel
  refine lv_aload_n hx hb dX1_lose_0 rfl (lv_at hl 0 rfl) ?_
  refine lv_iload_n hx hb dX1_lose_1 rfl (lv_at hl 1 rfl) ?_
  refine lv_iconst (v := nI 1) hx hb dX1_lose_2 (by decide) ?_
  refine lv_icmp_ge (tgt := 10) hx hb dX1_lose_3 (by decide) (fun c3 => ?_) (fun c3 => ?_)
  · refine lv_iconst (v := nI 0) hx hb dX1_lose_10 (by decide) ?_
    refine zr_topi (bI false) (rfl) ?_
    refine lv_iconst (v := nI 1) hx hb dX1_lose_11 (by decide) ?_
    have hPc := hP.sub (ws' := [(g0, .inr (1, [.int (nI th), .ref bT, .int (nI tp), .ref bO, .int (nI os), .ref bL, .ref bW, .ref bB, .ref bD, .long dn, .long lf, .int (bI mf), .ref bX]))]) [0] rfl
    have hDc := hD.sub (ws' := [(g0, .inr (1, [.int (nI th), .ref bT, .int (nI tp), .ref bO, .int (nI os), .ref bL, .ref bW, .ref bB, .ref bD, .long dn, .long lf, .int (bI mf), .ref bX]))]) [0] (by decide) rfl
    have hKc := hK.sub (tys' := []) [] rfl
    have hFc := va_free (wc := [(g0, .inr (1, [.int (nI th), .ref bT, .int (nI tp), .ref bO, .int (nI os), .ref bL, .ref bW, .ref bB, .ref bD, .long dn, .long lf, .int (bI mf), .ref bX]))]) hD hS hA [0] rfl
    refine va_calli (va_runV (As := [.int (bI false), .int (nI 1)]) (rest := []) ⟨hx, hb, hml, hown, hts⟩ (c_X1_fails l dC dI H.size g0 bT bO bL bW bB bD bX th tp os dn lf mf false 1) (cwV 2 hts gX1_lose_X1_fails rfl rfl rfl (by decide +kernel) ⟨Nat.le_of_ble_eq_true rfl, Nat.le_of_ble_eq_true rfl⟩) ⟨fun a U g mk q => by obtain ⟨q0, q1, qP, qK, qD⟩ := q; exact ⟨q0, q1, qP, va_K.moved (u := U) (U := U.calling g mk a) (Vm.Alike.refl U.vm) qK, qD⟩, va_recv hKc hPc (ci := 1) (q0 := 0) rfl rfl, fun U hU hW => ⟨rfl, by rw [hU], by rw [hU]; exact hPc, va_K.moved hW.alike hKc, hDc.weaken (fun _ _ _ _ => trivial)⟩⟩ rfl rfl hl.1 rfl (lv_room (Nat.le_of_ble_eq_true rfl)) dX1_lose_12 ⟨Nat.zero_le _, Nat.zero_le _⟩) hS (fun q _ h => hFc q h) hFc (fun r_1 u t H1 locs ht hvm hw hB hz1 hk1 hS => ?_)
    obtain ⟨hP1, hK1, hD1⟩ := hB
    rw [ht] at hP1
    obtain ⟨hPn, hDn⟩ := va_join (wr := []) (w1 := [(g0, .inr (1, [.int (nI (cond false 1 0)), .ref bT, .int (nI tp), .ref bO, .int (nI os), .ref bL, .ref bW, .ref bB, .ref bD, .long dn, .long lf, .int (bI mf), .ref bX]))]) hP hD [0] [] rfl rfl (by decide) (by decide) hk1 hFc hP1 hD1
    clear hP hD hP1 hD1 hK1 hPc hDc hKc hFc hk1 hz1 hvm ht
    generalize H1 = H at hPn hS ⊢
    have hP := hPn
    have hD := hDn
    clear hPn hDn
    replace hP : va_P (dC, dI) vwCl [(g0, .inr (1, [.int (nI (cond false 1 0)), .ref bT, .int (nI tp), .ref bO, .int (nI os), .ref bL, .ref bW, .ref bB, .ref bD, .long dn, .long lf, .int (bI mf), .ref bX]))] H := hP
    replace hD : va_D A [(g0, .inr (1, [.int (nI (cond false 1 0)), .ref bT, .int (nI tp), .ref bO, .int (nI os), .ref bL, .ref bW, .ref bB, .ref bD, .long dn, .long lf, .int (bI mf), .ref bX]))] := hD
    refine W.widen (k := 0) (n := 0) (Nat.le_refl _) (Nat.le_refl _) ?_
    obtain rfl := hw
    replace hP : va_P (dC, dI) vwCl [(g0, .inr (1, [.int (nI 0), .ref bT, .int (nI tp), .ref bO, .int (nI os), .ref bL, .ref bW, .ref bB, .ref bD, .long dn, .long lf, .int (bI mf), .ref bX]))] H := hP
    replace hD : va_D A [(g0, .inr (1, [.int (nI 0), .ref bT, .int (nI tp), .ref bO, .int (nI os), .ref bL, .ref bW, .ref bB, .ref bD, .long dn, .long lf, .int (bI mf), .ref bX]))] := hD
    refine zr_ifb_ne (tgt := 30) hx hb dX1_lose_15 (by decide) (fun c15 => absurd c15 (by decide)) (fun c15 => ?_)
    refine lv_aload_n hx hb dX1_lose_18 rfl (lv_at hl 0 rfl) ?_
    refine lv_aload_n hx hb dX1_lose_19 rfl (lv_at hl 0 rfl) ?_
    refine va_get (D := (dC, dI)) (ci := 1) (v := .int (bI mf)) (C := RX1) (T := TX1) (N := 13) hx hb hts hi1 hown hK hP 0 rfl rfl 11 (by decide) (hts (.fieldLink RX1 80 "CellRackModel" "off" "Z") (by decide +kernel)) (fun _ h9 => h9) rfl dX1_lose_20 ?_
    refine lv_iconst (v := nI 2) hx hb dX1_lose_23 (by decide) ?_
    have hPc := hP.sub (ws' := [(g0, .inr (1, [.int (nI 0), .ref bT, .int (nI tp), .ref bO, .int (nI os), .ref bL, .ref bW, .ref bB, .ref bD, .long dn, .long lf, .int (bI mf), .ref bX]))]) [0] rfl
    have hDc := hD.sub (ws' := [(g0, .inr (1, [.int (nI 0), .ref bT, .int (nI tp), .ref bO, .int (nI os), .ref bL, .ref bW, .ref bB, .ref bD, .long dn, .long lf, .int (bI mf), .ref bX]))]) [0] (by decide) rfl
    have hKc := hK.sub (tys' := []) [] rfl
    have hFc := va_free (wc := [(g0, .inr (1, [.int (nI 0), .ref bT, .int (nI tp), .ref bO, .int (nI os), .ref bL, .ref bW, .ref bB, .ref bD, .long dn, .long lf, .int (bI mf), .ref bX]))]) hD hS hA [0] rfl
    refine va_calli (va_runV (As := [.int (bI mf), .int (nI 2)]) (rest := []) ⟨hx, hb, hml, hown, hts⟩ (c_X1_fails l dC dI H.size g0 bT bO bL bW bB bD bX 0 tp os dn lf mf mf 2) (cwV 2 hts gX1_lose_X1_fails rfl rfl rfl (by decide +kernel) ⟨Nat.le_of_ble_eq_true rfl, Nat.le_of_ble_eq_true rfl⟩) ⟨fun a U g mk q => by obtain ⟨q0, q1, qP, qK, qD⟩ := q; exact ⟨q0, q1, qP, va_K.moved (u := U) (U := U.calling g mk a) (Vm.Alike.refl U.vm) qK, qD⟩, va_recv hKc hPc (ci := 1) (q0 := 0) rfl rfl, fun U hU hW => ⟨rfl, by rw [hU], by rw [hU]; exact hPc, va_K.moved hW.alike hKc, hDc.weaken (fun _ _ _ _ => trivial)⟩⟩ rfl rfl hl.1 rfl (lv_room (Nat.le_of_ble_eq_true rfl)) dX1_lose_24 ⟨Nat.zero_le _, Nat.zero_le _⟩) hS (fun q _ h => hFc q h) hFc (fun r_2 u t H1 locs ht hvm hw hB hz1 hk1 hS => ?_)
    obtain ⟨hP1, hK1, hD1⟩ := hB
    rw [ht] at hP1
    obtain ⟨hPn, hDn⟩ := va_join (wr := []) (w1 := [(g0, .inr (1, [.int (nI (cond mf 2 0)), .ref bT, .int (nI tp), .ref bO, .int (nI os), .ref bL, .ref bW, .ref bB, .ref bD, .long dn, .long lf, .int (bI mf), .ref bX]))]) hP hD [0] [] rfl rfl (by decide) (by decide) hk1 hFc hP1 hD1
    clear hP hD hP1 hD1 hK1 hPc hDc hKc hFc hk1 hz1 hvm ht
    generalize H1 = H at hPn hS ⊢
    have hP := hPn
    have hD := hDn
    clear hPn hDn
    replace hP : va_P (dC, dI) vwCl [(g0, .inr (1, [.int (nI (cond mf 2 0)), .ref bT, .int (nI tp), .ref bO, .int (nI os), .ref bL, .ref bW, .ref bB, .ref bD, .long dn, .long lf, .int (bI mf), .ref bX]))] H := hP
    replace hD : va_D A [(g0, .inr (1, [.int (nI (cond mf 2 0)), .ref bT, .int (nI tp), .ref bO, .int (nI os), .ref bL, .ref bW, .ref bB, .ref bD, .long dn, .long lf, .int (bI mf), .ref bX]))] := hD
    refine W.widen (k := 0) (n := 0) (Nat.le_refl _) (Nat.le_refl _) ?_
    obtain rfl := hw
    refine zr_ifb_eq (tgt := 31) hx hb dX1_lose_27 (by decide) (fun c27 => ?_) (fun c27 => ?_)
    · rw [show cond mf 2 0 = 0 by rw [c27]; rfl] at hP hD
      replace hP : va_P (dC, dI) vwCl [(g0, .inr (1, [.int (nI 0), .ref bT, .int (nI tp), .ref bO, .int (nI os), .ref bL, .ref bW, .ref bB, .ref bD, .long dn, .long lf, .int (bI mf), .ref bX]))] H := hP
      replace hD : va_D A [(g0, .inr (1, [.int (nI 0), .ref bT, .int (nI tp), .ref bO, .int (nI os), .ref bL, .ref bW, .ref bB, .ref bD, .long dn, .long lf, .int (bI mf), .ref bX]))] := hD
      refine lv_aload_n hx hb dX1_lose_31 rfl (lv_at hl 0 rfl) ?_
      refine lv_iload_n hx hb dX1_lose_32 rfl (lv_at hl 1 rfl) ?_
      refine lv_i2l hx hb dX1_lose_33 rfl ?_
      refine lv_lconst (v := 1) hx hb dX1_lose_34 (by decide) ?_
      refine lv_lsub hx hb dX1_lose_35 ?_
      refine va_put (D := (dC, dI)) (ci := 1) (v := .long (x.toInt64 - 1)) (ty := .long) (C := RX1) (T := TX1) (N := 13) hx hb hts hi1 tyX1 tyX1_ok nmX1 hown hK hP hD hS 0 rfl rfl 10 (by decide) (hts (.fieldLink RX1 33 "CellRackModel" "left" "J") (by decide +kernel)) (fun _ h9 => h9) rfl (by decide +kernel) (rfl) (rfl) (Nat.le_of_ble_eq_true rfl) dX1_lose_36 (fun H locs hP hD hS => ?_)
      replace hP : va_P (dC, dI) vwCl [(g0, .inr (1, [.int (nI 0), .ref bT, .int (nI tp), .ref bO, .int (nI os), .ref bL, .ref bW, .ref bB, .ref bD, .long dn, .long (x.toInt64 - 1), .int (bI mf), .ref bX]))] H := hP
      replace hD : va_D A [(g0, .inr (1, [.int (nI 0), .ref bT, .int (nI tp), .ref bO, .int (nI os), .ref bL, .ref bW, .ref bB, .ref bD, .long dn, .long (x.toInt64 - 1), .int (bI mf), .ref bX]))] := hD
      have hP9 := hP.sub (ws' := [(g0, .inr (1, [.int (nI 0), .ref bT, .int (nI tp), .ref bO, .int (nI os), .ref bL, .ref bW, .ref bB, .ref bD, .long dn, .long (x.toInt64 - 1), .int (bI mf), .ref bX]))]) [0] rfl
      have hD9 := hD.sub (ws' := [(g0, .inr (1, [.int (nI 0), .ref bT, .int (nI tp), .ref bO, .int (nI os), .ref bL, .ref bW, .ref bB, .ref bD, .long dn, .long (x.toInt64 - 1), .int (bI mf), .ref bX]))]) [0] (by decide) rfl
      exact W.vret hx hb hr (fun t ht hW => ⟨⟨(0, x.toInt64 - 1), rfl, Or.inr (Or.inr ⟨c3, c27, rfl, rfl⟩), by rw [ht]; exact hP9, va_K.moved hW.alike hK, hD9⟩, hS.F ht⟩) hS.2.2 dX1_lose_39
    · rw [show cond mf 2 0 = 2 by rw [c27]; rfl] at hP hD
      replace hP : va_P (dC, dI) vwCl [(g0, .inr (1, [.int (nI 2), .ref bT, .int (nI tp), .ref bO, .int (nI os), .ref bL, .ref bW, .ref bB, .ref bD, .long dn, .long lf, .int (bI mf), .ref bX]))] H := hP
      replace hD : va_D A [(g0, .inr (1, [.int (nI 2), .ref bT, .int (nI tp), .ref bO, .int (nI os), .ref bL, .ref bW, .ref bB, .ref bD, .long dn, .long lf, .int (bI mf), .ref bX]))] := hD
      have hP9 := hP.sub (ws' := [(g0, .inr (1, [.int (nI 2), .ref bT, .int (nI tp), .ref bO, .int (nI os), .ref bL, .ref bW, .ref bB, .ref bD, .long dn, .long lf, .int (bI mf), .ref bX]))]) [0] rfl
      have hD9 := hD.sub (ws' := [(g0, .inr (1, [.int (nI 2), .ref bT, .int (nI tp), .ref bO, .int (nI os), .ref bL, .ref bW, .ref bB, .ref bD, .long dn, .long lf, .int (bI mf), .ref bX]))]) [0] (by decide) rfl
      exact W.vret hx hb hr (fun t ht hW => ⟨⟨(2, lf), rfl, Or.inr (Or.inl ⟨c3, c27, rfl, rfl⟩), by rw [ht]; exact hP9, va_K.moved hW.alike hK, hD9⟩, hS.F ht⟩) hS.2.2 dX1_lose_30
  · refine lv_iconst (v := nI 1) hx hb dX1_lose_6 (by decide) ?_
    refine lv_goto (tgt := 11) hx hb dX1_lose_7 (by decide) ?_
    refine zr_topi (bI true) (rfl) ?_
    refine lv_iconst (v := nI 1) hx hb dX1_lose_11 (by decide) ?_
    have hPc := hP.sub (ws' := [(g0, .inr (1, [.int (nI th), .ref bT, .int (nI tp), .ref bO, .int (nI os), .ref bL, .ref bW, .ref bB, .ref bD, .long dn, .long lf, .int (bI mf), .ref bX]))]) [0] rfl
    have hDc := hD.sub (ws' := [(g0, .inr (1, [.int (nI th), .ref bT, .int (nI tp), .ref bO, .int (nI os), .ref bL, .ref bW, .ref bB, .ref bD, .long dn, .long lf, .int (bI mf), .ref bX]))]) [0] (by decide) rfl
    have hKc := hK.sub (tys' := []) [] rfl
    have hFc := va_free (wc := [(g0, .inr (1, [.int (nI th), .ref bT, .int (nI tp), .ref bO, .int (nI os), .ref bL, .ref bW, .ref bB, .ref bD, .long dn, .long lf, .int (bI mf), .ref bX]))]) hD hS hA [0] rfl
    refine va_calli (va_runV (As := [.int (bI true), .int (nI 1)]) (rest := []) ⟨hx, hb, hml, hown, hts⟩ (c_X1_fails l dC dI H.size g0 bT bO bL bW bB bD bX th tp os dn lf mf true 1) (cwV 2 hts gX1_lose_X1_fails rfl rfl rfl (by decide +kernel) ⟨Nat.le_of_ble_eq_true rfl, Nat.le_of_ble_eq_true rfl⟩) ⟨fun a U g mk q => by obtain ⟨q0, q1, qP, qK, qD⟩ := q; exact ⟨q0, q1, qP, va_K.moved (u := U) (U := U.calling g mk a) (Vm.Alike.refl U.vm) qK, qD⟩, va_recv hKc hPc (ci := 1) (q0 := 0) rfl rfl, fun U hU hW => ⟨rfl, by rw [hU], by rw [hU]; exact hPc, va_K.moved hW.alike hKc, hDc.weaken (fun _ _ _ _ => trivial)⟩⟩ rfl rfl hl.1 rfl (lv_room (Nat.le_of_ble_eq_true rfl)) dX1_lose_12 ⟨Nat.zero_le _, Nat.zero_le _⟩) hS (fun q _ h => hFc q h) hFc (fun r_3 u t H1 locs ht hvm hw hB hz1 hk1 hS => ?_)
    obtain ⟨hP1, hK1, hD1⟩ := hB
    rw [ht] at hP1
    obtain ⟨hPn, hDn⟩ := va_join (wr := []) (w1 := [(g0, .inr (1, [.int (nI (cond true 1 0)), .ref bT, .int (nI tp), .ref bO, .int (nI os), .ref bL, .ref bW, .ref bB, .ref bD, .long dn, .long lf, .int (bI mf), .ref bX]))]) hP hD [0] [] rfl rfl (by decide) (by decide) hk1 hFc hP1 hD1
    clear hP hD hP1 hD1 hK1 hPc hDc hKc hFc hk1 hz1 hvm ht
    generalize H1 = H at hPn hS ⊢
    have hP := hPn
    have hD := hDn
    clear hPn hDn
    replace hP : va_P (dC, dI) vwCl [(g0, .inr (1, [.int (nI (cond true 1 0)), .ref bT, .int (nI tp), .ref bO, .int (nI os), .ref bL, .ref bW, .ref bB, .ref bD, .long dn, .long lf, .int (bI mf), .ref bX]))] H := hP
    replace hD : va_D A [(g0, .inr (1, [.int (nI (cond true 1 0)), .ref bT, .int (nI tp), .ref bO, .int (nI os), .ref bL, .ref bW, .ref bB, .ref bD, .long dn, .long lf, .int (bI mf), .ref bX]))] := hD
    refine W.widen (k := 0) (n := 0) (Nat.le_refl _) (Nat.le_refl _) ?_
    obtain rfl := hw
    replace hP : va_P (dC, dI) vwCl [(g0, .inr (1, [.int (nI 1), .ref bT, .int (nI tp), .ref bO, .int (nI os), .ref bL, .ref bW, .ref bB, .ref bD, .long dn, .long lf, .int (bI mf), .ref bX]))] H := hP
    replace hD : va_D A [(g0, .inr (1, [.int (nI 1), .ref bT, .int (nI tp), .ref bO, .int (nI os), .ref bL, .ref bW, .ref bB, .ref bD, .long dn, .long lf, .int (bI mf), .ref bX]))] := hD
    refine zr_ifb_ne (tgt := 30) hx hb dX1_lose_15 (by decide) (fun c15 => ?_) (fun c15 => absurd c15 (by decide))
    have hP9 := hP.sub (ws' := [(g0, .inr (1, [.int (nI 1), .ref bT, .int (nI tp), .ref bO, .int (nI os), .ref bL, .ref bW, .ref bB, .ref bD, .long dn, .long lf, .int (bI mf), .ref bX]))]) [0] rfl
    have hD9 := hD.sub (ws' := [(g0, .inr (1, [.int (nI 1), .ref bT, .int (nI tp), .ref bO, .int (nI os), .ref bL, .ref bW, .ref bB, .ref bD, .long dn, .long lf, .int (bI mf), .ref bX]))]) [0] (by decide) rfl
    exact W.vret hx hb hr (fun t ht hW => ⟨⟨(1, lf), rfl, Or.inl ⟨c3, rfl, rfl⟩, by rw [ht]; exact hP9, va_K.moved hW.alike hK, hD9⟩, hS.F ht⟩) hS.2.2 dX1_lose_30
set_option maxHeartbeats 4000000 in
set_option maxRecDepth 100000 in
theorem c_X1_power (l : Launch) (dC : Nat → ClassId) (dI : Nat → Nat → Nat) (sz : Nat) (g0 bT bO bL bW bB bD bX : Nat) (th tp os : Nat) (dn lf : Int64) (mf : Bool) : Met l yX1_power wsX1_power ({ frames := 0, cells := 0, slots := 0, locals := 0 }) (va_Pc [.ref g0] (fun U => U.heap.size = sz ∧ va_P (dC, dI) vwCl [(g0, .inr (1, [.int (nI th), .ref bT, .int (nI tp), .ref bO, .int (nI os), .ref bL, .ref bW, .ref bB, .ref bD, .long dn, .long lf, .int (bI mf), .ref bX]))] U.heap ∧ va_K (dC, dI) vwCl [] U ∧ va_D (fun _ => True) [(g0, .inr (1, [.int (nI th), .ref bT, .int (nI tp), .ref bO, .int (nI os), .ref bL, .ref bW, .ref bB, .ref bD, .long dn, .long lf, .int (bI mf), .ref bX]))])) (va_Qi (fun (r : Int32) (_ : Unit) => r = bI mf) (fun (_ : Unit) t => va_P (dC, dI) vwCl [(g0, .inr (1, [.int (nI 0), .ref bT, .int (nI tp), .ref bO, .int (nI os), .ref bL, .ref bW, .ref bB, .ref bD, .long dn, .long (-1), .int (bI false), .ref bX]))] t.heap ∧ va_K (dC, dI) vwCl [] t ∧ va_D (va_A [(g0, .inr (1, [.int (nI th), .ref bT, .int (nI tp), .ref bO, .int (nI os), .ref bL, .ref bW, .ref bB, .ref bD, .long dn, .long lf, .int (bI mf), .ref bX]))] sz) [(g0, .inr (1, [.int (nI 0), .ref bT, .int (nI tp), .ref bO, .int (nI os), .ref bL, .ref bW, .ref bB, .ref bD, .long dn, .long (-1), .int (bI false), .ref bX]))]) (va_A [(g0, .inr (1, [.int (nI th), .ref bT, .int (nI tp), .ref bO, .int (nI os), .ref bL, .ref bW, .ref bB, .ref bD, .long dn, .long lf, .int (bI mf), .ref bX]))] sz)) 0 0 (va_A [(g0, .inr (1, [.int (nI th), .ref bT, .int (nI tp), .ref bO, .int (nI os), .ref bL, .ref bW, .ref bB, .ref bD, .long dn, .long lf, .int (bI mf), .ref bX]))] sz) := by
  refine Met.ofW (cc := cX1_power) (maxL := 2) (ret := some .boolean) (by decide) rfl ?_
  intro p e s m args below meth c s₁ B hml hv
  obtain ⟨rfl, hsz, hP, hK, hD0⟩ := hv
  have hx := B.exec
  have hb := B.bytes
  have hr := B.returns
  have hts := atoms_spec (ws := wsX1_power) B.pre
  have hown : s.vm.findClass RX1 = some m.cls := findClass_of_methodNamed B.named
  have hlocks := B.notSynchronized
  subst hsz
  have hD := hD0.self (sz := s.heap.size)
  generalize hAe : va_A [(g0, .inr (1, [.int (nI th), .ref bT, .int (nI tp), .ref bO, .int (nI os), .ref bL, .ref bW, .ref bB, .ref bD, .long dn, .long lf, .int (bI mf), .ref bX]))] s.heap.size = A at hD ⊢
  have hA : ∀ q : Nat, s.heap.size ≤ q → A q := fun q h => by rw [← hAe]; exact Or.inr h
  generalize hH : s.heap = H at hP ⊢
  have hS : va_S A s.heap H [] := by rw [hH]; exact va_S.rf
  replace hP : va_P (dC, dI) vwCl [(g0, .inr (1, [.int (nI th), .ref bT, .int (nI tp), .ref bO, .int (nI os), .ref bL, .ref bW, .ref bB, .ref bD, .long dn, .long lf, .int (bI mf), .ref bX]))] H := hP
  have hl := lv_entry ([.ref g0]) (n := 2) (Nat.le_of_ble_eq_true rfl)
  rw [lg_entry_eq]
  generalize (lg_sl ([.ref g0]) ++ List.replicate (2 - (lg_sl ([.ref g0])).length) Slot.unset).toArray = ls at hl ⊢
  have hl : lv_has ls 2 [(0, .ref g0)] := hl
  have hi1 : ∀ w ∈ u_ws RX1 TX1 13, w ∈ wsX1_power := by decide +kernel
  refine lv_aload_n hx hb dX1_power_0 rfl (lv_at hl 0 rfl) ?_
  refine lv_iconst (v := nI 0) hx hb dX1_power_1 (by decide) ?_
  refine va_put (D := (dC, dI)) (ci := 1) (v := .int (nI 0)) (ty := .int) (C := RX1) (T := TX1) (N := 13) hx hb hts hi1 tyX1 tyX1_ok nmX1 hown hK hP hD hS 0 rfl rfl 0 (by decide) (hts (.fieldLink RX1 40 "CellRackModel" "thrown" "I") (by decide +kernel)) (fun _ h9 => h9) rfl (by decide +kernel) (rfl) (rfl) (Nat.le_of_ble_eq_true rfl) dX1_power_2 (fun H locs hP hD hS => ?_)
  replace hP : va_P (dC, dI) vwCl [(g0, .inr (1, [.int (nI 0), .ref bT, .int (nI tp), .ref bO, .int (nI os), .ref bL, .ref bW, .ref bB, .ref bD, .long dn, .long lf, .int (bI mf), .ref bX]))] H := hP
  replace hD : va_D A [(g0, .inr (1, [.int (nI 0), .ref bT, .int (nI tp), .ref bO, .int (nI os), .ref bL, .ref bW, .ref bB, .ref bD, .long dn, .long lf, .int (bI mf), .ref bX]))] := hD
  refine lv_aload_n hx hb dX1_power_5 rfl (lv_at hl 0 rfl) ?_
  refine va_get (D := (dC, dI)) (ci := 1) (v := .int (bI mf)) (C := RX1) (T := TX1) (N := 13) hx hb hts hi1 hown hK hP 0 rfl rfl 11 (by decide) (hts (.fieldLink RX1 80 "CellRackModel" "off" "Z") (by decide +kernel)) (fun _ h9 => h9) rfl dX1_power_6 ?_
  refine lv_istore_n (lv' := [(1, .int (bI mf)), (0, .ref g0)]) hx hb dX1_power_9 rfl hl (by decide) rfl (fun ls hl => ?_)
  refine lv_aload_n hx hb dX1_power_10 rfl (lv_at hl 1 rfl) ?_
  refine lv_iconst (v := nI 0) hx hb dX1_power_11 (by decide) ?_
  refine zr_topi (bI false) (rfl) ?_
  refine va_put (D := (dC, dI)) (ci := 1) (v := .int (bI false)) (ty := .boolean) (C := RX1) (T := TX1) (N := 13) hx hb hts hi1 tyX1 tyX1_ok nmX1 hown hK hP hD hS 0 rfl rfl 11 (by decide) (hts (.fieldLink RX1 80 "CellRackModel" "off" "Z") (by decide +kernel)) (fun _ h9 => h9) rfl (by decide +kernel) (zr_nar_b _) (zr_fit_b _) (Nat.le_of_ble_eq_true rfl) dX1_power_12 (fun H locs hP hD hS => ?_)
  replace hP : va_P (dC, dI) vwCl [(g0, .inr (1, [.int (nI 0), .ref bT, .int (nI tp), .ref bO, .int (nI os), .ref bL, .ref bW, .ref bB, .ref bD, .long dn, .long lf, .int (bI false), .ref bX]))] H := hP
  replace hD : va_D A [(g0, .inr (1, [.int (nI 0), .ref bT, .int (nI tp), .ref bO, .int (nI os), .ref bL, .ref bW, .ref bB, .ref bD, .long dn, .long lf, .int (bI false), .ref bX]))] := hD
  refine lv_aload_n hx hb dX1_power_15 rfl (lv_at hl 1 rfl) ?_
  refine lv_ldc2 hx hb hown (hts (.constantLong RX1 31 (-1)) (by decide +kernel)) dX1_power_16 ?_
  refine va_put (D := (dC, dI)) (ci := 1) (v := .long (-1)) (ty := .long) (C := RX1) (T := TX1) (N := 13) hx hb hts hi1 tyX1 tyX1_ok nmX1 hown hK hP hD hS 0 rfl rfl 10 (by decide) (hts (.fieldLink RX1 33 "CellRackModel" "left" "J") (by decide +kernel)) (fun _ h9 => h9) rfl (by decide +kernel) (rfl) (rfl) (Nat.le_of_ble_eq_true rfl) dX1_power_19 (fun H locs hP hD hS => ?_)
  replace hP : va_P (dC, dI) vwCl [(g0, .inr (1, [.int (nI 0), .ref bT, .int (nI tp), .ref bO, .int (nI os), .ref bL, .ref bW, .ref bB, .ref bD, .long dn, .long (-1), .int (bI false), .ref bX]))] H := hP
  replace hD : va_D A [(g0, .inr (1, [.int (nI 0), .ref bT, .int (nI tp), .ref bO, .int (nI os), .ref bL, .ref bW, .ref bB, .ref bD, .long dn, .long (-1), .int (bI false), .ref bX]))] := hD
  refine lv_iload_n hx hb dX1_power_22 rfl (lv_at hl 0 rfl) ?_
  have hP9 := hP.sub (ws' := [(g0, .inr (1, [.int (nI 0), .ref bT, .int (nI tp), .ref bO, .int (nI os), .ref bL, .ref bW, .ref bB, .ref bD, .long dn, .long (-1), .int (bI false), .ref bX]))]) [0] rfl
  have hD9 := hD.sub (ws' := [(g0, .inr (1, [.int (nI 0), .ref bT, .int (nI tp), .ref bO, .int (nI os), .ref bL, .ref bW, .ref bB, .ref bD, .long dn, .long (-1), .int (bI false), .ref bX]))]) [0] (by decide) rfl
  exact W.zret (v := bI mf) hx hb hr (zr_nar_b _) (fun t ht hW => ⟨⟨bI mf, (), rfl, rfl, by rw [ht]; exact hP9, va_K.moved hW.alike hK, hD9⟩, hS.F ht⟩) hS.2.2 dX1_power_23
set_option maxHeartbeats 4000000 in
set_option maxRecDepth 100000 in
theorem lp_X1_count_in {p : Program} {l : Launch} {e : Env} {R : Room} {s : State} {m : MethodId} {args : Array Value} {below : List Frame} {meth : Method} {c : Code} {cells slots : Nat} {Q : State → Prop} {A : Nat → Prop} {H0 : Heap} {dC : Nat → ClassId} {dI : Nat → Nat → Nat} (g0 bT bO bL bW bB bD bX : Nat) (th tp os : Nat) (dn lf : Int64) (mf : Bool) (cZ cB : ClassId) (lv wr : Nat → Bool) (dm : Nat → BitVec 8) (v0 : Nat) (hv : v0 < 4) (d : Nat) (hd : d < 16) (hx : p.tables.exec = Jvm.exec) (hb : c.code = cX1_count) (hml : c.maxLocals = 6) (hown : s.vm.findClass RX1 = some m.cls) (hts : ∀ w ∈ wsX1_count, w.before args s = true) (hA : ∀ q : Nat, H0.size ≤ q → A q) (hK : va_K (dC, dI) vwCl [(cZ, .boolean), (cB, .byte)] s) (hRf : 2 ≤ R.frames) (hRl : 45 ≤ R.locals) (hRc : cells ≤ R.cells) (hRs : slots ≤ R.slots) (kk : ∀  (H : Heap) (locs : List Loc) (ls : Array Slot), va_P (dC, dI) vwCl [(g0, .inr (1, [.int (nI th), .ref bT, .int (nI tp), .ref bO, .int (nI os), .ref bL, .ref bW, .ref bB, .ref bD, .long dn, .long lf, .int (bI mf), .ref bX])), (bL, .inl (cZ, 16, .inl (fun i9 => bI (lv i9)))), (bW, .inl (cZ, 1056, .inl (fun i9 => bI (wr i9)))), (bD, .inl (cB, 73920, .inl (fun i9 => sx (dm i9))))] H → va_D A [(g0, .inr (1, [.int (nI th), .ref bT, .int (nI tp), .ref bO, .int (nI os), .ref bL, .ref bW, .ref bB, .ref bD, .long dn, .long lf, .int (bI mf), .ref bX])), (bL, .inl (cZ, 16, .inl (fun i9 => bI (lv i9)))), (bW, .inl (cZ, 1056, .inl (fun i9 => bI (wr i9)))), (bD, .inl (cB, 73920, .inl (fun i9 => sx (dm i9))))] → va_S A H0 H locs → lv_has ls 6 [(0, .ref g0), (1, .int (nI v0)), (2, .long (lN (ctK (smK lv wr dm) v0 (66 * d + 66)))), (4, .int (nI d))] → W p l e R s m args below meth c H locs cells slots Q (F0 m 48 ls [])) : ∀ (n : Nat) (c9 : Nat), 66 + 1 ≤ c9 + n → c9 ≤ 66 → ∀ (H : Heap) (locs : List Loc) (ls : Array Slot), va_P (dC, dI) vwCl [(g0, .inr (1, [.int (nI th), .ref bT, .int (nI tp), .ref bO, .int (nI os), .ref bL, .ref bW, .ref bB, .ref bD, .long dn, .long lf, .int (bI mf), .ref bX])), (bL, .inl (cZ, 16, .inl (fun i9 => bI (lv i9)))), (bW, .inl (cZ, 1056, .inl (fun i9 => bI (wr i9)))), (bD, .inl (cB, 73920, .inl (fun i9 => sx (dm i9))))] H → va_D A [(g0, .inr (1, [.int (nI th), .ref bT, .int (nI tp), .ref bO, .int (nI os), .ref bL, .ref bW, .ref bB, .ref bD, .long dn, .long lf, .int (bI mf), .ref bX])), (bL, .inl (cZ, 16, .inl (fun i9 => bI (lv i9)))), (bW, .inl (cZ, 1056, .inl (fun i9 => bI (wr i9)))), (bD, .inl (cB, 73920, .inl (fun i9 => sx (dm i9))))] → va_S A H0 H locs → lv_has ls 6 [(0, .ref g0), (1, .int (nI v0)), (2, .long (lN (ctK (smK lv wr dm) v0 (66 * d + c9)))), (4, .int (nI d)), (5, .int (nI c9))] → W p l e R s m args below meth c H locs cells slots Q (F0 m 15 ls []) := by
  intro n
  induction n with
  | zero => intro c9  hm hi; exact absurd hm (by omega)
  | succ n ih =>
    intro c9  hm hi H locs ls hP hD hS hl
    refine lv_iload hx hb dX1_count_15 (lv_at hl 4 rfl) ?_
    refine lv_bipush (v := nI 66) hx hb dX1_count_17 (by decide) ?_
    refine zr_icmp_ge (tgt := 48) hx hb (by omega) (by omega) dX1_count_19 (by decide) (fun c19 => ?_) (fun c19 => ?_)
    · obtain rfl : 66 = c9 := by omega
      exact kk  H locs ls (hP.sub [0, 1, 2, 3] rfl) (hD.sub [0, 1, 2, 3] (by decide) rfl) hS (lv_sub hl [0, 1, 2, 3] rfl)
    · refine lv_lload_n hx hb dX1_count_22 rfl (lv_at hl 2 rfl) ?_
      refine lv_aload_n hx hb dX1_count_23 rfl (lv_at hl 0 rfl) ?_
      refine lv_iload hx hb dX1_count_24 (lv_at hl 3 rfl) ?_
      refine lv_iload hx hb dX1_count_26 (lv_at hl 4 rfl) ?_
      have hPc := hP.sub (ws' := [(g0, .inr (1, [.int (nI th), .ref bT, .int (nI tp), .ref bO, .int (nI os), .ref bL, .ref bW, .ref bB, .ref bD, .long dn, .long lf, .int (bI mf), .ref bX])), (bL, .inl (cZ, 16, .inl (fun i9 => bI (lv i9)))), (bW, .inl (cZ, 1056, .inl (fun i9 => bI (wr i9)))), (bD, .inl (cB, 73920, .inl (fun i9 => sx (dm i9))))]) [0, 1, 2, 3] rfl
      have hDc := hD.sub (ws' := [(g0, .inr (1, [.int (nI th), .ref bT, .int (nI tp), .ref bO, .int (nI os), .ref bL, .ref bW, .ref bB, .ref bD, .long dn, .long lf, .int (bI mf), .ref bX])), (bL, .inl (cZ, 16, .inl (fun i9 => bI (lv i9)))), (bW, .inl (cZ, 1056, .inl (fun i9 => bI (wr i9)))), (bD, .inl (cB, 73920, .inl (fun i9 => sx (dm i9))))]) [0, 1, 2, 3] (by decide) rfl
      have hKc := hK.sub (tys' := [(cZ, .boolean), (cB, .byte)]) [0, 1] rfl
      have hFc := va_free (wc := [(g0, .inr (1, [.int (nI th), .ref bT, .int (nI tp), .ref bO, .int (nI os), .ref bL, .ref bW, .ref bB, .ref bD, .long dn, .long lf, .int (bI mf), .ref bX])), (bL, .inl (cZ, 16, .inl (fun i9 => bI (lv i9)))), (bW, .inl (cZ, 1056, .inl (fun i9 => bI (wr i9)))), (bD, .inl (cB, 73920, .inl (fun i9 => sx (dm i9))))]) hD hS hA [0, 1, 2, 3] rfl
      refine va_calli (va_runV (As := [.int (nI d), .int (nI c9)]) (rest := [.long (lN (ctK (smK lv wr dm) v0 (66 * d + c9)))]) ⟨hx, hb, hml, hown, hts⟩ (c_X1_stateOf l dC dI H.size g0 bT bO bL bW bB bD bX th tp os dn lf mf cZ cB lv wr dm d c9 (by omega) (by omega)) (cwV 2 hts gX1_count_X1_stateOf rfl rfl rfl (by decide +kernel) ⟨Nat.le_trans (by decide) hRf, Nat.le_trans (by decide) hRl⟩) ⟨fun a U g mk q => by obtain ⟨q0, q1, qP, qK, qD⟩ := q; exact ⟨q0, q1, qP, va_K.moved (u := U) (U := U.calling g mk a) (Vm.Alike.refl U.vm) qK, qD⟩, va_recv hKc hPc (ci := 1) (q0 := 0) rfl rfl, fun U hU hW => ⟨rfl, by rw [hU], by rw [hU]; exact hPc, va_K.moved hW.alike hKc, hDc.weaken (fun _ _ _ _ => trivial)⟩⟩ rfl rfl hl.1 rfl (lv_room (Nat.le_of_ble_eq_true rfl)) dX1_count_28 ⟨hRc, hRs⟩) hS (fun q _ h => hFc q h) hFc (fun r_1 u t H1 locs ht hvm hw hB hz1 hk1 hS => ?_)
      obtain ⟨hP1, hK1, hD1⟩ := hB
      rw [ht] at hP1
      obtain ⟨hPn, hDn⟩ := va_join (wr := []) (w1 := [(g0, .inr (1, [.int (nI th), .ref bT, .int (nI tp), .ref bO, .int (nI os), .ref bL, .ref bW, .ref bB, .ref bD, .long dn, .long lf, .int (bI mf), .ref bX])), (bL, .inl (cZ, 16, .inl (fun i9 => bI (lv i9)))), (bW, .inl (cZ, 1056, .inl (fun i9 => bI (wr i9)))), (bD, .inl (cB, 73920, .inl (fun i9 => sx (dm i9))))]) hP hD [0, 1, 2, 3] [] rfl rfl (by decide) (by decide) hk1 hFc hP1 hD1
      clear hP hD hP1 hD1 hK1 hPc hDc hKc hFc hk1 hz1 hvm ht
      generalize H1 = H at hPn hS ⊢
      have hP := hPn
      have hD := hDn
      clear hPn hDn
      replace hP : va_P (dC, dI) vwCl [(g0, .inr (1, [.int (nI th), .ref bT, .int (nI tp), .ref bO, .int (nI os), .ref bL, .ref bW, .ref bB, .ref bD, .long dn, .long lf, .int (bI mf), .ref bX])), (bL, .inl (cZ, 16, .inl (fun i9 => bI (lv i9)))), (bW, .inl (cZ, 1056, .inl (fun i9 => bI (wr i9)))), (bD, .inl (cB, 73920, .inl (fun i9 => sx (dm i9))))] H := hP
      replace hD : va_D A [(g0, .inr (1, [.int (nI th), .ref bT, .int (nI tp), .ref bO, .int (nI os), .ref bL, .ref bW, .ref bB, .ref bD, .long dn, .long lf, .int (bI mf), .ref bX])), (bL, .inl (cZ, 16, .inl (fun i9 => bI (lv i9)))), (bW, .inl (cZ, 1056, .inl (fun i9 => bI (wr i9)))), (bD, .inl (cB, 73920, .inl (fun i9 => sx (dm i9))))] := hD
      refine W.widen (k := cells) (n := slots) (Nat.le_refl _) (Nat.le_refl _) ?_
      obtain rfl := hw
      refine lv_iload_n hx hb dX1_count_31 rfl (lv_at hl 1 rfl) ?_
      refine zr_icmp_ne (tgt := 39) hx hb (Nat.lt_trans (stN_lt _ _ _ _ _) (by decide)) (by omega) dX1_count_32 (by decide) (fun c32 => ?_) (fun c32 => ?_)
      · refine lv_lconst (v := 0) hx hb dX1_count_39 (by decide) ?_
        refine lv_ladd hx hb dX1_count_40 ?_
        refine zr_topl (lN (ctK (smK lv wr dm) v0 (66 * d + (c9 + 1)))) (by show _ = lN (ctK (smK lv wr dm) v0 (66 * d + c9) + (if smK lv wr dm (66 * d + c9) = v0 then 1 else 0)); rw [smK_at _ _ _ (by omega)]; first | (rw [if_pos c32]; exact lN_1 _) | (rw [if_neg c32]; exact lN_0' _)) ?_
        refine lv_lstore_n (lv' := [(2, .long (lN (ctK (smK lv wr dm) v0 (66 * d + (c9 + 1))))), (0, .ref g0), (1, .int (nI v0)), (4, .int (nI d)), (5, .int (nI c9))]) hx hb dX1_count_41 rfl hl (by decide) rfl (fun ls hl => ?_)
        refine lv_iinc (v := nI (c9 + 1)) (lv' := [(5, .int (nI (c9 + 1))), (2, .long (lN (ctK (smK lv wr dm) v0 (66 * d + (c9 + 1))))), (0, .ref g0), (1, .int (nI v0)), (4, .int (nI d))]) hx hb dX1_count_42 hl (k := 4) rfl (nI_add (c9) 1) (by decide) rfl (fun ls hl => ?_)
        refine lv_goto (tgt := 15) hx hb dX1_count_45 (by decide) ?_
        exact ih (c9 + 1) (by omega) (by omega) H locs ls (hP.sub [0, 1, 2, 3] rfl) (hD.sub [0, 1, 2, 3] (by decide) rfl) hS (lv_sub hl [2, 3, 1, 4, 0] rfl)
      · refine lv_lconst (v := 1) hx hb dX1_count_35 (by decide) ?_
        refine lv_goto (tgt := 40) hx hb dX1_count_36 (by decide) ?_
        refine lv_ladd hx hb dX1_count_40 ?_
        refine zr_topl (lN (ctK (smK lv wr dm) v0 (66 * d + (c9 + 1)))) (by show _ = lN (ctK (smK lv wr dm) v0 (66 * d + c9) + (if smK lv wr dm (66 * d + c9) = v0 then 1 else 0)); rw [smK_at _ _ _ (by omega)]; first | (rw [if_pos c32]; exact lN_1 _) | (rw [if_neg c32]; exact lN_0' _)) ?_
        refine lv_lstore_n (lv' := [(2, .long (lN (ctK (smK lv wr dm) v0 (66 * d + (c9 + 1))))), (0, .ref g0), (1, .int (nI v0)), (4, .int (nI d)), (5, .int (nI c9))]) hx hb dX1_count_41 rfl hl (by decide) rfl (fun ls hl => ?_)
        refine lv_iinc (v := nI (c9 + 1)) (lv' := [(5, .int (nI (c9 + 1))), (2, .long (lN (ctK (smK lv wr dm) v0 (66 * d + (c9 + 1))))), (0, .ref g0), (1, .int (nI v0)), (4, .int (nI d))]) hx hb dX1_count_42 hl (k := 4) rfl (nI_add (c9) 1) (by decide) rfl (fun ls hl => ?_)
        refine lv_goto (tgt := 15) hx hb dX1_count_45 (by decide) ?_
        exact ih (c9 + 1) (by omega) (by omega) H locs ls (hP.sub [0, 1, 2, 3] rfl) (hD.sub [0, 1, 2, 3] (by decide) rfl) hS (lv_sub hl [2, 3, 1, 4, 0] rfl)
set_option maxHeartbeats 4000000 in
set_option maxRecDepth 100000 in
theorem lp_X1_count {p : Program} {l : Launch} {e : Env} {R : Room} {s : State} {m : MethodId} {args : Array Value} {below : List Frame} {meth : Method} {c : Code} {cells slots : Nat} {Q : State → Prop} {A : Nat → Prop} {H0 : Heap} {dC : Nat → ClassId} {dI : Nat → Nat → Nat} (g0 bT bO bL bW bB bD bX : Nat) (th tp os : Nat) (dn lf : Int64) (mf : Bool) (cZ cB : ClassId) (lv wr : Nat → Bool) (dm : Nat → BitVec 8) (v0 : Nat) (hv : v0 < 4) (hx : p.tables.exec = Jvm.exec) (hb : c.code = cX1_count) (hml : c.maxLocals = 6) (hown : s.vm.findClass RX1 = some m.cls) (hts : ∀ w ∈ wsX1_count, w.before args s = true) (hA : ∀ q : Nat, H0.size ≤ q → A q) (hK : va_K (dC, dI) vwCl [(cZ, .boolean), (cB, .byte)] s) (hRf : 2 ≤ R.frames) (hRl : 45 ≤ R.locals) (hRc : cells ≤ R.cells) (hRs : slots ≤ R.slots) (kk : ∀  (H : Heap) (locs : List Loc) (ls : Array Slot), va_P (dC, dI) vwCl [(g0, .inr (1, [.int (nI th), .ref bT, .int (nI tp), .ref bO, .int (nI os), .ref bL, .ref bW, .ref bB, .ref bD, .long dn, .long lf, .int (bI mf), .ref bX])), (bL, .inl (cZ, 16, .inl (fun i9 => bI (lv i9)))), (bW, .inl (cZ, 1056, .inl (fun i9 => bI (wr i9)))), (bD, .inl (cB, 73920, .inl (fun i9 => sx (dm i9))))] H → va_D A [(g0, .inr (1, [.int (nI th), .ref bT, .int (nI tp), .ref bO, .int (nI os), .ref bL, .ref bW, .ref bB, .ref bD, .long dn, .long lf, .int (bI mf), .ref bX])), (bL, .inl (cZ, 16, .inl (fun i9 => bI (lv i9)))), (bW, .inl (cZ, 1056, .inl (fun i9 => bI (wr i9)))), (bD, .inl (cB, 73920, .inl (fun i9 => sx (dm i9))))] → va_S A H0 H locs → lv_has ls 6 [(2, .long (lN (ctK (smK lv wr dm) v0 (66 * 16))))] → W p l e R s m args below meth c H locs cells slots Q (F0 m 54 ls [])) : ∀ (n : Nat) (d : Nat), 16 + 1 ≤ d + n → d ≤ 16 → ∀ (H : Heap) (locs : List Loc) (ls : Array Slot), va_P (dC, dI) vwCl [(g0, .inr (1, [.int (nI th), .ref bT, .int (nI tp), .ref bO, .int (nI os), .ref bL, .ref bW, .ref bB, .ref bD, .long dn, .long lf, .int (bI mf), .ref bX])), (bL, .inl (cZ, 16, .inl (fun i9 => bI (lv i9)))), (bW, .inl (cZ, 1056, .inl (fun i9 => bI (wr i9)))), (bD, .inl (cB, 73920, .inl (fun i9 => sx (dm i9))))] H → va_D A [(g0, .inr (1, [.int (nI th), .ref bT, .int (nI tp), .ref bO, .int (nI os), .ref bL, .ref bW, .ref bB, .ref bD, .long dn, .long lf, .int (bI mf), .ref bX])), (bL, .inl (cZ, 16, .inl (fun i9 => bI (lv i9)))), (bW, .inl (cZ, 1056, .inl (fun i9 => bI (wr i9)))), (bD, .inl (cB, 73920, .inl (fun i9 => sx (dm i9))))] → va_S A H0 H locs → lv_has ls 6 [(0, .ref g0), (1, .int (nI v0)), (2, .long (lN (ctK (smK lv wr dm) v0 (66 * d)))), (4, .int (nI d))] → W p l e R s m args below meth c H locs cells slots Q (F0 m 5 ls []) := by
  intro n
  induction n with
  | zero => intro d  hm hi; exact absurd hm (by omega)
  | succ n ih =>
    intro d  hm hi H locs ls hP hD hS hl
    refine lv_iload hx hb dX1_count_5 (lv_at hl 3 rfl) ?_
    refine lv_bipush (v := nI 16) hx hb dX1_count_7 (by decide) ?_
    refine zr_icmp_ge (tgt := 54) hx hb (by omega) (by omega) dX1_count_9 (by decide) (fun c9 => ?_) (fun c9 => ?_)
    · obtain rfl : 16 = d := by omega
      exact kk  H locs ls (hP.sub [0, 1, 2, 3] rfl) (hD.sub [0, 1, 2, 3] (by decide) rfl) hS (lv_sub hl [2] rfl)
    · refine lv_iconst (v := nI 0) hx hb dX1_count_12 (by decide) ?_
      refine lv_istore (lv' := [(5, .int (nI 0)), (0, .ref g0), (1, .int (nI v0)), (2, .long (lN (ctK (smK lv wr dm) v0 (66 * d)))), (4, .int (nI d))]) hx hb dX1_count_13 hl (by decide) rfl (fun ls hl => ?_)
      refine lp_X1_count_in g0 bT bO bL bW bB bD bX th tp os dn lf mf cZ cB lv wr dm v0 hv d (by omega) hx hb hml hown hts hA hK (Nat.le_trans (by decide) hRf) (Nat.le_trans (by decide) hRl) hRc hRs (fun  H locs ls hP hD hS hl => ?_) 67 0 (by omega) (by omega) _ _ _ (hP.sub [0, 1, 2, 3] rfl) (hD.sub [0, 1, 2, 3] (by decide) rfl) hS (lv_sub hl [1, 2, 3, 4, 0] rfl)
      refine lv_iinc (v := nI (d + 1)) (lv' := [(4, .int (nI (d + 1))), (0, .ref g0), (1, .int (nI v0)), (2, .long (lN (ctK (smK lv wr dm) v0 (66 * d + 66))))]) hx hb dX1_count_48 hl (k := 3) rfl (nI_add (d) 1) (by decide) rfl (fun ls hl => ?_)
      refine lv_goto (tgt := 5) hx hb dX1_count_51 (by decide) ?_
      exact ih (d + 1) (by omega) (by omega) H locs ls (hP.sub [0, 1, 2, 3] rfl) (hD.sub [0, 1, 2, 3] (by decide) rfl) hS (lv_sub hl [1, 2, 3, 0] rfl)
set_option maxHeartbeats 4000000 in
set_option maxRecDepth 100000 in
theorem c_X1_count (l : Launch) (dC : Nat → ClassId) (dI : Nat → Nat → Nat) (sz : Nat) (g0 bT bO bL bW bB bD bX : Nat) (th tp os : Nat) (dn lf : Int64) (mf : Bool) (cZ cB : ClassId) (lv wr : Nat → Bool) (dm : Nat → BitVec 8) (v0 : Nat) (hv : v0 < 4) : Met l yX1_count wsX1_count ({ frames := 2, cells := 0, slots := 0, locals := 45 }) (va_Pc [.ref g0, .int (nI v0)] (fun U => U.heap.size = sz ∧ va_P (dC, dI) vwCl [(g0, .inr (1, [.int (nI th), .ref bT, .int (nI tp), .ref bO, .int (nI os), .ref bL, .ref bW, .ref bB, .ref bD, .long dn, .long lf, .int (bI mf), .ref bX])), (bL, .inl (cZ, 16, .inl (fun i9 => bI (lv i9)))), (bW, .inl (cZ, 1056, .inl (fun i9 => bI (wr i9)))), (bD, .inl (cB, 73920, .inl (fun i9 => sx (dm i9))))] U.heap ∧ va_K (dC, dI) vwCl [(cZ, .boolean), (cB, .byte)] U ∧ va_D (fun _ => True) [(g0, .inr (1, [.int (nI th), .ref bT, .int (nI tp), .ref bO, .int (nI os), .ref bL, .ref bW, .ref bB, .ref bD, .long dn, .long lf, .int (bI mf), .ref bX])), (bL, .inl (cZ, 16, .inl (fun i9 => bI (lv i9)))), (bW, .inl (cZ, 1056, .inl (fun i9 => bI (wr i9)))), (bD, .inl (cB, 73920, .inl (fun i9 => sx (dm i9))))])) (va_Ql (fun (r : Int64) (_ : Unit) => r = lN (ctK (smK lv wr dm) v0 1056)) (fun (_ : Unit) t => va_P (dC, dI) vwCl [(g0, .inr (1, [.int (nI th), .ref bT, .int (nI tp), .ref bO, .int (nI os), .ref bL, .ref bW, .ref bB, .ref bD, .long dn, .long lf, .int (bI mf), .ref bX])), (bL, .inl (cZ, 16, .inl (fun i9 => bI (lv i9)))), (bW, .inl (cZ, 1056, .inl (fun i9 => bI (wr i9)))), (bD, .inl (cB, 73920, .inl (fun i9 => sx (dm i9))))] t.heap ∧ va_K (dC, dI) vwCl [(cZ, .boolean), (cB, .byte)] t ∧ va_D (va_A [(g0, .inr (1, [.int (nI th), .ref bT, .int (nI tp), .ref bO, .int (nI os), .ref bL, .ref bW, .ref bB, .ref bD, .long dn, .long lf, .int (bI mf), .ref bX])), (bL, .inl (cZ, 16, .inl (fun i9 => bI (lv i9)))), (bW, .inl (cZ, 1056, .inl (fun i9 => bI (wr i9)))), (bD, .inl (cB, 73920, .inl (fun i9 => sx (dm i9))))] sz) [(g0, .inr (1, [.int (nI th), .ref bT, .int (nI tp), .ref bO, .int (nI os), .ref bL, .ref bW, .ref bB, .ref bD, .long dn, .long lf, .int (bI mf), .ref bX])), (bL, .inl (cZ, 16, .inl (fun i9 => bI (lv i9)))), (bW, .inl (cZ, 1056, .inl (fun i9 => bI (wr i9)))), (bD, .inl (cB, 73920, .inl (fun i9 => sx (dm i9))))]) (va_A [(g0, .inr (1, [.int (nI th), .ref bT, .int (nI tp), .ref bO, .int (nI os), .ref bL, .ref bW, .ref bB, .ref bD, .long dn, .long lf, .int (bI mf), .ref bX])), (bL, .inl (cZ, 16, .inl (fun i9 => bI (lv i9)))), (bW, .inl (cZ, 1056, .inl (fun i9 => bI (wr i9)))), (bD, .inl (cB, 73920, .inl (fun i9 => sx (dm i9))))] sz)) 0 0 (va_A [(g0, .inr (1, [.int (nI th), .ref bT, .int (nI tp), .ref bO, .int (nI os), .ref bL, .ref bW, .ref bB, .ref bD, .long dn, .long lf, .int (bI mf), .ref bX])), (bL, .inl (cZ, 16, .inl (fun i9 => bI (lv i9)))), (bW, .inl (cZ, 1056, .inl (fun i9 => bI (wr i9)))), (bD, .inl (cB, 73920, .inl (fun i9 => sx (dm i9))))] sz) := by
  refine Met.ofW (cc := cX1_count) (maxL := 6) (ret := some .long) (by decide) rfl ?_
  intro p e s m args below meth c s₁ B hml hv
  obtain ⟨rfl, hsz, hP, hK, hD0⟩ := hv
  have hx := B.exec
  have hb := B.bytes
  have hr := B.returns
  have hts := atoms_spec (ws := wsX1_count) B.pre
  have hown : s.vm.findClass RX1 = some m.cls := findClass_of_methodNamed B.named
  have hlocks := B.notSynchronized
  subst hsz
  have hD := hD0.self (sz := s.heap.size)
  generalize hAe : va_A [(g0, .inr (1, [.int (nI th), .ref bT, .int (nI tp), .ref bO, .int (nI os), .ref bL, .ref bW, .ref bB, .ref bD, .long dn, .long lf, .int (bI mf), .ref bX])), (bL, .inl (cZ, 16, .inl (fun i9 => bI (lv i9)))), (bW, .inl (cZ, 1056, .inl (fun i9 => bI (wr i9)))), (bD, .inl (cB, 73920, .inl (fun i9 => sx (dm i9))))] s.heap.size = A at hD ⊢
  have hA : ∀ q : Nat, s.heap.size ≤ q → A q := fun q h => by rw [← hAe]; exact Or.inr h
  generalize hH : s.heap = H at hP ⊢
  have hS : va_S A s.heap H [] := by rw [hH]; exact va_S.rf
  replace hP : va_P (dC, dI) vwCl [(g0, .inr (1, [.int (nI th), .ref bT, .int (nI tp), .ref bO, .int (nI os), .ref bL, .ref bW, .ref bB, .ref bD, .long dn, .long lf, .int (bI mf), .ref bX])), (bL, .inl (cZ, 16, .inl (fun i9 => bI (lv i9)))), (bW, .inl (cZ, 1056, .inl (fun i9 => bI (wr i9)))), (bD, .inl (cB, 73920, .inl (fun i9 => sx (dm i9))))] H := hP
  have hl := lv_entry ([.ref g0, .int (nI v0)]) (n := 6) (Nat.le_of_ble_eq_true rfl)
  rw [lg_entry_eq]
  generalize (lg_sl ([.ref g0, .int (nI v0)]) ++ List.replicate (6 - (lg_sl ([.ref g0, .int (nI v0)])).length) Slot.unset).toArray = ls at hl ⊢
  have hl : lv_has ls 6 [(0, .ref g0), (1, .int (nI v0))] := hl
  refine lv_lconst (v := 0) hx hb dX1_count_0 (by decide) ?_
  refine lv_lstore_n (lv' := [(2, .long 0), (0, .ref g0), (1, .int (nI v0))]) hx hb dX1_count_1 rfl hl (by decide) rfl (fun ls hl => ?_)
  refine lv_iconst (v := nI 0) hx hb dX1_count_2 (by decide) ?_
  refine lv_istore (lv' := [(4, .int (nI 0)), (2, .long 0), (0, .ref g0), (1, .int (nI v0))]) hx hb dX1_count_3 hl (by decide) rfl (fun ls hl => ?_)
  refine lp_X1_count g0 bT bO bL bW bB bD bX th tp os dn lf mf cZ cB lv wr dm v0 hv hx hb hml hown hts hA hK (Nat.le_of_ble_eq_true rfl) (Nat.le_of_ble_eq_true rfl) (Nat.zero_le _) (Nat.zero_le _) (fun  H locs ls hP hD hS hl => ?_) 17 0 (by omega) (by omega) _ _ _ (hP.sub [0, 1, 2, 3] rfl) (hD.sub [0, 1, 2, 3] (by decide) rfl) hS (lv_sub hl [2, 3, 1, 0] rfl)
  refine lv_lload_n hx hb dX1_count_54 rfl (lv_at hl 0 rfl) ?_
  have hP9 := hP.sub (ws' := [(g0, .inr (1, [.int (nI th), .ref bT, .int (nI tp), .ref bO, .int (nI os), .ref bL, .ref bW, .ref bB, .ref bD, .long dn, .long lf, .int (bI mf), .ref bX])), (bL, .inl (cZ, 16, .inl (fun i9 => bI (lv i9)))), (bW, .inl (cZ, 1056, .inl (fun i9 => bI (wr i9)))), (bD, .inl (cB, 73920, .inl (fun i9 => sx (dm i9))))]) [0, 1, 2, 3] rfl
  have hD9 := hD.sub (ws' := [(g0, .inr (1, [.int (nI th), .ref bT, .int (nI tp), .ref bO, .int (nI os), .ref bL, .ref bW, .ref bB, .ref bD, .long dn, .long lf, .int (bI mf), .ref bX])), (bL, .inl (cZ, 16, .inl (fun i9 => bI (lv i9)))), (bW, .inl (cZ, 1056, .inl (fun i9 => bI (wr i9)))), (bD, .inl (cB, 73920, .inl (fun i9 => sx (dm i9))))]) [0, 1, 2, 3] (by decide) rfl
  exact W.lret (v := lN (ctK (smK lv wr dm) v0 (66 * 16))) hx hb hr (fun t ht hW => ⟨⟨lN (ctK (smK lv wr dm) v0 (66 * 16)), (), rfl, rfl, by rw [ht]; exact hP9, va_K.moved hW.alike hK, hD9⟩, hS.F ht⟩) hS.2.2 dX1_count_55
set_option maxHeartbeats 4000000 in
set_option maxRecDepth 100000 in
theorem lp_X1_look {p : Program} {l : Launch} {e : Env} {R : Room} {s : State} {m : MethodId} {args : Array Value} {below : List Frame} {meth : Method} {c : Code} {cells slots : Nat} {Q : State → Prop} {A : Nat → Prop} {H0 : Heap} {dC : Nat → ClassId} {dI : Nat → Nat → Nat} (g0 bT bO bL bW bB bD bX : Nat) (th tp os : Nat) (dn lf : Int64) (mf : Bool) (cZ cB : ClassId) (lv wr : Nat → Bool) (dm : Nat → BitVec 8)  (hx : p.tables.exec = Jvm.exec) (hb : c.code = cX1_look) (hml : c.maxLocals = 5) (hown : s.vm.findClass RX1 = some m.cls) (hts : ∀ w ∈ wsX1_look, w.before args s = true) (hA : ∀ q : Nat, H0.size ≤ q → A q) (hK : va_K (dC, dI) vwCl [(cZ, .boolean), (cB, .byte)] s) (kk : ∀  (H : Heap) (locs : List Loc) (ls : Array Slot), va_P (dC, dI) vwCl [(g0, .inr (1, [.int (nI th), .ref bT, .int (nI tp), .ref bO, .int (nI os), .ref bL, .ref bW, .ref bB, .ref bD, .long dn, .long lf, .int (bI mf), .ref bX])), (bL, .inl (cZ, 16, .inl (fun i9 => bI (lv i9)))), (bW, .inl (cZ, 1056, .inl (fun i9 => bI (wr i9)))), (bD, .inl (cB, 73920, .inl (fun i9 => sx (dm i9))))] H → va_D A [(g0, .inr (1, [.int (nI th), .ref bT, .int (nI tp), .ref bO, .int (nI os), .ref bL, .ref bW, .ref bB, .ref bD, .long dn, .long lf, .int (bI mf), .ref bX])), (bL, .inl (cZ, 16, .inl (fun i9 => bI (lv i9)))), (bW, .inl (cZ, 1056, .inl (fun i9 => bI (wr i9)))), (bD, .inl (cB, 73920, .inl (fun i9 => sx (dm i9))))] → va_S A H0 H locs → lv_has ls 5 [(2, .long (lN (lvC lv 16)))] → W p l e R s m args below meth c H locs cells slots Q (F0 m 130 ls [])) : ∀ (n : Nat) (d : Nat), 16 + 1 ≤ d + n → d ≤ 16 → ∀ (H : Heap) (locs : List Loc) (ls : Array Slot), va_P (dC, dI) vwCl [(g0, .inr (1, [.int (nI th), .ref bT, .int (nI tp), .ref bO, .int (nI os), .ref bL, .ref bW, .ref bB, .ref bD, .long dn, .long lf, .int (bI mf), .ref bX])), (bL, .inl (cZ, 16, .inl (fun i9 => bI (lv i9)))), (bW, .inl (cZ, 1056, .inl (fun i9 => bI (wr i9)))), (bD, .inl (cB, 73920, .inl (fun i9 => sx (dm i9))))] H → va_D A [(g0, .inr (1, [.int (nI th), .ref bT, .int (nI tp), .ref bO, .int (nI os), .ref bL, .ref bW, .ref bB, .ref bD, .long dn, .long lf, .int (bI mf), .ref bX])), (bL, .inl (cZ, 16, .inl (fun i9 => bI (lv i9)))), (bW, .inl (cZ, 1056, .inl (fun i9 => bI (wr i9)))), (bD, .inl (cB, 73920, .inl (fun i9 => sx (dm i9))))] → va_S A H0 H locs → lv_has ls 5 [(0, .ref g0), (2, .long (lN (lvC lv d))), (4, .int (nI d))] → W p l e R s m args below meth c H locs cells slots Q (F0 m 99 ls []) := by
  have hi1 : ∀ w ∈ u_ws RX1 TX1 13, w ∈ wsX1_look := by decide +kernel
  intro n
  induction n with
  | zero => intro d  hm hi; exact absurd hm (by omega)
  | succ n ih =>
    intro d  hm hi H locs ls hP hD hS hl
    refine lv_iload hx hb dX1_look_99 (lv_at hl 2 rfl) ?_
    refine lv_bipush (v := nI 16) hx hb dX1_look_101 (by decide) ?_
    refine zr_icmp_ge (tgt := 130) hx hb (by omega) (by omega) dX1_look_103 (by decide) (fun c103 => ?_) (fun c103 => ?_)
    · obtain rfl : 16 = d := by omega
      exact kk  H locs ls (hP.sub [0, 1, 2, 3] rfl) (hD.sub [0, 1, 2, 3] (by decide) rfl) hS (lv_sub hl [1] rfl)
    · refine lv_lload_n hx hb dX1_look_106 rfl (lv_at hl 1 rfl) ?_
      refine lv_aload_n hx hb dX1_look_107 rfl (lv_at hl 0 rfl) ?_
      refine va_get (D := (dC, dI)) (ci := 1) (v := .ref bL) (C := RX1) (T := TX1) (N := 13) hx hb hts hi1 hown hK hP 0 rfl rfl 5 (by decide) (hts (.fieldLink RX1 16 "CellRackModel" "live" "[Z") (by decide +kernel)) (fun _ h9 => h9) rfl dX1_look_108 ?_
      refine lv_iload hx hb dX1_look_111 (lv_at hl 2 rfl) ?_
      refine zr_zald hx hb hK hP 1 0 rfl rfl (by omega) (by omega) dX1_look_113 ?_
      refine zr_ifb_eq (tgt := 121) hx hb dX1_look_114 (by decide) (fun c114 => ?_) (fun c114 => ?_)
      · refine lv_lconst (v := 0) hx hb dX1_look_121 (by decide) ?_
        refine lv_ladd hx hb dX1_look_122 ?_
        refine zr_topl (lN (lvC lv (d + 1))) (by show _ = lN (lvC lv d + (if lv d then 1 else 0)); rw [c114]; first | exact lN_1 _ | exact lN_0' _) ?_
        refine lv_lstore_n (lv' := [(2, .long (lN (lvC lv (d + 1)))), (0, .ref g0), (4, .int (nI d))]) hx hb dX1_look_123 rfl hl (by decide) rfl (fun ls hl => ?_)
        refine lv_iinc (v := nI (d + 1)) (lv' := [(4, .int (nI (d + 1))), (2, .long (lN (lvC lv (d + 1)))), (0, .ref g0)]) hx hb dX1_look_124 hl (k := 2) rfl (nI_add (d) 1) (by decide) rfl (fun ls hl => ?_)
        refine lv_goto (tgt := 99) hx hb dX1_look_127 (by decide) ?_
        exact ih (d + 1) (by omega) (by omega) H locs ls (hP.sub [0, 1, 2, 3] rfl) (hD.sub [0, 1, 2, 3] (by decide) rfl) hS (lv_sub hl [2, 1, 0] rfl)
      · refine lv_lconst (v := 1) hx hb dX1_look_117 (by decide) ?_
        refine lv_goto (tgt := 122) hx hb dX1_look_118 (by decide) ?_
        refine lv_ladd hx hb dX1_look_122 ?_
        refine zr_topl (lN (lvC lv (d + 1))) (by show _ = lN (lvC lv d + (if lv d then 1 else 0)); rw [c114]; first | exact lN_1 _ | exact lN_0' _) ?_
        refine lv_lstore_n (lv' := [(2, .long (lN (lvC lv (d + 1)))), (0, .ref g0), (4, .int (nI d))]) hx hb dX1_look_123 rfl hl (by decide) rfl (fun ls hl => ?_)
        refine lv_iinc (v := nI (d + 1)) (lv' := [(4, .int (nI (d + 1))), (2, .long (lN (lvC lv (d + 1)))), (0, .ref g0)]) hx hb dX1_look_124 hl (k := 2) rfl (nI_add (d) 1) (by decide) rfl (fun ls hl => ?_)
        refine lv_goto (tgt := 99) hx hb dX1_look_127 (by decide) ?_
        exact ih (d + 1) (by omega) (by omega) H locs ls (hP.sub [0, 1, 2, 3] rfl) (hD.sub [0, 1, 2, 3] (by decide) rfl) hS (lv_sub hl [2, 1, 0] rfl)
set_option maxHeartbeats 4000000 in
set_option maxRecDepth 100000 in
theorem c_X1_look (l : Launch) (dC : Nat → ClassId) (dI : Nat → Nat → Nat) (sz : Nat) (g0 bT bO bL bW bB bD bX : Nat) (th tp os : Nat) (dn lf : Int64) (mf : Bool) (cZ cB : ClassId) (lv wr : Nat → Bool) (dm : Nat → BitVec 8) (x : Int32) : Met l yX1_look wsX1_look ({ frames := 3, cells := 0, slots := 0, locals := 70 }) (va_Pc [.ref g0, .int x] (fun U => U.heap.size = sz ∧ va_P (dC, dI) vwCl [(g0, .inr (1, [.int (nI th), .ref bT, .int (nI tp), .ref bO, .int (nI os), .ref bL, .ref bW, .ref bB, .ref bD, .long dn, .long lf, .int (bI mf), .ref bX])), (bL, .inl (cZ, 16, .inl (fun i9 => bI (lv i9)))), (bW, .inl (cZ, 1056, .inl (fun i9 => bI (wr i9)))), (bD, .inl (cB, 73920, .inl (fun i9 => sx (dm i9))))] U.heap ∧ va_K (dC, dI) vwCl [(cZ, .boolean), (cB, .byte)] U ∧ va_D (fun _ => True) [(g0, .inr (1, [.int (nI th), .ref bT, .int (nI tp), .ref bO, .int (nI os), .ref bL, .ref bW, .ref bB, .ref bD, .long dn, .long lf, .int (bI mf), .ref bX])), (bL, .inl (cZ, 16, .inl (fun i9 => bI (lv i9)))), (bW, .inl (cZ, 1056, .inl (fun i9 => bI (wr i9)))), (bD, .inl (cB, 73920, .inl (fun i9 => sx (dm i9))))])) (va_Ql (fun (r : Int64) (h2 : Nat) => (okI x 6 = false ∧ h2 = 1) ∨ (∃ k : Nat, k < 6 ∧ x = nI k ∧ h2 = 0 ∧ r = mlV dn mf lf lv wr dm k)) (fun (h2 : Nat) t => va_P (dC, dI) vwCl [(g0, .inr (1, [.int (nI h2), .ref bT, .int (nI tp), .ref bO, .int (nI os), .ref bL, .ref bW, .ref bB, .ref bD, .long dn, .long lf, .int (bI mf), .ref bX])), (bL, .inl (cZ, 16, .inl (fun i9 => bI (lv i9)))), (bW, .inl (cZ, 1056, .inl (fun i9 => bI (wr i9)))), (bD, .inl (cB, 73920, .inl (fun i9 => sx (dm i9))))] t.heap ∧ va_K (dC, dI) vwCl [(cZ, .boolean), (cB, .byte)] t ∧ va_D (va_A [(g0, .inr (1, [.int (nI th), .ref bT, .int (nI tp), .ref bO, .int (nI os), .ref bL, .ref bW, .ref bB, .ref bD, .long dn, .long lf, .int (bI mf), .ref bX])), (bL, .inl (cZ, 16, .inl (fun i9 => bI (lv i9)))), (bW, .inl (cZ, 1056, .inl (fun i9 => bI (wr i9)))), (bD, .inl (cB, 73920, .inl (fun i9 => sx (dm i9))))] sz) [(g0, .inr (1, [.int (nI h2), .ref bT, .int (nI tp), .ref bO, .int (nI os), .ref bL, .ref bW, .ref bB, .ref bD, .long dn, .long lf, .int (bI mf), .ref bX])), (bL, .inl (cZ, 16, .inl (fun i9 => bI (lv i9)))), (bW, .inl (cZ, 1056, .inl (fun i9 => bI (wr i9)))), (bD, .inl (cB, 73920, .inl (fun i9 => sx (dm i9))))]) (va_A [(g0, .inr (1, [.int (nI th), .ref bT, .int (nI tp), .ref bO, .int (nI os), .ref bL, .ref bW, .ref bB, .ref bD, .long dn, .long lf, .int (bI mf), .ref bX])), (bL, .inl (cZ, 16, .inl (fun i9 => bI (lv i9)))), (bW, .inl (cZ, 1056, .inl (fun i9 => bI (wr i9)))), (bD, .inl (cB, 73920, .inl (fun i9 => sx (dm i9))))] sz)) 0 0 (va_A [(g0, .inr (1, [.int (nI th), .ref bT, .int (nI tp), .ref bO, .int (nI os), .ref bL, .ref bW, .ref bB, .ref bD, .long dn, .long lf, .int (bI mf), .ref bX])), (bL, .inl (cZ, 16, .inl (fun i9 => bI (lv i9)))), (bW, .inl (cZ, 1056, .inl (fun i9 => bI (wr i9)))), (bD, .inl (cB, 73920, .inl (fun i9 => sx (dm i9))))] sz) := by
  refine Met.ofW (cc := cX1_look) (maxL := 5) (ret := some .long) (by decide) rfl ?_
  intro p e s m args below meth c s₁ B hml hv
  obtain ⟨rfl, hsz, hP, hK, hD0⟩ := hv
  have hx := B.exec
  have hb := B.bytes
  have hr := B.returns
  have hts := atoms_spec (ws := wsX1_look) B.pre
  have hown : s.vm.findClass RX1 = some m.cls := findClass_of_methodNamed B.named
  have hlocks := B.notSynchronized
  subst hsz
  have hD := hD0.self (sz := s.heap.size)
  generalize hAe : va_A [(g0, .inr (1, [.int (nI th), .ref bT, .int (nI tp), .ref bO, .int (nI os), .ref bL, .ref bW, .ref bB, .ref bD, .long dn, .long lf, .int (bI mf), .ref bX])), (bL, .inl (cZ, 16, .inl (fun i9 => bI (lv i9)))), (bW, .inl (cZ, 1056, .inl (fun i9 => bI (wr i9)))), (bD, .inl (cB, 73920, .inl (fun i9 => sx (dm i9))))] s.heap.size = A at hD ⊢
  have hA : ∀ q : Nat, s.heap.size ≤ q → A q := fun q h => by rw [← hAe]; exact Or.inr h
  generalize hH : s.heap = H at hP ⊢
  have hS : va_S A s.heap H [] := by rw [hH]; exact va_S.rf
  replace hP : va_P (dC, dI) vwCl [(g0, .inr (1, [.int (nI th), .ref bT, .int (nI tp), .ref bO, .int (nI os), .ref bL, .ref bW, .ref bB, .ref bD, .long dn, .long lf, .int (bI mf), .ref bX])), (bL, .inl (cZ, 16, .inl (fun i9 => bI (lv i9)))), (bW, .inl (cZ, 1056, .inl (fun i9 => bI (wr i9)))), (bD, .inl (cB, 73920, .inl (fun i9 => sx (dm i9))))] H := hP
  have hl := lv_entry ([.ref g0, .int x]) (n := 5) (Nat.le_of_ble_eq_true rfl)
  rw [lg_entry_eq]
  generalize (lg_sl ([.ref g0, .int x]) ++ List.replicate (5 - (lg_sl ([.ref g0, .int x])).length) Slot.unset).toArray = ls at hl ⊢
  have hl : lv_has ls 5 [(0, .ref g0), (1, .int x)] := hl
  have hi1 : ∀ w ∈ u_ws RX1 TX1 13, w ∈ wsX1_look := by decide +kernel
  refine lv_aload_n hx hb dX1_look_0 rfl (lv_at hl 0 rfl) ?_
  refine lv_iload_n hx hb dX1_look_1 rfl (lv_at hl 1 rfl) ?_
  refine lv_iconst (v := nI 0) hx hb dX1_look_2 (by decide) ?_
  refine lv_iconst (v := nI 5) hx hb dX1_look_3 (by decide) ?_
  have hPc := hP.sub (ws' := []) [] rfl
  have hDc := hD.sub (ws' := []) [] (by decide) rfl
  have hKc := hK.sub (tys' := []) [] rfl
  have hFc := va_free (wc := []) hD hS hA [] rfl
  refine va_calli (va_runS (As := [.int x, .int (nI 0), .int (nI 5)]) (rest := [.ref g0]) ⟨hx, hb, hml, hown, hts⟩ (c_X1_within l dC dI H.size x (nI 0) (nI 5)) (va_cwS 3 hts gX1_look_X1_within rfl rfl rfl (by decide +kernel) ⟨Nat.le_of_ble_eq_true rfl, Nat.le_of_ble_eq_true rfl⟩) ⟨fun a U g mk q => by obtain ⟨q0, q1, qP, qK, qD⟩ := q; exact ⟨q0, q1, qP, va_K.moved (u := U) (U := U.calling g mk a) (Vm.Alike.refl U.vm) qK, qD⟩, fun U hU hW => ⟨rfl, by rw [hU], by rw [hU]; exact hPc, va_K.moved hW.alike hKc, hDc.weaken (fun _ _ _ _ => trivial)⟩⟩ rfl rfl hl.1 rfl (lv_room (Nat.le_of_ble_eq_true rfl)) dX1_look_4 ⟨Nat.zero_le _, Nat.zero_le _⟩) hS (fun q _ h => hFc q h) hFc (fun r_1 u t H1 locs ht hvm hw hB hz1 hk1 hS => ?_)
  obtain ⟨hP1, hK1, hD1⟩ := hB
  rw [ht] at hP1
  obtain ⟨hPn, hDn⟩ := va_join (wr := [(g0, .inr (1, [.int (nI th), .ref bT, .int (nI tp), .ref bO, .int (nI os), .ref bL, .ref bW, .ref bB, .ref bD, .long dn, .long lf, .int (bI mf), .ref bX])), (bL, .inl (cZ, 16, .inl (fun i9 => bI (lv i9)))), (bW, .inl (cZ, 1056, .inl (fun i9 => bI (wr i9)))), (bD, .inl (cB, 73920, .inl (fun i9 => sx (dm i9))))]) (w1 := []) hP hD [] [0, 1, 2, 3] rfl rfl (by decide) (by decide) hk1 hFc hP1 hD1
  clear hP hD hP1 hD1 hK1 hPc hDc hKc hFc hk1 hz1 hvm ht
  generalize H1 = H at hPn hS ⊢
  have hP := hPn
  have hD := hDn
  clear hPn hDn
  replace hP : va_P (dC, dI) vwCl [(g0, .inr (1, [.int (nI th), .ref bT, .int (nI tp), .ref bO, .int (nI os), .ref bL, .ref bW, .ref bB, .ref bD, .long dn, .long lf, .int (bI mf), .ref bX])), (bL, .inl (cZ, 16, .inl (fun i9 => bI (lv i9)))), (bW, .inl (cZ, 1056, .inl (fun i9 => bI (wr i9)))), (bD, .inl (cB, 73920, .inl (fun i9 => sx (dm i9))))] H := hP
  replace hD : va_D A [(g0, .inr (1, [.int (nI th), .ref bT, .int (nI tp), .ref bO, .int (nI os), .ref bL, .ref bW, .ref bB, .ref bD, .long dn, .long lf, .int (bI mf), .ref bX])), (bL, .inl (cZ, 16, .inl (fun i9 => bI (lv i9)))), (bW, .inl (cZ, 1056, .inl (fun i9 => bI (wr i9)))), (bD, .inl (cB, 73920, .inl (fun i9 => sx (dm i9))))] := hD
  refine W.widen (k := 0) (n := 0) (Nat.le_refl _) (Nat.le_refl _) ?_
  obtain rfl := hw
  refine zr_topi (bI (okI x 6)) (by rw [inB_ok _ (by decide)]) ?_
  refine zr_ifb_ne (tgt := 14) hx hb dX1_look_7 (by decide) (fun c7 => ?_) (fun c7 => ?_)
  · obtain ⟨j, hj, rfl⟩ := okI_get (by decide) c7
    refine lv_iconst (v := nI 0) hx hb dX1_look_14 (by decide) ?_
    refine zr_topi (bI false) (rfl) ?_
    refine lv_iconst (v := nI 1) hx hb dX1_look_15 (by decide) ?_
    have hPc := hP.sub (ws' := [(g0, .inr (1, [.int (nI th), .ref bT, .int (nI tp), .ref bO, .int (nI os), .ref bL, .ref bW, .ref bB, .ref bD, .long dn, .long lf, .int (bI mf), .ref bX]))]) [0] rfl
    have hDc := hD.sub (ws' := [(g0, .inr (1, [.int (nI th), .ref bT, .int (nI tp), .ref bO, .int (nI os), .ref bL, .ref bW, .ref bB, .ref bD, .long dn, .long lf, .int (bI mf), .ref bX]))]) [0] (by decide) rfl
    have hKc := hK.sub (tys' := []) [] rfl
    have hFc := va_free (wc := [(g0, .inr (1, [.int (nI th), .ref bT, .int (nI tp), .ref bO, .int (nI os), .ref bL, .ref bW, .ref bB, .ref bD, .long dn, .long lf, .int (bI mf), .ref bX]))]) hD hS hA [0] rfl
    refine va_calli (va_runV (As := [.int (bI false), .int (nI 1)]) (rest := []) ⟨hx, hb, hml, hown, hts⟩ (c_X1_fails l dC dI H.size g0 bT bO bL bW bB bD bX th tp os dn lf mf false 1) (cwV 2 hts gX1_look_X1_fails rfl rfl rfl (by decide +kernel) ⟨Nat.le_of_ble_eq_true rfl, Nat.le_of_ble_eq_true rfl⟩) ⟨fun a U g mk q => by obtain ⟨q0, q1, qP, qK, qD⟩ := q; exact ⟨q0, q1, qP, va_K.moved (u := U) (U := U.calling g mk a) (Vm.Alike.refl U.vm) qK, qD⟩, va_recv hKc hPc (ci := 1) (q0 := 0) rfl rfl, fun U hU hW => ⟨rfl, by rw [hU], by rw [hU]; exact hPc, va_K.moved hW.alike hKc, hDc.weaken (fun _ _ _ _ => trivial)⟩⟩ rfl rfl hl.1 rfl (lv_room (Nat.le_of_ble_eq_true rfl)) dX1_look_16 ⟨Nat.zero_le _, Nat.zero_le _⟩) hS (fun q _ h => hFc q h) hFc (fun r_2 u t H1 locs ht hvm hw hB hz1 hk1 hS => ?_)
    obtain ⟨hP1, hK1, hD1⟩ := hB
    rw [ht] at hP1
    obtain ⟨hPn, hDn⟩ := va_join (wr := [(bL, .inl (cZ, 16, .inl (fun i9 => bI (lv i9)))), (bW, .inl (cZ, 1056, .inl (fun i9 => bI (wr i9)))), (bD, .inl (cB, 73920, .inl (fun i9 => sx (dm i9))))]) (w1 := [(g0, .inr (1, [.int (nI (cond false 1 0)), .ref bT, .int (nI tp), .ref bO, .int (nI os), .ref bL, .ref bW, .ref bB, .ref bD, .long dn, .long lf, .int (bI mf), .ref bX]))]) hP hD [0] [1, 2, 3] rfl rfl (by decide) (by decide) hk1 hFc hP1 hD1
    clear hP hD hP1 hD1 hK1 hPc hDc hKc hFc hk1 hz1 hvm ht
    generalize H1 = H at hPn hS ⊢
    have hP := hPn
    have hD := hDn
    clear hPn hDn
    replace hP : va_P (dC, dI) vwCl [(bL, .inl (cZ, 16, .inl (fun i9 => bI (lv i9)))), (bW, .inl (cZ, 1056, .inl (fun i9 => bI (wr i9)))), (bD, .inl (cB, 73920, .inl (fun i9 => sx (dm i9)))), (g0, .inr (1, [.int (nI (cond false 1 0)), .ref bT, .int (nI tp), .ref bO, .int (nI os), .ref bL, .ref bW, .ref bB, .ref bD, .long dn, .long lf, .int (bI mf), .ref bX]))] H := hP
    replace hD : va_D A [(bL, .inl (cZ, 16, .inl (fun i9 => bI (lv i9)))), (bW, .inl (cZ, 1056, .inl (fun i9 => bI (wr i9)))), (bD, .inl (cB, 73920, .inl (fun i9 => sx (dm i9)))), (g0, .inr (1, [.int (nI (cond false 1 0)), .ref bT, .int (nI tp), .ref bO, .int (nI os), .ref bL, .ref bW, .ref bB, .ref bD, .long dn, .long lf, .int (bI mf), .ref bX]))] := hD
    refine W.widen (k := 0) (n := 0) (Nat.le_refl _) (Nat.le_refl _) ?_
    obtain rfl := hw
    replace hP : va_P (dC, dI) vwCl [(bL, .inl (cZ, 16, .inl (fun i9 => bI (lv i9)))), (bW, .inl (cZ, 1056, .inl (fun i9 => bI (wr i9)))), (bD, .inl (cB, 73920, .inl (fun i9 => sx (dm i9)))), (g0, .inr (1, [.int (nI 0), .ref bT, .int (nI tp), .ref bO, .int (nI os), .ref bL, .ref bW, .ref bB, .ref bD, .long dn, .long lf, .int (bI mf), .ref bX]))] H := hP
    replace hD : va_D A [(bL, .inl (cZ, 16, .inl (fun i9 => bI (lv i9)))), (bW, .inl (cZ, 1056, .inl (fun i9 => bI (wr i9)))), (bD, .inl (cB, 73920, .inl (fun i9 => sx (dm i9)))), (g0, .inr (1, [.int (nI 0), .ref bT, .int (nI tp), .ref bO, .int (nI os), .ref bL, .ref bW, .ref bB, .ref bD, .long dn, .long lf, .int (bI mf), .ref bX]))] := hD
    refine zr_ifb_eq (tgt := 24) hx hb dX1_look_19 (by decide) (fun c19 => ?_) (fun c19 => absurd c19 (by decide))
    refine lv_iload_n hx hb dX1_look_24 rfl (lv_at hl 1 rfl) ?_
    rcases (show j = 0 ∨ j = 1 ∨ j = 2 ∨ j = 3 ∨ j = 4 ∨ j = 5 by omega) with rfl | rfl | rfl | rfl | rfl | rfl
    · refine lv_tableIn (off := 35) (tgt := 60) hx hb dX1_look_25 (by decide) (by decide) (by decide) (by decide) ?_
      refine lv_aload_n hx hb dX1_look_60 rfl (lv_at hl 0 rfl) ?_
      refine va_get (D := (dC, dI)) (ci := 1) (v := .long dn) (C := RX1) (T := TX1) (N := 13) hx hb hts hi1 hown hK hP 3 rfl rfl 9 (by decide) (hts (.fieldLink RX1 84 "CellRackModel" "done" "J") (by decide +kernel)) (fun _ h9 => h9) rfl dX1_look_61 ?_
      have hP9 := hP.sub (ws' := [(g0, .inr (1, [.int (nI 0), .ref bT, .int (nI tp), .ref bO, .int (nI os), .ref bL, .ref bW, .ref bB, .ref bD, .long dn, .long lf, .int (bI mf), .ref bX])), (bL, .inl (cZ, 16, .inl (fun i9 => bI (lv i9)))), (bW, .inl (cZ, 1056, .inl (fun i9 => bI (wr i9)))), (bD, .inl (cB, 73920, .inl (fun i9 => sx (dm i9))))]) [3, 0, 1, 2] rfl
      have hD9 := hD.sub (ws' := [(g0, .inr (1, [.int (nI 0), .ref bT, .int (nI tp), .ref bO, .int (nI os), .ref bL, .ref bW, .ref bB, .ref bD, .long dn, .long lf, .int (bI mf), .ref bX])), (bL, .inl (cZ, 16, .inl (fun i9 => bI (lv i9)))), (bW, .inl (cZ, 1056, .inl (fun i9 => bI (wr i9)))), (bD, .inl (cB, 73920, .inl (fun i9 => sx (dm i9))))]) [3, 0, 1, 2] (by decide) rfl
      exact W.lret (v := dn) hx hb hr (fun t ht hW => ⟨⟨dn, 0, rfl, Or.inr ⟨0, by decide, rfl, rfl, rfl⟩, by rw [ht]; exact hP9, va_K.moved hW.alike hK, hD9⟩, hS.F ht⟩) hS.2.2 dX1_look_64
    · refine lv_tableIn (off := 40) (tgt := 65) hx hb dX1_look_25 (by decide) (by decide) (by decide) (by decide) ?_
      refine lv_aload_n hx hb dX1_look_65 rfl (lv_at hl 0 rfl) ?_
      refine va_get (D := (dC, dI)) (ci := 1) (v := .int (bI mf)) (C := RX1) (T := TX1) (N := 13) hx hb hts hi1 hown hK hP 3 rfl rfl 11 (by decide) (hts (.fieldLink RX1 80 "CellRackModel" "off" "Z") (by decide +kernel)) (fun _ h9 => h9) rfl dX1_look_66 ?_
      refine zr_ifb_eq (tgt := 76) hx hb dX1_look_69 (by decide) (fun c69 => ?_) (fun c69 => ?_)
      · refine lv_lconst (v := 0) hx hb dX1_look_76 (by decide) ?_
        have hP9 := hP.sub (ws' := [(g0, .inr (1, [.int (nI 0), .ref bT, .int (nI tp), .ref bO, .int (nI os), .ref bL, .ref bW, .ref bB, .ref bD, .long dn, .long lf, .int (bI mf), .ref bX])), (bL, .inl (cZ, 16, .inl (fun i9 => bI (lv i9)))), (bW, .inl (cZ, 1056, .inl (fun i9 => bI (wr i9)))), (bD, .inl (cB, 73920, .inl (fun i9 => sx (dm i9))))]) [3, 0, 1, 2] rfl
        have hD9 := hD.sub (ws' := [(g0, .inr (1, [.int (nI 0), .ref bT, .int (nI tp), .ref bO, .int (nI os), .ref bL, .ref bW, .ref bB, .ref bD, .long dn, .long lf, .int (bI mf), .ref bX])), (bL, .inl (cZ, 16, .inl (fun i9 => bI (lv i9)))), (bW, .inl (cZ, 1056, .inl (fun i9 => bI (wr i9)))), (bD, .inl (cB, 73920, .inl (fun i9 => sx (dm i9))))]) [3, 0, 1, 2] (by decide) rfl
        exact W.lret (v := 0) hx hb hr (fun t ht hW => ⟨⟨0, 0, rfl, Or.inr ⟨1, by decide, rfl, rfl, by show _ = (if mf then (1 : Int64) else 0); rw [c69]; rfl⟩, by rw [ht]; exact hP9, va_K.moved hW.alike hK, hD9⟩, hS.F ht⟩) hS.2.2 dX1_look_77
      · refine lv_lconst (v := 1) hx hb dX1_look_72 (by decide) ?_
        refine lv_goto (tgt := 77) hx hb dX1_look_73 (by decide) ?_
        have hP9 := hP.sub (ws' := [(g0, .inr (1, [.int (nI 0), .ref bT, .int (nI tp), .ref bO, .int (nI os), .ref bL, .ref bW, .ref bB, .ref bD, .long dn, .long lf, .int (bI mf), .ref bX])), (bL, .inl (cZ, 16, .inl (fun i9 => bI (lv i9)))), (bW, .inl (cZ, 1056, .inl (fun i9 => bI (wr i9)))), (bD, .inl (cB, 73920, .inl (fun i9 => sx (dm i9))))]) [3, 0, 1, 2] rfl
        have hD9 := hD.sub (ws' := [(g0, .inr (1, [.int (nI 0), .ref bT, .int (nI tp), .ref bO, .int (nI os), .ref bL, .ref bW, .ref bB, .ref bD, .long dn, .long lf, .int (bI mf), .ref bX])), (bL, .inl (cZ, 16, .inl (fun i9 => bI (lv i9)))), (bW, .inl (cZ, 1056, .inl (fun i9 => bI (wr i9)))), (bD, .inl (cB, 73920, .inl (fun i9 => sx (dm i9))))]) [3, 0, 1, 2] (by decide) rfl
        exact W.lret (v := 1) hx hb hr (fun t ht hW => ⟨⟨1, 0, rfl, Or.inr ⟨1, by decide, rfl, rfl, by show _ = (if mf then (1 : Int64) else 0); rw [c69]; rfl⟩, by rw [ht]; exact hP9, va_K.moved hW.alike hK, hD9⟩, hS.F ht⟩) hS.2.2 dX1_look_77
    · refine lv_tableIn (off := 53) (tgt := 78) hx hb dX1_look_25 (by decide) (by decide) (by decide) (by decide) ?_
      refine lv_aload_n hx hb dX1_look_78 rfl (lv_at hl 0 rfl) ?_
      refine va_get (D := (dC, dI)) (ci := 1) (v := .int (bI mf)) (C := RX1) (T := TX1) (N := 13) hx hb hts hi1 hown hK hP 3 rfl rfl 11 (by decide) (hts (.fieldLink RX1 80 "CellRackModel" "off" "Z") (by decide +kernel)) (fun _ h9 => h9) rfl dX1_look_79 ?_
      refine zr_ifb_eq (tgt := 89) hx hb dX1_look_82 (by decide) (fun c82 => ?_) (fun c82 => ?_)
      · refine lv_aload_n hx hb dX1_look_89 rfl (lv_at hl 0 rfl) ?_
        refine va_get (D := (dC, dI)) (ci := 1) (v := .long lf) (C := RX1) (T := TX1) (N := 13) hx hb hts hi1 hown hK hP 3 rfl rfl 10 (by decide) (hts (.fieldLink RX1 33 "CellRackModel" "left" "J") (by decide +kernel)) (fun _ h9 => h9) rfl dX1_look_90 ?_
        have hP9 := hP.sub (ws' := [(g0, .inr (1, [.int (nI 0), .ref bT, .int (nI tp), .ref bO, .int (nI os), .ref bL, .ref bW, .ref bB, .ref bD, .long dn, .long lf, .int (bI mf), .ref bX])), (bL, .inl (cZ, 16, .inl (fun i9 => bI (lv i9)))), (bW, .inl (cZ, 1056, .inl (fun i9 => bI (wr i9)))), (bD, .inl (cB, 73920, .inl (fun i9 => sx (dm i9))))]) [3, 0, 1, 2] rfl
        have hD9 := hD.sub (ws' := [(g0, .inr (1, [.int (nI 0), .ref bT, .int (nI tp), .ref bO, .int (nI os), .ref bL, .ref bW, .ref bB, .ref bD, .long dn, .long lf, .int (bI mf), .ref bX])), (bL, .inl (cZ, 16, .inl (fun i9 => bI (lv i9)))), (bW, .inl (cZ, 1056, .inl (fun i9 => bI (wr i9)))), (bD, .inl (cB, 73920, .inl (fun i9 => sx (dm i9))))]) [3, 0, 1, 2] (by decide) rfl
        exact W.lret (v := lf) hx hb hr (fun t ht hW => ⟨⟨lf, 0, rfl, Or.inr ⟨2, by decide, rfl, rfl, by show _ = (if mf then (0 : Int64) else lf); rw [c82]; rfl⟩, by rw [ht]; exact hP9, va_K.moved hW.alike hK, hD9⟩, hS.F ht⟩) hS.2.2 dX1_look_93
      · refine lv_lconst (v := 0) hx hb dX1_look_85 (by decide) ?_
        refine lv_goto (tgt := 93) hx hb dX1_look_86 (by decide) ?_
        have hP9 := hP.sub (ws' := [(g0, .inr (1, [.int (nI 0), .ref bT, .int (nI tp), .ref bO, .int (nI os), .ref bL, .ref bW, .ref bB, .ref bD, .long dn, .long lf, .int (bI mf), .ref bX])), (bL, .inl (cZ, 16, .inl (fun i9 => bI (lv i9)))), (bW, .inl (cZ, 1056, .inl (fun i9 => bI (wr i9)))), (bD, .inl (cB, 73920, .inl (fun i9 => sx (dm i9))))]) [3, 0, 1, 2] rfl
        have hD9 := hD.sub (ws' := [(g0, .inr (1, [.int (nI 0), .ref bT, .int (nI tp), .ref bO, .int (nI os), .ref bL, .ref bW, .ref bB, .ref bD, .long dn, .long lf, .int (bI mf), .ref bX])), (bL, .inl (cZ, 16, .inl (fun i9 => bI (lv i9)))), (bW, .inl (cZ, 1056, .inl (fun i9 => bI (wr i9)))), (bD, .inl (cB, 73920, .inl (fun i9 => sx (dm i9))))]) [3, 0, 1, 2] (by decide) rfl
        exact W.lret (v := 0) hx hb hr (fun t ht hW => ⟨⟨0, 0, rfl, Or.inr ⟨2, by decide, rfl, rfl, by show _ = (if mf then (0 : Int64) else lf); rw [c82]; rfl⟩, by rw [ht]; exact hP9, va_K.moved hW.alike hK, hD9⟩, hS.F ht⟩) hS.2.2 dX1_look_93
    · refine lv_tableIn (off := 69) (tgt := 94) hx hb dX1_look_25 (by decide) (by decide) (by decide) (by decide) ?_
      refine lv_lconst (v := 0) hx hb dX1_look_94 (by decide) ?_
      refine lv_lstore_n (lv' := [(2, .long 0), (0, .ref g0), (1, .int (nI 3))]) hx hb dX1_look_95 rfl hl (by decide) rfl (fun ls hl => ?_)
      refine lv_iconst (v := nI 0) hx hb dX1_look_96 (by decide) ?_
      refine lv_istore (lv' := [(4, .int (nI 0)), (2, .long 0), (0, .ref g0), (1, .int (nI 3))]) hx hb dX1_look_97 hl (by decide) rfl (fun ls hl => ?_)
      refine lp_X1_look g0 bT bO bL bW bB bD bX 0 tp os dn lf mf cZ cB lv wr dm hx hb hml hown hts hA hK (fun  H locs ls hP hD hS hl => ?_) 17 0 (by omega) (by omega) _ _ _ (hP.sub [3, 0, 1, 2] rfl) (hD.sub [3, 0, 1, 2] (by decide) rfl) hS (lv_sub hl [2, 1, 0] rfl)
      refine lv_lload_n hx hb dX1_look_130 rfl (lv_at hl 0 rfl) ?_
      have hP9 := hP.sub (ws' := [(g0, .inr (1, [.int (nI 0), .ref bT, .int (nI tp), .ref bO, .int (nI os), .ref bL, .ref bW, .ref bB, .ref bD, .long dn, .long lf, .int (bI mf), .ref bX])), (bL, .inl (cZ, 16, .inl (fun i9 => bI (lv i9)))), (bW, .inl (cZ, 1056, .inl (fun i9 => bI (wr i9)))), (bD, .inl (cB, 73920, .inl (fun i9 => sx (dm i9))))]) [0, 1, 2, 3] rfl
      have hD9 := hD.sub (ws' := [(g0, .inr (1, [.int (nI 0), .ref bT, .int (nI tp), .ref bO, .int (nI os), .ref bL, .ref bW, .ref bB, .ref bD, .long dn, .long lf, .int (bI mf), .ref bX])), (bL, .inl (cZ, 16, .inl (fun i9 => bI (lv i9)))), (bW, .inl (cZ, 1056, .inl (fun i9 => bI (wr i9)))), (bD, .inl (cB, 73920, .inl (fun i9 => sx (dm i9))))]) [0, 1, 2, 3] (by decide) rfl
      exact W.lret (v := lN (lvC lv 16)) hx hb hr (fun t ht hW => ⟨⟨lN (lvC lv 16), 0, rfl, Or.inr ⟨3, by decide, rfl, rfl, rfl⟩, by rw [ht]; exact hP9, va_K.moved hW.alike hK, hD9⟩, hS.F ht⟩) hS.2.2 dX1_look_131
    · refine lv_tableIn (off := 107) (tgt := 132) hx hb dX1_look_25 (by decide) (by decide) (by decide) (by decide) ?_
      refine lv_aload_n hx hb dX1_look_132 rfl (lv_at hl 0 rfl) ?_
      refine lv_iconst (v := nI 2) hx hb dX1_look_133 (by decide) ?_
      have hPc := hP.sub (ws' := [(g0, .inr (1, [.int (nI 0), .ref bT, .int (nI tp), .ref bO, .int (nI os), .ref bL, .ref bW, .ref bB, .ref bD, .long dn, .long lf, .int (bI mf), .ref bX])), (bL, .inl (cZ, 16, .inl (fun i9 => bI (lv i9)))), (bW, .inl (cZ, 1056, .inl (fun i9 => bI (wr i9)))), (bD, .inl (cB, 73920, .inl (fun i9 => sx (dm i9))))]) [3, 0, 1, 2] rfl
      have hDc := hD.sub (ws' := [(g0, .inr (1, [.int (nI 0), .ref bT, .int (nI tp), .ref bO, .int (nI os), .ref bL, .ref bW, .ref bB, .ref bD, .long dn, .long lf, .int (bI mf), .ref bX])), (bL, .inl (cZ, 16, .inl (fun i9 => bI (lv i9)))), (bW, .inl (cZ, 1056, .inl (fun i9 => bI (wr i9)))), (bD, .inl (cB, 73920, .inl (fun i9 => sx (dm i9))))]) [3, 0, 1, 2] (by decide) rfl
      have hKc := hK.sub (tys' := [(cZ, .boolean), (cB, .byte)]) [0, 1] rfl
      have hFc := va_free (wc := [(g0, .inr (1, [.int (nI 0), .ref bT, .int (nI tp), .ref bO, .int (nI os), .ref bL, .ref bW, .ref bB, .ref bD, .long dn, .long lf, .int (bI mf), .ref bX])), (bL, .inl (cZ, 16, .inl (fun i9 => bI (lv i9)))), (bW, .inl (cZ, 1056, .inl (fun i9 => bI (wr i9)))), (bD, .inl (cB, 73920, .inl (fun i9 => sx (dm i9))))]) hD hS hA [3, 0, 1, 2] rfl
      refine va_calll (va_runV (As := [.int (nI 2)]) (rest := []) ⟨hx, hb, hml, hown, hts⟩ (c_X1_count l dC dI H.size g0 bT bO bL bW bB bD bX 0 tp os dn lf mf cZ cB lv wr dm 2 (by decide)) (cwV 1 hts gX1_look_X1_count rfl rfl rfl (by decide +kernel) ⟨Nat.le_of_ble_eq_true rfl, Nat.le_of_ble_eq_true rfl⟩) ⟨fun a U g mk q => by obtain ⟨q0, q1, qP, qK, qD⟩ := q; exact ⟨q0, q1, qP, va_K.moved (u := U) (U := U.calling g mk a) (Vm.Alike.refl U.vm) qK, qD⟩, va_recv hKc hPc (ci := 1) (q0 := 0) rfl rfl, fun U hU hW => ⟨rfl, by rw [hU], by rw [hU]; exact hPc, va_K.moved hW.alike hKc, hDc.weaken (fun _ _ _ _ => trivial)⟩⟩ rfl rfl hl.1 rfl (lv_room (Nat.le_of_ble_eq_true rfl)) dX1_look_134 ⟨Nat.zero_le _, Nat.zero_le _⟩) hS (fun q _ h => hFc q h) hFc (fun r_3 u t H1 locs ht hvm hw hB hz1 hk1 hS => ?_)
      obtain ⟨hP1, hK1, hD1⟩ := hB
      rw [ht] at hP1
      obtain ⟨hPn, hDn⟩ := va_join (wr := []) (w1 := [(g0, .inr (1, [.int (nI 0), .ref bT, .int (nI tp), .ref bO, .int (nI os), .ref bL, .ref bW, .ref bB, .ref bD, .long dn, .long lf, .int (bI mf), .ref bX])), (bL, .inl (cZ, 16, .inl (fun i9 => bI (lv i9)))), (bW, .inl (cZ, 1056, .inl (fun i9 => bI (wr i9)))), (bD, .inl (cB, 73920, .inl (fun i9 => sx (dm i9))))]) hP hD [3, 0, 1, 2] [] rfl rfl (by decide) (by decide) hk1 hFc hP1 hD1
      clear hP hD hP1 hD1 hK1 hPc hDc hKc hFc hk1 hz1 hvm ht
      generalize H1 = H at hPn hS ⊢
      have hP := hPn
      have hD := hDn
      clear hPn hDn
      replace hP : va_P (dC, dI) vwCl [(g0, .inr (1, [.int (nI 0), .ref bT, .int (nI tp), .ref bO, .int (nI os), .ref bL, .ref bW, .ref bB, .ref bD, .long dn, .long lf, .int (bI mf), .ref bX])), (bL, .inl (cZ, 16, .inl (fun i9 => bI (lv i9)))), (bW, .inl (cZ, 1056, .inl (fun i9 => bI (wr i9)))), (bD, .inl (cB, 73920, .inl (fun i9 => sx (dm i9))))] H := hP
      replace hD : va_D A [(g0, .inr (1, [.int (nI 0), .ref bT, .int (nI tp), .ref bO, .int (nI os), .ref bL, .ref bW, .ref bB, .ref bD, .long dn, .long lf, .int (bI mf), .ref bX])), (bL, .inl (cZ, 16, .inl (fun i9 => bI (lv i9)))), (bW, .inl (cZ, 1056, .inl (fun i9 => bI (wr i9)))), (bD, .inl (cB, 73920, .inl (fun i9 => sx (dm i9))))] := hD
      refine W.widen (k := 0) (n := 0) (Nat.le_refl _) (Nat.le_refl _) ?_
      obtain rfl := hw
      have hP9 := hP.sub (ws' := [(g0, .inr (1, [.int (nI 0), .ref bT, .int (nI tp), .ref bO, .int (nI os), .ref bL, .ref bW, .ref bB, .ref bD, .long dn, .long lf, .int (bI mf), .ref bX])), (bL, .inl (cZ, 16, .inl (fun i9 => bI (lv i9)))), (bW, .inl (cZ, 1056, .inl (fun i9 => bI (wr i9)))), (bD, .inl (cB, 73920, .inl (fun i9 => sx (dm i9))))]) [0, 1, 2, 3] rfl
      have hD9 := hD.sub (ws' := [(g0, .inr (1, [.int (nI 0), .ref bT, .int (nI tp), .ref bO, .int (nI os), .ref bL, .ref bW, .ref bB, .ref bD, .long dn, .long lf, .int (bI mf), .ref bX])), (bL, .inl (cZ, 16, .inl (fun i9 => bI (lv i9)))), (bW, .inl (cZ, 1056, .inl (fun i9 => bI (wr i9)))), (bD, .inl (cB, 73920, .inl (fun i9 => sx (dm i9))))]) [0, 1, 2, 3] (by decide) rfl
      exact W.lret (v := lN (ctK (smK lv wr dm) 2 1056)) hx hb hr (fun t ht hW => ⟨⟨lN (ctK (smK lv wr dm) 2 1056), 0, rfl, Or.inr ⟨4, by decide, rfl, rfl, rfl⟩, by rw [ht]; exact hP9, va_K.moved hW.alike hK, hD9⟩, hS.F ht⟩) hS.2.2 dX1_look_137
    · refine lv_tableOut (tgt := 138) hx hb dX1_look_25 (by decide) (by decide) ?_
      refine lv_aload_n hx hb dX1_look_138 rfl (lv_at hl 0 rfl) ?_
      refine lv_iconst (v := nI 3) hx hb dX1_look_139 (by decide) ?_
      have hPc := hP.sub (ws' := [(g0, .inr (1, [.int (nI 0), .ref bT, .int (nI tp), .ref bO, .int (nI os), .ref bL, .ref bW, .ref bB, .ref bD, .long dn, .long lf, .int (bI mf), .ref bX])), (bL, .inl (cZ, 16, .inl (fun i9 => bI (lv i9)))), (bW, .inl (cZ, 1056, .inl (fun i9 => bI (wr i9)))), (bD, .inl (cB, 73920, .inl (fun i9 => sx (dm i9))))]) [3, 0, 1, 2] rfl
      have hDc := hD.sub (ws' := [(g0, .inr (1, [.int (nI 0), .ref bT, .int (nI tp), .ref bO, .int (nI os), .ref bL, .ref bW, .ref bB, .ref bD, .long dn, .long lf, .int (bI mf), .ref bX])), (bL, .inl (cZ, 16, .inl (fun i9 => bI (lv i9)))), (bW, .inl (cZ, 1056, .inl (fun i9 => bI (wr i9)))), (bD, .inl (cB, 73920, .inl (fun i9 => sx (dm i9))))]) [3, 0, 1, 2] (by decide) rfl
      have hKc := hK.sub (tys' := [(cZ, .boolean), (cB, .byte)]) [0, 1] rfl
      have hFc := va_free (wc := [(g0, .inr (1, [.int (nI 0), .ref bT, .int (nI tp), .ref bO, .int (nI os), .ref bL, .ref bW, .ref bB, .ref bD, .long dn, .long lf, .int (bI mf), .ref bX])), (bL, .inl (cZ, 16, .inl (fun i9 => bI (lv i9)))), (bW, .inl (cZ, 1056, .inl (fun i9 => bI (wr i9)))), (bD, .inl (cB, 73920, .inl (fun i9 => sx (dm i9))))]) hD hS hA [3, 0, 1, 2] rfl
      refine va_calll (va_runV (As := [.int (nI 3)]) (rest := []) ⟨hx, hb, hml, hown, hts⟩ (c_X1_count l dC dI H.size g0 bT bO bL bW bB bD bX 0 tp os dn lf mf cZ cB lv wr dm 3 (by decide)) (cwV 1 hts gX1_look_X1_count rfl rfl rfl (by decide +kernel) ⟨Nat.le_of_ble_eq_true rfl, Nat.le_of_ble_eq_true rfl⟩) ⟨fun a U g mk q => by obtain ⟨q0, q1, qP, qK, qD⟩ := q; exact ⟨q0, q1, qP, va_K.moved (u := U) (U := U.calling g mk a) (Vm.Alike.refl U.vm) qK, qD⟩, va_recv hKc hPc (ci := 1) (q0 := 0) rfl rfl, fun U hU hW => ⟨rfl, by rw [hU], by rw [hU]; exact hPc, va_K.moved hW.alike hKc, hDc.weaken (fun _ _ _ _ => trivial)⟩⟩ rfl rfl hl.1 rfl (lv_room (Nat.le_of_ble_eq_true rfl)) dX1_look_140 ⟨Nat.zero_le _, Nat.zero_le _⟩) hS (fun q _ h => hFc q h) hFc (fun r_4 u t H1 locs ht hvm hw hB hz1 hk1 hS => ?_)
      obtain ⟨hP1, hK1, hD1⟩ := hB
      rw [ht] at hP1
      obtain ⟨hPn, hDn⟩ := va_join (wr := []) (w1 := [(g0, .inr (1, [.int (nI 0), .ref bT, .int (nI tp), .ref bO, .int (nI os), .ref bL, .ref bW, .ref bB, .ref bD, .long dn, .long lf, .int (bI mf), .ref bX])), (bL, .inl (cZ, 16, .inl (fun i9 => bI (lv i9)))), (bW, .inl (cZ, 1056, .inl (fun i9 => bI (wr i9)))), (bD, .inl (cB, 73920, .inl (fun i9 => sx (dm i9))))]) hP hD [3, 0, 1, 2] [] rfl rfl (by decide) (by decide) hk1 hFc hP1 hD1
      clear hP hD hP1 hD1 hK1 hPc hDc hKc hFc hk1 hz1 hvm ht
      generalize H1 = H at hPn hS ⊢
      have hP := hPn
      have hD := hDn
      clear hPn hDn
      replace hP : va_P (dC, dI) vwCl [(g0, .inr (1, [.int (nI 0), .ref bT, .int (nI tp), .ref bO, .int (nI os), .ref bL, .ref bW, .ref bB, .ref bD, .long dn, .long lf, .int (bI mf), .ref bX])), (bL, .inl (cZ, 16, .inl (fun i9 => bI (lv i9)))), (bW, .inl (cZ, 1056, .inl (fun i9 => bI (wr i9)))), (bD, .inl (cB, 73920, .inl (fun i9 => sx (dm i9))))] H := hP
      replace hD : va_D A [(g0, .inr (1, [.int (nI 0), .ref bT, .int (nI tp), .ref bO, .int (nI os), .ref bL, .ref bW, .ref bB, .ref bD, .long dn, .long lf, .int (bI mf), .ref bX])), (bL, .inl (cZ, 16, .inl (fun i9 => bI (lv i9)))), (bW, .inl (cZ, 1056, .inl (fun i9 => bI (wr i9)))), (bD, .inl (cB, 73920, .inl (fun i9 => sx (dm i9))))] := hD
      refine W.widen (k := 0) (n := 0) (Nat.le_refl _) (Nat.le_refl _) ?_
      obtain rfl := hw
      have hP9 := hP.sub (ws' := [(g0, .inr (1, [.int (nI 0), .ref bT, .int (nI tp), .ref bO, .int (nI os), .ref bL, .ref bW, .ref bB, .ref bD, .long dn, .long lf, .int (bI mf), .ref bX])), (bL, .inl (cZ, 16, .inl (fun i9 => bI (lv i9)))), (bW, .inl (cZ, 1056, .inl (fun i9 => bI (wr i9)))), (bD, .inl (cB, 73920, .inl (fun i9 => sx (dm i9))))]) [0, 1, 2, 3] rfl
      have hD9 := hD.sub (ws' := [(g0, .inr (1, [.int (nI 0), .ref bT, .int (nI tp), .ref bO, .int (nI os), .ref bL, .ref bW, .ref bB, .ref bD, .long dn, .long lf, .int (bI mf), .ref bX])), (bL, .inl (cZ, 16, .inl (fun i9 => bI (lv i9)))), (bW, .inl (cZ, 1056, .inl (fun i9 => bI (wr i9)))), (bD, .inl (cB, 73920, .inl (fun i9 => sx (dm i9))))]) [0, 1, 2, 3] (by decide) rfl
      exact W.lret (v := lN (ctK (smK lv wr dm) 3 1056)) hx hb hr (fun t ht hW => ⟨⟨lN (ctK (smK lv wr dm) 3 1056), 0, rfl, Or.inr ⟨5, by decide, rfl, rfl, rfl⟩, by rw [ht]; exact hP9, va_K.moved hW.alike hK, hD9⟩, hS.F ht⟩) hS.2.2 dX1_look_143
  · refine lv_iconst (v := nI 1) hx hb dX1_look_10 (by decide) ?_
    refine lv_goto (tgt := 15) hx hb dX1_look_11 (by decide) ?_
    refine zr_topi (bI true) (rfl) ?_
    refine lv_iconst (v := nI 1) hx hb dX1_look_15 (by decide) ?_
    have hPc := hP.sub (ws' := [(g0, .inr (1, [.int (nI th), .ref bT, .int (nI tp), .ref bO, .int (nI os), .ref bL, .ref bW, .ref bB, .ref bD, .long dn, .long lf, .int (bI mf), .ref bX]))]) [0] rfl
    have hDc := hD.sub (ws' := [(g0, .inr (1, [.int (nI th), .ref bT, .int (nI tp), .ref bO, .int (nI os), .ref bL, .ref bW, .ref bB, .ref bD, .long dn, .long lf, .int (bI mf), .ref bX]))]) [0] (by decide) rfl
    have hKc := hK.sub (tys' := []) [] rfl
    have hFc := va_free (wc := [(g0, .inr (1, [.int (nI th), .ref bT, .int (nI tp), .ref bO, .int (nI os), .ref bL, .ref bW, .ref bB, .ref bD, .long dn, .long lf, .int (bI mf), .ref bX]))]) hD hS hA [0] rfl
    refine va_calli (va_runV (As := [.int (bI true), .int (nI 1)]) (rest := []) ⟨hx, hb, hml, hown, hts⟩ (c_X1_fails l dC dI H.size g0 bT bO bL bW bB bD bX th tp os dn lf mf true 1) (cwV 2 hts gX1_look_X1_fails rfl rfl rfl (by decide +kernel) ⟨Nat.le_of_ble_eq_true rfl, Nat.le_of_ble_eq_true rfl⟩) ⟨fun a U g mk q => by obtain ⟨q0, q1, qP, qK, qD⟩ := q; exact ⟨q0, q1, qP, va_K.moved (u := U) (U := U.calling g mk a) (Vm.Alike.refl U.vm) qK, qD⟩, va_recv hKc hPc (ci := 1) (q0 := 0) rfl rfl, fun U hU hW => ⟨rfl, by rw [hU], by rw [hU]; exact hPc, va_K.moved hW.alike hKc, hDc.weaken (fun _ _ _ _ => trivial)⟩⟩ rfl rfl hl.1 rfl (lv_room (Nat.le_of_ble_eq_true rfl)) dX1_look_16 ⟨Nat.zero_le _, Nat.zero_le _⟩) hS (fun q _ h => hFc q h) hFc (fun r_5 u t H1 locs ht hvm hw hB hz1 hk1 hS => ?_)
    obtain ⟨hP1, hK1, hD1⟩ := hB
    rw [ht] at hP1
    obtain ⟨hPn, hDn⟩ := va_join (wr := [(bL, .inl (cZ, 16, .inl (fun i9 => bI (lv i9)))), (bW, .inl (cZ, 1056, .inl (fun i9 => bI (wr i9)))), (bD, .inl (cB, 73920, .inl (fun i9 => sx (dm i9))))]) (w1 := [(g0, .inr (1, [.int (nI (cond true 1 0)), .ref bT, .int (nI tp), .ref bO, .int (nI os), .ref bL, .ref bW, .ref bB, .ref bD, .long dn, .long lf, .int (bI mf), .ref bX]))]) hP hD [0] [1, 2, 3] rfl rfl (by decide) (by decide) hk1 hFc hP1 hD1
    clear hP hD hP1 hD1 hK1 hPc hDc hKc hFc hk1 hz1 hvm ht
    generalize H1 = H at hPn hS ⊢
    have hP := hPn
    have hD := hDn
    clear hPn hDn
    replace hP : va_P (dC, dI) vwCl [(bL, .inl (cZ, 16, .inl (fun i9 => bI (lv i9)))), (bW, .inl (cZ, 1056, .inl (fun i9 => bI (wr i9)))), (bD, .inl (cB, 73920, .inl (fun i9 => sx (dm i9)))), (g0, .inr (1, [.int (nI (cond true 1 0)), .ref bT, .int (nI tp), .ref bO, .int (nI os), .ref bL, .ref bW, .ref bB, .ref bD, .long dn, .long lf, .int (bI mf), .ref bX]))] H := hP
    replace hD : va_D A [(bL, .inl (cZ, 16, .inl (fun i9 => bI (lv i9)))), (bW, .inl (cZ, 1056, .inl (fun i9 => bI (wr i9)))), (bD, .inl (cB, 73920, .inl (fun i9 => sx (dm i9)))), (g0, .inr (1, [.int (nI (cond true 1 0)), .ref bT, .int (nI tp), .ref bO, .int (nI os), .ref bL, .ref bW, .ref bB, .ref bD, .long dn, .long lf, .int (bI mf), .ref bX]))] := hD
    refine W.widen (k := 0) (n := 0) (Nat.le_refl _) (Nat.le_refl _) ?_
    obtain rfl := hw
    replace hP : va_P (dC, dI) vwCl [(bL, .inl (cZ, 16, .inl (fun i9 => bI (lv i9)))), (bW, .inl (cZ, 1056, .inl (fun i9 => bI (wr i9)))), (bD, .inl (cB, 73920, .inl (fun i9 => sx (dm i9)))), (g0, .inr (1, [.int (nI 1), .ref bT, .int (nI tp), .ref bO, .int (nI os), .ref bL, .ref bW, .ref bB, .ref bD, .long dn, .long lf, .int (bI mf), .ref bX]))] H := hP
    replace hD : va_D A [(bL, .inl (cZ, 16, .inl (fun i9 => bI (lv i9)))), (bW, .inl (cZ, 1056, .inl (fun i9 => bI (wr i9)))), (bD, .inl (cB, 73920, .inl (fun i9 => sx (dm i9)))), (g0, .inr (1, [.int (nI 1), .ref bT, .int (nI tp), .ref bO, .int (nI os), .ref bL, .ref bW, .ref bB, .ref bD, .long dn, .long lf, .int (bI mf), .ref bX]))] := hD
    refine zr_ifb_eq (tgt := 24) hx hb dX1_look_19 (by decide) (fun c19 => absurd c19 (by decide)) (fun c19 => ?_)
    refine lv_lconst (v := 0) hx hb dX1_look_22 (by decide) ?_
    have hP9 := hP.sub (ws' := [(g0, .inr (1, [.int (nI 1), .ref bT, .int (nI tp), .ref bO, .int (nI os), .ref bL, .ref bW, .ref bB, .ref bD, .long dn, .long lf, .int (bI mf), .ref bX])), (bL, .inl (cZ, 16, .inl (fun i9 => bI (lv i9)))), (bW, .inl (cZ, 1056, .inl (fun i9 => bI (wr i9)))), (bD, .inl (cB, 73920, .inl (fun i9 => sx (dm i9))))]) [3, 0, 1, 2] rfl
    have hD9 := hD.sub (ws' := [(g0, .inr (1, [.int (nI 1), .ref bT, .int (nI tp), .ref bO, .int (nI os), .ref bL, .ref bW, .ref bB, .ref bD, .long dn, .long lf, .int (bI mf), .ref bX])), (bL, .inl (cZ, 16, .inl (fun i9 => bI (lv i9)))), (bW, .inl (cZ, 1056, .inl (fun i9 => bI (wr i9)))), (bD, .inl (cB, 73920, .inl (fun i9 => sx (dm i9))))]) [3, 0, 1, 2] (by decide) rfl
    exact W.lret (v := 0) hx hb hr (fun t ht hW => ⟨⟨0, 1, rfl, Or.inl ⟨c7, rfl⟩, by rw [ht]; exact hP9, va_K.moved hW.alike hK, hD9⟩, hS.F ht⟩) hS.2.2 dX1_look_23
