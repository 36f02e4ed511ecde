set_option maxHeartbeats 4000000 in
set_option maxRecDepth 100000 in
theorem c_X1_cell (l : Launch) (dC : Nat → ClassId) (dI : Nat → Nat → Nat) (sz : Nat) (g0 bT bO bL bW bB bD bX : Nat) (th tp os : Nat) (dn lf : Int64) (mf : Bool) (cZ cB : ClassId) (lv wr : Nat → Bool) (dm : Nat → BitVec 8) (x y : Int32) : Met l yX1_cell wsX1_cell ({ frames := 2, cells := 0, slots := 0, locals := 45 }) (va_Pc [.ref g0, .int x, .int y] (fun U => U.heap.size = sz ∧ va_P (dC, dI) vwCl [(g0, .inr (1, [.int (nI th), .ref bT, .int (nI tp), .ref bO, .int (nI os), .ref bL, .ref bW, .ref bB, .ref bD, .long dn, .long lf, .int (bI mf), .ref bX])), (bL, .inl (cZ, 16, .inl (fun i9 => bI (lv i9)))), (bW, .inl (cZ, 1056, .inl (fun i9 => bI (wr i9)))), (bD, .inl (cB, 73920, .inl (fun i9 => sx (dm i9))))] U.heap ∧ va_K (dC, dI) vwCl [(cZ, .boolean), (cB, .byte)] U ∧ va_D (fun _ => True) [(g0, .inr (1, [.int (nI th), .ref bT, .int (nI tp), .ref bO, .int (nI os), .ref bL, .ref bW, .ref bB, .ref bD, .long dn, .long lf, .int (bI mf), .ref bX])), (bL, .inl (cZ, 16, .inl (fun i9 => bI (lv i9)))), (bW, .inl (cZ, 1056, .inl (fun i9 => bI (wr i9)))), (bD, .inl (cB, 73920, .inl (fun i9 => sx (dm i9))))])) (va_Qi (fun (r : Int32) (h2 : Nat) => ((okI x 16 && okI y 66) = false ∧ h2 = 1) ∨ (∃ di ce : Nat, di < 16 ∧ ce < 66 ∧ x = nI di ∧ y = nI ce ∧ h2 = 0 ∧ r = nI (stN lv wr dm di ce))) (fun (h2 : Nat) t => va_P (dC, dI) vwCl [(g0, .inr (1, [.int (nI h2), .ref bT, .int (nI tp), .ref bO, .int (nI os), .ref bL, .ref bW, .ref bB, .ref bD, .long dn, .long lf, .int (bI mf), .ref bX])), (bL, .inl (cZ, 16, .inl (fun i9 => bI (lv i9)))), (bW, .inl (cZ, 1056, .inl (fun i9 => bI (wr i9)))), (bD, .inl (cB, 73920, .inl (fun i9 => sx (dm i9))))] t.heap ∧ va_K (dC, dI) vwCl [(cZ, .boolean), (cB, .byte)] t ∧ va_D (va_A [(g0, .inr (1, [.int (nI th), .ref bT, .int (nI tp), .ref bO, .int (nI os), .ref bL, .ref bW, .ref bB, .ref bD, .long dn, .long lf, .int (bI mf), .ref bX])), (bL, .inl (cZ, 16, .inl (fun i9 => bI (lv i9)))), (bW, .inl (cZ, 1056, .inl (fun i9 => bI (wr i9)))), (bD, .inl (cB, 73920, .inl (fun i9 => sx (dm i9))))] sz) [(g0, .inr (1, [.int (nI h2), .ref bT, .int (nI tp), .ref bO, .int (nI os), .ref bL, .ref bW, .ref bB, .ref bD, .long dn, .long lf, .int (bI mf), .ref bX])), (bL, .inl (cZ, 16, .inl (fun i9 => bI (lv i9)))), (bW, .inl (cZ, 1056, .inl (fun i9 => bI (wr i9)))), (bD, .inl (cB, 73920, .inl (fun i9 => sx (dm i9))))]) (va_A [(g0, .inr (1, [.int (nI th), .ref bT, .int (nI tp), .ref bO, .int (nI os), .ref bL, .ref bW, .ref bB, .ref bD, .long dn, .long lf, .int (bI mf), .ref bX])), (bL, .inl (cZ, 16, .inl (fun i9 => bI (lv i9)))), (bW, .inl (cZ, 1056, .inl (fun i9 => bI (wr i9)))), (bD, .inl (cB, 73920, .inl (fun i9 => sx (dm i9))))] sz)) 0 0 (va_A [(g0, .inr (1, [.int (nI th), .ref bT, .int (nI tp), .ref bO, .int (nI os), .ref bL, .ref bW, .ref bB, .ref bD, .long dn, .long lf, .int (bI mf), .ref bX])), (bL, .inl (cZ, 16, .inl (fun i9 => bI (lv i9)))), (bW, .inl (cZ, 1056, .inl (fun i9 => bI (wr i9)))), (bD, .inl (cB, 73920, .inl (fun i9 => sx (dm i9))))] sz) := by
  refine Met.ofW (cc := cX1_cell) (maxL := 3) (ret := some .int) (by decide) rfl ?_
  intro p e s m args below meth c s₁ B hml hv
  obtain ⟨rfl, hsz, hP, hK, hD0⟩ := hv
  have hx := B.exec
  have hb := B.bytes
  have hr := B.returns
  have hts := atoms_spec (ws := wsX1_cell) B.pre
  have hown : s.vm.findClass RX1 = some m.cls := findClass_of_methodNamed B.named
  have hlocks := B.notSynchronized
  subst hsz
  have hD := hD0.self (sz := s.heap.size)
  generalize hAe : va_A [(g0, .inr (1, [.int (nI th), .ref bT, .int (nI tp), .ref bO, .int (nI os), .ref bL, .ref bW, .ref bB, .ref bD, .long dn, .long lf, .int (bI mf), .ref bX])), (bL, .inl (cZ, 16, .inl (fun i9 => bI (lv i9)))), (bW, .inl (cZ, 1056, .inl (fun i9 => bI (wr i9)))), (bD, .inl (cB, 73920, .inl (fun i9 => sx (dm i9))))] s.heap.size = A at hD ⊢
  have hA : ∀ q : Nat, s.heap.size ≤ q → A q := fun q h => by rw [← hAe]; exact Or.inr h
  generalize hH : s.heap = H at hP ⊢
  have hS : va_S A s.heap H [] := by rw [hH]; exact va_S.rf
  replace hP : va_P (dC, dI) vwCl [(g0, .inr (1, [.int (nI th), .ref bT, .int (nI tp), .ref bO, .int (nI os), .ref bL, .ref bW, .ref bB, .ref bD, .long dn, .long lf, .int (bI mf), .ref bX])), (bL, .inl (cZ, 16, .inl (fun i9 => bI (lv i9)))), (bW, .inl (cZ, 1056, .inl (fun i9 => bI (wr i9)))), (bD, .inl (cB, 73920, .inl (fun i9 => sx (dm i9))))] H := hP
  have hl := lv_entry ([.ref g0, .int x, .int y]) (n := 3) (Nat.le_of_ble_eq_true rfl)
  rw [lg_entry_eq]
  generalize (lg_sl ([.ref g0, .int x, .int y]) ++ List.replicate (3 - (lg_sl ([.ref g0, .int x, .int y])).length) Slot.unset).toArray = ls at hl ⊢
  have hl : lv_has ls 3 [(0, .ref g0), (1, .int x), (2, .int y)] := hl
  have hi1 : ∀ w ∈ u_ws RX1 TX1 13, w ∈ wsX1_cell := by decide +kernel
  refine lv_aload_n hx hb dX1_cell_0 rfl (lv_at hl 0 rfl) ?_
  refine lv_iload_n hx hb dX1_cell_1 rfl (lv_at hl 1 rfl) ?_
  refine lv_iload_n hx hb dX1_cell_2 rfl (lv_at hl 2 rfl) ?_
  have hPc := hP.sub (ws' := []) [] rfl
  have hDc := hD.sub (ws' := []) [] (by decide) rfl
  have hKc := hK.sub (tys' := []) [] rfl
  have hFc := va_free (wc := []) hD hS hA [] rfl
  refine va_calli (va_runS (As := [.int x, .int y]) (rest := [.ref g0]) ⟨hx, hb, hml, hown, hts⟩ (c_X1_none l dC dI H.size x y) (va_cwS 2 hts gX1_cell_X1_none rfl rfl rfl (by decide +kernel) ⟨Nat.le_of_ble_eq_true rfl, Nat.le_of_ble_eq_true rfl⟩) ⟨fun a U g mk q => by obtain ⟨q0, q1, qP, qK, qD⟩ := q; exact ⟨q0, q1, qP, va_K.moved (u := U) (U := U.calling g mk a) (Vm.Alike.refl U.vm) qK, qD⟩, fun U hU hW => ⟨rfl, by rw [hU], by rw [hU]; exact hPc, va_K.moved hW.alike hKc, hDc.weaken (fun _ _ _ _ => trivial)⟩⟩ rfl rfl hl.1 rfl (lv_room (Nat.le_of_ble_eq_true rfl)) dX1_cell_3 ⟨Nat.zero_le _, Nat.zero_le _⟩) hS (fun q _ h => hFc q h) hFc (fun r_1 u t H1 locs ht hvm hw hB hz1 hk1 hS => ?_)
  obtain ⟨hP1, hK1, hD1⟩ := hB
  rw [ht] at hP1
  obtain ⟨hPn, hDn⟩ := va_join (wr := [(g0, .inr (1, [.int (nI th), .ref bT, .int (nI tp), .ref bO, .int (nI os), .ref bL, .ref bW, .ref bB, .ref bD, .long dn, .long lf, .int (bI mf), .ref bX])), (bL, .inl (cZ, 16, .inl (fun i9 => bI (lv i9)))), (bW, .inl (cZ, 1056, .inl (fun i9 => bI (wr i9)))), (bD, .inl (cB, 73920, .inl (fun i9 => sx (dm i9))))]) (w1 := []) hP hD [] [0, 1, 2, 3] rfl rfl (by decide) (by decide) hk1 hFc hP1 hD1
  clear hP hD hP1 hD1 hK1 hPc hDc hKc hFc hk1 hz1 hvm ht
  generalize H1 = H at hPn hS ⊢
  have hP := hPn
  have hD := hDn
  clear hPn hDn
  replace hP : va_P (dC, dI) vwCl [(g0, .inr (1, [.int (nI th), .ref bT, .int (nI tp), .ref bO, .int (nI os), .ref bL, .ref bW, .ref bB, .ref bD, .long dn, .long lf, .int (bI mf), .ref bX])), (bL, .inl (cZ, 16, .inl (fun i9 => bI (lv i9)))), (bW, .inl (cZ, 1056, .inl (fun i9 => bI (wr i9)))), (bD, .inl (cB, 73920, .inl (fun i9 => sx (dm i9))))] H := hP
  replace hD : va_D A [(g0, .inr (1, [.int (nI th), .ref bT, .int (nI tp), .ref bO, .int (nI os), .ref bL, .ref bW, .ref bB, .ref bD, .long dn, .long lf, .int (bI mf), .ref bX])), (bL, .inl (cZ, 16, .inl (fun i9 => bI (lv i9)))), (bW, .inl (cZ, 1056, .inl (fun i9 => bI (wr i9)))), (bD, .inl (cB, 73920, .inl (fun i9 => sx (dm i9))))] := hD
  refine W.widen (k := 0) (n := 0) (Nat.le_refl _) (Nat.le_refl _) ?_
  obtain rfl := hw
  refine lv_iconst (v := nI 1) hx hb dX1_cell_6 (by decide) ?_
  have hPc := hP.sub (ws' := [(g0, .inr (1, [.int (nI th), .ref bT, .int (nI tp), .ref bO, .int (nI os), .ref bL, .ref bW, .ref bB, .ref bD, .long dn, .long lf, .int (bI mf), .ref bX]))]) [0] rfl
  have hDc := hD.sub (ws' := [(g0, .inr (1, [.int (nI th), .ref bT, .int (nI tp), .ref bO, .int (nI os), .ref bL, .ref bW, .ref bB, .ref bD, .long dn, .long lf, .int (bI mf), .ref bX]))]) [0] (by decide) rfl
  have hKc := hK.sub (tys' := []) [] rfl
  have hFc := va_free (wc := [(g0, .inr (1, [.int (nI th), .ref bT, .int (nI tp), .ref bO, .int (nI os), .ref bL, .ref bW, .ref bB, .ref bD, .long dn, .long lf, .int (bI mf), .ref bX]))]) hD hS hA [0] rfl
  refine va_calli (va_runV (As := [.int (bI (!(okI x 16 && okI y 66))), .int (nI 1)]) (rest := []) ⟨hx, hb, hml, hown, hts⟩ (c_X1_fails l dC dI H.size g0 bT bO bL bW bB bD bX th tp os dn lf mf (!(okI x 16 && okI y 66)) 1) (cwV 2 hts gX1_cell_X1_fails rfl rfl rfl (by decide +kernel) ⟨Nat.le_of_ble_eq_true rfl, Nat.le_of_ble_eq_true rfl⟩) ⟨fun a U g mk q => by obtain ⟨q0, q1, qP, qK, qD⟩ := q; exact ⟨q0, q1, qP, va_K.moved (u := U) (U := U.calling g mk a) (Vm.Alike.refl U.vm) qK, qD⟩, va_recv hKc hPc (ci := 1) (q0 := 0) rfl rfl, fun U hU hW => ⟨rfl, by rw [hU], by rw [hU]; exact hPc, va_K.moved hW.alike hKc, hDc.weaken (fun _ _ _ _ => trivial)⟩⟩ rfl rfl hl.1 rfl (lv_room (Nat.le_of_ble_eq_true rfl)) dX1_cell_7 ⟨Nat.zero_le _, Nat.zero_le _⟩) hS (fun q _ h => hFc q h) hFc (fun r_2 u t H1 locs ht hvm hw hB hz1 hk1 hS => ?_)
  obtain ⟨hP1, hK1, hD1⟩ := hB
  rw [ht] at hP1
  obtain ⟨hPn, hDn⟩ := va_join (wr := [(bL, .inl (cZ, 16, .inl (fun i9 => bI (lv i9)))), (bW, .inl (cZ, 1056, .inl (fun i9 => bI (wr i9)))), (bD, .inl (cB, 73920, .inl (fun i9 => sx (dm i9))))]) (w1 := [(g0, .inr (1, [.int (nI (cond (!(okI x 16 && okI y 66)) 1 0)), .ref bT, .int (nI tp), .ref bO, .int (nI os), .ref bL, .ref bW, .ref bB, .ref bD, .long dn, .long lf, .int (bI mf), .ref bX]))]) hP hD [0] [1, 2, 3] rfl rfl (by decide) (by decide) hk1 hFc hP1 hD1
  clear hP hD hP1 hD1 hK1 hPc hDc hKc hFc hk1 hz1 hvm ht
  generalize H1 = H at hPn hS ⊢
  have hP := hPn
  have hD := hDn
  clear hPn hDn
  replace hP : va_P (dC, dI) vwCl [(bL, .inl (cZ, 16, .inl (fun i9 => bI (lv i9)))), (bW, .inl (cZ, 1056, .inl (fun i9 => bI (wr i9)))), (bD, .inl (cB, 73920, .inl (fun i9 => sx (dm i9)))), (g0, .inr (1, [.int (nI (cond (!(okI x 16 && okI y 66)) 1 0)), .ref bT, .int (nI tp), .ref bO, .int (nI os), .ref bL, .ref bW, .ref bB, .ref bD, .long dn, .long lf, .int (bI mf), .ref bX]))] H := hP
  replace hD : va_D A [(bL, .inl (cZ, 16, .inl (fun i9 => bI (lv i9)))), (bW, .inl (cZ, 1056, .inl (fun i9 => bI (wr i9)))), (bD, .inl (cB, 73920, .inl (fun i9 => sx (dm i9)))), (g0, .inr (1, [.int (nI (cond (!(okI x 16 && okI y 66)) 1 0)), .ref bT, .int (nI tp), .ref bO, .int (nI os), .ref bL, .ref bW, .ref bB, .ref bD, .long dn, .long lf, .int (bI mf), .ref bX]))] := hD
  refine W.widen (k := 0) (n := 0) (Nat.le_refl _) (Nat.le_refl _) ?_
  obtain rfl := hw
  refine zr_ifb_eq (tgt := 17) hx hb dX1_cell_10 (by decide) (fun c10 => ?_) (fun c10 => ?_)
  · rw [c10] at hP hD
    replace hP : va_P (dC, dI) vwCl [(bL, .inl (cZ, 16, .inl (fun i9 => bI (lv i9)))), (bW, .inl (cZ, 1056, .inl (fun i9 => bI (wr i9)))), (bD, .inl (cB, 73920, .inl (fun i9 => sx (dm i9)))), (g0, .inr (1, [.int (nI 0), .ref bT, .int (nI tp), .ref bO, .int (nI os), .ref bL, .ref bW, .ref bB, .ref bD, .long dn, .long lf, .int (bI mf), .ref bX]))] H := hP
    replace hD : va_D A [(bL, .inl (cZ, 16, .inl (fun i9 => bI (lv i9)))), (bW, .inl (cZ, 1056, .inl (fun i9 => bI (wr i9)))), (bD, .inl (cB, 73920, .inl (fun i9 => sx (dm i9)))), (g0, .inr (1, [.int (nI 0), .ref bT, .int (nI tp), .ref bO, .int (nI os), .ref bL, .ref bW, .ref bB, .ref bD, .long dn, .long lf, .int (bI mf), .ref bX]))] := hD
    have hcell : (okI x 16 && okI y 66) = true := by simpa using c10
    obtain ⟨di, hdi, rfl⟩ := okI_get (by decide) (Bool.and_eq_true_iff.mp hcell).1
    obtain ⟨ce, hce9, rfl⟩ := okI_get (by decide) (Bool.and_eq_true_iff.mp hcell).2
    refine lv_aload_n hx hb dX1_cell_17 rfl (lv_at hl 0 rfl) ?_
    refine lv_iload_n hx hb dX1_cell_18 rfl (lv_at hl 1 rfl) ?_
    refine lv_iload_n hx hb dX1_cell_19 rfl (lv_at hl 2 rfl) ?_
    have hPc := hP.sub (ws' := [(g0, .inr (1, [.int (nI 0), .ref bT, .int (nI tp), .ref bO, .int (nI os), .ref bL, .ref bW, .ref bB, .ref bD, .long dn, .long lf, .int (bI mf), .ref bX])), (bL, .inl (cZ, 16, .inl (fun i9 => bI (lv i9)))), (bW, .inl (cZ, 1056, .inl (fun i9 => bI (wr i9)))), (bD, .inl (cB, 73920, .inl (fun i9 => sx (dm i9))))]) [3, 0, 1, 2] rfl
    have hDc := hD.sub (ws' := [(g0, .inr (1, [.int (nI 0), .ref bT, .int (nI tp), .ref bO, .int (nI os), .ref bL, .ref bW, .ref bB, .ref bD, .long dn, .long lf, .int (bI mf), .ref bX])), (bL, .inl (cZ, 16, .inl (fun i9 => bI (lv i9)))), (bW, .inl (cZ, 1056, .inl (fun i9 => bI (wr i9)))), (bD, .inl (cB, 73920, .inl (fun i9 => sx (dm i9))))]) [3, 0, 1, 2] (by decide) rfl
    have hKc := hK.sub (tys' := [(cZ, .boolean), (cB, .byte)]) [0, 1] rfl
    have hFc := va_free (wc := [(g0, .inr (1, [.int (nI 0), .ref bT, .int (nI tp), .ref bO, .int (nI os), .ref bL, .ref bW, .ref bB, .ref bD, .long dn, .long lf, .int (bI mf), .ref bX])), (bL, .inl (cZ, 16, .inl (fun i9 => bI (lv i9)))), (bW, .inl (cZ, 1056, .inl (fun i9 => bI (wr i9)))), (bD, .inl (cB, 73920, .inl (fun i9 => sx (dm i9))))]) hD hS hA [3, 0, 1, 2] rfl
    refine va_calli (va_runV (As := [.int (nI di), .int (nI ce)]) (rest := []) ⟨hx, hb, hml, hown, hts⟩ (c_X1_stateOf l dC dI H.size g0 bT bO bL bW bB bD bX 0 tp os dn lf mf cZ cB lv wr dm di ce (by omega) (by omega)) (cwV 2 hts gX1_cell_X1_stateOf rfl rfl rfl (by decide +kernel) ⟨Nat.le_of_ble_eq_true rfl, Nat.le_of_ble_eq_true rfl⟩) ⟨fun a U g mk q => by obtain ⟨q0, q1, qP, qK, qD⟩ := q; exact ⟨q0, q1, qP, va_K.moved (u := U) (U := U.calling g mk a) (Vm.Alike.refl U.vm) qK, qD⟩, va_recv hKc hPc (ci := 1) (q0 := 0) rfl rfl, fun U hU hW => ⟨rfl, by rw [hU], by rw [hU]; exact hPc, va_K.moved hW.alike hKc, hDc.weaken (fun _ _ _ _ => trivial)⟩⟩ rfl rfl hl.1 rfl (lv_room (Nat.le_of_ble_eq_true rfl)) dX1_cell_20 ⟨Nat.zero_le _, Nat.zero_le _⟩) hS (fun q _ h => hFc q h) hFc (fun r_3 u t H1 locs ht hvm hw hB hz1 hk1 hS => ?_)
    obtain ⟨hP1, hK1, hD1⟩ := hB
    rw [ht] at hP1
    obtain ⟨hPn, hDn⟩ := va_join (wr := []) (w1 := [(g0, .inr (1, [.int (nI 0), .ref bT, .int (nI tp), .ref bO, .int (nI os), .ref bL, .ref bW, .ref bB, .ref bD, .long dn, .long lf, .int (bI mf), .ref bX])), (bL, .inl (cZ, 16, .inl (fun i9 => bI (lv i9)))), (bW, .inl (cZ, 1056, .inl (fun i9 => bI (wr i9)))), (bD, .inl (cB, 73920, .inl (fun i9 => sx (dm i9))))]) hP hD [3, 0, 1, 2] [] rfl rfl (by decide) (by decide) hk1 hFc hP1 hD1
    clear hP hD hP1 hD1 hK1 hPc hDc hKc hFc hk1 hz1 hvm ht
    generalize H1 = H at hPn hS ⊢
    have hP := hPn
    have hD := hDn
    clear hPn hDn
    replace hP : va_P (dC, dI) vwCl [(g0, .inr (1, [.int (nI 0), .ref bT, .int (nI tp), .ref bO, .int (nI os), .ref bL, .ref bW, .ref bB, .ref bD, .long dn, .long lf, .int (bI mf), .ref bX])), (bL, .inl (cZ, 16, .inl (fun i9 => bI (lv i9)))), (bW, .inl (cZ, 1056, .inl (fun i9 => bI (wr i9)))), (bD, .inl (cB, 73920, .inl (fun i9 => sx (dm i9))))] H := hP
    replace hD : va_D A [(g0, .inr (1, [.int (nI 0), .ref bT, .int (nI tp), .ref bO, .int (nI os), .ref bL, .ref bW, .ref bB, .ref bD, .long dn, .long lf, .int (bI mf), .ref bX])), (bL, .inl (cZ, 16, .inl (fun i9 => bI (lv i9)))), (bW, .inl (cZ, 1056, .inl (fun i9 => bI (wr i9)))), (bD, .inl (cB, 73920, .inl (fun i9 => sx (dm i9))))] := hD
    refine W.widen (k := 0) (n := 0) (Nat.le_refl _) (Nat.le_refl _) ?_
    obtain rfl := hw
    have hP9 := hP.sub (ws' := [(g0, .inr (1, [.int (nI 0), .ref bT, .int (nI tp), .ref bO, .int (nI os), .ref bL, .ref bW, .ref bB, .ref bD, .long dn, .long lf, .int (bI mf), .ref bX])), (bL, .inl (cZ, 16, .inl (fun i9 => bI (lv i9)))), (bW, .inl (cZ, 1056, .inl (fun i9 => bI (wr i9)))), (bD, .inl (cB, 73920, .inl (fun i9 => sx (dm i9))))]) [0, 1, 2, 3] rfl
    have hD9 := hD.sub (ws' := [(g0, .inr (1, [.int (nI 0), .ref bT, .int (nI tp), .ref bO, .int (nI os), .ref bL, .ref bW, .ref bB, .ref bD, .long dn, .long lf, .int (bI mf), .ref bX])), (bL, .inl (cZ, 16, .inl (fun i9 => bI (lv i9)))), (bW, .inl (cZ, 1056, .inl (fun i9 => bI (wr i9)))), (bD, .inl (cB, 73920, .inl (fun i9 => sx (dm i9))))]) [0, 1, 2, 3] (by decide) rfl
    exact W.iret (v := nI (stN lv wr dm di ce)) hx hb hr (fun t ht hW => ⟨⟨nI (stN lv wr dm di ce), 0, rfl, Or.inr ⟨di, ce, hdi, hce9, rfl, rfl, rfl, rfl⟩, by rw [ht]; exact hP9, va_K.moved hW.alike hK, hD9⟩, hS.F ht⟩) hS.2.2 dX1_cell_23
  · rw [c10] at hP hD
    replace hP : va_P (dC, dI) vwCl [(bL, .inl (cZ, 16, .inl (fun i9 => bI (lv i9)))), (bW, .inl (cZ, 1056, .inl (fun i9 => bI (wr i9)))), (bD, .inl (cB, 73920, .inl (fun i9 => sx (dm i9)))), (g0, .inr (1, [.int (nI 1), .ref bT, .int (nI tp), .ref bO, .int (nI os), .ref bL, .ref bW, .ref bB, .ref bD, .long dn, .long lf, .int (bI mf), .ref bX]))] H := hP
    replace hD : va_D A [(bL, .inl (cZ, 16, .inl (fun i9 => bI (lv i9)))), (bW, .inl (cZ, 1056, .inl (fun i9 => bI (wr i9)))), (bD, .inl (cB, 73920, .inl (fun i9 => sx (dm i9)))), (g0, .inr (1, [.int (nI 1), .ref bT, .int (nI tp), .ref bO, .int (nI os), .ref bL, .ref bW, .ref bB, .ref bD, .long dn, .long lf, .int (bI mf), .ref bX]))] := hD
    refine lv_iconst (v := nI 0) hx hb dX1_cell_13 (by decide) ?_
    refine lv_goto (tgt := 23) hx hb dX1_cell_14 (by decide) ?_
    have hP9 := hP.sub (ws' := [(g0, .inr (1, [.int (nI 1), .ref bT, .int (nI tp), .ref bO, .int (nI os), .ref bL, .ref bW, .ref bB, .ref bD, .long dn, .long lf, .int (bI mf), .ref bX])), (bL, .inl (cZ, 16, .inl (fun i9 => bI (lv i9)))), (bW, .inl (cZ, 1056, .inl (fun i9 => bI (wr i9)))), (bD, .inl (cB, 73920, .inl (fun i9 => sx (dm i9))))]) [3, 0, 1, 2] rfl
    have hD9 := hD.sub (ws' := [(g0, .inr (1, [.int (nI 1), .ref bT, .int (nI tp), .ref bO, .int (nI os), .ref bL, .ref bW, .ref bB, .ref bD, .long dn, .long lf, .int (bI mf), .ref bX])), (bL, .inl (cZ, 16, .inl (fun i9 => bI (lv i9)))), (bW, .inl (cZ, 1056, .inl (fun i9 => bI (wr i9)))), (bD, .inl (cB, 73920, .inl (fun i9 => sx (dm i9))))]) [3, 0, 1, 2] (by decide) rfl
    exact W.iret (v := nI 0) hx hb hr (fun t ht hW => ⟨⟨nI 0, 1, rfl, Or.inl ⟨zr_not_t c10, rfl⟩, by rw [ht]; exact hP9, va_K.moved hW.alike hK, hD9⟩, hS.F ht⟩) hS.2.2 dX1_cell_23
set_option maxHeartbeats 4000000 in
set_option maxRecDepth 100000 in
theorem c_X1_tag (l : Launch) (dC : Nat → ClassId) (dI : Nat → Nat → Nat) (sz : Nat) (g0 bT bO bL bW bB bD bX : Nat) (th tp os : Nat) (dn lf : Int64) (mf : Bool) (cZ cB : ClassId) (lv wr : Nat → Bool) (bs dm : Nat → BitVec 8) (x y : Int32) : Met l yX1_tag wsX1_tag ({ frames := 2, cells := 0, slots := 0, locals := 45 }) (va_Pc [.ref g0, .int x, .int y] (fun U => U.heap.size = sz ∧ va_P (dC, dI) vwCl [(g0, .inr (1, [.int (nI th), .ref bT, .int (nI tp), .ref bO, .int (nI os), .ref bL, .ref bW, .ref bB, .ref bD, .long dn, .long lf, .int (bI mf), .ref bX])), (bL, .inl (cZ, 16, .inl (fun i9 => bI (lv i9)))), (bW, .inl (cZ, 1056, .inl (fun i9 => bI (wr i9)))), (bB, .inl (cB, 73920, .inl (fun i9 => sx (bs i9)))), (bD, .inl (cB, 73920, .inl (fun i9 => sx (dm i9))))] U.heap ∧ va_K (dC, dI) vwCl [(cZ, .boolean), (cB, .byte)] U ∧ va_D (fun _ => True) [(g0, .inr (1, [.int (nI th), .ref bT, .int (nI tp), .ref bO, .int (nI os), .ref bL, .ref bW, .ref bB, .ref bD, .long dn, .long lf, .int (bI mf), .ref bX])), (bL, .inl (cZ, 16, .inl (fun i9 => bI (lv i9)))), (bW, .inl (cZ, 1056, .inl (fun i9 => bI (wr i9)))), (bB, .inl (cB, 73920, .inl (fun i9 => sx (bs i9)))), (bD, .inl (cB, 73920, .inl (fun i9 => sx (dm i9))))])) (va_Qi (fun (r : Int32) (h2 : Nat) => ((okI x 16 && okI y 66) = false ∧ h2 = 1) ∨ (∃ di ce : Nat, di < 16 ∧ ce < 66 ∧ x = nI di ∧ y = nI ce ∧ h2 = 0 ∧ ((stN lv wr dm di ce = 2 ∧ r = nI (bA bs dm (66 * di + ce) 64 + 256 * bA bs dm (66 * di + ce) 65)) ∨ (¬ stN lv wr dm di ce = 2 ∧ r = -1)))) (fun (h2 : Nat) t => va_P (dC, dI) vwCl [(g0, .inr (1, [.int (nI h2), .ref bT, .int (nI tp), .ref bO, .int (nI os), .ref bL, .ref bW, .ref bB, .ref bD, .long dn, .long lf, .int (bI mf), .ref bX])), (bL, .inl (cZ, 16, .inl (fun i9 => bI (lv i9)))), (bW, .inl (cZ, 1056, .inl (fun i9 => bI (wr i9)))), (bB, .inl (cB, 73920, .inl (fun i9 => sx (bs i9)))), (bD, .inl (cB, 73920, .inl (fun i9 => sx (dm i9))))] t.heap ∧ va_K (dC, dI) vwCl [(cZ, .boolean), (cB, .byte)] t ∧ va_D (va_A [(g0, .inr (1, [.int (nI th), .ref bT, .int (nI tp), .ref bO, .int (nI os), .ref bL, .ref bW, .ref bB, .ref bD, .long dn, .long lf, .int (bI mf), .ref bX])), (bL, .inl (cZ, 16, .inl (fun i9 => bI (lv i9)))), (bW, .inl (cZ, 1056, .inl (fun i9 => bI (wr i9)))), (bB, .inl (cB, 73920, .inl (fun i9 => sx (bs i9)))), (bD, .inl (cB, 73920, .inl (fun i9 => sx (dm i9))))] sz) [(g0, .inr (1, [.int (nI h2), .ref bT, .int (nI tp), .ref bO, .int (nI os), .ref bL, .ref bW, .ref bB, .ref bD, .long dn, .long lf, .int (bI mf), .ref bX])), (bL, .inl (cZ, 16, .inl (fun i9 => bI (lv i9)))), (bW, .inl (cZ, 1056, .inl (fun i9 => bI (wr i9)))), (bB, .inl (cB, 73920, .inl (fun i9 => sx (bs i9)))), (bD, .inl (cB, 73920, .inl (fun i9 => sx (dm i9))))]) (va_A [(g0, .inr (1, [.int (nI th), .ref bT, .int (nI tp), .ref bO, .int (nI os), .ref bL, .ref bW, .ref bB, .ref bD, .long dn, .long lf, .int (bI mf), .ref bX])), (bL, .inl (cZ, 16, .inl (fun i9 => bI (lv i9)))), (bW, .inl (cZ, 1056, .inl (fun i9 => bI (wr i9)))), (bB, .inl (cB, 73920, .inl (fun i9 => sx (bs i9)))), (bD, .inl (cB, 73920, .inl (fun i9 => sx (dm i9))))] sz)) 0 0 (va_A [(g0, .inr (1, [.int (nI th), .ref bT, .int (nI tp), .ref bO, .int (nI os), .ref bL, .ref bW, .ref bB, .ref bD, .long dn, .long lf, .int (bI mf), .ref bX])), (bL, .inl (cZ, 16, .inl (fun i9 => bI (lv i9)))), (bW, .inl (cZ, 1056, .inl (fun i9 => bI (wr i9)))), (bB, .inl (cB, 73920, .inl (fun i9 => sx (bs i9)))), (bD, .inl (cB, 73920, .inl (fun i9 => sx (dm i9))))] sz) := by
  refine Met.ofW (cc := cX1_tag) (maxL := 4) (ret := some .int) (by decide) rfl ?_
  intro p e s m args below meth c s₁ B hml hv
  obtain ⟨rfl, hsz, hP, hK, hD0⟩ := hv
  have hx := B.exec
  have hb := B.bytes
  have hr := B.returns
  have hts := atoms_spec (ws := wsX1_tag) B.pre
  have hown : s.vm.findClass RX1 = some m.cls := findClass_of_methodNamed B.named
  have hlocks := B.notSynchronized
  subst hsz
  have hD := hD0.self (sz := s.heap.size)
  generalize hAe : va_A [(g0, .inr (1, [.int (nI th), .ref bT, .int (nI tp), .ref bO, .int (nI os), .ref bL, .ref bW, .ref bB, .ref bD, .long dn, .long lf, .int (bI mf), .ref bX])), (bL, .inl (cZ, 16, .inl (fun i9 => bI (lv i9)))), (bW, .inl (cZ, 1056, .inl (fun i9 => bI (wr i9)))), (bB, .inl (cB, 73920, .inl (fun i9 => sx (bs i9)))), (bD, .inl (cB, 73920, .inl (fun i9 => sx (dm i9))))] s.heap.size = A at hD ⊢
  have hA : ∀ q : Nat, s.heap.size ≤ q → A q := fun q h => by rw [← hAe]; exact Or.inr h
  generalize hH : s.heap = H at hP ⊢
  have hS : va_S A s.heap H [] := by rw [hH]; exact va_S.rf
  replace hP : va_P (dC, dI) vwCl [(g0, .inr (1, [.int (nI th), .ref bT, .int (nI tp), .ref bO, .int (nI os), .ref bL, .ref bW, .ref bB, .ref bD, .long dn, .long lf, .int (bI mf), .ref bX])), (bL, .inl (cZ, 16, .inl (fun i9 => bI (lv i9)))), (bW, .inl (cZ, 1056, .inl (fun i9 => bI (wr i9)))), (bB, .inl (cB, 73920, .inl (fun i9 => sx (bs i9)))), (bD, .inl (cB, 73920, .inl (fun i9 => sx (dm i9))))] H := hP
  have hl := lv_entry ([.ref g0, .int x, .int y]) (n := 4) (Nat.le_of_ble_eq_true rfl)
  rw [lg_entry_eq]
  generalize (lg_sl ([.ref g0, .int x, .int y]) ++ List.replicate (4 - (lg_sl ([.ref g0, .int x, .int y])).length) Slot.unset).toArray = ls at hl ⊢
  have hl : lv_has ls 4 [(0, .ref g0), (1, .int x), (2, .int y)] := hl
  have hi1 : ∀ w ∈ u_ws RX1 TX1 13, w ∈ wsX1_tag := by decide +kernel
  refine lv_aload_n hx hb dX1_tag_0 rfl (lv_at hl 0 rfl) ?_
  refine lv_iload_n hx hb dX1_tag_1 rfl (lv_at hl 1 rfl) ?_
  refine lv_iload_n hx hb dX1_tag_2 rfl (lv_at hl 2 rfl) ?_
  have hPc := hP.sub (ws' := []) [] rfl
  have hDc := hD.sub (ws' := []) [] (by decide) rfl
  have hKc := hK.sub (tys' := []) [] rfl
  have hFc := va_free (wc := []) hD hS hA [] rfl
  refine va_calli (va_runS (As := [.int x, .int y]) (rest := [.ref g0]) ⟨hx, hb, hml, hown, hts⟩ (c_X1_none l dC dI H.size x y) (va_cwS 2 hts gX1_tag_X1_none rfl rfl rfl (by decide +kernel) ⟨Nat.le_of_ble_eq_true rfl, Nat.le_of_ble_eq_true rfl⟩) ⟨fun a U g mk q => by obtain ⟨q0, q1, qP, qK, qD⟩ := q; exact ⟨q0, q1, qP, va_K.moved (u := U) (U := U.calling g mk a) (Vm.Alike.refl U.vm) qK, qD⟩, fun U hU hW => ⟨rfl, by rw [hU], by rw [hU]; exact hPc, va_K.moved hW.alike hKc, hDc.weaken (fun _ _ _ _ => trivial)⟩⟩ rfl rfl hl.1 rfl (lv_room (Nat.le_of_ble_eq_true rfl)) dX1_tag_3 ⟨Nat.zero_le _, Nat.zero_le _⟩) hS (fun q _ h => hFc q h) hFc (fun r_1 u t H1 locs ht hvm hw hB hz1 hk1 hS => ?_)
  obtain ⟨hP1, hK1, hD1⟩ := hB
  rw [ht] at hP1
  obtain ⟨hPn, hDn⟩ := va_join (wr := [(g0, .inr (1, [.int (nI th), .ref bT, .int (nI tp), .ref bO, .int (nI os), .ref bL, .ref bW, .ref bB, .ref bD, .long dn, .long lf, .int (bI mf), .ref bX])), (bL, .inl (cZ, 16, .inl (fun i9 => bI (lv i9)))), (bW, .inl (cZ, 1056, .inl (fun i9 => bI (wr i9)))), (bB, .inl (cB, 73920, .inl (fun i9 => sx (bs i9)))), (bD, .inl (cB, 73920, .inl (fun i9 => sx (dm i9))))]) (w1 := []) hP hD [] [0, 1, 2, 3, 4] rfl rfl (by decide) (by decide) hk1 hFc hP1 hD1
  clear hP hD hP1 hD1 hK1 hPc hDc hKc hFc hk1 hz1 hvm ht
  generalize H1 = H at hPn hS ⊢
  have hP := hPn
  have hD := hDn
  clear hPn hDn
  replace hP : va_P (dC, dI) vwCl [(g0, .inr (1, [.int (nI th), .ref bT, .int (nI tp), .ref bO, .int (nI os), .ref bL, .ref bW, .ref bB, .ref bD, .long dn, .long lf, .int (bI mf), .ref bX])), (bL, .inl (cZ, 16, .inl (fun i9 => bI (lv i9)))), (bW, .inl (cZ, 1056, .inl (fun i9 => bI (wr i9)))), (bB, .inl (cB, 73920, .inl (fun i9 => sx (bs i9)))), (bD, .inl (cB, 73920, .inl (fun i9 => sx (dm i9))))] H := hP
  replace hD : va_D A [(g0, .inr (1, [.int (nI th), .ref bT, .int (nI tp), .ref bO, .int (nI os), .ref bL, .ref bW, .ref bB, .ref bD, .long dn, .long lf, .int (bI mf), .ref bX])), (bL, .inl (cZ, 16, .inl (fun i9 => bI (lv i9)))), (bW, .inl (cZ, 1056, .inl (fun i9 => bI (wr i9)))), (bB, .inl (cB, 73920, .inl (fun i9 => sx (bs i9)))), (bD, .inl (cB, 73920, .inl (fun i9 => sx (dm i9))))] := hD
  refine W.widen (k := 0) (n := 0) (Nat.le_refl _) (Nat.le_refl _) ?_
  obtain rfl := hw
  refine lv_iconst (v := nI 1) hx hb dX1_tag_6 (by decide) ?_
  have hPc := hP.sub (ws' := [(g0, .inr (1, [.int (nI th), .ref bT, .int (nI tp), .ref bO, .int (nI os), .ref bL, .ref bW, .ref bB, .ref bD, .long dn, .long lf, .int (bI mf), .ref bX]))]) [0] rfl
  have hDc := hD.sub (ws' := [(g0, .inr (1, [.int (nI th), .ref bT, .int (nI tp), .ref bO, .int (nI os), .ref bL, .ref bW, .ref bB, .ref bD, .long dn, .long lf, .int (bI mf), .ref bX]))]) [0] (by decide) rfl
  have hKc := hK.sub (tys' := []) [] rfl
  have hFc := va_free (wc := [(g0, .inr (1, [.int (nI th), .ref bT, .int (nI tp), .ref bO, .int (nI os), .ref bL, .ref bW, .ref bB, .ref bD, .long dn, .long lf, .int (bI mf), .ref bX]))]) hD hS hA [0] rfl
  refine va_calli (va_runV (As := [.int (bI (!(okI x 16 && okI y 66))), .int (nI 1)]) (rest := []) ⟨hx, hb, hml, hown, hts⟩ (c_X1_fails l dC dI H.size g0 bT bO bL bW bB bD bX th tp os dn lf mf (!(okI x 16 && okI y 66)) 1) (cwV 2 hts gX1_tag_X1_fails rfl rfl rfl (by decide +kernel) ⟨Nat.le_of_ble_eq_true rfl, Nat.le_of_ble_eq_true rfl⟩) ⟨fun a U g mk q => by obtain ⟨q0, q1, qP, qK, qD⟩ := q; exact ⟨q0, q1, qP, va_K.moved (u := U) (U := U.calling g mk a) (Vm.Alike.refl U.vm) qK, qD⟩, va_recv hKc hPc (ci := 1) (q0 := 0) rfl rfl, fun U hU hW => ⟨rfl, by rw [hU], by rw [hU]; exact hPc, va_K.moved hW.alike hKc, hDc.weaken (fun _ _ _ _ => trivial)⟩⟩ rfl rfl hl.1 rfl (lv_room (Nat.le_of_ble_eq_true rfl)) dX1_tag_7 ⟨Nat.zero_le _, Nat.zero_le _⟩) hS (fun q _ h => hFc q h) hFc (fun r_2 u t H1 locs ht hvm hw hB hz1 hk1 hS => ?_)
  obtain ⟨hP1, hK1, hD1⟩ := hB
  rw [ht] at hP1
  obtain ⟨hPn, hDn⟩ := va_join (wr := [(bL, .inl (cZ, 16, .inl (fun i9 => bI (lv i9)))), (bW, .inl (cZ, 1056, .inl (fun i9 => bI (wr i9)))), (bB, .inl (cB, 73920, .inl (fun i9 => sx (bs i9)))), (bD, .inl (cB, 73920, .inl (fun i9 => sx (dm i9))))]) (w1 := [(g0, .inr (1, [.int (nI (cond (!(okI x 16 && okI y 66)) 1 0)), .ref bT, .int (nI tp), .ref bO, .int (nI os), .ref bL, .ref bW, .ref bB, .ref bD, .long dn, .long lf, .int (bI mf), .ref bX]))]) hP hD [0] [1, 2, 3, 4] rfl rfl (by decide) (by decide) hk1 hFc hP1 hD1
  clear hP hD hP1 hD1 hK1 hPc hDc hKc hFc hk1 hz1 hvm ht
  generalize H1 = H at hPn hS ⊢
  have hP := hPn
  have hD := hDn
  clear hPn hDn
  replace hP : va_P (dC, dI) vwCl [(bL, .inl (cZ, 16, .inl (fun i9 => bI (lv i9)))), (bW, .inl (cZ, 1056, .inl (fun i9 => bI (wr i9)))), (bB, .inl (cB, 73920, .inl (fun i9 => sx (bs i9)))), (bD, .inl (cB, 73920, .inl (fun i9 => sx (dm i9)))), (g0, .inr (1, [.int (nI (cond (!(okI x 16 && okI y 66)) 1 0)), .ref bT, .int (nI tp), .ref bO, .int (nI os), .ref bL, .ref bW, .ref bB, .ref bD, .long dn, .long lf, .int (bI mf), .ref bX]))] H := hP
  replace hD : va_D A [(bL, .inl (cZ, 16, .inl (fun i9 => bI (lv i9)))), (bW, .inl (cZ, 1056, .inl (fun i9 => bI (wr i9)))), (bB, .inl (cB, 73920, .inl (fun i9 => sx (bs i9)))), (bD, .inl (cB, 73920, .inl (fun i9 => sx (dm i9)))), (g0, .inr (1, [.int (nI (cond (!(okI x 16 && okI y 66)) 1 0)), .ref bT, .int (nI tp), .ref bO, .int (nI os), .ref bL, .ref bW, .ref bB, .ref bD, .long dn, .long lf, .int (bI mf), .ref bX]))] := hD
  refine W.widen (k := 0) (n := 0) (Nat.le_refl _) (Nat.le_refl _) ?_
  obtain rfl := hw
  refine zr_ifb_eq (tgt := 15) hx hb dX1_tag_10 (by decide) (fun c10 => ?_) (fun c10 => ?_)
  · rw [c10] at hP hD
    replace hP : va_P (dC, dI) vwCl [(bL, .inl (cZ, 16, .inl (fun i9 => bI (lv i9)))), (bW, .inl (cZ, 1056, .inl (fun i9 => bI (wr i9)))), (bB, .inl (cB, 73920, .inl (fun i9 => sx (bs i9)))), (bD, .inl (cB, 73920, .inl (fun i9 => sx (dm i9)))), (g0, .inr (1, [.int (nI 0), .ref bT, .int (nI tp), .ref bO, .int (nI os), .ref bL, .ref bW, .ref bB, .ref bD, .long dn, .long lf, .int (bI mf), .ref bX]))] H := hP
    replace hD : va_D A [(bL, .inl (cZ, 16, .inl (fun i9 => bI (lv i9)))), (bW, .inl (cZ, 1056, .inl (fun i9 => bI (wr i9)))), (bB, .inl (cB, 73920, .inl (fun i9 => sx (bs i9)))), (bD, .inl (cB, 73920, .inl (fun i9 => sx (dm i9)))), (g0, .inr (1, [.int (nI 0), .ref bT, .int (nI tp), .ref bO, .int (nI os), .ref bL, .ref bW, .ref bB, .ref bD, .long dn, .long lf, .int (bI mf), .ref bX]))] := hD
    have hcell : (okI x 16 && okI y 66) = true := by simpa using c10
    obtain ⟨di, hdi, rfl⟩ := okI_get (by decide) (Bool.and_eq_true_iff.mp hcell).1
    obtain ⟨ce, hce9, rfl⟩ := okI_get (by decide) (Bool.and_eq_true_iff.mp hcell).2
    refine lv_iload_n hx hb dX1_tag_15 rfl (lv_at hl 1 rfl) ?_
    refine lv_iload_n hx hb dX1_tag_16 rfl (lv_at hl 2 rfl) ?_
    have hPc := hP.sub (ws' := []) [] rfl
    have hDc := hD.sub (ws' := []) [] (by decide) rfl
    have hKc := hK.sub (tys' := []) [] rfl
    have hFc := va_free (wc := []) hD hS hA [] rfl
    refine va_calli (va_runS (As := [.int (nI di), .int (nI ce)]) (rest := []) ⟨hx, hb, hml, hown, hts⟩ (c_X1_spot l dC dI H.size di ce) (va_cwS 2 hts gX1_tag_X1_spot rfl rfl rfl (by decide +kernel) ⟨Nat.le_of_ble_eq_true rfl, Nat.le_of_ble_eq_true rfl⟩) ⟨fun a U g mk q => by obtain ⟨q0, q1, qP, qK, qD⟩ := q; exact ⟨q0, q1, qP, va_K.moved (u := U) (U := U.calling g mk a) (Vm.Alike.refl U.vm) qK, qD⟩, fun U hU hW => ⟨rfl, by rw [hU], by rw [hU]; exact hPc, va_K.moved hW.alike hKc, hDc.weaken (fun _ _ _ _ => trivial)⟩⟩ rfl rfl hl.1 rfl (lv_room (Nat.le_of_ble_eq_true rfl)) dX1_tag_17 ⟨Nat.zero_le _, Nat.zero_le _⟩) hS (fun q _ h => hFc q h) hFc (fun r_3 u t H1 locs ht hvm hw hB hz1 hk1 hS => ?_)
    obtain ⟨hP1, hK1, hD1⟩ := hB
    rw [ht] at hP1
    obtain ⟨hPn, hDn⟩ := va_join (wr := [(bL, .inl (cZ, 16, .inl (fun i9 => bI (lv i9)))), (bW, .inl (cZ, 1056, .inl (fun i9 => bI (wr i9)))), (bB, .inl (cB, 73920, .inl (fun i9 => sx (bs i9)))), (bD, .inl (cB, 73920, .inl (fun i9 => sx (dm i9)))), (g0, .inr (1, [.int (nI 0), .ref bT, .int (nI tp), .ref bO, .int (nI os), .ref bL, .ref bW, .ref bB, .ref bD, .long dn, .long lf, .int (bI mf), .ref bX]))]) (w1 := []) hP hD [] [0, 1, 2, 3, 4] rfl rfl (by decide) (by decide) hk1 hFc hP1 hD1
    clear hP hD hP1 hD1 hK1 hPc hDc hKc hFc hk1 hz1 hvm ht
    generalize H1 = H at hPn hS ⊢
    have hP := hPn
    have hD := hDn
    clear hPn hDn
    replace hP : va_P (dC, dI) vwCl [(bL, .inl (cZ, 16, .inl (fun i9 => bI (lv i9)))), (bW, .inl (cZ, 1056, .inl (fun i9 => bI (wr i9)))), (bB, .inl (cB, 73920, .inl (fun i9 => sx (bs i9)))), (bD, .inl (cB, 73920, .inl (fun i9 => sx (dm i9)))), (g0, .inr (1, [.int (nI 0), .ref bT, .int (nI tp), .ref bO, .int (nI os), .ref bL, .ref bW, .ref bB, .ref bD, .long dn, .long lf, .int (bI mf), .ref bX]))] H := hP
    replace hD : va_D A [(bL, .inl (cZ, 16, .inl (fun i9 => bI (lv i9)))), (bW, .inl (cZ, 1056, .inl (fun i9 => bI (wr i9)))), (bB, .inl (cB, 73920, .inl (fun i9 => sx (bs i9)))), (bD, .inl (cB, 73920, .inl (fun i9 => sx (dm i9)))), (g0, .inr (1, [.int (nI 0), .ref bT, .int (nI tp), .ref bO, .int (nI os), .ref bL, .ref bW, .ref bB, .ref bD, .long dn, .long lf, .int (bI mf), .ref bX]))] := hD
    refine W.widen (k := 0) (n := 0) (Nat.le_refl _) (Nat.le_refl _) ?_
    obtain rfl := hw
    refine lv_istore_n (lv' := [(3, .int (nI (66 * di + ce))), (0, .ref g0), (1, .int (nI di)), (2, .int (nI ce))]) hx hb dX1_tag_20 rfl hl (by decide) rfl (fun ls hl => ?_)
    refine lv_aload_n hx hb dX1_tag_21 rfl (lv_at hl 1 rfl) ?_
    refine lv_iload_n hx hb dX1_tag_22 rfl (lv_at hl 2 rfl) ?_
    refine lv_iload_n hx hb dX1_tag_23 rfl (lv_at hl 3 rfl) ?_
    have hPc := hP.sub (ws' := [(g0, .inr (1, [.int (nI 0), .ref bT, .int (nI tp), .ref bO, .int (nI os), .ref bL, .ref bW, .ref bB, .ref bD, .long dn, .long lf, .int (bI mf), .ref bX])), (bL, .inl (cZ, 16, .inl (fun i9 => bI (lv i9)))), (bW, .inl (cZ, 1056, .inl (fun i9 => bI (wr i9)))), (bD, .inl (cB, 73920, .inl (fun i9 => sx (dm i9))))]) [4, 0, 1, 3] rfl
    have hDc := hD.sub (ws' := [(g0, .inr (1, [.int (nI 0), .ref bT, .int (nI tp), .ref bO, .int (nI os), .ref bL, .ref bW, .ref bB, .ref bD, .long dn, .long lf, .int (bI mf), .ref bX])), (bL, .inl (cZ, 16, .inl (fun i9 => bI (lv i9)))), (bW, .inl (cZ, 1056, .inl (fun i9 => bI (wr i9)))), (bD, .inl (cB, 73920, .inl (fun i9 => sx (dm i9))))]) [4, 0, 1, 3] (by decide) rfl
    have hKc := hK.sub (tys' := [(cZ, .boolean), (cB, .byte)]) [0, 1] rfl
    have hFc := va_free (wc := [(g0, .inr (1, [.int (nI 0), .ref bT, .int (nI tp), .ref bO, .int (nI os), .ref bL, .ref bW, .ref bB, .ref bD, .long dn, .long lf, .int (bI mf), .ref bX])), (bL, .inl (cZ, 16, .inl (fun i9 => bI (lv i9)))), (bW, .inl (cZ, 1056, .inl (fun i9 => bI (wr i9)))), (bD, .inl (cB, 73920, .inl (fun i9 => sx (dm i9))))]) hD hS hA [4, 0, 1, 3] rfl
    refine va_calli (va_runV (As := [.int (nI di), .int (nI ce)]) (rest := []) ⟨hx, hb, hml, hown, hts⟩ (c_X1_stateOf l dC dI H.size g0 bT bO bL bW bB bD bX 0 tp os dn lf mf cZ cB lv wr dm di ce (by omega) (by omega)) (cwV 2 hts gX1_tag_X1_stateOf rfl rfl rfl (by decide +kernel) ⟨Nat.le_of_ble_eq_true rfl, Nat.le_of_ble_eq_true rfl⟩) ⟨fun a U g mk q => by obtain ⟨q0, q1, qP, qK, qD⟩ := q; exact ⟨q0, q1, qP, va_K.moved (u := U) (U := U.calling g mk a) (Vm.Alike.refl U.vm) qK, qD⟩, va_recv hKc hPc (ci := 1) (q0 := 0) rfl rfl, fun U hU hW => ⟨rfl, by rw [hU], by rw [hU]; exact hPc, va_K.moved hW.alike hKc, hDc.weaken (fun _ _ _ _ => trivial)⟩⟩ rfl rfl hl.1 rfl (lv_room (Nat.le_of_ble_eq_true rfl)) dX1_tag_24 ⟨Nat.zero_le _, Nat.zero_le _⟩) hS (fun q _ h => hFc q h) hFc (fun r_4 u t H1 locs ht hvm hw hB hz1 hk1 hS => ?_)
    obtain ⟨hP1, hK1, hD1⟩ := hB
    rw [ht] at hP1
    obtain ⟨hPn, hDn⟩ := va_join (wr := [(bB, .inl (cB, 73920, .inl (fun i9 => sx (bs i9))))]) (w1 := [(g0, .inr (1, [.int (nI 0), .ref bT, .int (nI tp), .ref bO, .int (nI os), .ref bL, .ref bW, .ref bB, .ref bD, .long dn, .long lf, .int (bI mf), .ref bX])), (bL, .inl (cZ, 16, .inl (fun i9 => bI (lv i9)))), (bW, .inl (cZ, 1056, .inl (fun i9 => bI (wr i9)))), (bD, .inl (cB, 73920, .inl (fun i9 => sx (dm i9))))]) hP hD [4, 0, 1, 3] [2] rfl rfl (by decide) (by decide) hk1 hFc hP1 hD1
    clear hP hD hP1 hD1 hK1 hPc hDc hKc hFc hk1 hz1 hvm ht
    generalize H1 = H at hPn hS ⊢
    have hP := hPn
    have hD := hDn
    clear hPn hDn
    replace hP : va_P (dC, dI) vwCl [(bB, .inl (cB, 73920, .inl (fun i9 => sx (bs i9)))), (g0, .inr (1, [.int (nI 0), .ref bT, .int (nI tp), .ref bO, .int (nI os), .ref bL, .ref bW, .ref bB, .ref bD, .long dn, .long lf, .int (bI mf), .ref bX])), (bL, .inl (cZ, 16, .inl (fun i9 => bI (lv i9)))), (bW, .inl (cZ, 1056, .inl (fun i9 => bI (wr i9)))), (bD, .inl (cB, 73920, .inl (fun i9 => sx (dm i9))))] H := hP
    replace hD : va_D A [(bB, .inl (cB, 73920, .inl (fun i9 => sx (bs i9)))), (g0, .inr (1, [.int (nI 0), .ref bT, .int (nI tp), .ref bO, .int (nI os), .ref bL, .ref bW, .ref bB, .ref bD, .long dn, .long lf, .int (bI mf), .ref bX])), (bL, .inl (cZ, 16, .inl (fun i9 => bI (lv i9)))), (bW, .inl (cZ, 1056, .inl (fun i9 => bI (wr i9)))), (bD, .inl (cB, 73920, .inl (fun i9 => sx (dm i9))))] := hD
    refine W.widen (k := 0) (n := 0) (Nat.le_refl _) (Nat.le_refl _) ?_
    obtain rfl := hw
    refine lv_iconst (v := nI 2) hx hb dX1_tag_27 (by decide) ?_
    refine zr_icmp_eq (tgt := 35) hx hb (Nat.lt_trans (stN_lt _ _ _ _ _) (by decide)) (by omega) dX1_tag_28 (by decide) (fun c28 => ?_) (fun c28 => ?_)
    · refine lv_aload_n hx hb dX1_tag_35 rfl (lv_at hl 1 rfl) ?_
      refine lv_iload_n hx hb dX1_tag_36 rfl (lv_at hl 0 rfl) ?_
      refine lv_bipush (v := nI 64) hx hb dX1_tag_37 (by decide) ?_
      have hPc := hP.sub (ws' := [(g0, .inr (1, [.int (nI 0), .ref bT, .int (nI tp), .ref bO, .int (nI os), .ref bL, .ref bW, .ref bB, .ref bD, .long dn, .long lf, .int (bI mf), .ref bX])), (bB, .inl (cB, 73920, .inl (fun i9 => sx (bs i9)))), (bD, .inl (cB, 73920, .inl (fun i9 => sx (dm i9))))]) [1, 0, 4] rfl
      have hDc := hD.sub (ws' := [(g0, .inr (1, [.int (nI 0), .ref bT, .int (nI tp), .ref bO, .int (nI os), .ref bL, .ref bW, .ref bB, .ref bD, .long dn, .long lf, .int (bI mf), .ref bX])), (bB, .inl (cB, 73920, .inl (fun i9 => sx (bs i9)))), (bD, .inl (cB, 73920, .inl (fun i9 => sx (dm i9))))]) [1, 0, 4] (by decide) rfl
      have hKc := hK.sub (tys' := [(cB, .byte)]) [1] rfl
      have hFc := va_free (wc := [(g0, .inr (1, [.int (nI 0), .ref bT, .int (nI tp), .ref bO, .int (nI os), .ref bL, .ref bW, .ref bB, .ref bD, .long dn, .long lf, .int (bI mf), .ref bX])), (bB, .inl (cB, 73920, .inl (fun i9 => sx (bs i9)))), (bD, .inl (cB, 73920, .inl (fun i9 => sx (dm i9))))]) hD hS hA [1, 0, 4] rfl
      refine va_calli (va_runV (As := [.int (nI (66 * di + ce)), .int (nI 64)]) (rest := []) ⟨hx, hb, hml, hown, hts⟩ (c_X1_byteAt l dC dI H.size g0 bT bO bL bW bB bD bX 0 tp os dn lf mf cB bs dm (66 * di + ce) 64 (by omega) (by omega)) (cwV 2 hts gX1_tag_X1_byteAt rfl rfl rfl (by decide +kernel) ⟨Nat.le_of_ble_eq_true rfl, Nat.le_of_ble_eq_true rfl⟩) ⟨fun a U g mk q => by obtain ⟨q0, q1, qP, qK, qD⟩ := q; exact ⟨q0, q1, qP, va_K.moved (u := U) (U := U.calling g mk a) (Vm.Alike.refl U.vm) qK, qD⟩, va_recv hKc hPc (ci := 1) (q0 := 0) rfl rfl, fun U hU hW => ⟨rfl, by rw [hU], by rw [hU]; exact hPc, va_K.moved hW.alike hKc, hDc.weaken (fun _ _ _ _ => trivial)⟩⟩ rfl rfl hl.1 rfl (lv_room (Nat.le_of_ble_eq_true rfl)) dX1_tag_39 ⟨Nat.zero_le _, Nat.zero_le _⟩) hS (fun q _ h => hFc q h) hFc (fun r_5 u t H1 locs ht hvm hw hB hz1 hk1 hS => ?_)
      obtain ⟨hP1, hK1, hD1⟩ := hB
      rw [ht] at hP1
      obtain ⟨hPn, hDn⟩ := va_join (wr := [(bL, .inl (cZ, 16, .inl (fun i9 => bI (lv i9)))), (bW, .inl (cZ, 1056, .inl (fun i9 => bI (wr i9))))]) (w1 := [(g0, .inr (1, [.int (nI 0), .ref bT, .int (nI tp), .ref bO, .int (nI os), .ref bL, .ref bW, .ref bB, .ref bD, .long dn, .long lf, .int (bI mf), .ref bX])), (bB, .inl (cB, 73920, .inl (fun i9 => sx (bs i9)))), (bD, .inl (cB, 73920, .inl (fun i9 => sx (dm i9))))]) hP hD [1, 0, 4] [2, 3] rfl rfl (by decide) (by decide) hk1 hFc hP1 hD1
      clear hP hD hP1 hD1 hK1 hPc hDc hKc hFc hk1 hz1 hvm ht
      generalize H1 = H at hPn hS ⊢
      have hP := hPn
      have hD := hDn
      clear hPn hDn
      replace hP : va_P (dC, dI) vwCl [(bL, .inl (cZ, 16, .inl (fun i9 => bI (lv i9)))), (bW, .inl (cZ, 1056, .inl (fun i9 => bI (wr i9)))), (g0, .inr (1, [.int (nI 0), .ref bT, .int (nI tp), .ref bO, .int (nI os), .ref bL, .ref bW, .ref bB, .ref bD, .long dn, .long lf, .int (bI mf), .ref bX])), (bB, .inl (cB, 73920, .inl (fun i9 => sx (bs i9)))), (bD, .inl (cB, 73920, .inl (fun i9 => sx (dm i9))))] H := hP
      replace hD : va_D A [(bL, .inl (cZ, 16, .inl (fun i9 => bI (lv i9)))), (bW, .inl (cZ, 1056, .inl (fun i9 => bI (wr i9)))), (g0, .inr (1, [.int (nI 0), .ref bT, .int (nI tp), .ref bO, .int (nI os), .ref bL, .ref bW, .ref bB, .ref bD, .long dn, .long lf, .int (bI mf), .ref bX])), (bB, .inl (cB, 73920, .inl (fun i9 => sx (bs i9)))), (bD, .inl (cB, 73920, .inl (fun i9 => sx (dm i9))))] := hD
      refine W.widen (k := 0) (n := 0) (Nat.le_refl _) (Nat.le_refl _) ?_
      obtain rfl := hw
      refine lv_sipush (v := nI 256) hx hb dX1_tag_42 (by decide) ?_
      refine lv_aload_n hx hb dX1_tag_45 rfl (lv_at hl 1 rfl) ?_
      refine lv_iload_n hx hb dX1_tag_46 rfl (lv_at hl 0 rfl) ?_
      refine lv_bipush (v := nI 65) hx hb dX1_tag_47 (by decide) ?_
      have hPc := hP.sub (ws' := [(g0, .inr (1, [.int (nI 0), .ref bT, .int (nI tp), .ref bO, .int (nI os), .ref bL, .ref bW, .ref bB, .ref bD, .long dn, .long lf, .int (bI mf), .ref bX])), (bB, .inl (cB, 73920, .inl (fun i9 => sx (bs i9)))), (bD, .inl (cB, 73920, .inl (fun i9 => sx (dm i9))))]) [2, 3, 4] rfl
      have hDc := hD.sub (ws' := [(g0, .inr (1, [.int (nI 0), .ref bT, .int (nI tp), .ref bO, .int (nI os), .ref bL, .ref bW, .ref bB, .ref bD, .long dn, .long lf, .int (bI mf), .ref bX])), (bB, .inl (cB, 73920, .inl (fun i9 => sx (bs i9)))), (bD, .inl (cB, 73920, .inl (fun i9 => sx (dm i9))))]) [2, 3, 4] (by decide) rfl
      have hKc := hK.sub (tys' := [(cB, .byte)]) [1] rfl
      have hFc := va_free (wc := [(g0, .inr (1, [.int (nI 0), .ref bT, .int (nI tp), .ref bO, .int (nI os), .ref bL, .ref bW, .ref bB, .ref bD, .long dn, .long lf, .int (bI mf), .ref bX])), (bB, .inl (cB, 73920, .inl (fun i9 => sx (bs i9)))), (bD, .inl (cB, 73920, .inl (fun i9 => sx (dm i9))))]) hD hS hA [2, 3, 4] rfl
      refine va_calli (va_runV (As := [.int (nI (66 * di + ce)), .int (nI 65)]) (rest := [.int (nI 256), .int (nI (bA bs dm (66 * di + ce) 64))]) ⟨hx, hb, hml, hown, hts⟩ (c_X1_byteAt l dC dI H.size g0 bT bO bL bW bB bD bX 0 tp os dn lf mf cB bs dm (66 * di + ce) 65 (by omega) (by omega)) (cwV 2 hts gX1_tag_X1_byteAt rfl rfl rfl (by decide +kernel) ⟨Nat.le_of_ble_eq_true rfl, Nat.le_of_ble_eq_true rfl⟩) ⟨fun a U g mk q => by obtain ⟨q0, q1, qP, qK, qD⟩ := q; exact ⟨q0, q1, qP, va_K.moved (u := U) (U := U.calling g mk a) (Vm.Alike.refl U.vm) qK, qD⟩, va_recv hKc hPc (ci := 1) (q0 := 0) rfl rfl, fun U hU hW => ⟨rfl, by rw [hU], by rw [hU]; exact hPc, va_K.moved hW.alike hKc, hDc.weaken (fun _ _ _ _ => trivial)⟩⟩ rfl rfl hl.1 rfl (lv_room (Nat.le_of_ble_eq_true rfl)) dX1_tag_49 ⟨Nat.zero_le _, Nat.zero_le _⟩) hS (fun q _ h => hFc q h) hFc (fun r_6 u t H1 locs ht hvm hw hB hz1 hk1 hS => ?_)
      obtain ⟨hP1, hK1, hD1⟩ := hB
      rw [ht] at hP1
      obtain ⟨hPn, hDn⟩ := va_join (wr := [(bL, .inl (cZ, 16, .inl (fun i9 => bI (lv i9)))), (bW, .inl (cZ, 1056, .inl (fun i9 => bI (wr i9))))]) (w1 := [(g0, .inr (1, [.int (nI 0), .ref bT, .int (nI tp), .ref bO, .int (nI os), .ref bL, .ref bW, .ref bB, .ref bD, .long dn, .long lf, .int (bI mf), .ref bX])), (bB, .inl (cB, 73920, .inl (fun i9 => sx (bs i9)))), (bD, .inl (cB, 73920, .inl (fun i9 => sx (dm i9))))]) hP hD [2, 3, 4] [0, 1] rfl rfl (by decide) (by decide) hk1 hFc hP1 hD1
      clear hP hD hP1 hD1 hK1 hPc hDc hKc hFc hk1 hz1 hvm ht
      generalize H1 = H at hPn hS ⊢
      have hP := hPn
      have hD := hDn
      clear hPn hDn
      replace hP : va_P (dC, dI) vwCl [(bL, .inl (cZ, 16, .inl (fun i9 => bI (lv i9)))), (bW, .inl (cZ, 1056, .inl (fun i9 => bI (wr i9)))), (g0, .inr (1, [.int (nI 0), .ref bT, .int (nI tp), .ref bO, .int (nI os), .ref bL, .ref bW, .ref bB, .ref bD, .long dn, .long lf, .int (bI mf), .ref bX])), (bB, .inl (cB, 73920, .inl (fun i9 => sx (bs i9)))), (bD, .inl (cB, 73920, .inl (fun i9 => sx (dm i9))))] H := hP
      replace hD : va_D A [(bL, .inl (cZ, 16, .inl (fun i9 => bI (lv i9)))), (bW, .inl (cZ, 1056, .inl (fun i9 => bI (wr i9)))), (g0, .inr (1, [.int (nI 0), .ref bT, .int (nI tp), .ref bO, .int (nI os), .ref bL, .ref bW, .ref bB, .ref bD, .long dn, .long lf, .int (bI mf), .ref bX])), (bB, .inl (cB, 73920, .inl (fun i9 => sx (bs i9)))), (bD, .inl (cB, 73920, .inl (fun i9 => sx (dm i9))))] := hD
      refine W.widen (k := 0) (n := 0) (Nat.le_refl _) (Nat.le_refl _) ?_
      obtain rfl := hw
      refine zr_imul hx hb dX1_tag_52 ?_
      refine zr_iadd hx hb dX1_tag_53 ?_
      have hP9 := hP.sub (ws' := [(g0, .inr (1, [.int (nI 0), .ref bT, .int (nI tp), .ref bO, .int (nI os), .ref bL, .ref bW, .ref bB, .ref bD, .long dn, .long lf, .int (bI mf), .ref bX])), (bL, .inl (cZ, 16, .inl (fun i9 => bI (lv i9)))), (bW, .inl (cZ, 1056, .inl (fun i9 => bI (wr i9)))), (bB, .inl (cB, 73920, .inl (fun i9 => sx (bs i9)))), (bD, .inl (cB, 73920, .inl (fun i9 => sx (dm i9))))]) [2, 0, 1, 3, 4] rfl
      have hD9 := hD.sub (ws' := [(g0, .inr (1, [.int (nI 0), .ref bT, .int (nI tp), .ref bO, .int (nI os), .ref bL, .ref bW, .ref bB, .ref bD, .long dn, .long lf, .int (bI mf), .ref bX])), (bL, .inl (cZ, 16, .inl (fun i9 => bI (lv i9)))), (bW, .inl (cZ, 1056, .inl (fun i9 => bI (wr i9)))), (bB, .inl (cB, 73920, .inl (fun i9 => sx (bs i9)))), (bD, .inl (cB, 73920, .inl (fun i9 => sx (dm i9))))]) [2, 0, 1, 3, 4] (by decide) rfl
      exact W.iret (v := nI ((bA bs dm (66 * di + ce) 64) + (256 * (bA bs dm (66 * di + ce) 65)))) hx hb hr (fun t ht hW => ⟨⟨nI ((bA bs dm (66 * di + ce) 64) + (256 * (bA bs dm (66 * di + ce) 65))), 0, rfl, Or.inr ⟨di, ce, hdi, hce9, rfl, rfl, rfl, by first | exact Or.inl ⟨c28, rfl⟩ | exact Or.inr ⟨c28, rfl⟩⟩, by rw [ht]; exact hP9, va_K.moved hW.alike hK, hD9⟩, hS.F ht⟩) hS.2.2 dX1_tag_54
    · refine lv_iconst (v := (-1)) hx hb dX1_tag_31 (by decide) ?_
      refine lv_goto (tgt := 54) hx hb dX1_tag_32 (by decide) ?_
      have hP9 := hP.sub (ws' := [(g0, .inr (1, [.int (nI 0), .ref bT, .int (nI tp), .ref bO, .int (nI os), .ref bL, .ref bW, .ref bB, .ref bD, .long dn, .long lf, .int (bI mf), .ref bX])), (bL, .inl (cZ, 16, .inl (fun i9 => bI (lv i9)))), (bW, .inl (cZ, 1056, .inl (fun i9 => bI (wr i9)))), (bB, .inl (cB, 73920, .inl (fun i9 => sx (bs i9)))), (bD, .inl (cB, 73920, .inl (fun i9 => sx (dm i9))))]) [1, 2, 3, 0, 4] rfl
      have hD9 := hD.sub (ws' := [(g0, .inr (1, [.int (nI 0), .ref bT, .int (nI tp), .ref bO, .int (nI os), .ref bL, .ref bW, .ref bB, .ref bD, .long dn, .long lf, .int (bI mf), .ref bX])), (bL, .inl (cZ, 16, .inl (fun i9 => bI (lv i9)))), (bW, .inl (cZ, 1056, .inl (fun i9 => bI (wr i9)))), (bB, .inl (cB, 73920, .inl (fun i9 => sx (bs i9)))), (bD, .inl (cB, 73920, .inl (fun i9 => sx (dm i9))))]) [1, 2, 3, 0, 4] (by decide) rfl
      exact W.iret (v := (-1)) hx hb hr (fun t ht hW => ⟨⟨(-1), 0, rfl, Or.inr ⟨di, ce, hdi, hce9, rfl, rfl, rfl, by first | exact Or.inl ⟨c28, rfl⟩ | exact Or.inr ⟨c28, rfl⟩⟩, by rw [ht]; exact hP9, va_K.moved hW.alike hK, hD9⟩, hS.F ht⟩) hS.2.2 dX1_tag_54
  · rw [c10] at hP hD
    replace hP : va_P (dC, dI) vwCl [(bL, .inl (cZ, 16, .inl (fun i9 => bI (lv i9)))), (bW, .inl (cZ, 1056, .inl (fun i9 => bI (wr i9)))), (bB, .inl (cB, 73920, .inl (fun i9 => sx (bs i9)))), (bD, .inl (cB, 73920, .inl (fun i9 => sx (dm i9)))), (g0, .inr (1, [.int (nI 1), .ref bT, .int (nI tp), .ref bO, .int (nI os), .ref bL, .ref bW, .ref bB, .ref bD, .long dn, .long lf, .int (bI mf), .ref bX]))] H := hP
    replace hD : va_D A [(bL, .inl (cZ, 16, .inl (fun i9 => bI (lv i9)))), (bW, .inl (cZ, 1056, .inl (fun i9 => bI (wr i9)))), (bB, .inl (cB, 73920, .inl (fun i9 => sx (bs i9)))), (bD, .inl (cB, 73920, .inl (fun i9 => sx (dm i9)))), (g0, .inr (1, [.int (nI 1), .ref bT, .int (nI tp), .ref bO, .int (nI os), .ref bL, .ref bW, .ref bB, .ref bD, .long dn, .long lf, .int (bI mf), .ref bX]))] := hD
    refine lv_iconst (v := nI 0) hx hb dX1_tag_13 (by decide) ?_
    have hP9 := hP.sub (ws' := [(g0, .inr (1, [.int (nI 1), .ref bT, .int (nI tp), .ref bO, .int (nI os), .ref bL, .ref bW, .ref bB, .ref bD, .long dn, .long lf, .int (bI mf), .ref bX])), (bL, .inl (cZ, 16, .inl (fun i9 => bI (lv i9)))), (bW, .inl (cZ, 1056, .inl (fun i9 => bI (wr i9)))), (bB, .inl (cB, 73920, .inl (fun i9 => sx (bs i9)))), (bD, .inl (cB, 73920, .inl (fun i9 => sx (dm i9))))]) [4, 0, 1, 2, 3] rfl
    have hD9 := hD.sub (ws' := [(g0, .inr (1, [.int (nI 1), .ref bT, .int (nI tp), .ref bO, .int (nI os), .ref bL, .ref bW, .ref bB, .ref bD, .long dn, .long lf, .int (bI mf), .ref bX])), (bL, .inl (cZ, 16, .inl (fun i9 => bI (lv i9)))), (bW, .inl (cZ, 1056, .inl (fun i9 => bI (wr i9)))), (bB, .inl (cB, 73920, .inl (fun i9 => sx (bs i9)))), (bD, .inl (cB, 73920, .inl (fun i9 => sx (dm i9))))]) [4, 0, 1, 2, 3] (by decide) rfl
    exact W.iret (v := nI 0) hx hb hr (fun t ht hW => ⟨⟨nI 0, 1, rfl, Or.inl ⟨zr_not_t c10, rfl⟩, by rw [ht]; exact hP9, va_K.moved hW.alike hK, hD9⟩, hS.F ht⟩) hS.2.2 dX1_tag_14
set_option maxHeartbeats 4000000 in
set_option maxRecDepth 100000 in
theorem c_X1_at (l : Launch) (dC : Nat → ClassId) (dI : Nat → Nat → Nat) (sz : Nat) (g0 bT bO bL bW bB bD bX : Nat) (th tp os : Nat) (dn lf : Int64) (mf : Bool) (cZ cB : ClassId) (lv wr : Nat → Bool) (bs dm : Nat → BitVec 8) (x y z : Int32) : Met l yX1_at wsX1_at ({ frames := 2, cells := 0, slots := 0, locals := 45 }) (va_Pc [.ref g0, .int x, .int y, .int z] (fun U => U.heap.size = sz ∧ va_P (dC, dI) vwCl [(g0, .inr (1, [.int (nI th), .ref bT, .int (nI tp), .ref bO, .int (nI os), .ref bL, .ref bW, .ref bB, .ref bD, .long dn, .long lf, .int (bI mf), .ref bX])), (bL, .inl (cZ, 16, .inl (fun i9 => bI (lv i9)))), (bW, .inl (cZ, 1056, .inl (fun i9 => bI (wr i9)))), (bB, .inl (cB, 73920, .inl (fun i9 => sx (bs i9)))), (bD, .inl (cB, 73920, .inl (fun i9 => sx (dm i9))))] U.heap ∧ va_K (dC, dI) vwCl [(cZ, .boolean), (cB, .byte)] U ∧ va_D (fun _ => True) [(g0, .inr (1, [.int (nI th), .ref bT, .int (nI tp), .ref bO, .int (nI os), .ref bL, .ref bW, .ref bB, .ref bD, .long dn, .long lf, .int (bI mf), .ref bX])), (bL, .inl (cZ, 16, .inl (fun i9 => bI (lv i9)))), (bW, .inl (cZ, 1056, .inl (fun i9 => bI (wr i9)))), (bB, .inl (cB, 73920, .inl (fun i9 => sx (bs i9)))), (bD, .inl (cB, 73920, .inl (fun i9 => sx (dm i9))))])) (va_Qi (fun (r : Int32) (h2 : Nat) => ((okI x 16 && okI y 66) = false ∧ h2 = 1) ∨ (∃ di ce : Nat, di < 16 ∧ ce < 66 ∧ x = nI di ∧ y = nI ce ∧ ((stN lv wr dm di ce < 2 ∨ okI z 70 = false) ∧ h2 = 2)) ∨ (∃ di ce k : Nat, di < 16 ∧ ce < 66 ∧ k < 70 ∧ x = nI di ∧ y = nI ce ∧ z = nI k ∧ 2 ≤ stN lv wr dm di ce ∧ h2 = 0 ∧ r = nI (bA bs dm (66 * di + ce) k))) (fun (h2 : Nat) t => va_P (dC, dI) vwCl [(g0, .inr (1, [.int (nI h2), .ref bT, .int (nI tp), .ref bO, .int (nI os), .ref bL, .ref bW, .ref bB, .ref bD, .long dn, .long lf, .int (bI mf), .ref bX])), (bL, .inl (cZ, 16, .inl (fun i9 => bI (lv i9)))), (bW, .inl (cZ, 1056, .inl (fun i9 => bI (wr i9)))), (bB, .inl (cB, 73920, .inl (fun i9 => sx (bs i9)))), (bD, .inl (cB, 73920, .inl (fun i9 => sx (dm i9))))] t.heap ∧ va_K (dC, dI) vwCl [(cZ, .boolean), (cB, .byte)] t ∧ va_D (va_A [(g0, .inr (1, [.int (nI th), .ref bT, .int (nI tp), .ref bO, .int (nI os), .ref bL, .ref bW, .ref bB, .ref bD, .long dn, .long lf, .int (bI mf), .ref bX])), (bL, .inl (cZ, 16, .inl (fun i9 => bI (lv i9)))), (bW, .inl (cZ, 1056, .inl (fun i9 => bI (wr i9)))), (bB, .inl (cB, 73920, .inl (fun i9 => sx (bs i9)))), (bD, .inl (cB, 73920, .inl (fun i9 => sx (dm i9))))] sz) [(g0, .inr (1, [.int (nI h2), .ref bT, .int (nI tp), .ref bO, .int (nI os), .ref bL, .ref bW, .ref bB, .ref bD, .long dn, .long lf, .int (bI mf), .ref bX])), (bL, .inl (cZ, 16, .inl (fun i9 => bI (lv i9)))), (bW, .inl (cZ, 1056, .inl (fun i9 => bI (wr i9)))), (bB, .inl (cB, 73920, .inl (fun i9 => sx (bs i9)))), (bD, .inl (cB, 73920, .inl (fun i9 => sx (dm i9))))]) (va_A [(g0, .inr (1, [.int (nI th), .ref bT, .int (nI tp), .ref bO, .int (nI os), .ref bL, .ref bW, .ref bB, .ref bD, .long dn, .long lf, .int (bI mf), .ref bX])), (bL, .inl (cZ, 16, .inl (fun i9 => bI (lv i9)))), (bW, .inl (cZ, 1056, .inl (fun i9 => bI (wr i9)))), (bB, .inl (cB, 73920, .inl (fun i9 => sx (bs i9)))), (bD, .inl (cB, 73920, .inl (fun i9 => sx (dm i9))))] sz)) 0 0 (va_A [(g0, .inr (1, [.int (nI th), .ref bT, .int (nI tp), .ref bO, .int (nI os), .ref bL, .ref bW, .ref bB, .ref bD, .long dn, .long lf, .int (bI mf), .ref bX])), (bL, .inl (cZ, 16, .inl (fun i9 => bI (lv i9)))), (bW, .inl (cZ, 1056, .inl (fun i9 => bI (wr i9)))), (bB, .inl (cB, 73920, .inl (fun i9 => sx (bs i9)))), (bD, .inl (cB, 73920, .inl (fun i9 => sx (dm i9))))] sz) := by
  refine Met.ofW (cc := cX1_at) (maxL := 4) (ret := some .int) (by decide) rfl ?_
  intro p e s m args below meth c s₁ B hml hv
  obtain ⟨rfl, hsz, hP, hK, hD0⟩ := hv
  have hx := B.exec
  have hb := B.bytes
  have hr := B.returns
  have hts := atoms_spec (ws := wsX1_at) B.pre
  have hown : s.vm.findClass RX1 = some m.cls := findClass_of_methodNamed B.named
  have hlocks := B.notSynchronized
  subst hsz
  have hD := hD0.self (sz := s.heap.size)
  generalize hAe : va_A [(g0, .inr (1, [.int (nI th), .ref bT, .int (nI tp), .ref bO, .int (nI os), .ref bL, .ref bW, .ref bB, .ref bD, .long dn, .long lf, .int (bI mf), .ref bX])), (bL, .inl (cZ, 16, .inl (fun i9 => bI (lv i9)))), (bW, .inl (cZ, 1056, .inl (fun i9 => bI (wr i9)))), (bB, .inl (cB, 73920, .inl (fun i9 => sx (bs i9)))), (bD, .inl (cB, 73920, .inl (fun i9 => sx (dm i9))))] s.heap.size = A at hD ⊢
  have hA : ∀ q : Nat, s.heap.size ≤ q → A q := fun q h => by rw [← hAe]; exact Or.inr h
  generalize hH : s.heap = H at hP ⊢
  have hS : va_S A s.heap H [] := by rw [hH]; exact va_S.rf
  replace hP : va_P (dC, dI) vwCl [(g0, .inr (1, [.int (nI th), .ref bT, .int (nI tp), .ref bO, .int (nI os), .ref bL, .ref bW, .ref bB, .ref bD, .long dn, .long lf, .int (bI mf), .ref bX])), (bL, .inl (cZ, 16, .inl (fun i9 => bI (lv i9)))), (bW, .inl (cZ, 1056, .inl (fun i9 => bI (wr i9)))), (bB, .inl (cB, 73920, .inl (fun i9 => sx (bs i9)))), (bD, .inl (cB, 73920, .inl (fun i9 => sx (dm i9))))] H := hP
  have hl := lv_entry ([.ref g0, .int x, .int y, .int z]) (n := 4) (Nat.le_of_ble_eq_true rfl)
  rw [lg_entry_eq]
  generalize (lg_sl ([.ref g0, .int x, .int y, .int z]) ++ List.replicate (4 - (lg_sl ([.ref g0, .int x, .int y, .int z])).length) Slot.unset).toArray = ls at hl ⊢
  have hl : lv_has ls 4 [(0, .ref g0), (1, .int x), (2, .int y), (3, .int z)] := hl
  have hi1 : ∀ w ∈ u_ws RX1 TX1 13, w ∈ wsX1_at := by decide +kernel
  refine lv_aload_n hx hb dX1_at_0 rfl (lv_at hl 0 rfl) ?_
  refine lv_iload_n hx hb dX1_at_1 rfl (lv_at hl 1 rfl) ?_
  refine lv_iload_n hx hb dX1_at_2 rfl (lv_at hl 2 rfl) ?_
  have hPc := hP.sub (ws' := []) [] rfl
  have hDc := hD.sub (ws' := []) [] (by decide) rfl
  have hKc := hK.sub (tys' := []) [] rfl
  have hFc := va_free (wc := []) hD hS hA [] rfl
  refine va_calli (va_runS (As := [.int x, .int y]) (rest := [.ref g0]) ⟨hx, hb, hml, hown, hts⟩ (c_X1_none l dC dI H.size x y) (va_cwS 2 hts gX1_at_X1_none rfl rfl rfl (by decide +kernel) ⟨Nat.le_of_ble_eq_true rfl, Nat.le_of_ble_eq_true rfl⟩) ⟨fun a U g mk q => by obtain ⟨q0, q1, qP, qK, qD⟩ := q; exact ⟨q0, q1, qP, va_K.moved (u := U) (U := U.calling g mk a) (Vm.Alike.refl U.vm) qK, qD⟩, fun U hU hW => ⟨rfl, by rw [hU], by rw [hU]; exact hPc, va_K.moved hW.alike hKc, hDc.weaken (fun _ _ _ _ => trivial)⟩⟩ rfl rfl hl.1 rfl (lv_room (Nat.le_of_ble_eq_true rfl)) dX1_at_3 ⟨Nat.zero_le _, Nat.zero_le _⟩) hS (fun q _ h => hFc q h) hFc (fun r_1 u t H1 locs ht hvm hw hB hz1 hk1 hS => ?_)
  obtain ⟨hP1, hK1, hD1⟩ := hB
  rw [ht] at hP1
  obtain ⟨hPn, hDn⟩ := va_join (wr := [(g0, .inr (1, [.int (nI th), .ref bT, .int (nI tp), .ref bO, .int (nI os), .ref bL, .ref bW, .ref bB, .ref bD, .long dn, .long lf, .int (bI mf), .ref bX])), (bL, .inl (cZ, 16, .inl (fun i9 => bI (lv i9)))), (bW, .inl (cZ, 1056, .inl (fun i9 => bI (wr i9)))), (bB, .inl (cB, 73920, .inl (fun i9 => sx (bs i9)))), (bD, .inl (cB, 73920, .inl (fun i9 => sx (dm i9))))]) (w1 := []) hP hD [] [0, 1, 2, 3, 4] rfl rfl (by decide) (by decide) hk1 hFc hP1 hD1
  clear hP hD hP1 hD1 hK1 hPc hDc hKc hFc hk1 hz1 hvm ht
  generalize H1 = H at hPn hS ⊢
  have hP := hPn
  have hD := hDn
  clear hPn hDn
  replace hP : va_P (dC, dI) vwCl [(g0, .inr (1, [.int (nI th), .ref bT, .int (nI tp), .ref bO, .int (nI os), .ref bL, .ref bW, .ref bB, .ref bD, .long dn, .long lf, .int (bI mf), .ref bX])), (bL, .inl (cZ, 16, .inl (fun i9 => bI (lv i9)))), (bW, .inl (cZ, 1056, .inl (fun i9 => bI (wr i9)))), (bB, .inl (cB, 73920, .inl (fun i9 => sx (bs i9)))), (bD, .inl (cB, 73920, .inl (fun i9 => sx (dm i9))))] H := hP
  replace hD : va_D A [(g0, .inr (1, [.int (nI th), .ref bT, .int (nI tp), .ref bO, .int (nI os), .ref bL, .ref bW, .ref bB, .ref bD, .long dn, .long lf, .int (bI mf), .ref bX])), (bL, .inl (cZ, 16, .inl (fun i9 => bI (lv i9)))), (bW, .inl (cZ, 1056, .inl (fun i9 => bI (wr i9)))), (bB, .inl (cB, 73920, .inl (fun i9 => sx (bs i9)))), (bD, .inl (cB, 73920, .inl (fun i9 => sx (dm i9))))] := hD
  refine W.widen (k := 0) (n := 0) (Nat.le_refl _) (Nat.le_refl _) ?_
  obtain rfl := hw
  refine lv_iconst (v := nI 1) hx hb dX1_at_6 (by decide) ?_
  have hPc := hP.sub (ws' := [(g0, .inr (1, [.int (nI th), .ref bT, .int (nI tp), .ref bO, .int (nI os), .ref bL, .ref bW, .ref bB, .ref bD, .long dn, .long lf, .int (bI mf), .ref bX]))]) [0] rfl
  have hDc := hD.sub (ws' := [(g0, .inr (1, [.int (nI th), .ref bT, .int (nI tp), .ref bO, .int (nI os), .ref bL, .ref bW, .ref bB, .ref bD, .long dn, .long lf, .int (bI mf), .ref bX]))]) [0] (by decide) rfl
  have hKc := hK.sub (tys' := []) [] rfl
  have hFc := va_free (wc := [(g0, .inr (1, [.int (nI th), .ref bT, .int (nI tp), .ref bO, .int (nI os), .ref bL, .ref bW, .ref bB, .ref bD, .long dn, .long lf, .int (bI mf), .ref bX]))]) hD hS hA [0] rfl
  refine va_calli (va_runV (As := [.int (bI (!(okI x 16 && okI y 66))), .int (nI 1)]) (rest := []) ⟨hx, hb, hml, hown, hts⟩ (c_X1_fails l dC dI H.size g0 bT bO bL bW bB bD bX th tp os dn lf mf (!(okI x 16 && okI y 66)) 1) (cwV 2 hts gX1_at_X1_fails rfl rfl rfl (by decide +kernel) ⟨Nat.le_of_ble_eq_true rfl, Nat.le_of_ble_eq_true rfl⟩) ⟨fun a U g mk q => by obtain ⟨q0, q1, qP, qK, qD⟩ := q; exact ⟨q0, q1, qP, va_K.moved (u := U) (U := U.calling g mk a) (Vm.Alike.refl U.vm) qK, qD⟩, va_recv hKc hPc (ci := 1) (q0 := 0) rfl rfl, fun U hU hW => ⟨rfl, by rw [hU], by rw [hU]; exact hPc, va_K.moved hW.alike hKc, hDc.weaken (fun _ _ _ _ => trivial)⟩⟩ rfl rfl hl.1 rfl (lv_room (Nat.le_of_ble_eq_true rfl)) dX1_at_7 ⟨Nat.zero_le _, Nat.zero_le _⟩) hS (fun q _ h => hFc q h) hFc (fun r_2 u t H1 locs ht hvm hw hB hz1 hk1 hS => ?_)
  obtain ⟨hP1, hK1, hD1⟩ := hB
  rw [ht] at hP1
  obtain ⟨hPn, hDn⟩ := va_join (wr := [(bL, .inl (cZ, 16, .inl (fun i9 => bI (lv i9)))), (bW, .inl (cZ, 1056, .inl (fun i9 => bI (wr i9)))), (bB, .inl (cB, 73920, .inl (fun i9 => sx (bs i9)))), (bD, .inl (cB, 73920, .inl (fun i9 => sx (dm i9))))]) (w1 := [(g0, .inr (1, [.int (nI (cond (!(okI x 16 && okI y 66)) 1 0)), .ref bT, .int (nI tp), .ref bO, .int (nI os), .ref bL, .ref bW, .ref bB, .ref bD, .long dn, .long lf, .int (bI mf), .ref bX]))]) hP hD [0] [1, 2, 3, 4] rfl rfl (by decide) (by decide) hk1 hFc hP1 hD1
  clear hP hD hP1 hD1 hK1 hPc hDc hKc hFc hk1 hz1 hvm ht
  generalize H1 = H at hPn hS ⊢
  have hP := hPn
  have hD := hDn
  clear hPn hDn
  replace hP : va_P (dC, dI) vwCl [(bL, .inl (cZ, 16, .inl (fun i9 => bI (lv i9)))), (bW, .inl (cZ, 1056, .inl (fun i9 => bI (wr i9)))), (bB, .inl (cB, 73920, .inl (fun i9 => sx (bs i9)))), (bD, .inl (cB, 73920, .inl (fun i9 => sx (dm i9)))), (g0, .inr (1, [.int (nI (cond (!(okI x 16 && okI y 66)) 1 0)), .ref bT, .int (nI tp), .ref bO, .int (nI os), .ref bL, .ref bW, .ref bB, .ref bD, .long dn, .long lf, .int (bI mf), .ref bX]))] H := hP
  replace hD : va_D A [(bL, .inl (cZ, 16, .inl (fun i9 => bI (lv i9)))), (bW, .inl (cZ, 1056, .inl (fun i9 => bI (wr i9)))), (bB, .inl (cB, 73920, .inl (fun i9 => sx (bs i9)))), (bD, .inl (cB, 73920, .inl (fun i9 => sx (dm i9)))), (g0, .inr (1, [.int (nI (cond (!(okI x 16 && okI y 66)) 1 0)), .ref bT, .int (nI tp), .ref bO, .int (nI os), .ref bL, .ref bW, .ref bB, .ref bD, .long dn, .long lf, .int (bI mf), .ref bX]))] := hD
  refine W.widen (k := 0) (n := 0) (Nat.le_refl _) (Nat.le_refl _) ?_
  obtain rfl := hw
  refine zr_ifb_ne (tgt := 46) hx hb dX1_at_10 (by decide) (fun c10 => ?_) (fun c10 => ?_)
  · rw [c10] at hP hD
    replace hP : va_P (dC, dI) vwCl [(bL, .inl (cZ, 16, .inl (fun i9 => bI (lv i9)))), (bW, .inl (cZ, 1056, .inl (fun i9 => bI (wr i9)))), (bB, .inl (cB, 73920, .inl (fun i9 => sx (bs i9)))), (bD, .inl (cB, 73920, .inl (fun i9 => sx (dm i9)))), (g0, .inr (1, [.int (nI 1), .ref bT, .int (nI tp), .ref bO, .int (nI os), .ref bL, .ref bW, .ref bB, .ref bD, .long dn, .long lf, .int (bI mf), .ref bX]))] H := hP
    replace hD : va_D A [(bL, .inl (cZ, 16, .inl (fun i9 => bI (lv i9)))), (bW, .inl (cZ, 1056, .inl (fun i9 => bI (wr i9)))), (bB, .inl (cB, 73920, .inl (fun i9 => sx (bs i9)))), (bD, .inl (cB, 73920, .inl (fun i9 => sx (dm i9)))), (g0, .inr (1, [.int (nI 1), .ref bT, .int (nI tp), .ref bO, .int (nI os), .ref bL, .ref bW, .ref bB, .ref bD, .long dn, .long lf, .int (bI mf), .ref bX]))] := hD
    refine lv_iconst (v := nI 0) hx hb dX1_at_46 (by decide) ?_
    have hP9 := hP.sub (ws' := [(g0, .inr (1, [.int (nI 1), .ref bT, .int (nI tp), .ref bO, .int (nI os), .ref bL, .ref bW, .ref bB, .ref bD, .long dn, .long lf, .int (bI mf), .ref bX])), (bL, .inl (cZ, 16, .inl (fun i9 => bI (lv i9)))), (bW, .inl (cZ, 1056, .inl (fun i9 => bI (wr i9)))), (bB, .inl (cB, 73920, .inl (fun i9 => sx (bs i9)))), (bD, .inl (cB, 73920, .inl (fun i9 => sx (dm i9))))]) [4, 0, 1, 2, 3] rfl
    have hD9 := hD.sub (ws' := [(g0, .inr (1, [.int (nI 1), .ref bT, .int (nI tp), .ref bO, .int (nI os), .ref bL, .ref bW, .ref bB, .ref bD, .long dn, .long lf, .int (bI mf), .ref bX])), (bL, .inl (cZ, 16, .inl (fun i9 => bI (lv i9)))), (bW, .inl (cZ, 1056, .inl (fun i9 => bI (wr i9)))), (bB, .inl (cB, 73920, .inl (fun i9 => sx (bs i9)))), (bD, .inl (cB, 73920, .inl (fun i9 => sx (dm i9))))]) [4, 0, 1, 2, 3] (by decide) rfl
    exact W.iret (v := nI 0) hx hb hr (fun t ht hW => ⟨⟨nI 0, 1, rfl, Or.inl ⟨zr_not_t c10, rfl⟩, by rw [ht]; exact hP9, va_K.moved hW.alike hK, hD9⟩, hS.F ht⟩) hS.2.2 dX1_at_47
  · rw [c10] at hP hD
    replace hP : va_P (dC, dI) vwCl [(bL, .inl (cZ, 16, .inl (fun i9 => bI (lv i9)))), (bW, .inl (cZ, 1056, .inl (fun i9 => bI (wr i9)))), (bB, .inl (cB, 73920, .inl (fun i9 => sx (bs i9)))), (bD, .inl (cB, 73920, .inl (fun i9 => sx (dm i9)))), (g0, .inr (1, [.int (nI 0), .ref bT, .int (nI tp), .ref bO, .int (nI os), .ref bL, .ref bW, .ref bB, .ref bD, .long dn, .long lf, .int (bI mf), .ref bX]))] H := hP
    replace hD : va_D A [(bL, .inl (cZ, 16, .inl (fun i9 => bI (lv i9)))), (bW, .inl (cZ, 1056, .inl (fun i9 => bI (wr i9)))), (bB, .inl (cB, 73920, .inl (fun i9 => sx (bs i9)))), (bD, .inl (cB, 73920, .inl (fun i9 => sx (dm i9)))), (g0, .inr (1, [.int (nI 0), .ref bT, .int (nI tp), .ref bO, .int (nI os), .ref bL, .ref bW, .ref bB, .ref bD, .long dn, .long lf, .int (bI mf), .ref bX]))] := hD
    have hcell : (okI x 16 && okI y 66) = true := by simpa using c10
    obtain ⟨di, hdi, rfl⟩ := okI_get (by decide) (Bool.and_eq_true_iff.mp hcell).1
    obtain ⟨ce, hce9, rfl⟩ := okI_get (by decide) (Bool.and_eq_true_iff.mp hcell).2
    refine lv_aload_n hx hb dX1_at_13 rfl (lv_at hl 0 rfl) ?_
    refine lv_aload_n hx hb dX1_at_14 rfl (lv_at hl 0 rfl) ?_
    refine lv_iload_n hx hb dX1_at_15 rfl (lv_at hl 1 rfl) ?_
    refine lv_iload_n hx hb dX1_at_16 rfl (lv_at hl 2 rfl) ?_
    have hPc := hP.sub (ws' := [(g0, .inr (1, [.int (nI 0), .ref bT, .int (nI tp), .ref bO, .int (nI os), .ref bL, .ref bW, .ref bB, .ref bD, .long dn, .long lf, .int (bI mf), .ref bX])), (bL, .inl (cZ, 16, .inl (fun i9 => bI (lv i9)))), (bW, .inl (cZ, 1056, .inl (fun i9 => bI (wr i9)))), (bD, .inl (cB, 73920, .inl (fun i9 => sx (dm i9))))]) [4, 0, 1, 3] rfl
    have hDc := hD.sub (ws' := [(g0, .inr (1, [.int (nI 0), .ref bT, .int (nI tp), .ref bO, .int (nI os), .ref bL, .ref bW, .ref bB, .ref bD, .long dn, .long lf, .int (bI mf), .ref bX])), (bL, .inl (cZ, 16, .inl (fun i9 => bI (lv i9)))), (bW, .inl (cZ, 1056, .inl (fun i9 => bI (wr i9)))), (bD, .inl (cB, 73920, .inl (fun i9 => sx (dm i9))))]) [4, 0, 1, 3] (by decide) rfl
    have hKc := hK.sub (tys' := [(cZ, .boolean), (cB, .byte)]) [0, 1] rfl
    have hFc := va_free (wc := [(g0, .inr (1, [.int (nI 0), .ref bT, .int (nI tp), .ref bO, .int (nI os), .ref bL, .ref bW, .ref bB, .ref bD, .long dn, .long lf, .int (bI mf), .ref bX])), (bL, .inl (cZ, 16, .inl (fun i9 => bI (lv i9)))), (bW, .inl (cZ, 1056, .inl (fun i9 => bI (wr i9)))), (bD, .inl (cB, 73920, .inl (fun i9 => sx (dm i9))))]) hD hS hA [4, 0, 1, 3] rfl
    refine va_calli (va_runV (As := [.int (nI di), .int (nI ce)]) (rest := [.ref g0]) ⟨hx, hb, hml, hown, hts⟩ (c_X1_stateOf l dC dI H.size g0 bT bO bL bW bB bD bX 0 tp os dn lf mf cZ cB lv wr dm di ce (by omega) (by omega)) (cwV 2 hts gX1_at_X1_stateOf rfl rfl rfl (by decide +kernel) ⟨Nat.le_of_ble_eq_true rfl, Nat.le_of_ble_eq_true rfl⟩) ⟨fun a U g mk q => by obtain ⟨q0, q1, qP, qK, qD⟩ := q; exact ⟨q0, q1, qP, va_K.moved (u := U) (U := U.calling g mk a) (Vm.Alike.refl U.vm) qK, qD⟩, va_recv hKc hPc (ci := 1) (q0 := 0) rfl rfl, fun U hU hW => ⟨rfl, by rw [hU], by rw [hU]; exact hPc, va_K.moved hW.alike hKc, hDc.weaken (fun _ _ _ _ => trivial)⟩⟩ rfl rfl hl.1 rfl (lv_room (Nat.le_of_ble_eq_true rfl)) dX1_at_17 ⟨Nat.zero_le _, Nat.zero_le _⟩) hS (fun q _ h => hFc q h) hFc (fun r_3 u t H1 locs ht hvm hw hB hz1 hk1 hS => ?_)
    obtain ⟨hP1, hK1, hD1⟩ := hB
    rw [ht] at hP1
    obtain ⟨hPn, hDn⟩ := va_join (wr := [(bB, .inl (cB, 73920, .inl (fun i9 => sx (bs i9))))]) (w1 := [(g0, .inr (1, [.int (nI 0), .ref bT, .int (nI tp), .ref bO, .int (nI os), .ref bL, .ref bW, .ref bB, .ref bD, .long dn, .long lf, .int (bI mf), .ref bX])), (bL, .inl (cZ, 16, .inl (fun i9 => bI (lv i9)))), (bW, .inl (cZ, 1056, .inl (fun i9 => bI (wr i9)))), (bD, .inl (cB, 73920, .inl (fun i9 => sx (dm i9))))]) hP hD [4, 0, 1, 3] [2] rfl rfl (by decide) (by decide) hk1 hFc hP1 hD1
    clear hP hD hP1 hD1 hK1 hPc hDc hKc hFc hk1 hz1 hvm ht
    generalize H1 = H at hPn hS ⊢
    have hP := hPn
    have hD := hDn
    clear hPn hDn
    replace hP : va_P (dC, dI) vwCl [(bB, .inl (cB, 73920, .inl (fun i9 => sx (bs i9)))), (g0, .inr (1, [.int (nI 0), .ref bT, .int (nI tp), .ref bO, .int (nI os), .ref bL, .ref bW, .ref bB, .ref bD, .long dn, .long lf, .int (bI mf), .ref bX])), (bL, .inl (cZ, 16, .inl (fun i9 => bI (lv i9)))), (bW, .inl (cZ, 1056, .inl (fun i9 => bI (wr i9)))), (bD, .inl (cB, 73920, .inl (fun i9 => sx (dm i9))))] H := hP
    replace hD : va_D A [(bB, .inl (cB, 73920, .inl (fun i9 => sx (bs i9)))), (g0, .inr (1, [.int (nI 0), .ref bT, .int (nI tp), .ref bO, .int (nI os), .ref bL, .ref bW, .ref bB, .ref bD, .long dn, .long lf, .int (bI mf), .ref bX])), (bL, .inl (cZ, 16, .inl (fun i9 => bI (lv i9)))), (bW, .inl (cZ, 1056, .inl (fun i9 => bI (wr i9)))), (bD, .inl (cB, 73920, .inl (fun i9 => sx (dm i9))))] := hD
    refine W.widen (k := 0) (n := 0) (Nat.le_refl _) (Nat.le_refl _) ?_
    obtain rfl := hw
    refine lv_iconst (v := nI 2) hx hb dX1_at_20 (by decide) ?_
    refine zr_icmp_lt (tgt := 34) hx hb (Nat.lt_trans (stN_lt _ _ _ _ _) (by decide)) (by omega) dX1_at_21 (by decide) (fun c21 => ?_) (fun c21 => ?_)
    · refine lv_iconst (v := nI 1) hx hb dX1_at_34 (by decide) ?_
      refine lv_goto (tgt := 39) hx hb dX1_at_35 (by decide) ?_
      refine zr_topi (bI true) (rfl) ?_
      refine lv_iconst (v := nI 2) hx hb dX1_at_39 (by decide) ?_
      have hPc := hP.sub (ws' := [(g0, .inr (1, [.int (nI 0), .ref bT, .int (nI tp), .ref bO, .int (nI os), .ref bL, .ref bW, .ref bB, .ref bD, .long dn, .long lf, .int (bI mf), .ref bX]))]) [1] rfl
      have hDc := hD.sub (ws' := [(g0, .inr (1, [.int (nI 0), .ref bT, .int (nI tp), .ref bO, .int (nI os), .ref bL, .ref bW, .ref bB, .ref bD, .long dn, .long lf, .int (bI mf), .ref bX]))]) [1] (by decide) rfl
      have hKc := hK.sub (tys' := []) [] rfl
      have hFc := va_free (wc := [(g0, .inr (1, [.int (nI 0), .ref bT, .int (nI tp), .ref bO, .int (nI os), .ref bL, .ref bW, .ref bB, .ref bD, .long dn, .long lf, .int (bI mf), .ref bX]))]) hD hS hA [1] rfl
      refine va_calli (va_runV (As := [.int (bI true), .int (nI 2)]) (rest := []) ⟨hx, hb, hml, hown, hts⟩ (c_X1_fails l dC dI H.size g0 bT bO bL bW bB bD bX 0 tp os dn lf mf true 2) (cwV 2 hts gX1_at_X1_fails rfl rfl rfl (by decide +kernel) ⟨Nat.le_of_ble_eq_true rfl, Nat.le_of_ble_eq_true rfl⟩) ⟨fun a U g mk q => by obtain ⟨q0, q1, qP, qK, qD⟩ := q; exact ⟨q0, q1, qP, va_K.moved (u := U) (U := U.calling g mk a) (Vm.Alike.refl U.vm) qK, qD⟩, va_recv hKc hPc (ci := 1) (q0 := 0) rfl rfl, fun U hU hW => ⟨rfl, by rw [hU], by rw [hU]; exact hPc, va_K.moved hW.alike hKc, hDc.weaken (fun _ _ _ _ => trivial)⟩⟩ rfl rfl hl.1 rfl (lv_room (Nat.le_of_ble_eq_true rfl)) dX1_at_40 ⟨Nat.zero_le _, Nat.zero_le _⟩) hS (fun q _ h => hFc q h) hFc (fun r_4 u t H1 locs ht hvm hw hB hz1 hk1 hS => ?_)
      obtain ⟨hP1, hK1, hD1⟩ := hB
      rw [ht] at hP1
      obtain ⟨hPn, hDn⟩ := va_join (wr := [(bB, .inl (cB, 73920, .inl (fun i9 => sx (bs i9)))), (bL, .inl (cZ, 16, .inl (fun i9 => bI (lv i9)))), (bW, .inl (cZ, 1056, .inl (fun i9 => bI (wr i9)))), (bD, .inl (cB, 73920, .inl (fun i9 => sx (dm i9))))]) (w1 := [(g0, .inr (1, [.int (nI (cond true 2 0)), .ref bT, .int (nI tp), .ref bO, .int (nI os), .ref bL, .ref bW, .ref bB, .ref bD, .long dn, .long lf, .int (bI mf), .ref bX]))]) hP hD [1] [0, 2, 3, 4] rfl rfl (by decide) (by decide) hk1 hFc hP1 hD1
      clear hP hD hP1 hD1 hK1 hPc hDc hKc hFc hk1 hz1 hvm ht
      generalize H1 = H at hPn hS ⊢
      have hP := hPn
      have hD := hDn
      clear hPn hDn
      replace hP : va_P (dC, dI) vwCl [(bB, .inl (cB, 73920, .inl (fun i9 => sx (bs i9)))), (bL, .inl (cZ, 16, .inl (fun i9 => bI (lv i9)))), (bW, .inl (cZ, 1056, .inl (fun i9 => bI (wr i9)))), (bD, .inl (cB, 73920, .inl (fun i9 => sx (dm i9)))), (g0, .inr (1, [.int (nI (cond true 2 0)), .ref bT, .int (nI tp), .ref bO, .int (nI os), .ref bL, .ref bW, .ref bB, .ref bD, .long dn, .long lf, .int (bI mf), .ref bX]))] H := hP
      replace hD : va_D A [(bB, .inl (cB, 73920, .inl (fun i9 => sx (bs i9)))), (bL, .inl (cZ, 16, .inl (fun i9 => bI (lv i9)))), (bW, .inl (cZ, 1056, .inl (fun i9 => bI (wr i9)))), (bD, .inl (cB, 73920, .inl (fun i9 => sx (dm i9)))), (g0, .inr (1, [.int (nI (cond true 2 0)), .ref bT, .int (nI tp), .ref bO, .int (nI os), .ref bL, .ref bW, .ref bB, .ref bD, .long dn, .long lf, .int (bI mf), .ref bX]))] := hD
      refine W.widen (k := 0) (n := 0) (Nat.le_refl _) (Nat.le_refl _) ?_
      obtain rfl := hw
      replace hP : va_P (dC, dI) vwCl [(bB, .inl (cB, 73920, .inl (fun i9 => sx (bs i9)))), (bL, .inl (cZ, 16, .inl (fun i9 => bI (lv i9)))), (bW, .inl (cZ, 1056, .inl (fun i9 => bI (wr i9)))), (bD, .inl (cB, 73920, .inl (fun i9 => sx (dm i9)))), (g0, .inr (1, [.int (nI 2), .ref bT, .int (nI tp), .ref bO, .int (nI os), .ref bL, .ref bW, .ref bB, .ref bD, .long dn, .long lf, .int (bI mf), .ref bX]))] H := hP
      replace hD : va_D A [(bB, .inl (cB, 73920, .inl (fun i9 => sx (bs i9)))), (bL, .inl (cZ, 16, .inl (fun i9 => bI (lv i9)))), (bW, .inl (cZ, 1056, .inl (fun i9 => bI (wr i9)))), (bD, .inl (cB, 73920, .inl (fun i9 => sx (dm i9)))), (g0, .inr (1, [.int (nI 2), .ref bT, .int (nI tp), .ref bO, .int (nI os), .ref bL, .ref bW, .ref bB, .ref bD, .long dn, .long lf, .int (bI mf), .ref bX]))] := hD
      refine zr_ifb_eq (tgt := 48) hx hb dX1_at_43 (by decide) (fun c43 => absurd c43 (by decide)) (fun c43 => ?_)
      refine lv_iconst (v := nI 0) hx hb dX1_at_46 (by decide) ?_
      have hP9 := hP.sub (ws' := [(g0, .inr (1, [.int (nI 2), .ref bT, .int (nI tp), .ref bO, .int (nI os), .ref bL, .ref bW, .ref bB, .ref bD, .long dn, .long lf, .int (bI mf), .ref bX])), (bL, .inl (cZ, 16, .inl (fun i9 => bI (lv i9)))), (bW, .inl (cZ, 1056, .inl (fun i9 => bI (wr i9)))), (bB, .inl (cB, 73920, .inl (fun i9 => sx (bs i9)))), (bD, .inl (cB, 73920, .inl (fun i9 => sx (dm i9))))]) [4, 1, 2, 0, 3] rfl
      have hD9 := hD.sub (ws' := [(g0, .inr (1, [.int (nI 2), .ref bT, .int (nI tp), .ref bO, .int (nI os), .ref bL, .ref bW, .ref bB, .ref bD, .long dn, .long lf, .int (bI mf), .ref bX])), (bL, .inl (cZ, 16, .inl (fun i9 => bI (lv i9)))), (bW, .inl (cZ, 1056, .inl (fun i9 => bI (wr i9)))), (bB, .inl (cB, 73920, .inl (fun i9 => sx (bs i9)))), (bD, .inl (cB, 73920, .inl (fun i9 => sx (dm i9))))]) [4, 1, 2, 0, 3] (by decide) rfl
      exact W.iret (v := nI 0) hx hb hr (fun t ht hW => ⟨⟨nI 0, 2, rfl, Or.inr (Or.inl ⟨di, ce, hdi, hce9, rfl, rfl, by first | exact Or.inl c21 | exact Or.inr c31, rfl⟩), by rw [ht]; exact hP9, va_K.moved hW.alike hK, hD9⟩, hS.F ht⟩) hS.2.2 dX1_at_47
    · refine lv_iload_n hx hb dX1_at_24 rfl (lv_at hl 3 rfl) ?_
      refine lv_iconst (v := nI 0) hx hb dX1_at_25 (by decide) ?_
      refine lv_bipush (v := nI 69) hx hb dX1_at_26 (by decide) ?_
      have hPc := hP.sub (ws' := []) [] rfl
      have hDc := hD.sub (ws' := []) [] (by decide) rfl
      have hKc := hK.sub (tys' := []) [] rfl
      have hFc := va_free (wc := []) hD hS hA [] rfl
      refine va_calli (va_runS (As := [.int z, .int (nI 0), .int (nI 69)]) (rest := [.ref g0]) ⟨hx, hb, hml, hown, hts⟩ (c_X1_within l dC dI H.size z (nI 0) (nI 69)) (va_cwS 3 hts gX1_at_X1_within rfl rfl rfl (by decide +kernel) ⟨Nat.le_of_ble_eq_true rfl, Nat.le_of_ble_eq_true rfl⟩) ⟨fun a U g mk q => by obtain ⟨q0, q1, qP, qK, qD⟩ := q; exact ⟨q0, q1, qP, va_K.moved (u := U) (U := U.calling g mk a) (Vm.Alike.refl U.vm) qK, qD⟩, fun U hU hW => ⟨rfl, by rw [hU], by rw [hU]; exact hPc, va_K.moved hW.alike hKc, hDc.weaken (fun _ _ _ _ => trivial)⟩⟩ rfl rfl hl.1 rfl (lv_room (Nat.le_of_ble_eq_true rfl)) dX1_at_28 ⟨Nat.zero_le _, Nat.zero_le _⟩) hS (fun q _ h => hFc q h) hFc (fun r_5 u t H1 locs ht hvm hw hB hz1 hk1 hS => ?_)
      obtain ⟨hP1, hK1, hD1⟩ := hB
      rw [ht] at hP1
      obtain ⟨hPn, hDn⟩ := va_join (wr := [(bB, .inl (cB, 73920, .inl (fun i9 => sx (bs i9)))), (g0, .inr (1, [.int (nI 0), .ref bT, .int (nI tp), .ref bO, .int (nI os), .ref bL, .ref bW, .ref bB, .ref bD, .long dn, .long lf, .int (bI mf), .ref bX])), (bL, .inl (cZ, 16, .inl (fun i9 => bI (lv i9)))), (bW, .inl (cZ, 1056, .inl (fun i9 => bI (wr i9)))), (bD, .inl (cB, 73920, .inl (fun i9 => sx (dm i9))))]) (w1 := []) hP hD [] [0, 1, 2, 3, 4] rfl rfl (by decide) (by decide) hk1 hFc hP1 hD1
      clear hP hD hP1 hD1 hK1 hPc hDc hKc hFc hk1 hz1 hvm ht
      generalize H1 = H at hPn hS ⊢
      have hP := hPn
      have hD := hDn
      clear hPn hDn
      replace hP : va_P (dC, dI) vwCl [(bB, .inl (cB, 73920, .inl (fun i9 => sx (bs i9)))), (g0, .inr (1, [.int (nI 0), .ref bT, .int (nI tp), .ref bO, .int (nI os), .ref bL, .ref bW, .ref bB, .ref bD, .long dn, .long lf, .int (bI mf), .ref bX])), (bL, .inl (cZ, 16, .inl (fun i9 => bI (lv i9)))), (bW, .inl (cZ, 1056, .inl (fun i9 => bI (wr i9)))), (bD, .inl (cB, 73920, .inl (fun i9 => sx (dm i9))))] H := hP
      replace hD : va_D A [(bB, .inl (cB, 73920, .inl (fun i9 => sx (bs i9)))), (g0, .inr (1, [.int (nI 0), .ref bT, .int (nI tp), .ref bO, .int (nI os), .ref bL, .ref bW, .ref bB, .ref bD, .long dn, .long lf, .int (bI mf), .ref bX])), (bL, .inl (cZ, 16, .inl (fun i9 => bI (lv i9)))), (bW, .inl (cZ, 1056, .inl (fun i9 => bI (wr i9)))), (bD, .inl (cB, 73920, .inl (fun i9 => sx (dm i9))))] := hD
      refine W.widen (k := 0) (n := 0) (Nat.le_refl _) (Nat.le_refl _) ?_
      obtain rfl := hw
      refine zr_topi (bI (okI z 70)) (by rw [inB_ok _ (by decide)]) ?_
      refine zr_ifb_ne (tgt := 38) hx hb dX1_at_31 (by decide) (fun c31 => ?_) (fun c31 => ?_)
      · obtain ⟨k, hk70, rfl⟩ := okI_get (by decide) c31
        refine lv_iconst (v := nI 0) hx hb dX1_at_38 (by decide) ?_
        refine zr_topi (bI false) (rfl) ?_
        refine lv_iconst (v := nI 2) hx hb dX1_at_39 (by decide) ?_
        have hPc := hP.sub (ws' := [(g0, .inr (1, [.int (nI 0), .ref bT, .int (nI tp), .ref bO, .int (nI os), .ref bL, .ref bW, .ref bB, .ref bD, .long dn, .long lf, .int (bI mf), .ref bX]))]) [1] rfl
        have hDc := hD.sub (ws' := [(g0, .inr (1, [.int (nI 0), .ref bT, .int (nI tp), .ref bO, .int (nI os), .ref bL, .ref bW, .ref bB, .ref bD, .long dn, .long lf, .int (bI mf), .ref bX]))]) [1] (by decide) rfl
        have hKc := hK.sub (tys' := []) [] rfl
        have hFc := va_free (wc := [(g0, .inr (1, [.int (nI 0), .ref bT, .int (nI tp), .ref bO, .int (nI os), .ref bL, .ref bW, .ref bB, .ref bD, .long dn, .long lf, .int (bI mf), .ref bX]))]) hD hS hA [1] rfl
        refine va_calli (va_runV (As := [.int (bI false), .int (nI 2)]) (rest := []) ⟨hx, hb, hml, hown, hts⟩ (c_X1_fails l dC dI H.size g0 bT bO bL bW bB bD bX 0 tp os dn lf mf false 2) (cwV 2 hts gX1_at_X1_fails rfl rfl rfl (by decide +kernel) ⟨Nat.le_of_ble_eq_true rfl, Nat.le_of_ble_eq_true rfl⟩) ⟨fun a U g mk q => by obtain ⟨q0, q1, qP, qK, qD⟩ := q; exact ⟨q0, q1, qP, va_K.moved (u := U) (U := U.calling g mk a) (Vm.Alike.refl U.vm) qK, qD⟩, va_recv hKc hPc (ci := 1) (q0 := 0) rfl rfl, fun U hU hW => ⟨rfl, by rw [hU], by rw [hU]; exact hPc, va_K.moved hW.alike hKc, hDc.weaken (fun _ _ _ _ => trivial)⟩⟩ rfl rfl hl.1 rfl (lv_room (Nat.le_of_ble_eq_true rfl)) dX1_at_40 ⟨Nat.zero_le _, Nat.zero_le _⟩) hS (fun q _ h => hFc q h) hFc (fun r_6 u t H1 locs ht hvm hw hB hz1 hk1 hS => ?_)
        obtain ⟨hP1, hK1, hD1⟩ := hB
        rw [ht] at hP1
        obtain ⟨hPn, hDn⟩ := va_join (wr := [(bB, .inl (cB, 73920, .inl (fun i9 => sx (bs i9)))), (bL, .inl (cZ, 16, .inl (fun i9 => bI (lv i9)))), (bW, .inl (cZ, 1056, .inl (fun i9 => bI (wr i9)))), (bD, .inl (cB, 73920, .inl (fun i9 => sx (dm i9))))]) (w1 := [(g0, .inr (1, [.int (nI (cond false 2 0)), .ref bT, .int (nI tp), .ref bO, .int (nI os), .ref bL, .ref bW, .ref bB, .ref bD, .long dn, .long lf, .int (bI mf), .ref bX]))]) hP hD [1] [0, 2, 3, 4] rfl rfl (by decide) (by decide) hk1 hFc hP1 hD1
        clear hP hD hP1 hD1 hK1 hPc hDc hKc hFc hk1 hz1 hvm ht
        generalize H1 = H at hPn hS ⊢
        have hP := hPn
        have hD := hDn
        clear hPn hDn
        replace hP : va_P (dC, dI) vwCl [(bB, .inl (cB, 73920, .inl (fun i9 => sx (bs i9)))), (bL, .inl (cZ, 16, .inl (fun i9 => bI (lv i9)))), (bW, .inl (cZ, 1056, .inl (fun i9 => bI (wr i9)))), (bD, .inl (cB, 73920, .inl (fun i9 => sx (dm i9)))), (g0, .inr (1, [.int (nI (cond false 2 0)), .ref bT, .int (nI tp), .ref bO, .int (nI os), .ref bL, .ref bW, .ref bB, .ref bD, .long dn, .long lf, .int (bI mf), .ref bX]))] H := hP
        replace hD : va_D A [(bB, .inl (cB, 73920, .inl (fun i9 => sx (bs i9)))), (bL, .inl (cZ, 16, .inl (fun i9 => bI (lv i9)))), (bW, .inl (cZ, 1056, .inl (fun i9 => bI (wr i9)))), (bD, .inl (cB, 73920, .inl (fun i9 => sx (dm i9)))), (g0, .inr (1, [.int (nI (cond false 2 0)), .ref bT, .int (nI tp), .ref bO, .int (nI os), .ref bL, .ref bW, .ref bB, .ref bD, .long dn, .long lf, .int (bI mf), .ref bX]))] := hD
        refine W.widen (k := 0) (n := 0) (Nat.le_refl _) (Nat.le_refl _) ?_
        obtain rfl := hw
        replace hP : va_P (dC, dI) vwCl [(bB, .inl (cB, 73920, .inl (fun i9 => sx (bs i9)))), (bL, .inl (cZ, 16, .inl (fun i9 => bI (lv i9)))), (bW, .inl (cZ, 1056, .inl (fun i9 => bI (wr i9)))), (bD, .inl (cB, 73920, .inl (fun i9 => sx (dm i9)))), (g0, .inr (1, [.int (nI 0), .ref bT, .int (nI tp), .ref bO, .int (nI os), .ref bL, .ref bW, .ref bB, .ref bD, .long dn, .long lf, .int (bI mf), .ref bX]))] H := hP
        replace hD : va_D A [(bB, .inl (cB, 73920, .inl (fun i9 => sx (bs i9)))), (bL, .inl (cZ, 16, .inl (fun i9 => bI (lv i9)))), (bW, .inl (cZ, 1056, .inl (fun i9 => bI (wr i9)))), (bD, .inl (cB, 73920, .inl (fun i9 => sx (dm i9)))), (g0, .inr (1, [.int (nI 0), .ref bT, .int (nI tp), .ref bO, .int (nI os), .ref bL, .ref bW, .ref bB, .ref bD, .long dn, .long lf, .int (bI mf), .ref bX]))] := hD
        refine zr_ifb_eq (tgt := 48) hx hb dX1_at_43 (by decide) (fun c43 => ?_) (fun c43 => absurd c43 (by decide))
        refine lv_aload_n hx hb dX1_at_48 rfl (lv_at hl 0 rfl) ?_
        refine lv_iload_n hx hb dX1_at_49 rfl (lv_at hl 1 rfl) ?_
        refine lv_iload_n hx hb dX1_at_50 rfl (lv_at hl 2 rfl) ?_
        have hPc := hP.sub (ws' := []) [] rfl
        have hDc := hD.sub (ws' := []) [] (by decide) rfl
        have hKc := hK.sub (tys' := []) [] rfl
        have hFc := va_free (wc := []) hD hS hA [] rfl
        refine va_calli (va_runS (As := [.int (nI di), .int (nI ce)]) (rest := [.ref g0]) ⟨hx, hb, hml, hown, hts⟩ (c_X1_spot l dC dI H.size di ce) (va_cwS 2 hts gX1_at_X1_spot rfl rfl rfl (by decide +kernel) ⟨Nat.le_of_ble_eq_true rfl, Nat.le_of_ble_eq_true rfl⟩) ⟨fun a U g mk q => by obtain ⟨q0, q1, qP, qK, qD⟩ := q; exact ⟨q0, q1, qP, va_K.moved (u := U) (U := U.calling g mk a) (Vm.Alike.refl U.vm) qK, qD⟩, fun U hU hW => ⟨rfl, by rw [hU], by rw [hU]; exact hPc, va_K.moved hW.alike hKc, hDc.weaken (fun _ _ _ _ => trivial)⟩⟩ rfl rfl hl.1 rfl (lv_room (Nat.le_of_ble_eq_true rfl)) dX1_at_51 ⟨Nat.zero_le _, Nat.zero_le _⟩) hS (fun q _ h => hFc q h) hFc (fun r_7 u t H1 locs ht hvm hw hB hz1 hk1 hS => ?_)
        obtain ⟨hP1, hK1, hD1⟩ := hB
        rw [ht] at hP1
        obtain ⟨hPn, hDn⟩ := va_join (wr := [(bB, .inl (cB, 73920, .inl (fun i9 => sx (bs i9)))), (bL, .inl (cZ, 16, .inl (fun i9 => bI (lv i9)))), (bW, .inl (cZ, 1056, .inl (fun i9 => bI (wr i9)))), (bD, .inl (cB, 73920, .inl (fun i9 => sx (dm i9)))), (g0, .inr (1, [.int (nI 0), .ref bT, .int (nI tp), .ref bO, .int (nI os), .ref bL, .ref bW, .ref bB, .ref bD, .long dn, .long lf, .int (bI mf), .ref bX]))]) (w1 := []) hP hD [] [0, 1, 2, 3, 4] rfl rfl (by decide) (by decide) hk1 hFc hP1 hD1
        clear hP hD hP1 hD1 hK1 hPc hDc hKc hFc hk1 hz1 hvm ht
        generalize H1 = H at hPn hS ⊢
        have hP := hPn
        have hD := hDn
        clear hPn hDn
        replace hP : va_P (dC, dI) vwCl [(bB, .inl (cB, 73920, .inl (fun i9 => sx (bs i9)))), (bL, .inl (cZ, 16, .inl (fun i9 => bI (lv i9)))), (bW, .inl (cZ, 1056, .inl (fun i9 => bI (wr i9)))), (bD, .inl (cB, 73920, .inl (fun i9 => sx (dm i9)))), (g0, .inr (1, [.int (nI 0), .ref bT, .int (nI tp), .ref bO, .int (nI os), .ref bL, .ref bW, .ref bB, .ref bD, .long dn, .long lf, .int (bI mf), .ref bX]))] H := hP
        replace hD : va_D A [(bB, .inl (cB, 73920, .inl (fun i9 => sx (bs i9)))), (bL, .inl (cZ, 16, .inl (fun i9 => bI (lv i9)))), (bW, .inl (cZ, 1056, .inl (fun i9 => bI (wr i9)))), (bD, .inl (cB, 73920, .inl (fun i9 => sx (dm i9)))), (g0, .inr (1, [.int (nI 0), .ref bT, .int (nI tp), .ref bO, .int (nI os), .ref bL, .ref bW, .ref bB, .ref bD, .long dn, .long lf, .int (bI mf), .ref bX]))] := hD
        refine W.widen (k := 0) (n := 0) (Nat.le_refl _) (Nat.le_refl _) ?_
        obtain rfl := hw
        refine lv_iload_n hx hb dX1_at_54 rfl (lv_at hl 3 rfl) ?_
        have hPc := hP.sub (ws' := [(g0, .inr (1, [.int (nI 0), .ref bT, .int (nI tp), .ref bO, .int (nI os), .ref bL, .ref bW, .ref bB, .ref bD, .long dn, .long lf, .int (bI mf), .ref bX])), (bB, .inl (cB, 73920, .inl (fun i9 => sx (bs i9)))), (bD, .inl (cB, 73920, .inl (fun i9 => sx (dm i9))))]) [4, 0, 3] rfl
        have hDc := hD.sub (ws' := [(g0, .inr (1, [.int (nI 0), .ref bT, .int (nI tp), .ref bO, .int (nI os), .ref bL, .ref bW, .ref bB, .ref bD, .long dn, .long lf, .int (bI mf), .ref bX])), (bB, .inl (cB, 73920, .inl (fun i9 => sx (bs i9)))), (bD, .inl (cB, 73920, .inl (fun i9 => sx (dm i9))))]) [4, 0, 3] (by decide) rfl
        have hKc := hK.sub (tys' := [(cB, .byte)]) [1] rfl
        have hFc := va_free (wc := [(g0, .inr (1, [.int (nI 0), .ref bT, .int (nI tp), .ref bO, .int (nI os), .ref bL, .ref bW, .ref bB, .ref bD, .long dn, .long lf, .int (bI mf), .ref bX])), (bB, .inl (cB, 73920, .inl (fun i9 => sx (bs i9)))), (bD, .inl (cB, 73920, .inl (fun i9 => sx (dm i9))))]) hD hS hA [4, 0, 3] rfl
        refine va_calli (va_runV (As := [.int (nI (66 * di + ce)), .int (nI k)]) (rest := []) ⟨hx, hb, hml, hown, hts⟩ (c_X1_byteAt l dC dI H.size g0 bT bO bL bW bB bD bX 0 tp os dn lf mf cB bs dm (66 * di + ce) k (by omega) (by omega)) (cwV 2 hts gX1_at_X1_byteAt rfl rfl rfl (by decide +kernel) ⟨Nat.le_of_ble_eq_true rfl, Nat.le_of_ble_eq_true rfl⟩) ⟨fun a U g mk q => by obtain ⟨q0, q1, qP, qK, qD⟩ := q; exact ⟨q0, q1, qP, va_K.moved (u := U) (U := U.calling g mk a) (Vm.Alike.refl U.vm) qK, qD⟩, va_recv hKc hPc (ci := 1) (q0 := 0) rfl rfl, fun U hU hW => ⟨rfl, by rw [hU], by rw [hU]; exact hPc, va_K.moved hW.alike hKc, hDc.weaken (fun _ _ _ _ => trivial)⟩⟩ rfl rfl hl.1 rfl (lv_room (Nat.le_of_ble_eq_true rfl)) dX1_at_55 ⟨Nat.zero_le _, Nat.zero_le _⟩) hS (fun q _ h => hFc q h) hFc (fun r_8 u t H1 locs ht hvm hw hB hz1 hk1 hS => ?_)
        obtain ⟨hP1, hK1, hD1⟩ := hB
        rw [ht] at hP1
        obtain ⟨hPn, hDn⟩ := va_join (wr := [(bL, .inl (cZ, 16, .inl (fun i9 => bI (lv i9)))), (bW, .inl (cZ, 1056, .inl (fun i9 => bI (wr i9))))]) (w1 := [(g0, .inr (1, [.int (nI 0), .ref bT, .int (nI tp), .ref bO, .int (nI os), .ref bL, .ref bW, .ref bB, .ref bD, .long dn, .long lf, .int (bI mf), .ref bX])), (bB, .inl (cB, 73920, .inl (fun i9 => sx (bs i9)))), (bD, .inl (cB, 73920, .inl (fun i9 => sx (dm i9))))]) hP hD [4, 0, 3] [1, 2] rfl rfl (by decide) (by decide) hk1 hFc hP1 hD1
        clear hP hD hP1 hD1 hK1 hPc hDc hKc hFc hk1 hz1 hvm ht
        generalize H1 = H at hPn hS ⊢
        have hP := hPn
        have hD := hDn
        clear hPn hDn
        replace hP : va_P (dC, dI) vwCl [(bL, .inl (cZ, 16, .inl (fun i9 => bI (lv i9)))), (bW, .inl (cZ, 1056, .inl (fun i9 => bI (wr i9)))), (g0, .inr (1, [.int (nI 0), .ref bT, .int (nI tp), .ref bO, .int (nI os), .ref bL, .ref bW, .ref bB, .ref bD, .long dn, .long lf, .int (bI mf), .ref bX])), (bB, .inl (cB, 73920, .inl (fun i9 => sx (bs i9)))), (bD, .inl (cB, 73920, .inl (fun i9 => sx (dm i9))))] H := hP
        replace hD : va_D A [(bL, .inl (cZ, 16, .inl (fun i9 => bI (lv i9)))), (bW, .inl (cZ, 1056, .inl (fun i9 => bI (wr i9)))), (g0, .inr (1, [.int (nI 0), .ref bT, .int (nI tp), .ref bO, .int (nI os), .ref bL, .ref bW, .ref bB, .ref bD, .long dn, .long lf, .int (bI mf), .ref bX])), (bB, .inl (cB, 73920, .inl (fun i9 => sx (bs i9)))), (bD, .inl (cB, 73920, .inl (fun i9 => sx (dm i9))))] := hD
        refine W.widen (k := 0) (n := 0) (Nat.le_refl _) (Nat.le_refl _) ?_
        obtain rfl := hw
        have hP9 := hP.sub (ws' := [(g0, .inr (1, [.int (nI 0), .ref bT, .int (nI tp), .ref bO, .int (nI os), .ref bL, .ref bW, .ref bB, .ref bD, .long dn, .long lf, .int (bI mf), .ref bX])), (bL, .inl (cZ, 16, .inl (fun i9 => bI (lv i9)))), (bW, .inl (cZ, 1056, .inl (fun i9 => bI (wr i9)))), (bB, .inl (cB, 73920, .inl (fun i9 => sx (bs i9)))), (bD, .inl (cB, 73920, .inl (fun i9 => sx (dm i9))))]) [2, 0, 1, 3, 4] rfl
        have hD9 := hD.sub (ws' := [(g0, .inr (1, [.int (nI 0), .ref bT, .int (nI tp), .ref bO, .int (nI os), .ref bL, .ref bW, .ref bB, .ref bD, .long dn, .long lf, .int (bI mf), .ref bX])), (bL, .inl (cZ, 16, .inl (fun i9 => bI (lv i9)))), (bW, .inl (cZ, 1056, .inl (fun i9 => bI (wr i9)))), (bB, .inl (cB, 73920, .inl (fun i9 => sx (bs i9)))), (bD, .inl (cB, 73920, .inl (fun i9 => sx (dm i9))))]) [2, 0, 1, 3, 4] (by decide) rfl
        exact W.iret (v := nI (bA bs dm (66 * di + ce) k)) hx hb hr (fun t ht hW => ⟨⟨nI (bA bs dm (66 * di + ce) k), 0, rfl, Or.inr (Or.inr ⟨di, ce, k, hdi, hce9, hk70, rfl, rfl, rfl, c21, rfl, rfl⟩), by rw [ht]; exact hP9, va_K.moved hW.alike hK, hD9⟩, hS.F ht⟩) hS.2.2 dX1_at_58
      · refine lv_iconst (v := nI 1) hx hb dX1_at_34 (by decide) ?_
        refine lv_goto (tgt := 39) hx hb dX1_at_35 (by decide) ?_
        refine zr_topi (bI true) (rfl) ?_
        refine lv_iconst (v := nI 2) hx hb dX1_at_39 (by decide) ?_
        have hPc := hP.sub (ws' := [(g0, .inr (1, [.int (nI 0), .ref bT, .int (nI tp), .ref bO, .int (nI os), .ref bL, .ref bW, .ref bB, .ref bD, .long dn, .long lf, .int (bI mf), .ref bX]))]) [1] rfl
        have hDc := hD.sub (ws' := [(g0, .inr (1, [.int (nI 0), .ref bT, .int (nI tp), .ref bO, .int (nI os), .ref bL, .ref bW, .ref bB, .ref bD, .long dn, .long lf, .int (bI mf), .ref bX]))]) [1] (by decide) rfl
        have hKc := hK.sub (tys' := []) [] rfl
        have hFc := va_free (wc := [(g0, .inr (1, [.int (nI 0), .ref bT, .int (nI tp), .ref bO, .int (nI os), .ref bL, .ref bW, .ref bB, .ref bD, .long dn, .long lf, .int (bI mf), .ref bX]))]) hD hS hA [1] rfl
        refine va_calli (va_runV (As := [.int (bI true), .int (nI 2)]) (rest := []) ⟨hx, hb, hml, hown, hts⟩ (c_X1_fails l dC dI H.size g0 bT bO bL bW bB bD bX 0 tp os dn lf mf true 2) (cwV 2 hts gX1_at_X1_fails rfl rfl rfl (by decide +kernel) ⟨Nat.le_of_ble_eq_true rfl, Nat.le_of_ble_eq_true rfl⟩) ⟨fun a U g mk q => by obtain ⟨q0, q1, qP, qK, qD⟩ := q; exact ⟨q0, q1, qP, va_K.moved (u := U) (U := U.calling g mk a) (Vm.Alike.refl U.vm) qK, qD⟩, va_recv hKc hPc (ci := 1) (q0 := 0) rfl rfl, fun U hU hW => ⟨rfl, by rw [hU], by rw [hU]; exact hPc, va_K.moved hW.alike hKc, hDc.weaken (fun _ _ _ _ => trivial)⟩⟩ rfl rfl hl.1 rfl (lv_room (Nat.le_of_ble_eq_true rfl)) dX1_at_40 ⟨Nat.zero_le _, Nat.zero_le _⟩) hS (fun q _ h => hFc q h) hFc (fun r_9 u t H1 locs ht hvm hw hB hz1 hk1 hS => ?_)
        obtain ⟨hP1, hK1, hD1⟩ := hB
        rw [ht] at hP1
        obtain ⟨hPn, hDn⟩ := va_join (wr := [(bB, .inl (cB, 73920, .inl (fun i9 => sx (bs i9)))), (bL, .inl (cZ, 16, .inl (fun i9 => bI (lv i9)))), (bW, .inl (cZ, 1056, .inl (fun i9 => bI (wr i9)))), (bD, .inl (cB, 73920, .inl (fun i9 => sx (dm i9))))]) (w1 := [(g0, .inr (1, [.int (nI (cond true 2 0)), .ref bT, .int (nI tp), .ref bO, .int (nI os), .ref bL, .ref bW, .ref bB, .ref bD, .long dn, .long lf, .int (bI mf), .ref bX]))]) hP hD [1] [0, 2, 3, 4] rfl rfl (by decide) (by decide) hk1 hFc hP1 hD1
        clear hP hD hP1 hD1 hK1 hPc hDc hKc hFc hk1 hz1 hvm ht
        generalize H1 = H at hPn hS ⊢
        have hP := hPn
        have hD := hDn
        clear hPn hDn
        replace hP : va_P (dC, dI) vwCl [(bB, .inl (cB, 73920, .inl (fun i9 => sx (bs i9)))), (bL, .inl (cZ, 16, .inl (fun i9 => bI (lv i9)))), (bW, .inl (cZ, 1056, .inl (fun i9 => bI (wr i9)))), (bD, .inl (cB, 73920, .inl (fun i9 => sx (dm i9)))), (g0, .inr (1, [.int (nI (cond true 2 0)), .ref bT, .int (nI tp), .ref bO, .int (nI os), .ref bL, .ref bW, .ref bB, .ref bD, .long dn, .long lf, .int (bI mf), .ref bX]))] H := hP
        replace hD : va_D A [(bB, .inl (cB, 73920, .inl (fun i9 => sx (bs i9)))), (bL, .inl (cZ, 16, .inl (fun i9 => bI (lv i9)))), (bW, .inl (cZ, 1056, .inl (fun i9 => bI (wr i9)))), (bD, .inl (cB, 73920, .inl (fun i9 => sx (dm i9)))), (g0, .inr (1, [.int (nI (cond true 2 0)), .ref bT, .int (nI tp), .ref bO, .int (nI os), .ref bL, .ref bW, .ref bB, .ref bD, .long dn, .long lf, .int (bI mf), .ref bX]))] := hD
        refine W.widen (k := 0) (n := 0) (Nat.le_refl _) (Nat.le_refl _) ?_
        obtain rfl := hw
        replace hP : va_P (dC, dI) vwCl [(bB, .inl (cB, 73920, .inl (fun i9 => sx (bs i9)))), (bL, .inl (cZ, 16, .inl (fun i9 => bI (lv i9)))), (bW, .inl (cZ, 1056, .inl (fun i9 => bI (wr i9)))), (bD, .inl (cB, 73920, .inl (fun i9 => sx (dm i9)))), (g0, .inr (1, [.int (nI 2), .ref bT, .int (nI tp), .ref bO, .int (nI os), .ref bL, .ref bW, .ref bB, .ref bD, .long dn, .long lf, .int (bI mf), .ref bX]))] H := hP
        replace hD : va_D A [(bB, .inl (cB, 73920, .inl (fun i9 => sx (bs i9)))), (bL, .inl (cZ, 16, .inl (fun i9 => bI (lv i9)))), (bW, .inl (cZ, 1056, .inl (fun i9 => bI (wr i9)))), (bD, .inl (cB, 73920, .inl (fun i9 => sx (dm i9)))), (g0, .inr (1, [.int (nI 2), .ref bT, .int (nI tp), .ref bO, .int (nI os), .ref bL, .ref bW, .ref bB, .ref bD, .long dn, .long lf, .int (bI mf), .ref bX]))] := hD
        refine zr_ifb_eq (tgt := 48) hx hb dX1_at_43 (by decide) (fun c43 => absurd c43 (by decide)) (fun c43 => ?_)
        refine lv_iconst (v := nI 0) hx hb dX1_at_46 (by decide) ?_
        have hP9 := hP.sub (ws' := [(g0, .inr (1, [.int (nI 2), .ref bT, .int (nI tp), .ref bO, .int (nI os), .ref bL, .ref bW, .ref bB, .ref bD, .long dn, .long lf, .int (bI mf), .ref bX])), (bL, .inl (cZ, 16, .inl (fun i9 => bI (lv i9)))), (bW, .inl (cZ, 1056, .inl (fun i9 => bI (wr i9)))), (bB, .inl (cB, 73920, .inl (fun i9 => sx (bs i9)))), (bD, .inl (cB, 73920, .inl (fun i9 => sx (dm i9))))]) [4, 1, 2, 0, 3] rfl
        have hD9 := hD.sub (ws' := [(g0, .inr (1, [.int (nI 2), .ref bT, .int (nI tp), .ref bO, .int (nI os), .ref bL, .ref bW, .ref bB, .ref bD, .long dn, .long lf, .int (bI mf), .ref bX])), (bL, .inl (cZ, 16, .inl (fun i9 => bI (lv i9)))), (bW, .inl (cZ, 1056, .inl (fun i9 => bI (wr i9)))), (bB, .inl (cB, 73920, .inl (fun i9 => sx (bs i9)))), (bD, .inl (cB, 73920, .inl (fun i9 => sx (dm i9))))]) [4, 1, 2, 0, 3] (by decide) rfl
        exact W.iret (v := nI 0) hx hb hr (fun t ht hW => ⟨⟨nI 0, 2, rfl, Or.inr (Or.inl ⟨di, ce, hdi, hce9, rfl, rfl, by first | exact Or.inl c21 | exact Or.inr c31, rfl⟩), by rw [ht]; exact hP9, va_K.moved hW.alike hK, hD9⟩, hS.F ht⟩) hS.2.2 dX1_at_47
set_option maxHeartbeats 4000000 in
set_option maxRecDepth 100000 in
theorem lp_X1_read {p : Program} {l : Launch} {e : Env} {R : Room} {s : State} {m : MethodId} {args : Array Value} {below : List Frame} {meth : Method} {c : Code} {cells slots : Nat} {Q : State → Prop} {A : Nat → Prop} {H0 : Heap} {dC : Nat → ClassId} {dI : Nat → Nat → Nat} (g0 bT bO bL bW bB bD bX : Nat) (th tp os : Nat) (dn lf : Int64) (mf : Bool) (cI cZ cB : ClassId) (lv wr : Nat → Bool) (bs dm : Nat → BitVec 8) (mo : Nat → Nat) (di ce : Nat) (hdi : di < 16) (hce9 : ce < 66) (hx : p.tables.exec = Jvm.exec) (hb : c.code = cX1_read) (hml : c.maxLocals = 4) (hown : s.vm.findClass RX1 = some m.cls) (hts : ∀ w ∈ wsX1_read, w.before args s = true) (hA : ∀ q : Nat, H0.size ≤ q → A q) (hK : va_K (dC, dI) vwCl [(cI, .int), (cZ, .boolean), (cB, .byte)] s) (hRf : 1 ≤ R.frames) (hRl : 22 ≤ R.locals) (hRc : cells ≤ R.cells) (hRs : slots ≤ R.slots) (kk : ∀  (H : Heap) (locs : List Loc) (ls : Array Slot), va_P (dC, dI) vwCl [(g0, .inr (1, [.int (nI th), .ref bT, .int (nI tp), .ref bO, .int (nI os), .ref bL, .ref bW, .ref bB, .ref bD, .long dn, .long lf, .int (bI mf), .ref bX])), (bL, .inl (cZ, 16, .inl (fun i9 => bI (lv i9)))), (bW, .inl (cZ, 1056, .inl (fun i9 => bI (wr i9)))), (bB, .inl (cB, 73920, .inl (fun i9 => sx (bs i9)))), (bD, .inl (cB, 73920, .inl (fun i9 => sx (dm i9)))), (bO, .inl (cI, 64, .inl (fun i9 => nI ((rdF mo bs dm (66 * di + ce) 64) i9))))] H → va_D A [(g0, .inr (1, [.int (nI th), .ref bT, .int (nI tp), .ref bO, .int (nI os), .ref bL, .ref bW, .ref bB, .ref bD, .long dn, .long lf, .int (bI mf), .ref bX])), (bL, .inl (cZ, 16, .inl (fun i9 => bI (lv i9)))), (bW, .inl (cZ, 1056, .inl (fun i9 => bI (wr i9)))), (bB, .inl (cB, 73920, .inl (fun i9 => sx (bs i9)))), (bD, .inl (cB, 73920, .inl (fun i9 => sx (dm i9)))), (bO, .inl (cI, 64, .inl (fun i9 => nI ((rdF mo bs dm (66 * di + ce) 64) i9))))] → va_S A H0 H locs → lv_has ls 4 [(0, .ref g0)] → W p l e R s m args below meth c H locs cells slots Q (F0 m 62 ls [])) : ∀ (n : Nat) (k : Nat), 64 + 1 ≤ k + n → k ≤ 64 → ∀ (H : Heap) (locs : List Loc) (ls : Array Slot), va_P (dC, dI) vwCl [(g0, .inr (1, [.int (nI th), .ref bT, .int (nI tp), .ref bO, .int (nI os), .ref bL, .ref bW, .ref bB, .ref bD, .long dn, .long lf, .int (bI mf), .ref bX])), (bL, .inl (cZ, 16, .inl (fun i9 => bI (lv i9)))), (bW, .inl (cZ, 1056, .inl (fun i9 => bI (wr i9)))), (bB, .inl (cB, 73920, .inl (fun i9 => sx (bs i9)))), (bD, .inl (cB, 73920, .inl (fun i9 => sx (dm i9)))), (bO, .inl (cI, 64, .inl (fun i9 => nI ((rdF mo bs dm (66 * di + ce) k) i9))))] H → va_D A [(g0, .inr (1, [.int (nI th), .ref bT, .int (nI tp), .ref bO, .int (nI os), .ref bL, .ref bW, .ref bB, .ref bD, .long dn, .long lf, .int (bI mf), .ref bX])), (bL, .inl (cZ, 16, .inl (fun i9 => bI (lv i9)))), (bW, .inl (cZ, 1056, .inl (fun i9 => bI (wr i9)))), (bB, .inl (cB, 73920, .inl (fun i9 => sx (bs i9)))), (bD, .inl (cB, 73920, .inl (fun i9 => sx (dm i9)))), (bO, .inl (cI, 64, .inl (fun i9 => nI ((rdF mo bs dm (66 * di + ce) k) i9))))] → va_S A H0 H locs → lv_has ls 4 [(0, .ref g0), (1, .int (nI di)), (2, .int (nI ce)), (3, .int (nI k))] → W p l e R s m args below meth c H locs cells slots Q (F0 m 34 ls []) := by
  have hi1 : ∀ w ∈ u_ws RX1 TX1 13, w ∈ wsX1_read := by decide +kernel
  intro n
  induction n with
  | zero => intro k  hm hi; exact absurd hm (by omega)
  | succ n ih =>
    intro k  hm hi H locs ls hP hD hS hl
    refine lv_iload_n hx hb dX1_read_34 rfl (lv_at hl 3 rfl) ?_
    refine lv_bipush (v := nI 64) hx hb dX1_read_35 (by decide) ?_
    refine zr_icmp_ge (tgt := 62) hx hb (by omega) (by omega) dX1_read_37 (by decide) (fun c37 => ?_) (fun c37 => ?_)
    · obtain rfl : 64 = k := by omega
      exact kk  H locs ls (hP.sub [0, 1, 2, 3, 4, 5] rfl) (hD.sub [0, 1, 2, 3, 4, 5] (by decide) rfl) hS (lv_sub hl [0] rfl)
    · refine lv_aload_n hx hb dX1_read_40 rfl (lv_at hl 0 rfl) ?_
      refine va_get (D := (dC, dI)) (ci := 1) (v := .ref bO) (C := RX1) (T := TX1) (N := 13) hx hb hts hi1 hown hK hP 0 rfl rfl 3 (by decide) (hts (.fieldLink RX1 13 "CellRackModel" "out" "[I") (by decide +kernel)) (fun _ h9 => h9) rfl dX1_read_41 ?_
      refine lv_iload_n hx hb dX1_read_44 rfl (lv_at hl 3 rfl) ?_
      refine lv_aload_n hx hb dX1_read_45 rfl (lv_at hl 0 rfl) ?_
      refine lv_iload_n hx hb dX1_read_46 rfl (lv_at hl 1 rfl) ?_
      refine lv_iload_n hx hb dX1_read_47 rfl (lv_at hl 2 rfl) ?_
      have hPc := hP.sub (ws' := []) [] rfl
      have hDc := hD.sub (ws' := []) [] (by decide) rfl
      have hKc := hK.sub (tys' := []) [] rfl
      have hFc := va_free (wc := []) hD hS hA [] rfl
      refine va_calli (va_runS (As := [.int (nI di), .int (nI ce)]) (rest := [.ref g0, .int (nI k), .ref bO]) ⟨hx, hb, hml, hown, hts⟩ (c_X1_spot l dC dI H.size di ce) (va_cwS 2 hts gX1_read_X1_spot rfl rfl rfl (by decide +kernel) ⟨Nat.le_trans (by decide) hRf, Nat.le_trans (by decide) hRl⟩) ⟨fun a U g mk q => by obtain ⟨q0, q1, qP, qK, qD⟩ := q; exact ⟨q0, q1, qP, va_K.moved (u := U) (U := U.calling g mk a) (Vm.Alike.refl U.vm) qK, qD⟩, fun U hU hW => ⟨rfl, by rw [hU], by rw [hU]; exact hPc, va_K.moved hW.alike hKc, hDc.weaken (fun _ _ _ _ => trivial)⟩⟩ rfl rfl hl.1 rfl (lv_room (Nat.le_of_ble_eq_true rfl)) dX1_read_48 ⟨hRc, hRs⟩) hS (fun q _ h => hFc q h) hFc (fun r_1 u t H1 locs ht hvm hw hB hz1 hk1 hS => ?_)
      obtain ⟨hP1, hK1, hD1⟩ := hB
      rw [ht] at hP1
      obtain ⟨hPn, hDn⟩ := va_join (wr := [(g0, .inr (1, [.int (nI th), .ref bT, .int (nI tp), .ref bO, .int (nI os), .ref bL, .ref bW, .ref bB, .ref bD, .long dn, .long lf, .int (bI mf), .ref bX])), (bL, .inl (cZ, 16, .inl (fun i9 => bI (lv i9)))), (bW, .inl (cZ, 1056, .inl (fun i9 => bI (wr i9)))), (bB, .inl (cB, 73920, .inl (fun i9 => sx (bs i9)))), (bD, .inl (cB, 73920, .inl (fun i9 => sx (dm i9)))), (bO, .inl (cI, 64, .inl (fun i9 => nI ((rdF mo bs dm (66 * di + ce) k) i9))))]) (w1 := []) hP hD [] [0, 1, 2, 3, 4, 5] rfl rfl (by decide) (by decide) hk1 hFc hP1 hD1
      clear hP hD hP1 hD1 hK1 hPc hDc hKc hFc hk1 hz1 hvm ht
      generalize H1 = H at hPn hS ⊢
      have hP := hPn
      have hD := hDn
      clear hPn hDn
      replace hP : va_P (dC, dI) vwCl [(g0, .inr (1, [.int (nI th), .ref bT, .int (nI tp), .ref bO, .int (nI os), .ref bL, .ref bW, .ref bB, .ref bD, .long dn, .long lf, .int (bI mf), .ref bX])), (bL, .inl (cZ, 16, .inl (fun i9 => bI (lv i9)))), (bW, .inl (cZ, 1056, .inl (fun i9 => bI (wr i9)))), (bB, .inl (cB, 73920, .inl (fun i9 => sx (bs i9)))), (bD, .inl (cB, 73920, .inl (fun i9 => sx (dm i9)))), (bO, .inl (cI, 64, .inl (fun i9 => nI ((rdF mo bs dm (66 * di + ce) k) i9))))] H := hP
      replace hD : va_D A [(g0, .inr (1, [.int (nI th), .ref bT, .int (nI tp), .ref bO, .int (nI os), .ref bL, .ref bW, .ref bB, .ref bD, .long dn, .long lf, .int (bI mf), .ref bX])), (bL, .inl (cZ, 16, .inl (fun i9 => bI (lv i9)))), (bW, .inl (cZ, 1056, .inl (fun i9 => bI (wr i9)))), (bB, .inl (cB, 73920, .inl (fun i9 => sx (bs i9)))), (bD, .inl (cB, 73920, .inl (fun i9 => sx (dm i9)))), (bO, .inl (cI, 64, .inl (fun i9 => nI ((rdF mo bs dm (66 * di + ce) k) i9))))] := hD
      refine W.widen (k := cells) (n := slots) (Nat.le_refl _) (Nat.le_refl _) ?_
      obtain rfl := hw
      refine lv_iload_n hx hb dX1_read_51 rfl (lv_at hl 3 rfl) ?_
      have hPc := hP.sub (ws' := [(g0, .inr (1, [.int (nI th), .ref bT, .int (nI tp), .ref bO, .int (nI os), .ref bL, .ref bW, .ref bB, .ref bD, .long dn, .long lf, .int (bI mf), .ref bX])), (bB, .inl (cB, 73920, .inl (fun i9 => sx (bs i9)))), (bD, .inl (cB, 73920, .inl (fun i9 => sx (dm i9))))]) [0, 3, 4] rfl
      have hDc := hD.sub (ws' := [(g0, .inr (1, [.int (nI th), .ref bT, .int (nI tp), .ref bO, .int (nI os), .ref bL, .ref bW, .ref bB, .ref bD, .long dn, .long lf, .int (bI mf), .ref bX])), (bB, .inl (cB, 73920, .inl (fun i9 => sx (bs i9)))), (bD, .inl (cB, 73920, .inl (fun i9 => sx (dm i9))))]) [0, 3, 4] (by decide) rfl
      have hKc := hK.sub (tys' := [(cB, .byte)]) [2] rfl
      have hFc := va_free (wc := [(g0, .inr (1, [.int (nI th), .ref bT, .int (nI tp), .ref bO, .int (nI os), .ref bL, .ref bW, .ref bB, .ref bD, .long dn, .long lf, .int (bI mf), .ref bX])), (bB, .inl (cB, 73920, .inl (fun i9 => sx (bs i9)))), (bD, .inl (cB, 73920, .inl (fun i9 => sx (dm i9))))]) hD hS hA [0, 3, 4] rfl
      refine va_calli (va_runV (As := [.int (nI (66 * di + ce)), .int (nI k)]) (rest := [.int (nI k), .ref bO]) ⟨hx, hb, hml, hown, hts⟩ (c_X1_byteAt l dC dI H.size g0 bT bO bL bW bB bD bX th tp os dn lf mf cB bs dm (66 * di + ce) k (by omega) (by omega)) (cwV 2 hts gX1_read_X1_byteAt rfl rfl rfl (by decide +kernel) ⟨Nat.le_trans (by decide) hRf, Nat.le_trans (by decide) hRl⟩) ⟨fun a U g mk q => by obtain ⟨q0, q1, qP, qK, qD⟩ := q; exact ⟨q0, q1, qP, va_K.moved (u := U) (U := U.calling g mk a) (Vm.Alike.refl U.vm) qK, qD⟩, va_recv hKc hPc (ci := 1) (q0 := 0) rfl rfl, fun U hU hW => ⟨rfl, by rw [hU], by rw [hU]; exact hPc, va_K.moved hW.alike hKc, hDc.weaken (fun _ _ _ _ => trivial)⟩⟩ rfl rfl hl.1 rfl (lv_room (Nat.le_of_ble_eq_true rfl)) dX1_read_52 ⟨hRc, hRs⟩) hS (fun q _ h => hFc q h) hFc (fun r_2 u t H1 locs ht hvm hw hB hz1 hk1 hS => ?_)
      obtain ⟨hP1, hK1, hD1⟩ := hB
      rw [ht] at hP1
      obtain ⟨hPn, hDn⟩ := va_join (wr := [(bL, .inl (cZ, 16, .inl (fun i9 => bI (lv i9)))), (bW, .inl (cZ, 1056, .inl (fun i9 => bI (wr i9)))), (bO, .inl (cI, 64, .inl (fun i9 => nI ((rdF mo bs dm (66 * di + ce) k) i9))))]) (w1 := [(g0, .inr (1, [.int (nI th), .ref bT, .int (nI tp), .ref bO, .int (nI os), .ref bL, .ref bW, .ref bB, .ref bD, .long dn, .long lf, .int (bI mf), .ref bX])), (bB, .inl (cB, 73920, .inl (fun i9 => sx (bs i9)))), (bD, .inl (cB, 73920, .inl (fun i9 => sx (dm i9))))]) hP hD [0, 3, 4] [1, 2, 5] rfl rfl (by decide) (by decide) hk1 hFc hP1 hD1
      clear hP hD hP1 hD1 hK1 hPc hDc hKc hFc hk1 hz1 hvm ht
      generalize H1 = H at hPn hS ⊢
      have hP := hPn
      have hD := hDn
      clear hPn hDn
      replace hP : va_P (dC, dI) vwCl [(bL, .inl (cZ, 16, .inl (fun i9 => bI (lv i9)))), (bW, .inl (cZ, 1056, .inl (fun i9 => bI (wr i9)))), (bO, .inl (cI, 64, .inl (fun i9 => nI ((rdF mo bs dm (66 * di + ce) k) i9)))), (g0, .inr (1, [.int (nI th), .ref bT, .int (nI tp), .ref bO, .int (nI os), .ref bL, .ref bW, .ref bB, .ref bD, .long dn, .long lf, .int (bI mf), .ref bX])), (bB, .inl (cB, 73920, .inl (fun i9 => sx (bs i9)))), (bD, .inl (cB, 73920, .inl (fun i9 => sx (dm i9))))] H := hP
      replace hD : va_D A [(bL, .inl (cZ, 16, .inl (fun i9 => bI (lv i9)))), (bW, .inl (cZ, 1056, .inl (fun i9 => bI (wr i9)))), (bO, .inl (cI, 64, .inl (fun i9 => nI ((rdF mo bs dm (66 * di + ce) k) i9)))), (g0, .inr (1, [.int (nI th), .ref bT, .int (nI tp), .ref bO, .int (nI os), .ref bL, .ref bW, .ref bB, .ref bD, .long dn, .long lf, .int (bI mf), .ref bX])), (bB, .inl (cB, 73920, .inl (fun i9 => sx (bs i9)))), (bD, .inl (cB, 73920, .inl (fun i9 => sx (dm i9))))] := hD
      refine W.widen (k := cells) (n := slots) (Nat.le_refl _) (Nat.le_refl _) ?_
      obtain rfl := hw
      refine zr_nast hx hb hK hP hD hS 2 0 rfl rfl (by omega) (by omega) dX1_read_55 (fun H locs hP hD hS => ?_)
      replace hP : va_P (dC, dI) vwCl [(bL, .inl (cZ, 16, .inl (fun i9 => bI (lv i9)))), (bW, .inl (cZ, 1056, .inl (fun i9 => bI (wr i9)))), (bO, .inl (cI, 64, .inl (fun i9 => nI ((va_up (rdF mo bs dm (66 * di + ce) k) k (bA bs dm (66 * di + ce) k)) i9)))), (g0, .inr (1, [.int (nI th), .ref bT, .int (nI tp), .ref bO, .int (nI os), .ref bL, .ref bW, .ref bB, .ref bD, .long dn, .long lf, .int (bI mf), .ref bX])), (bB, .inl (cB, 73920, .inl (fun i9 => sx (bs i9)))), (bD, .inl (cB, 73920, .inl (fun i9 => sx (dm i9))))] H := hP
      replace hD : va_D A [(bL, .inl (cZ, 16, .inl (fun i9 => bI (lv i9)))), (bW, .inl (cZ, 1056, .inl (fun i9 => bI (wr i9)))), (bO, .inl (cI, 64, .inl (fun i9 => nI ((va_up (rdF mo bs dm (66 * di + ce) k) k (bA bs dm (66 * di + ce) k)) i9)))), (g0, .inr (1, [.int (nI th), .ref bT, .int (nI tp), .ref bO, .int (nI os), .ref bL, .ref bW, .ref bB, .ref bD, .long dn, .long lf, .int (bI mf), .ref bX])), (bB, .inl (cB, 73920, .inl (fun i9 => sx (bs i9)))), (bD, .inl (cB, 73920, .inl (fun i9 => sx (dm i9))))] := hD
      refine lv_iinc (v := nI (k + 1)) (lv' := [(3, .int (nI (k + 1))), (0, .ref g0), (1, .int (nI di)), (2, .int (nI ce))]) hx hb dX1_read_56 hl (k := 3) rfl (nI_add (k) 1) (by decide) rfl (fun ls hl => ?_)
      refine lv_goto (tgt := 34) hx hb dX1_read_59 (by decide) ?_
      exact ih (k + 1) (by omega) (by omega) H locs ls (hP.sub [3, 0, 1, 4, 5, 2] rfl) (hD.sub [3, 0, 1, 4, 5, 2] (by decide) rfl) hS (lv_sub hl [1, 2, 3, 0] rfl)
set_option maxHeartbeats 4000000 in
set_option maxRecDepth 100000 in
theorem c_X1_read (l : Launch) (dC : Nat → ClassId) (dI : Nat → Nat → Nat) (sz : Nat) (g0 bT bO bL bW bB bD bX : Nat) (th tp os : Nat) (dn lf : Int64) (mf : Bool) (cI cZ cB : ClassId) (lv wr : Nat → Bool) (bs dm : Nat → BitVec 8) (mo : Nat → Nat) (x y : Int32) : Met l yX1_read wsX1_read ({ frames := 2, cells := 0, slots := 0, locals := 45 }) (va_Pc [.ref g0, .int x, .int y] (fun U => U.heap.size = sz ∧ va_P (dC, dI) vwCl [(g0, .inr (1, [.int (nI th), .ref bT, .int (nI tp), .ref bO, .int (nI os), .ref bL, .ref bW, .ref bB, .ref bD, .long dn, .long lf, .int (bI mf), .ref bX])), (bL, .inl (cZ, 16, .inl (fun i9 => bI (lv i9)))), (bW, .inl (cZ, 1056, .inl (fun i9 => bI (wr i9)))), (bB, .inl (cB, 73920, .inl (fun i9 => sx (bs i9)))), (bD, .inl (cB, 73920, .inl (fun i9 => sx (dm i9)))), (bO, .inl (cI, 64, .inl (fun i9 => nI (mo i9))))] U.heap ∧ va_K (dC, dI) vwCl [(cI, .int), (cZ, .boolean), (cB, .byte)] U ∧ va_D (fun _ => True) [(g0, .inr (1, [.int (nI th), .ref bT, .int (nI tp), .ref bO, .int (nI os), .ref bL, .ref bW, .ref bB, .ref bD, .long dn, .long lf, .int (bI mf), .ref bX])), (bL, .inl (cZ, 16, .inl (fun i9 => bI (lv i9)))), (bW, .inl (cZ, 1056, .inl (fun i9 => bI (wr i9)))), (bB, .inl (cB, 73920, .inl (fun i9 => sx (bs i9)))), (bD, .inl (cB, 73920, .inl (fun i9 => sx (dm i9)))), (bO, .inl (cI, 64, .inl (fun i9 => nI (mo i9))))])) (va_Qi (fun (r : Int32) (u : Nat × Nat × (Nat → Nat)) => match u with | (h2, s2, o2) => ((okI x 16 && okI y 66) = false ∧ r = bI false ∧ h2 = 1 ∧ o2 = mo ∧ s2 = os) ∨ (∃ di ce : Nat, di < 16 ∧ ce < 66 ∧ x = nI di ∧ y = nI ce ∧ h2 = 0 ∧ ((stN lv wr dm di ce = 2 ∧ r = bI true ∧ o2 = rdF mo bs dm (66 * di + ce) 64 ∧ s2 = 64) ∨ (¬ stN lv wr dm di ce = 2 ∧ r = bI false ∧ o2 = mo ∧ s2 = 0)))) (fun (u : Nat × Nat × (Nat → Nat)) t => match u with | (h2, s2, o2) => va_P (dC, dI) vwCl [(g0, .inr (1, [.int (nI h2), .ref bT, .int (nI tp), .ref bO, .int (nI s2), .ref bL, .ref bW, .ref bB, .ref bD, .long dn, .long lf, .int (bI mf), .ref bX])), (bL, .inl (cZ, 16, .inl (fun i9 => bI (lv i9)))), (bW, .inl (cZ, 1056, .inl (fun i9 => bI (wr i9)))), (bB, .inl (cB, 73920, .inl (fun i9 => sx (bs i9)))), (bD, .inl (cB, 73920, .inl (fun i9 => sx (dm i9)))), (bO, .inl (cI, 64, .inl (fun i9 => nI (o2 i9))))] t.heap ∧ va_K (dC, dI) vwCl [(cI, .int), (cZ, .boolean), (cB, .byte)] t ∧ va_D (va_A [(g0, .inr (1, [.int (nI th), .ref bT, .int (nI tp), .ref bO, .int (nI os), .ref bL, .ref bW, .ref bB, .ref bD, .long dn, .long lf, .int (bI mf), .ref bX])), (bL, .inl (cZ, 16, .inl (fun i9 => bI (lv i9)))), (bW, .inl (cZ, 1056, .inl (fun i9 => bI (wr i9)))), (bB, .inl (cB, 73920, .inl (fun i9 => sx (bs i9)))), (bD, .inl (cB, 73920, .inl (fun i9 => sx (dm i9)))), (bO, .inl (cI, 64, .inl (fun i9 => nI (mo i9))))] sz) [(g0, .inr (1, [.int (nI h2), .ref bT, .int (nI tp), .ref bO, .int (nI s2), .ref bL, .ref bW, .ref bB, .ref bD, .long dn, .long lf, .int (bI mf), .ref bX])), (bL, .inl (cZ, 16, .inl (fun i9 => bI (lv i9)))), (bW, .inl (cZ, 1056, .inl (fun i9 => bI (wr i9)))), (bB, .inl (cB, 73920, .inl (fun i9 => sx (bs i9)))), (bD, .inl (cB, 73920, .inl (fun i9 => sx (dm i9)))), (bO, .inl (cI, 64, .inl (fun i9 => nI (o2 i9))))]) (va_A [(g0, .inr (1, [.int (nI th), .ref bT, .int (nI tp), .ref bO, .int (nI os), .ref bL, .ref bW, .ref bB, .ref bD, .long dn, .long lf, .int (bI mf), .ref bX])), (bL, .inl (cZ, 16, .inl (fun i9 => bI (lv i9)))), (bW, .inl (cZ, 1056, .inl (fun i9 => bI (wr i9)))), (bB, .inl (cB, 73920, .inl (fun i9 => sx (bs i9)))), (bD, .inl (cB, 73920, .inl (fun i9 => sx (dm i9)))), (bO, .inl (cI, 64, .inl (fun i9 => nI (mo i9))))] sz)) 0 0 (va_A [(g0, .inr (1, [.int (nI th), .ref bT, .int (nI tp), .ref bO, .int (nI os), .ref bL, .ref bW, .ref bB, .ref bD, .long dn, .long lf, .int (bI mf), .ref bX])), (bL, .inl (cZ, 16, .inl (fun i9 => bI (lv i9)))), (bW, .inl (cZ, 1056, .inl (fun i9 => bI (wr i9)))), (bB, .inl (cB, 73920, .inl (fun i9 => sx (bs i9)))), (bD, .inl (cB, 73920, .inl (fun i9 => sx (dm i9)))), (bO, .inl (cI, 64, .inl (fun i9 => nI (mo i9))))] sz) := by
  refine Met.ofW (cc := cX1_read) (maxL := 4) (ret := some .boolean) (by decide) rfl ?_
  intro p e s m args below meth c s₁ B hml hv
  obtain ⟨rfl, hsz, hP, hK, hD0⟩ := hv
  have hx := B.exec
  have hb := B.bytes
  have hr := B.returns
  have hts := atoms_spec (ws := wsX1_read) B.pre
  have hown : s.vm.findClass RX1 = some m.cls := findClass_of_methodNamed B.named
  have hlocks := B.notSynchronized
  subst hsz
  have hD := hD0.self (sz := s.heap.size)
  generalize hAe : va_A [(g0, .inr (1, [.int (nI th), .ref bT, .int (nI tp), .ref bO, .int (nI os), .ref bL, .ref bW, .ref bB, .ref bD, .long dn, .long lf, .int (bI mf), .ref bX])), (bL, .inl (cZ, 16, .inl (fun i9 => bI (lv i9)))), (bW, .inl (cZ, 1056, .inl (fun i9 => bI (wr i9)))), (bB, .inl (cB, 73920, .inl (fun i9 => sx (bs i9)))), (bD, .inl (cB, 73920, .inl (fun i9 => sx (dm i9)))), (bO, .inl (cI, 64, .inl (fun i9 => nI (mo i9))))] s.heap.size = A at hD ⊢
  have hA : ∀ q : Nat, s.heap.size ≤ q → A q := fun q h => by rw [← hAe]; exact Or.inr h
  generalize hH : s.heap = H at hP ⊢
  have hS : va_S A s.heap H [] := by rw [hH]; exact va_S.rf
  replace hP : va_P (dC, dI) vwCl [(g0, .inr (1, [.int (nI th), .ref bT, .int (nI tp), .ref bO, .int (nI os), .ref bL, .ref bW, .ref bB, .ref bD, .long dn, .long lf, .int (bI mf), .ref bX])), (bL, .inl (cZ, 16, .inl (fun i9 => bI (lv i9)))), (bW, .inl (cZ, 1056, .inl (fun i9 => bI (wr i9)))), (bB, .inl (cB, 73920, .inl (fun i9 => sx (bs i9)))), (bD, .inl (cB, 73920, .inl (fun i9 => sx (dm i9)))), (bO, .inl (cI, 64, .inl (fun i9 => nI (mo i9))))] H := hP
  have hl := lv_entry ([.ref g0, .int x, .int y]) (n := 4) (Nat.le_of_ble_eq_true rfl)
  rw [lg_entry_eq]
  generalize (lg_sl ([.ref g0, .int x, .int y]) ++ List.replicate (4 - (lg_sl ([.ref g0, .int x, .int y])).length) Slot.unset).toArray = ls at hl ⊢
  have hl : lv_has ls 4 [(0, .ref g0), (1, .int x), (2, .int y)] := hl
  have hi1 : ∀ w ∈ u_ws RX1 TX1 13, w ∈ wsX1_read := by decide +kernel
  refine lv_aload_n hx hb dX1_read_0 rfl (lv_at hl 0 rfl) ?_
  refine lv_iload_n hx hb dX1_read_1 rfl (lv_at hl 1 rfl) ?_
  refine lv_iload_n hx hb dX1_read_2 rfl (lv_at hl 2 rfl) ?_
  have hPc := hP.sub (ws' := []) [] rfl
  have hDc := hD.sub (ws' := []) [] (by decide) rfl
  have hKc := hK.sub (tys' := []) [] rfl
  have hFc := va_free (wc := []) hD hS hA [] rfl
  refine va_calli (va_runS (As := [.int x, .int y]) (rest := [.ref g0]) ⟨hx, hb, hml, hown, hts⟩ (c_X1_none l dC dI H.size x y) (va_cwS 2 hts gX1_read_X1_none rfl rfl rfl (by decide +kernel) ⟨Nat.le_of_ble_eq_true rfl, Nat.le_of_ble_eq_true rfl⟩) ⟨fun a U g mk q => by obtain ⟨q0, q1, qP, qK, qD⟩ := q; exact ⟨q0, q1, qP, va_K.moved (u := U) (U := U.calling g mk a) (Vm.Alike.refl U.vm) qK, qD⟩, fun U hU hW => ⟨rfl, by rw [hU], by rw [hU]; exact hPc, va_K.moved hW.alike hKc, hDc.weaken (fun _ _ _ _ => trivial)⟩⟩ rfl rfl hl.1 rfl (lv_room (Nat.le_of_ble_eq_true rfl)) dX1_read_3 ⟨Nat.zero_le _, Nat.zero_le _⟩) hS (fun q _ h => hFc q h) hFc (fun r_1 u t H1 locs ht hvm hw hB hz1 hk1 hS => ?_)
  obtain ⟨hP1, hK1, hD1⟩ := hB
  rw [ht] at hP1
  obtain ⟨hPn, hDn⟩ := va_join (wr := [(g0, .inr (1, [.int (nI th), .ref bT, .int (nI tp), .ref bO, .int (nI os), .ref bL, .ref bW, .ref bB, .ref bD, .long dn, .long lf, .int (bI mf), .ref bX])), (bL, .inl (cZ, 16, .inl (fun i9 => bI (lv i9)))), (bW, .inl (cZ, 1056, .inl (fun i9 => bI (wr i9)))), (bB, .inl (cB, 73920, .inl (fun i9 => sx (bs i9)))), (bD, .inl (cB, 73920, .inl (fun i9 => sx (dm i9)))), (bO, .inl (cI, 64, .inl (fun i9 => nI (mo i9))))]) (w1 := []) hP hD [] [0, 1, 2, 3, 4, 5] rfl rfl (by decide) (by decide) hk1 hFc hP1 hD1
  clear hP hD hP1 hD1 hK1 hPc hDc hKc hFc hk1 hz1 hvm ht
  generalize H1 = H at hPn hS ⊢
  have hP := hPn
  have hD := hDn
  clear hPn hDn
  replace hP : va_P (dC, dI) vwCl [(g0, .inr (1, [.int (nI th), .ref bT, .int (nI tp), .ref bO, .int (nI os), .ref bL, .ref bW, .ref bB, .ref bD, .long dn, .long lf, .int (bI mf), .ref bX])), (bL, .inl (cZ, 16, .inl (fun i9 => bI (lv i9)))), (bW, .inl (cZ, 1056, .inl (fun i9 => bI (wr i9)))), (bB, .inl (cB, 73920, .inl (fun i9 => sx (bs i9)))), (bD, .inl (cB, 73920, .inl (fun i9 => sx (dm i9)))), (bO, .inl (cI, 64, .inl (fun i9 => nI (mo i9))))] H := hP
  replace hD : va_D A [(g0, .inr (1, [.int (nI th), .ref bT, .int (nI tp), .ref bO, .int (nI os), .ref bL, .ref bW, .ref bB, .ref bD, .long dn, .long lf, .int (bI mf), .ref bX])), (bL, .inl (cZ, 16, .inl (fun i9 => bI (lv i9)))), (bW, .inl (cZ, 1056, .inl (fun i9 => bI (wr i9)))), (bB, .inl (cB, 73920, .inl (fun i9 => sx (bs i9)))), (bD, .inl (cB, 73920, .inl (fun i9 => sx (dm i9)))), (bO, .inl (cI, 64, .inl (fun i9 => nI (mo i9))))] := hD
  refine W.widen (k := 0) (n := 0) (Nat.le_refl _) (Nat.le_refl _) ?_
  obtain rfl := hw
  refine lv_iconst (v := nI 1) hx hb dX1_read_6 (by decide) ?_
  have hPc := hP.sub (ws' := [(g0, .inr (1, [.int (nI th), .ref bT, .int (nI tp), .ref bO, .int (nI os), .ref bL, .ref bW, .ref bB, .ref bD, .long dn, .long lf, .int (bI mf), .ref bX]))]) [0] rfl
  have hDc := hD.sub (ws' := [(g0, .inr (1, [.int (nI th), .ref bT, .int (nI tp), .ref bO, .int (nI os), .ref bL, .ref bW, .ref bB, .ref bD, .long dn, .long lf, .int (bI mf), .ref bX]))]) [0] (by decide) rfl
  have hKc := hK.sub (tys' := []) [] rfl
  have hFc := va_free (wc := [(g0, .inr (1, [.int (nI th), .ref bT, .int (nI tp), .ref bO, .int (nI os), .ref bL, .ref bW, .ref bB, .ref bD, .long dn, .long lf, .int (bI mf), .ref bX]))]) hD hS hA [0] rfl
  refine va_calli (va_runV (As := [.int (bI (!(okI x 16 && okI y 66))), .int (nI 1)]) (rest := []) ⟨hx, hb, hml, hown, hts⟩ (c_X1_fails l dC dI H.size g0 bT bO bL bW bB bD bX th tp os dn lf mf (!(okI x 16 && okI y 66)) 1) (cwV 2 hts gX1_read_X1_fails rfl rfl rfl (by decide +kernel) ⟨Nat.le_of_ble_eq_true rfl, Nat.le_of_ble_eq_true rfl⟩) ⟨fun a U g mk q => by obtain ⟨q0, q1, qP, qK, qD⟩ := q; exact ⟨q0, q1, qP, va_K.moved (u := U) (U := U.calling g mk a) (Vm.Alike.refl U.vm) qK, qD⟩, va_recv hKc hPc (ci := 1) (q0 := 0) rfl rfl, fun U hU hW => ⟨rfl, by rw [hU], by rw [hU]; exact hPc, va_K.moved hW.alike hKc, hDc.weaken (fun _ _ _ _ => trivial)⟩⟩ rfl rfl hl.1 rfl (lv_room (Nat.le_of_ble_eq_true rfl)) dX1_read_7 ⟨Nat.zero_le _, Nat.zero_le _⟩) hS (fun q _ h => hFc q h) hFc (fun r_2 u t H1 locs ht hvm hw hB hz1 hk1 hS => ?_)
  obtain ⟨hP1, hK1, hD1⟩ := hB
  rw [ht] at hP1
  obtain ⟨hPn, hDn⟩ := va_join (wr := [(bL, .inl (cZ, 16, .inl (fun i9 => bI (lv i9)))), (bW, .inl (cZ, 1056, .inl (fun i9 => bI (wr i9)))), (bB, .inl (cB, 73920, .inl (fun i9 => sx (bs i9)))), (bD, .inl (cB, 73920, .inl (fun i9 => sx (dm i9)))), (bO, .inl (cI, 64, .inl (fun i9 => nI (mo i9))))]) (w1 := [(g0, .inr (1, [.int (nI (cond (!(okI x 16 && okI y 66)) 1 0)), .ref bT, .int (nI tp), .ref bO, .int (nI os), .ref bL, .ref bW, .ref bB, .ref bD, .long dn, .long lf, .int (bI mf), .ref bX]))]) hP hD [0] [1, 2, 3, 4, 5] rfl rfl (by decide) (by decide) hk1 hFc hP1 hD1
  clear hP hD hP1 hD1 hK1 hPc hDc hKc hFc hk1 hz1 hvm ht
  generalize H1 = H at hPn hS ⊢
  have hP := hPn
  have hD := hDn
  clear hPn hDn
  replace hP : va_P (dC, dI) vwCl [(bL, .inl (cZ, 16, .inl (fun i9 => bI (lv i9)))), (bW, .inl (cZ, 1056, .inl (fun i9 => bI (wr i9)))), (bB, .inl (cB, 73920, .inl (fun i9 => sx (bs i9)))), (bD, .inl (cB, 73920, .inl (fun i9 => sx (dm i9)))), (bO, .inl (cI, 64, .inl (fun i9 => nI (mo i9)))), (g0, .inr (1, [.int (nI (cond (!(okI x 16 && okI y 66)) 1 0)), .ref bT, .int (nI tp), .ref bO, .int (nI os), .ref bL, .ref bW, .ref bB, .ref bD, .long dn, .long lf, .int (bI mf), .ref bX]))] H := hP
  replace hD : va_D A [(bL, .inl (cZ, 16, .inl (fun i9 => bI (lv i9)))), (bW, .inl (cZ, 1056, .inl (fun i9 => bI (wr i9)))), (bB, .inl (cB, 73920, .inl (fun i9 => sx (bs i9)))), (bD, .inl (cB, 73920, .inl (fun i9 => sx (dm i9)))), (bO, .inl (cI, 64, .inl (fun i9 => nI (mo i9)))), (g0, .inr (1, [.int (nI (cond (!(okI x 16 && okI y 66)) 1 0)), .ref bT, .int (nI tp), .ref bO, .int (nI os), .ref bL, .ref bW, .ref bB, .ref bD, .long dn, .long lf, .int (bI mf), .ref bX]))] := hD
  refine W.widen (k := 0) (n := 0) (Nat.le_refl _) (Nat.le_refl _) ?_
  obtain rfl := hw
  refine zr_ifb_eq (tgt := 15) hx hb dX1_read_10 (by decide) (fun c10 => ?_) (fun c10 => ?_)
  · rw [c10] at hP hD
    replace hP : va_P (dC, dI) vwCl [(bL, .inl (cZ, 16, .inl (fun i9 => bI (lv i9)))), (bW, .inl (cZ, 1056, .inl (fun i9 => bI (wr i9)))), (bB, .inl (cB, 73920, .inl (fun i9 => sx (bs i9)))), (bD, .inl (cB, 73920, .inl (fun i9 => sx (dm i9)))), (bO, .inl (cI, 64, .inl (fun i9 => nI (mo i9)))), (g0, .inr (1, [.int (nI 0), .ref bT, .int (nI tp), .ref bO, .int (nI os), .ref bL, .ref bW, .ref bB, .ref bD, .long dn, .long lf, .int (bI mf), .ref bX]))] H := hP
    replace hD : va_D A [(bL, .inl (cZ, 16, .inl (fun i9 => bI (lv i9)))), (bW, .inl (cZ, 1056, .inl (fun i9 => bI (wr i9)))), (bB, .inl (cB, 73920, .inl (fun i9 => sx (bs i9)))), (bD, .inl (cB, 73920, .inl (fun i9 => sx (dm i9)))), (bO, .inl (cI, 64, .inl (fun i9 => nI (mo i9)))), (g0, .inr (1, [.int (nI 0), .ref bT, .int (nI tp), .ref bO, .int (nI os), .ref bL, .ref bW, .ref bB, .ref bD, .long dn, .long lf, .int (bI mf), .ref bX]))] := hD
    have hcell : (okI x 16 && okI y 66) = true := by simpa using c10
    obtain ⟨di, hdi, rfl⟩ := okI_get (by decide) (Bool.and_eq_true_iff.mp hcell).1
    obtain ⟨ce, hce9, rfl⟩ := okI_get (by decide) (Bool.and_eq_true_iff.mp hcell).2
    refine lv_aload_n hx hb dX1_read_15 rfl (lv_at hl 0 rfl) ?_
    refine lv_iconst (v := nI 0) hx hb dX1_read_16 (by decide) ?_
    refine va_put (D := (dC, dI)) (ci := 1) (v := .int (nI 0)) (ty := .int) (C := RX1) (T := TX1) (N := 13) hx hb hts hi1 tyX1 tyX1_ok nmX1 hown hK hP hD hS 5 rfl rfl 4 (by decide) (hts (.fieldLink RX1 90 "CellRackModel" "outs" "I") (by decide +kernel)) (fun _ h9 => h9) rfl (by decide +kernel) (rfl) (rfl) (Nat.le_of_ble_eq_true rfl) dX1_read_17 (fun H locs hP hD hS => ?_)
    replace hP : va_P (dC, dI) vwCl [(bL, .inl (cZ, 16, .inl (fun i9 => bI (lv i9)))), (bW, .inl (cZ, 1056, .inl (fun i9 => bI (wr i9)))), (bB, .inl (cB, 73920, .inl (fun i9 => sx (bs i9)))), (bD, .inl (cB, 73920, .inl (fun i9 => sx (dm i9)))), (bO, .inl (cI, 64, .inl (fun i9 => nI (mo i9)))), (g0, .inr (1, [.int (nI 0), .ref bT, .int (nI tp), .ref bO, .int (nI 0), .ref bL, .ref bW, .ref bB, .ref bD, .long dn, .long lf, .int (bI mf), .ref bX]))] H := hP
    replace hD : va_D A [(bL, .inl (cZ, 16, .inl (fun i9 => bI (lv i9)))), (bW, .inl (cZ, 1056, .inl (fun i9 => bI (wr i9)))), (bB, .inl (cB, 73920, .inl (fun i9 => sx (bs i9)))), (bD, .inl (cB, 73920, .inl (fun i9 => sx (dm i9)))), (bO, .inl (cI, 64, .inl (fun i9 => nI (mo i9)))), (g0, .inr (1, [.int (nI 0), .ref bT, .int (nI tp), .ref bO, .int (nI 0), .ref bL, .ref bW, .ref bB, .ref bD, .long dn, .long lf, .int (bI mf), .ref bX]))] := hD
    refine lv_aload_n hx hb dX1_read_20 rfl (lv_at hl 0 rfl) ?_
    refine lv_iload_n hx hb dX1_read_21 rfl (lv_at hl 1 rfl) ?_
    refine lv_iload_n hx hb dX1_read_22 rfl (lv_at hl 2 rfl) ?_
    have hPc := hP.sub (ws' := [(g0, .inr (1, [.int (nI 0), .ref bT, .int (nI tp), .ref bO, .int (nI 0), .ref bL, .ref bW, .ref bB, .ref bD, .long dn, .long lf, .int (bI mf), .ref bX])), (bL, .inl (cZ, 16, .inl (fun i9 => bI (lv i9)))), (bW, .inl (cZ, 1056, .inl (fun i9 => bI (wr i9)))), (bD, .inl (cB, 73920, .inl (fun i9 => sx (dm i9))))]) [5, 0, 1, 3] rfl
    have hDc := hD.sub (ws' := [(g0, .inr (1, [.int (nI 0), .ref bT, .int (nI tp), .ref bO, .int (nI 0), .ref bL, .ref bW, .ref bB, .ref bD, .long dn, .long lf, .int (bI mf), .ref bX])), (bL, .inl (cZ, 16, .inl (fun i9 => bI (lv i9)))), (bW, .inl (cZ, 1056, .inl (fun i9 => bI (wr i9)))), (bD, .inl (cB, 73920, .inl (fun i9 => sx (dm i9))))]) [5, 0, 1, 3] (by decide) rfl
    have hKc := hK.sub (tys' := [(cZ, .boolean), (cB, .byte)]) [1, 2] rfl
    have hFc := va_free (wc := [(g0, .inr (1, [.int (nI 0), .ref bT, .int (nI tp), .ref bO, .int (nI 0), .ref bL, .ref bW, .ref bB, .ref bD, .long dn, .long lf, .int (bI mf), .ref bX])), (bL, .inl (cZ, 16, .inl (fun i9 => bI (lv i9)))), (bW, .inl (cZ, 1056, .inl (fun i9 => bI (wr i9)))), (bD, .inl (cB, 73920, .inl (fun i9 => sx (dm i9))))]) hD hS hA [5, 0, 1, 3] rfl
    refine va_calli (va_runV (As := [.int (nI di), .int (nI ce)]) (rest := []) ⟨hx, hb, hml, hown, hts⟩ (c_X1_stateOf l dC dI H.size g0 bT bO bL bW bB bD bX 0 tp 0 dn lf mf cZ cB lv wr dm di ce (by omega) (by omega)) (cwV 2 hts gX1_read_X1_stateOf rfl rfl rfl (by decide +kernel) ⟨Nat.le_of_ble_eq_true rfl, Nat.le_of_ble_eq_true rfl⟩) ⟨fun a U g mk q => by obtain ⟨q0, q1, qP, qK, qD⟩ := q; exact ⟨q0, q1, qP, va_K.moved (u := U) (U := U.calling g mk a) (Vm.Alike.refl U.vm) qK, qD⟩, va_recv hKc hPc (ci := 1) (q0 := 0) rfl rfl, fun U hU hW => ⟨rfl, by rw [hU], by rw [hU]; exact hPc, va_K.moved hW.alike hKc, hDc.weaken (fun _ _ _ _ => trivial)⟩⟩ rfl rfl hl.1 rfl (lv_room (Nat.le_of_ble_eq_true rfl)) dX1_read_23 ⟨Nat.zero_le _, Nat.zero_le _⟩) hS (fun q _ h => hFc q h) hFc (fun r_3 u t H1 locs ht hvm hw hB hz1 hk1 hS => ?_)
    obtain ⟨hP1, hK1, hD1⟩ := hB
    rw [ht] at hP1
    obtain ⟨hPn, hDn⟩ := va_join (wr := [(bB, .inl (cB, 73920, .inl (fun i9 => sx (bs i9)))), (bO, .inl (cI, 64, .inl (fun i9 => nI (mo i9))))]) (w1 := [(g0, .inr (1, [.int (nI 0), .ref bT, .int (nI tp), .ref bO, .int (nI 0), .ref bL, .ref bW, .ref bB, .ref bD, .long dn, .long lf, .int (bI mf), .ref bX])), (bL, .inl (cZ, 16, .inl (fun i9 => bI (lv i9)))), (bW, .inl (cZ, 1056, .inl (fun i9 => bI (wr i9)))), (bD, .inl (cB, 73920, .inl (fun i9 => sx (dm i9))))]) hP hD [5, 0, 1, 3] [2, 4] rfl rfl (by decide) (by decide) hk1 hFc hP1 hD1
    clear hP hD hP1 hD1 hK1 hPc hDc hKc hFc hk1 hz1 hvm ht
    generalize H1 = H at hPn hS ⊢
    have hP := hPn
    have hD := hDn
    clear hPn hDn
    replace hP : va_P (dC, dI) vwCl [(bB, .inl (cB, 73920, .inl (fun i9 => sx (bs i9)))), (bO, .inl (cI, 64, .inl (fun i9 => nI (mo i9)))), (g0, .inr (1, [.int (nI 0), .ref bT, .int (nI tp), .ref bO, .int (nI 0), .ref bL, .ref bW, .ref bB, .ref bD, .long dn, .long lf, .int (bI mf), .ref bX])), (bL, .inl (cZ, 16, .inl (fun i9 => bI (lv i9)))), (bW, .inl (cZ, 1056, .inl (fun i9 => bI (wr i9)))), (bD, .inl (cB, 73920, .inl (fun i9 => sx (dm i9))))] H := hP
    replace hD : va_D A [(bB, .inl (cB, 73920, .inl (fun i9 => sx (bs i9)))), (bO, .inl (cI, 64, .inl (fun i9 => nI (mo i9)))), (g0, .inr (1, [.int (nI 0), .ref bT, .int (nI tp), .ref bO, .int (nI 0), .ref bL, .ref bW, .ref bB, .ref bD, .long dn, .long lf, .int (bI mf), .ref bX])), (bL, .inl (cZ, 16, .inl (fun i9 => bI (lv i9)))), (bW, .inl (cZ, 1056, .inl (fun i9 => bI (wr i9)))), (bD, .inl (cB, 73920, .inl (fun i9 => sx (dm i9))))] := hD
    refine W.widen (k := 0) (n := 0) (Nat.le_refl _) (Nat.le_refl _) ?_
    obtain rfl := hw
    refine lv_iconst (v := nI 2) hx hb dX1_read_26 (by decide) ?_
    refine zr_icmp_eq (tgt := 32) hx hb (Nat.lt_trans (stN_lt _ _ _ _ _) (by decide)) (by omega) dX1_read_27 (by decide) (fun c27 => ?_) (fun c27 => ?_)
    · refine lv_iconst (v := nI 0) hx hb dX1_read_32 (by decide) ?_
      refine lv_istore_n (lv' := [(3, .int (nI 0)), (0, .ref g0), (1, .int (nI di)), (2, .int (nI ce))]) hx hb dX1_read_33 rfl hl (by decide) rfl (fun ls hl => ?_)
      refine lp_X1_read g0 bT bO bL bW bB bD bX 0 tp 0 dn lf mf cI cZ cB lv wr bs dm mo di ce hdi hce9 hx hb hml hown hts hA hK (Nat.le_of_ble_eq_true rfl) (Nat.le_of_ble_eq_true rfl) (Nat.zero_le _) (Nat.zero_le _) (fun  H locs ls hP hD hS hl => ?_) 65 0 (by omega) (by omega) _ _ _ (hP.sub [2, 3, 4, 0, 5, 1] rfl) (hD.sub [2, 3, 4, 0, 5, 1] (by decide) rfl) hS (lv_sub hl [1, 2, 3, 0] rfl)
      refine lv_aload_n hx hb dX1_read_62 rfl (lv_at hl 0 rfl) ?_
      refine lv_bipush (v := nI 64) hx hb dX1_read_63 (by decide) ?_
      refine va_put (D := (dC, dI)) (ci := 1) (v := .int (nI 64)) (ty := .int) (C := RX1) (T := TX1) (N := 13) hx hb hts hi1 tyX1 tyX1_ok nmX1 hown hK hP hD hS 0 rfl rfl 4 (by decide) (hts (.fieldLink RX1 90 "CellRackModel" "outs" "I") (by decide +kernel)) (fun _ h9 => h9) rfl (by decide +kernel) (rfl) (rfl) (Nat.le_of_ble_eq_true rfl) dX1_read_65 (fun H locs hP hD hS => ?_)
      replace hP : va_P (dC, dI) vwCl [(g0, .inr (1, [.int (nI 0), .ref bT, .int (nI tp), .ref bO, .int (nI 64), .ref bL, .ref bW, .ref bB, .ref bD, .long dn, .long lf, .int (bI mf), .ref bX])), (bL, .inl (cZ, 16, .inl (fun i9 => bI (lv i9)))), (bW, .inl (cZ, 1056, .inl (fun i9 => bI (wr i9)))), (bB, .inl (cB, 73920, .inl (fun i9 => sx (bs i9)))), (bD, .inl (cB, 73920, .inl (fun i9 => sx (dm i9)))), (bO, .inl (cI, 64, .inl (fun i9 => nI ((rdF mo bs dm (66 * di + ce) 64) i9))))] H := hP
      replace hD : va_D A [(g0, .inr (1, [.int (nI 0), .ref bT, .int (nI tp), .ref bO, .int (nI 64), .ref bL, .ref bW, .ref bB, .ref bD, .long dn, .long lf, .int (bI mf), .ref bX])), (bL, .inl (cZ, 16, .inl (fun i9 => bI (lv i9)))), (bW, .inl (cZ, 1056, .inl (fun i9 => bI (wr i9)))), (bB, .inl (cB, 73920, .inl (fun i9 => sx (bs i9)))), (bD, .inl (cB, 73920, .inl (fun i9 => sx (dm i9)))), (bO, .inl (cI, 64, .inl (fun i9 => nI ((rdF mo bs dm (66 * di + ce) 64) i9))))] := hD
      refine lv_iconst (v := nI 1) hx hb dX1_read_68 (by decide) ?_
      have hP9 := hP.sub (ws' := [(g0, .inr (1, [.int (nI 0), .ref bT, .int (nI tp), .ref bO, .int (nI 64), .ref bL, .ref bW, .ref bB, .ref bD, .long dn, .long lf, .int (bI mf), .ref bX])), (bL, .inl (cZ, 16, .inl (fun i9 => bI (lv i9)))), (bW, .inl (cZ, 1056, .inl (fun i9 => bI (wr i9)))), (bB, .inl (cB, 73920, .inl (fun i9 => sx (bs i9)))), (bD, .inl (cB, 73920, .inl (fun i9 => sx (dm i9)))), (bO, .inl (cI, 64, .inl (fun i9 => nI ((rdF mo bs dm (66 * di + ce) 64) i9))))]) [0, 1, 2, 3, 4, 5] rfl
      have hD9 := hD.sub (ws' := [(g0, .inr (1, [.int (nI 0), .ref bT, .int (nI tp), .ref bO, .int (nI 64), .ref bL, .ref bW, .ref bB, .ref bD, .long dn, .long lf, .int (bI mf), .ref bX])), (bL, .inl (cZ, 16, .inl (fun i9 => bI (lv i9)))), (bW, .inl (cZ, 1056, .inl (fun i9 => bI (wr i9)))), (bB, .inl (cB, 73920, .inl (fun i9 => sx (bs i9)))), (bD, .inl (cB, 73920, .inl (fun i9 => sx (dm i9)))), (bO, .inl (cI, 64, .inl (fun i9 => nI ((rdF mo bs dm (66 * di + ce) 64) i9))))]) [0, 1, 2, 3, 4, 5] (by decide) rfl
      exact W.zret (v := nI 1) hx hb hr (by decide) (fun t ht hW => ⟨⟨nI 1, (0, 64, rdF mo bs dm (66 * di + ce) 64), rfl, Or.inr ⟨di, ce, hdi, hce9, rfl, rfl, rfl, Or.inl ⟨c27, rfl, rfl, rfl⟩⟩, by rw [ht]; exact hP9, va_K.moved hW.alike hK, hD9⟩, hS.F ht⟩) hS.2.2 dX1_read_69
    · refine lv_iconst (v := nI 0) hx hb dX1_read_30 (by decide) ?_
      have hP9 := hP.sub (ws' := [(g0, .inr (1, [.int (nI 0), .ref bT, .int (nI tp), .ref bO, .int (nI 0), .ref bL, .ref bW, .ref bB, .ref bD, .long dn, .long lf, .int (bI mf), .ref bX])), (bL, .inl (cZ, 16, .inl (fun i9 => bI (lv i9)))), (bW, .inl (cZ, 1056, .inl (fun i9 => bI (wr i9)))), (bB, .inl (cB, 73920, .inl (fun i9 => sx (bs i9)))), (bD, .inl (cB, 73920, .inl (fun i9 => sx (dm i9)))), (bO, .inl (cI, 64, .inl (fun i9 => nI (mo i9))))]) [2, 3, 4, 0, 5, 1] rfl
      have hD9 := hD.sub (ws' := [(g0, .inr (1, [.int (nI 0), .ref bT, .int (nI tp), .ref bO, .int (nI 0), .ref bL, .ref bW, .ref bB, .ref bD, .long dn, .long lf, .int (bI mf), .ref bX])), (bL, .inl (cZ, 16, .inl (fun i9 => bI (lv i9)))), (bW, .inl (cZ, 1056, .inl (fun i9 => bI (wr i9)))), (bB, .inl (cB, 73920, .inl (fun i9 => sx (bs i9)))), (bD, .inl (cB, 73920, .inl (fun i9 => sx (dm i9)))), (bO, .inl (cI, 64, .inl (fun i9 => nI (mo i9))))]) [2, 3, 4, 0, 5, 1] (by decide) rfl
      exact W.zret (v := nI 0) hx hb hr (by decide) (fun t ht hW => ⟨⟨nI 0, (0, 0, mo), rfl, Or.inr ⟨di, ce, hdi, hce9, rfl, rfl, rfl, Or.inr ⟨c27, rfl, rfl, rfl⟩⟩, by rw [ht]; exact hP9, va_K.moved hW.alike hK, hD9⟩, hS.F ht⟩) hS.2.2 dX1_read_31
  · rw [c10] at hP hD
    replace hP : va_P (dC, dI) vwCl [(bL, .inl (cZ, 16, .inl (fun i9 => bI (lv i9)))), (bW, .inl (cZ, 1056, .inl (fun i9 => bI (wr i9)))), (bB, .inl (cB, 73920, .inl (fun i9 => sx (bs i9)))), (bD, .inl (cB, 73920, .inl (fun i9 => sx (dm i9)))), (bO, .inl (cI, 64, .inl (fun i9 => nI (mo i9)))), (g0, .inr (1, [.int (nI 1), .ref bT, .int (nI tp), .ref bO, .int (nI os), .ref bL, .ref bW, .ref bB, .ref bD, .long dn, .long lf, .int (bI mf), .ref bX]))] H := hP
    replace hD : va_D A [(bL, .inl (cZ, 16, .inl (fun i9 => bI (lv i9)))), (bW, .inl (cZ, 1056, .inl (fun i9 => bI (wr i9)))), (bB, .inl (cB, 73920, .inl (fun i9 => sx (bs i9)))), (bD, .inl (cB, 73920, .inl (fun i9 => sx (dm i9)))), (bO, .inl (cI, 64, .inl (fun i9 => nI (mo i9)))), (g0, .inr (1, [.int (nI 1), .ref bT, .int (nI tp), .ref bO, .int (nI os), .ref bL, .ref bW, .ref bB, .ref bD, .long dn, .long lf, .int (bI mf), .ref bX]))] := hD
    refine lv_iconst (v := nI 0) hx hb dX1_read_13 (by decide) ?_
    have hP9 := hP.sub (ws' := [(g0, .inr (1, [.int (nI 1), .ref bT, .int (nI tp), .ref bO, .int (nI os), .ref bL, .ref bW, .ref bB, .ref bD, .long dn, .long lf, .int (bI mf), .ref bX])), (bL, .inl (cZ, 16, .inl (fun i9 => bI (lv i9)))), (bW, .inl (cZ, 1056, .inl (fun i9 => bI (wr i9)))), (bB, .inl (cB, 73920, .inl (fun i9 => sx (bs i9)))), (bD, .inl (cB, 73920, .inl (fun i9 => sx (dm i9)))), (bO, .inl (cI, 64, .inl (fun i9 => nI (mo i9))))]) [5, 0, 1, 2, 3, 4] rfl
    have hD9 := hD.sub (ws' := [(g0, .inr (1, [.int (nI 1), .ref bT, .int (nI tp), .ref bO, .int (nI os), .ref bL, .ref bW, .ref bB, .ref bD, .long dn, .long lf, .int (bI mf), .ref bX])), (bL, .inl (cZ, 16, .inl (fun i9 => bI (lv i9)))), (bW, .inl (cZ, 1056, .inl (fun i9 => bI (wr i9)))), (bB, .inl (cB, 73920, .inl (fun i9 => sx (bs i9)))), (bD, .inl (cB, 73920, .inl (fun i9 => sx (dm i9)))), (bO, .inl (cI, 64, .inl (fun i9 => nI (mo i9))))]) [5, 0, 1, 2, 3, 4] (by decide) rfl
    exact W.zret (v := nI 0) hx hb hr (by decide) (fun t ht hW => ⟨⟨nI 0, (1, os, mo), rfl, Or.inl ⟨zr_not_t c10, rfl, rfl, rfl, rfl⟩, by rw [ht]; exact hP9, va_K.moved hW.alike hK, hD9⟩, hS.F ht⟩) hS.2.2 dX1_read_14
set_option maxHeartbeats 4000000 in
set_option maxRecDepth 100000 in
theorem lp_X1_outs {p : Program} {l : Launch} {e : Env} {R : Room} {s : State} {m : MethodId} {args : Array Value} {below : List Frame} {meth : Method} {c : Code} {cells slots : Nat} {Q : State → Prop} {A : Nat → Prop} {H0 : Heap} {dC : Nat → ClassId} {dI : Nat → Nat → Nat} (g0 bT bO bL bW bB bD bX : Nat) (th tp os : Nat) (dn lf : Int64) (mf : Bool) (cI : ClassId) (mo : Nat → Nat) (k0 : Nat) (hk0 : k0 < os) (hos : os ≤ 64) (hx : p.tables.exec = Jvm.exec) (hb : c.code = cX1_outs) (hml : c.maxLocals = 5) (hown : s.vm.findClass RX1 = some m.cls) (hts : ∀ w ∈ wsX1_outs, w.before args s = true) (hA : ∀ q : Nat, H0.size ≤ q → A q) (hK : va_K (dC, dI) vwCl [(cI, .int)] s) (kk : ∀  (H : Heap) (locs : List Loc) (ls : Array Slot), va_P (dC, dI) vwCl [(g0, .inr (1, [.int (nI th), .ref bT, .int (nI tp), .ref bO, .int (nI os), .ref bL, .ref bW, .ref bB, .ref bD, .long dn, .long lf, .int (bI mf), .ref bX])), (bO, .inl (cI, 64, .inl (fun i9 => nI (mo i9))))] H → va_D A [(g0, .inr (1, [.int (nI th), .ref bT, .int (nI tp), .ref bO, .int (nI os), .ref bL, .ref bW, .ref bB, .ref bD, .long dn, .long lf, .int (bI mf), .ref bX])), (bO, .inl (cI, 64, .inl (fun i9 => nI (mo i9))))] → va_S A H0 H locs → lv_has ls 5 [(2, .long (oM mo k0 (min 8 (os - k0))))] → W p l e R s m args below meth c H locs cells slots Q (F0 m 75 ls [])) : ∀ (n : Nat) (i : Nat), min 8 (os - k0) + 1 ≤ i + n → i ≤ min 8 (os - k0) → ∀ (H : Heap) (locs : List Loc) (ls : Array Slot), va_P (dC, dI) vwCl [(g0, .inr (1, [.int (nI th), .ref bT, .int (nI tp), .ref bO, .int (nI os), .ref bL, .ref bW, .ref bB, .ref bD, .long dn, .long lf, .int (bI mf), .ref bX])), (bO, .inl (cI, 64, .inl (fun i9 => nI (mo i9))))] H → va_D A [(g0, .inr (1, [.int (nI th), .ref bT, .int (nI tp), .ref bO, .int (nI os), .ref bL, .ref bW, .ref bB, .ref bD, .long dn, .long lf, .int (bI mf), .ref bX])), (bO, .inl (cI, 64, .inl (fun i9 => nI (mo i9))))] → va_S A H0 H locs → lv_has ls 5 [(0, .ref g0), (1, .int (nI k0)), (2, .long (oM mo k0 i)), (4, .int (nI i))] → W p l e R s m args below meth c H locs cells slots Q (F0 m 32 ls []) := by
  have hi1 : ∀ w ∈ u_ws RX1 TX1 13, w ∈ wsX1_outs := by decide +kernel
  intro n
  induction n with
  | zero => intro i  hm hi; exact absurd hm (by omega)
  | succ n ih =>
    intro i  hm hi H locs ls hP hD hS hl
    refine lv_iload hx hb dX1_outs_32 (lv_at hl 3 rfl) ?_
    refine lv_bipush (v := nI 8) hx hb dX1_outs_34 (by decide) ?_
    refine zr_icmp_ge (tgt := 75) hx hb (by omega) (by omega) dX1_outs_36 (by decide) (fun c36 => ?_) (fun c36 => ?_)
    · obtain rfl : min 8 (os - k0) = i := by omega
      exact kk  H locs ls (hP.sub [0, 1] rfl) (hD.sub [0, 1] (by decide) rfl) hS (lv_sub hl [2] rfl)
    · refine lv_iload_n hx hb dX1_outs_39 rfl (lv_at hl 1 rfl) ?_
      refine lv_iload hx hb dX1_outs_40 (lv_at hl 3 rfl) ?_
      refine zr_iadd hx hb dX1_outs_42 ?_
      refine lv_aload_n hx hb dX1_outs_43 rfl (lv_at hl 0 rfl) ?_
      refine va_get (D := (dC, dI)) (ci := 1) (v := .int (nI os)) (C := RX1) (T := TX1) (N := 13) hx hb hts hi1 hown hK hP 0 rfl rfl 4 (by decide) (hts (.fieldLink RX1 90 "CellRackModel" "outs" "I") (by decide +kernel)) (fun _ h9 => h9) rfl dX1_outs_44 ?_
      refine zr_icmp_ge (tgt := 75) hx hb (by omega) (by omega) dX1_outs_47 (by decide) (fun c47 => ?_) (fun c47 => ?_)
      · obtain rfl : min 8 (os - k0) = i := by omega
        exact kk  H locs ls (hP.sub [0, 1] rfl) (hD.sub [0, 1] (by decide) rfl) hS (lv_sub hl [2] rfl)
      · refine lv_lload_n hx hb dX1_outs_50 rfl (lv_at hl 2 rfl) ?_
        refine lv_aload_n hx hb dX1_outs_51 rfl (lv_at hl 0 rfl) ?_
        refine va_get (D := (dC, dI)) (ci := 1) (v := .ref bO) (C := RX1) (T := TX1) (N := 13) hx hb hts hi1 hown hK hP 0 rfl rfl 3 (by decide) (hts (.fieldLink RX1 13 "CellRackModel" "out" "[I") (by decide +kernel)) (fun _ h9 => h9) rfl dX1_outs_52 ?_
        refine lv_iload_n hx hb dX1_outs_55 rfl (lv_at hl 1 rfl) ?_
        refine lv_iload hx hb dX1_outs_56 (lv_at hl 3 rfl) ?_
        refine zr_iadd hx hb dX1_outs_58 ?_
        refine zr_nald hx hb hK hP 1 0 rfl rfl (by omega) (by omega) dX1_outs_59 ?_
        refine lv_i2l hx hb dX1_outs_60 rfl ?_
        refine lv_bipush (v := nI 8) hx hb dX1_outs_61 (by decide) ?_
        refine lv_iload hx hb dX1_outs_63 (lv_at hl 3 rfl) ?_
        refine zr_imul hx hb dX1_outs_65 ?_
        refine lv_lshl hx hb dX1_outs_66 rfl ?_
        refine lv_lor hx hb dX1_outs_67 ?_
        refine lv_lstore_n (lv' := [(2, .long ((oM mo k0 i) ||| (((nI (mo (k0 + i))).toInt64) <<< ((nI (8 * i)).toInt64 &&& 63)))), (0, .ref g0), (1, .int (nI k0)), (4, .int (nI i))]) hx hb dX1_outs_68 rfl hl (by decide) rfl (fun ls hl => ?_)
        refine lv_iinc (v := nI (i + 1)) (lv' := [(4, .int (nI (i + 1))), (2, .long ((oM mo k0 i) ||| (((nI (mo (k0 + i))).toInt64) <<< ((nI (8 * i)).toInt64 &&& 63)))), (0, .ref g0), (1, .int (nI k0))]) hx hb dX1_outs_69 hl (k := 3) rfl (nI_add (i) 1) (by decide) rfl (fun ls hl => ?_)
        refine lv_goto (tgt := 32) hx hb dX1_outs_72 (by decide) ?_
        exact ih (i + 1) (by omega) (by omega) H locs ls (hP.sub [0, 1] rfl) (hD.sub [0, 1] (by decide) rfl) hS (lv_sub hl [2, 3, 1, 0] rfl)
set_option maxHeartbeats 4000000 in
set_option maxRecDepth 100000 in
theorem c_X1_outs (l : Launch) (dC : Nat → ClassId) (dI : Nat → Nat → Nat) (sz : Nat) (g0 bT bO bL bW bB bD bX : Nat) (th tp os : Nat) (dn lf : Int64) (mf : Bool) (cI : ClassId) (mo : Nat → Nat) (x : Int32) (hos : os ≤ 64) : Met l yX1_outs wsX1_outs ({ frames := 1, cells := 0, slots := 0, locals := 22 }) (va_Pc [.ref g0, .int x] (fun U => U.heap.size = sz ∧ va_P (dC, dI) vwCl [(g0, .inr (1, [.int (nI th), .ref bT, .int (nI tp), .ref bO, .int (nI os), .ref bL, .ref bW, .ref bB, .ref bD, .long dn, .long lf, .int (bI mf), .ref bX])), (bO, .inl (cI, 64, .inl (fun i9 => nI (mo i9))))] U.heap ∧ va_K (dC, dI) vwCl [(cI, .int)] U ∧ va_D (fun _ => True) [(g0, .inr (1, [.int (nI th), .ref bT, .int (nI tp), .ref bO, .int (nI os), .ref bL, .ref bW, .ref bB, .ref bD, .long dn, .long lf, .int (bI mf), .ref bX])), (bO, .inl (cI, 64, .inl (fun i9 => nI (mo i9))))])) (va_Ql (fun (r : Int64) (h2 : Nat) => (okI x os = false ∧ h2 = 1) ∨ (∃ k : Nat, k < os ∧ x = nI k ∧ h2 = 0 ∧ r = oM mo k (min 8 (os - k)))) (fun (h2 : Nat) t => va_P (dC, dI) vwCl [(g0, .inr (1, [.int (nI h2), .ref bT, .int (nI tp), .ref bO, .int (nI os), .ref bL, .ref bW, .ref bB, .ref bD, .long dn, .long lf, .int (bI mf), .ref bX])), (bO, .inl (cI, 64, .inl (fun i9 => nI (mo i9))))] t.heap ∧ va_K (dC, dI) vwCl [(cI, .int)] t ∧ va_D (va_A [(g0, .inr (1, [.int (nI th), .ref bT, .int (nI tp), .ref bO, .int (nI os), .ref bL, .ref bW, .ref bB, .ref bD, .long dn, .long lf, .int (bI mf), .ref bX])), (bO, .inl (cI, 64, .inl (fun i9 => nI (mo i9))))] sz) [(g0, .inr (1, [.int (nI h2), .ref bT, .int (nI tp), .ref bO, .int (nI os), .ref bL, .ref bW, .ref bB, .ref bD, .long dn, .long lf, .int (bI mf), .ref bX])), (bO, .inl (cI, 64, .inl (fun i9 => nI (mo i9))))]) (va_A [(g0, .inr (1, [.int (nI th), .ref bT, .int (nI tp), .ref bO, .int (nI os), .ref bL, .ref bW, .ref bB, .ref bD, .long dn, .long lf, .int (bI mf), .ref bX])), (bO, .inl (cI, 64, .inl (fun i9 => nI (mo i9))))] sz)) 0 0 (va_A [(g0, .inr (1, [.int (nI th), .ref bT, .int (nI tp), .ref bO, .int (nI os), .ref bL, .ref bW, .ref bB, .ref bD, .long dn, .long lf, .int (bI mf), .ref bX])), (bO, .inl (cI, 64, .inl (fun i9 => nI (mo i9))))] sz) := by
  refine Met.ofW (cc := cX1_outs) (maxL := 5) (ret := some .long) (by decide) rfl ?_
  intro p e s m args below meth c s₁ B hml hv
  obtain ⟨rfl, hsz, hP, hK, hD0⟩ := hv
  have hx := B.exec
  have hb := B.bytes
  have hr := B.returns
  have hts := atoms_spec (ws := wsX1_outs) B.pre
  have hown : s.vm.findClass RX1 = some m.cls := findClass_of_methodNamed B.named
  have hlocks := B.notSynchronized
  subst hsz
  have hD := hD0.self (sz := s.heap.size)
  generalize hAe : va_A [(g0, .inr (1, [.int (nI th), .ref bT, .int (nI tp), .ref bO, .int (nI os), .ref bL, .ref bW, .ref bB, .ref bD, .long dn, .long lf, .int (bI mf), .ref bX])), (bO, .inl (cI, 64, .inl (fun i9 => nI (mo i9))))] s.heap.size = A at hD ⊢
  have hA : ∀ q : Nat, s.heap.size ≤ q → A q := fun q h => by rw [← hAe]; exact Or.inr h
  generalize hH : s.heap = H at hP ⊢
  have hS : va_S A s.heap H [] := by rw [hH]; exact va_S.rf
  replace hP : va_P (dC, dI) vwCl [(g0, .inr (1, [.int (nI th), .ref bT, .int (nI tp), .ref bO, .int (nI os), .ref bL, .ref bW, .ref bB, .ref bD, .long dn, .long lf, .int (bI mf), .ref bX])), (bO, .inl (cI, 64, .inl (fun i9 => nI (mo i9))))] H := hP
  have hl := lv_entry ([.ref g0, .int x]) (n := 5) (Nat.le_of_ble_eq_true rfl)
  rw [lg_entry_eq]
  generalize (lg_sl ([.ref g0, .int x]) ++ List.replicate (5 - (lg_sl ([.ref g0, .int x])).length) Slot.unset).toArray = ls at hl ⊢
  have hl : lv_has ls 5 [(0, .ref g0), (1, .int x)] := hl
  have hi1 : ∀ w ∈ u_ws RX1 TX1 13, w ∈ wsX1_outs := by decide +kernel
  refine lv_aload_n hx hb dX1_outs_0 rfl (lv_at hl 0 rfl) ?_
  refine lv_iload_n hx hb dX1_outs_1 rfl (lv_at hl 1 rfl) ?_
  refine lv_if_lt (tgt := 13) hx hb dX1_outs_2 (by decide) (fun c2 => ?_) (fun c2 => ?_)
  · refine lv_iconst (v := nI 1) hx hb dX1_outs_13 (by decide) ?_
    refine lv_goto (tgt := 18) hx hb dX1_outs_14 (by decide) ?_
    refine zr_topi (bI true) (rfl) ?_
    refine lv_iconst (v := nI 1) hx hb dX1_outs_18 (by decide) ?_
    have hPc := hP.sub (ws' := [(g0, .inr (1, [.int (nI th), .ref bT, .int (nI tp), .ref bO, .int (nI os), .ref bL, .ref bW, .ref bB, .ref bD, .long dn, .long lf, .int (bI mf), .ref bX]))]) [0] rfl
    have hDc := hD.sub (ws' := [(g0, .inr (1, [.int (nI th), .ref bT, .int (nI tp), .ref bO, .int (nI os), .ref bL, .ref bW, .ref bB, .ref bD, .long dn, .long lf, .int (bI mf), .ref bX]))]) [0] (by decide) rfl
    have hKc := hK.sub (tys' := []) [] rfl
    have hFc := va_free (wc := [(g0, .inr (1, [.int (nI th), .ref bT, .int (nI tp), .ref bO, .int (nI os), .ref bL, .ref bW, .ref bB, .ref bD, .long dn, .long lf, .int (bI mf), .ref bX]))]) hD hS hA [0] rfl
    refine va_calli (va_runV (As := [.int (bI true), .int (nI 1)]) (rest := []) ⟨hx, hb, hml, hown, hts⟩ (c_X1_fails l dC dI H.size g0 bT bO bL bW bB bD bX th tp os dn lf mf true 1) (cwV 2 hts gX1_outs_X1_fails rfl rfl rfl (by decide +kernel) ⟨Nat.le_of_ble_eq_true rfl, Nat.le_of_ble_eq_true rfl⟩) ⟨fun a U g mk q => by obtain ⟨q0, q1, qP, qK, qD⟩ := q; exact ⟨q0, q1, qP, va_K.moved (u := U) (U := U.calling g mk a) (Vm.Alike.refl U.vm) qK, qD⟩, va_recv hKc hPc (ci := 1) (q0 := 0) rfl rfl, fun U hU hW => ⟨rfl, by rw [hU], by rw [hU]; exact hPc, va_K.moved hW.alike hKc, hDc.weaken (fun _ _ _ _ => trivial)⟩⟩ rfl rfl hl.1 rfl (lv_room (Nat.le_of_ble_eq_true rfl)) dX1_outs_19 ⟨Nat.zero_le _, Nat.zero_le _⟩) hS (fun q _ h => hFc q h) hFc (fun r_1 u t H1 locs ht hvm hw hB hz1 hk1 hS => ?_)
    obtain ⟨hP1, hK1, hD1⟩ := hB
    rw [ht] at hP1
    obtain ⟨hPn, hDn⟩ := va_join (wr := [(bO, .inl (cI, 64, .inl (fun i9 => nI (mo i9))))]) (w1 := [(g0, .inr (1, [.int (nI (cond true 1 0)), .ref bT, .int (nI tp), .ref bO, .int (nI os), .ref bL, .ref bW, .ref bB, .ref bD, .long dn, .long lf, .int (bI mf), .ref bX]))]) hP hD [0] [1] rfl rfl (by decide) (by decide) hk1 hFc hP1 hD1
    clear hP hD hP1 hD1 hK1 hPc hDc hKc hFc hk1 hz1 hvm ht
    generalize H1 = H at hPn hS ⊢
    have hP := hPn
    have hD := hDn
    clear hPn hDn
    replace hP : va_P (dC, dI) vwCl [(bO, .inl (cI, 64, .inl (fun i9 => nI (mo i9)))), (g0, .inr (1, [.int (nI (cond true 1 0)), .ref bT, .int (nI tp), .ref bO, .int (nI os), .ref bL, .ref bW, .ref bB, .ref bD, .long dn, .long lf, .int (bI mf), .ref bX]))] H := hP
    replace hD : va_D A [(bO, .inl (cI, 64, .inl (fun i9 => nI (mo i9)))), (g0, .inr (1, [.int (nI (cond true 1 0)), .ref bT, .int (nI tp), .ref bO, .int (nI os), .ref bL, .ref bW, .ref bB, .ref bD, .long dn, .long lf, .int (bI mf), .ref bX]))] := hD
    refine W.widen (k := 0) (n := 0) (Nat.le_refl _) (Nat.le_refl _) ?_
    obtain rfl := hw
    replace hP : va_P (dC, dI) vwCl [(bO, .inl (cI, 64, .inl (fun i9 => nI (mo i9)))), (g0, .inr (1, [.int (nI 1), .ref bT, .int (nI tp), .ref bO, .int (nI os), .ref bL, .ref bW, .ref bB, .ref bD, .long dn, .long lf, .int (bI mf), .ref bX]))] H := hP
    replace hD : va_D A [(bO, .inl (cI, 64, .inl (fun i9 => nI (mo i9)))), (g0, .inr (1, [.int (nI 1), .ref bT, .int (nI tp), .ref bO, .int (nI os), .ref bL, .ref bW, .ref bB, .ref bD, .long dn, .long lf, .int (bI mf), .ref bX]))] := hD
    refine zr_ifb_eq (tgt := 27) hx hb dX1_outs_22 (by decide) (fun c22 => absurd c22 (by decide)) (fun c22 => ?_)
    refine lv_lconst (v := 0) hx hb dX1_outs_25 (by decide) ?_
    have hP9 := hP.sub (ws' := [(g0, .inr (1, [.int (nI 1), .ref bT, .int (nI tp), .ref bO, .int (nI os), .ref bL, .ref bW, .ref bB, .ref bD, .long dn, .long lf, .int (bI mf), .ref bX])), (bO, .inl (cI, 64, .inl (fun i9 => nI (mo i9))))]) [1, 0] rfl
    have hD9 := hD.sub (ws' := [(g0, .inr (1, [.int (nI 1), .ref bT, .int (nI tp), .ref bO, .int (nI os), .ref bL, .ref bW, .ref bB, .ref bD, .long dn, .long lf, .int (bI mf), .ref bX])), (bO, .inl (cI, 64, .inl (fun i9 => nI (mo i9))))]) [1, 0] (by decide) rfl
    exact W.lret (v := 0) hx hb hr (fun t ht hW => ⟨⟨0, 1, rfl, Or.inl ⟨by first | exact okI_f1 c2 | exact okI_f2 (by omega) (Int32.not_lt.mp c10), rfl⟩, by rw [ht]; exact hP9, va_K.moved hW.alike hK, hD9⟩, hS.F ht⟩) hS.2.2 dX1_outs_26
  · refine lv_iload_n hx hb dX1_outs_5 rfl (lv_at hl 1 rfl) ?_
    refine lv_aload_n hx hb dX1_outs_6 rfl (lv_at hl 0 rfl) ?_
    refine va_get (D := (dC, dI)) (ci := 1) (v := .int (nI os)) (C := RX1) (T := TX1) (N := 13) hx hb hts hi1 hown hK hP 0 rfl rfl 4 (by decide) (hts (.fieldLink RX1 90 "CellRackModel" "outs" "I") (by decide +kernel)) (fun _ h9 => h9) rfl dX1_outs_7 ?_
    refine lv_icmp_lt (tgt := 17) hx hb dX1_outs_10 (by decide) (fun c10 => ?_) (fun c10 => ?_)
    · obtain ⟨k, hkob, rfl⟩ := okI_get (n := os) (by omega) (okI_t (by omega) c2 (fun q => Int32.not_lt.mpr q c10))
      refine lv_iconst (v := nI 0) hx hb dX1_outs_17 (by decide) ?_
      refine zr_topi (bI false) (rfl) ?_
      refine lv_iconst (v := nI 1) hx hb dX1_outs_18 (by decide) ?_
      have hPc := hP.sub (ws' := [(g0, .inr (1, [.int (nI th), .ref bT, .int (nI tp), .ref bO, .int (nI os), .ref bL, .ref bW, .ref bB, .ref bD, .long dn, .long lf, .int (bI mf), .ref bX]))]) [0] rfl
      have hDc := hD.sub (ws' := [(g0, .inr (1, [.int (nI th), .ref bT, .int (nI tp), .ref bO, .int (nI os), .ref bL, .ref bW, .ref bB, .ref bD, .long dn, .long lf, .int (bI mf), .ref bX]))]) [0] (by decide) rfl
      have hKc := hK.sub (tys' := []) [] rfl
      have hFc := va_free (wc := [(g0, .inr (1, [.int (nI th), .ref bT, .int (nI tp), .ref bO, .int (nI os), .ref bL, .ref bW, .ref bB, .ref bD, .long dn, .long lf, .int (bI mf), .ref bX]))]) hD hS hA [0] rfl
      refine va_calli (va_runV (As := [.int (bI false), .int (nI 1)]) (rest := []) ⟨hx, hb, hml, hown, hts⟩ (c_X1_fails l dC dI H.size g0 bT bO bL bW bB bD bX th tp os dn lf mf false 1) (cwV 2 hts gX1_outs_X1_fails rfl rfl rfl (by decide +kernel) ⟨Nat.le_of_ble_eq_true rfl, Nat.le_of_ble_eq_true rfl⟩) ⟨fun a U g mk q => by obtain ⟨q0, q1, qP, qK, qD⟩ := q; exact ⟨q0, q1, qP, va_K.moved (u := U) (U := U.calling g mk a) (Vm.Alike.refl U.vm) qK, qD⟩, va_recv hKc hPc (ci := 1) (q0 := 0) rfl rfl, fun U hU hW => ⟨rfl, by rw [hU], by rw [hU]; exact hPc, va_K.moved hW.alike hKc, hDc.weaken (fun _ _ _ _ => trivial)⟩⟩ rfl rfl hl.1 rfl (lv_room (Nat.le_of_ble_eq_true rfl)) dX1_outs_19 ⟨Nat.zero_le _, Nat.zero_le _⟩) hS (fun q _ h => hFc q h) hFc (fun r_2 u t H1 locs ht hvm hw hB hz1 hk1 hS => ?_)
      obtain ⟨hP1, hK1, hD1⟩ := hB
      rw [ht] at hP1
      obtain ⟨hPn, hDn⟩ := va_join (wr := [(bO, .inl (cI, 64, .inl (fun i9 => nI (mo i9))))]) (w1 := [(g0, .inr (1, [.int (nI (cond false 1 0)), .ref bT, .int (nI tp), .ref bO, .int (nI os), .ref bL, .ref bW, .ref bB, .ref bD, .long dn, .long lf, .int (bI mf), .ref bX]))]) hP hD [0] [1] rfl rfl (by decide) (by decide) hk1 hFc hP1 hD1
      clear hP hD hP1 hD1 hK1 hPc hDc hKc hFc hk1 hz1 hvm ht
      generalize H1 = H at hPn hS ⊢
      have hP := hPn
      have hD := hDn
      clear hPn hDn
      replace hP : va_P (dC, dI) vwCl [(bO, .inl (cI, 64, .inl (fun i9 => nI (mo i9)))), (g0, .inr (1, [.int (nI (cond false 1 0)), .ref bT, .int (nI tp), .ref bO, .int (nI os), .ref bL, .ref bW, .ref bB, .ref bD, .long dn, .long lf, .int (bI mf), .ref bX]))] H := hP
      replace hD : va_D A [(bO, .inl (cI, 64, .inl (fun i9 => nI (mo i9)))), (g0, .inr (1, [.int (nI (cond false 1 0)), .ref bT, .int (nI tp), .ref bO, .int (nI os), .ref bL, .ref bW, .ref bB, .ref bD, .long dn, .long lf, .int (bI mf), .ref bX]))] := hD
      refine W.widen (k := 0) (n := 0) (Nat.le_refl _) (Nat.le_refl _) ?_
      obtain rfl := hw
      replace hP : va_P (dC, dI) vwCl [(bO, .inl (cI, 64, .inl (fun i9 => nI (mo i9)))), (g0, .inr (1, [.int (nI 0), .ref bT, .int (nI tp), .ref bO, .int (nI os), .ref bL, .ref bW, .ref bB, .ref bD, .long dn, .long lf, .int (bI mf), .ref bX]))] H := hP
      replace hD : va_D A [(bO, .inl (cI, 64, .inl (fun i9 => nI (mo i9)))), (g0, .inr (1, [.int (nI 0), .ref bT, .int (nI tp), .ref bO, .int (nI os), .ref bL, .ref bW, .ref bB, .ref bD, .long dn, .long lf, .int (bI mf), .ref bX]))] := hD
      refine zr_ifb_eq (tgt := 27) hx hb dX1_outs_22 (by decide) (fun c22 => ?_) (fun c22 => absurd c22 (by decide))
      refine lv_lconst (v := 0) hx hb dX1_outs_27 (by decide) ?_
      refine lv_lstore_n (lv' := [(2, .long 0), (0, .ref g0), (1, .int (nI k))]) hx hb dX1_outs_28 rfl hl (by decide) rfl (fun ls hl => ?_)
      refine lv_iconst (v := nI 0) hx hb dX1_outs_29 (by decide) ?_
      refine lv_istore (lv' := [(4, .int (nI 0)), (2, .long 0), (0, .ref g0), (1, .int (nI k))]) hx hb dX1_outs_30 hl (by decide) rfl (fun ls hl => ?_)
      refine lp_X1_outs g0 bT bO bL bW bB bD bX 0 tp os dn lf mf cI mo k hkob hos hx hb hml hown hts hA hK (fun  H locs ls hP hD hS hl => ?_) (min 8 (os - k) + 1) 0 (by omega) (by omega) _ _ _ (hP.sub [1, 0] rfl) (hD.sub [1, 0] (by decide) rfl) hS (lv_sub hl [2, 3, 1, 0] rfl)
      refine lv_lload_n hx hb dX1_outs_75 rfl (lv_at hl 0 rfl) ?_
      have hP9 := hP.sub (ws' := [(g0, .inr (1, [.int (nI 0), .ref bT, .int (nI tp), .ref bO, .int (nI os), .ref bL, .ref bW, .ref bB, .ref bD, .long dn, .long lf, .int (bI mf), .ref bX])), (bO, .inl (cI, 64, .inl (fun i9 => nI (mo i9))))]) [0, 1] rfl
      have hD9 := hD.sub (ws' := [(g0, .inr (1, [.int (nI 0), .ref bT, .int (nI tp), .ref bO, .int (nI os), .ref bL, .ref bW, .ref bB, .ref bD, .long dn, .long lf, .int (bI mf), .ref bX])), (bO, .inl (cI, 64, .inl (fun i9 => nI (mo i9))))]) [0, 1] (by decide) rfl
      exact W.lret (v := oM mo k (min 8 (os - k))) hx hb hr (fun t ht hW => ⟨⟨oM mo k (min 8 (os - k)), 0, rfl, Or.inr ⟨k, hkob, rfl, rfl, rfl⟩, by rw [ht]; exact hP9, va_K.moved hW.alike hK, hD9⟩, hS.F ht⟩) hS.2.2 dX1_outs_76
    · refine lv_iconst (v := nI 1) hx hb dX1_outs_13 (by decide) ?_
      refine lv_goto (tgt := 18) hx hb dX1_outs_14 (by decide) ?_
      refine zr_topi (bI true) (rfl) ?_
      refine lv_iconst (v := nI 1) hx hb dX1_outs_18 (by decide) ?_
      have hPc := hP.sub (ws' := [(g0, .inr (1, [.int (nI th), .ref bT, .int (nI tp), .ref bO, .int (nI os), .ref bL, .ref bW, .ref bB, .ref bD, .long dn, .long lf, .int (bI mf), .ref bX]))]) [0] rfl
      have hDc := hD.sub (ws' := [(g0, .inr (1, [.int (nI th), .ref bT, .int (nI tp), .ref bO, .int (nI os), .ref bL, .ref bW, .ref bB, .ref bD, .long dn, .long lf, .int (bI mf), .ref bX]))]) [0] (by decide) rfl
      have hKc := hK.sub (tys' := []) [] rfl
      have hFc := va_free (wc := [(g0, .inr (1, [.int (nI th), .ref bT, .int (nI tp), .ref bO, .int (nI os), .ref bL, .ref bW, .ref bB, .ref bD, .long dn, .long lf, .int (bI mf), .ref bX]))]) hD hS hA [0] rfl
      refine va_calli (va_runV (As := [.int (bI true), .int (nI 1)]) (rest := []) ⟨hx, hb, hml, hown, hts⟩ (c_X1_fails l dC dI H.size g0 bT bO bL bW bB bD bX th tp os dn lf mf true 1) (cwV 2 hts gX1_outs_X1_fails rfl rfl rfl (by decide +kernel) ⟨Nat.le_of_ble_eq_true rfl, Nat.le_of_ble_eq_true rfl⟩) ⟨fun a U g mk q => by obtain ⟨q0, q1, qP, qK, qD⟩ := q; exact ⟨q0, q1, qP, va_K.moved (u := U) (U := U.calling g mk a) (Vm.Alike.refl U.vm) qK, qD⟩, va_recv hKc hPc (ci := 1) (q0 := 0) rfl rfl, fun U hU hW => ⟨rfl, by rw [hU], by rw [hU]; exact hPc, va_K.moved hW.alike hKc, hDc.weaken (fun _ _ _ _ => trivial)⟩⟩ rfl rfl hl.1 rfl (lv_room (Nat.le_of_ble_eq_true rfl)) dX1_outs_19 ⟨Nat.zero_le _, Nat.zero_le _⟩) hS (fun q _ h => hFc q h) hFc (fun r_3 u t H1 locs ht hvm hw hB hz1 hk1 hS => ?_)
      obtain ⟨hP1, hK1, hD1⟩ := hB
      rw [ht] at hP1
      obtain ⟨hPn, hDn⟩ := va_join (wr := [(bO, .inl (cI, 64, .inl (fun i9 => nI (mo i9))))]) (w1 := [(g0, .inr (1, [.int (nI (cond true 1 0)), .ref bT, .int (nI tp), .ref bO, .int (nI os), .ref bL, .ref bW, .ref bB, .ref bD, .long dn, .long lf, .int (bI mf), .ref bX]))]) hP hD [0] [1] rfl rfl (by decide) (by decide) hk1 hFc hP1 hD1
      clear hP hD hP1 hD1 hK1 hPc hDc hKc hFc hk1 hz1 hvm ht
      generalize H1 = H at hPn hS ⊢
      have hP := hPn
      have hD := hDn
      clear hPn hDn
      replace hP : va_P (dC, dI) vwCl [(bO, .inl (cI, 64, .inl (fun i9 => nI (mo i9)))), (g0, .inr (1, [.int (nI (cond true 1 0)), .ref bT, .int (nI tp), .ref bO, .int (nI os), .ref bL, .ref bW, .ref bB, .ref bD, .long dn, .long lf, .int (bI mf), .ref bX]))] H := hP
      replace hD : va_D A [(bO, .inl (cI, 64, .inl (fun i9 => nI (mo i9)))), (g0, .inr (1, [.int (nI (cond true 1 0)), .ref bT, .int (nI tp), .ref bO, .int (nI os), .ref bL, .ref bW, .ref bB, .ref bD, .long dn, .long lf, .int (bI mf), .ref bX]))] := hD
      refine W.widen (k := 0) (n := 0) (Nat.le_refl _) (Nat.le_refl _) ?_
      obtain rfl := hw
      replace hP : va_P (dC, dI) vwCl [(bO, .inl (cI, 64, .inl (fun i9 => nI (mo i9)))), (g0, .inr (1, [.int (nI 1), .ref bT, .int (nI tp), .ref bO, .int (nI os), .ref bL, .ref bW, .ref bB, .ref bD, .long dn, .long lf, .int (bI mf), .ref bX]))] H := hP
      replace hD : va_D A [(bO, .inl (cI, 64, .inl (fun i9 => nI (mo i9)))), (g0, .inr (1, [.int (nI 1), .ref bT, .int (nI tp), .ref bO, .int (nI os), .ref bL, .ref bW, .ref bB, .ref bD, .long dn, .long lf, .int (bI mf), .ref bX]))] := hD
      refine zr_ifb_eq (tgt := 27) hx hb dX1_outs_22 (by decide) (fun c22 => absurd c22 (by decide)) (fun c22 => ?_)
      refine lv_lconst (v := 0) hx hb dX1_outs_25 (by decide) ?_
      have hP9 := hP.sub (ws' := [(g0, .inr (1, [.int (nI 1), .ref bT, .int (nI tp), .ref bO, .int (nI os), .ref bL, .ref bW, .ref bB, .ref bD, .long dn, .long lf, .int (bI mf), .ref bX])), (bO, .inl (cI, 64, .inl (fun i9 => nI (mo i9))))]) [1, 0] rfl
      have hD9 := hD.sub (ws' := [(g0, .inr (1, [.int (nI 1), .ref bT, .int (nI tp), .ref bO, .int (nI os), .ref bL, .ref bW, .ref bB, .ref bD, .long dn, .long lf, .int (bI mf), .ref bX])), (bO, .inl (cI, 64, .inl (fun i9 => nI (mo i9))))]) [1, 0] (by decide) rfl
      exact W.lret (v := 0) hx hb hr (fun t ht hW => ⟨⟨0, 1, rfl, Or.inl ⟨by first | exact okI_f1 c2 | exact okI_f2 (by omega) (Int32.not_lt.mp c10), rfl⟩, by rw [ht]; exact hP9, va_K.moved hW.alike hK, hD9⟩, hS.F ht⟩) hS.2.2 dX1_outs_26
