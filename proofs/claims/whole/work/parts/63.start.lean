set_option maxHeartbeats 4000000 in
set_option maxRecDepth 100000 in
theorem whole_start {p : Program} {e : Env} {s : State} {m : MethodId} {below : List Frame} {meth : Method} {c : Code} (l : Launch) (hl9 : l.stackTraces = false) {b L : Nat} {xs : Nat → Int32} (hL : L ≤ 3584) (C0 : lw_At p s m meth c b L xs) : W p l e room_1 s m #[Value.ref b] below meth c s.heap [] 0 0 (lw_Z below #[Value.ref b] s) (entryFrame m ([Value.ref b] : List Value).toArray 8) := by
  obtain ⟨hx, hb, hr, hml, hown, hts0, hX, hbl, hlocks, hgv⟩ := id C0
  obtain ⟨hxw, hxn, hxz⟩ := law_xw hts0 hgv
  have hts : ∀ w ∈ wsL_law, w.before #[Value.ref b] s = true := fun w h => hts0 w (wsL_law_in w h)
  have hown : s.vm.findClass RL = some m.cls := hown
  have hb : c.code = cL_law := hb
  have hA : ∀ q : Nat, s.heap.size ≤ q → (fun q : Nat => s.heap.size ≤ q) q := fun _ h => h
  have hbA : ¬ (fun q : Nat => s.heap.size ≤ q) b := Nat.not_le.mpr hbl
  have hL31 : L < 2 ^ 31 := by omega
  obtain ⟨c0, iS0, hKn0⟩ := u_known (C := RX0) (T := TX0) (N := 12) (n := 12) hts0 inX0 (hts (.instantiable RX0 12) (by decide +kernel))
  obtain ⟨c1, iS1, hKn1⟩ := u_known (C := RX1) (T := TX1) (N := 13) (n := 13) hts0 inX1 (hts (.instantiable RX1 13) (by decide +kernel))
  obtain ⟨dC, dI, hKc⟩ : ∃ (dC : Nat → ClassId) (dI : Nat → Nat → Nat), ∀ (k : Nat) (q : vw_C), vwCl[k]? = some q → u_Kn s q.1 q.2.1 q.2.2 (dC k) (dI k) := by
    refine ⟨fun k => if k = 0 then c0 else c1, fun k => if k = 0 then iS0 else iS1, ?_⟩
    intro k q hq
    match k, hq with
    | 0, hq => cases hq; exact hKn0
    | 1, hq => cases hq; exact hKn1
    | k + 2, hq => simp [vwCl] at hq
  have hS : va_S (fun q : Nat => s.heap.size ≤ q) s.heap s.heap [] := va_S.rf
  have hK : va_K (dC, dI) vwCl [] s := ⟨hKc, fun k q h => by simp at h⟩
  have hP : va_P (dC, dI) vwCl [] s.heap := fun k q h => by simp at h
  have hD : va_D (fun q : Nat => s.heap.size ≤ q) [] := ⟨fun i j p q h => by simp at h, fun k q h => by simp at h⟩
  have hl := lv_entry ([.ref b]) (n := 8) (Nat.le_of_ble_eq_true rfl)
  rw [lg_entry_eq]
  generalize (lg_sl ([.ref b]) ++ List.replicate (8 - (lg_sl ([.ref b])).length) Slot.unset).toArray = ls at hl ⊢
  have hl : lv_has ls 8 [(0, .ref b)] := hl
  refine va_new (ci := 0) (fs := [.null, .null, .null, .null, .int (nI 0), .null, .int (nI 0), .null, .int (nI 0), .int (bI false), .int 0, .long 0]) (C := RX0) (T := TX0) (N := 12) hx hb hts0 inX0 tyX0 tyX0_ok hown (hts (.classLink RL 8 RX0) (by decide +kernel)) (hts (.instantiable RX0 12) (by decide +kernel)) (hts (.initialized RX0) (by decide +kernel)) hK hP hD hS hA rfl (fun j hj => by rcases (show j = 0 ∨ j = 1 ∨ j = 2 ∨ j = 3 ∨ j = 4 ∨ j = 5 ∨ j = 6 ∨ j = 7 ∨ j = 8 ∨ j = 9 ∨ j = 10 ∨ j = 11 by omega) with rfl | rfl | rfl | rfl | rfl | rfl | rfl | rfl | rfl | rfl | rfl | rfl <;> rfl) (by decide) (by decide) dL_law_0 (fun h0 H hP hD hS => ?_)
  replace hP : va_P (dC, dI) vwCl [(h0, .inr (0, [.null, .null, .null, .null, .int (nI 0), .null, .int (nI 0), .null, .int (nI 0), .int (bI false), .int 0, .long 0]))] H := hP
  replace hD : va_D (fun q : Nat => s.heap.size ≤ q) [(h0, .inr (0, [.null, .null, .null, .null, .int (nI 0), .null, .int (nI 0), .null, .int (nI 0), .int (bI false), .int 0, .long 0]))] := hD
  refine W.widen (k := 1) (n := 12) (Nat.le_refl _) (Nat.le_refl _) ?_
  refine lv_dup hx hb dL_law_3 rfl ?_
  have hPc := hP.sub (ws' := [(h0, .inr (0, [.null, .null, .null, .null, .int (nI 0), .null, .int (nI 0), .null, .int (nI 0), .int (bI false), .int 0, .long 0]))]) [0] rfl
  have hDc := hD.sub (ws' := [(h0, .inr (0, [.null, .null, .null, .null, .int (nI 0), .null, .int (nI 0), .null, .int (nI 0), .int (bI false), .int 0, .long 0]))]) [0] (by decide) rfl
  have hKc := hK.sub (tys' := []) [] rfl
  have hFc := va_free (wc := [(h0, .inr (0, [.null, .null, .null, .null, .int (nI 0), .null, .int (nI 0), .null, .int (nI 0), .int (bI false), .int 0, .long 0]))]) hD hS hA [0] rfl
  refine va_callv (va_runI (As := []) (rest := [.ref h0]) ⟨hx, hb, hml, hown, hts⟩ (c_X0_init l dC dI H.size h0) (cwI 0 hts gL_law_X0_init rfl rfl rfl (hts (.initialized RX0) (by decide +kernel)) (hts (.methodLink RL 60 yX0_init) (by decide +kernel)) (hts (.instanceMethod yX0_init) (by decide +kernel)) rfl (by decide +kernel) ⟨Nat.le_of_ble_eq_true rfl, Nat.le_of_ble_eq_true rfl⟩) ⟨fun a U g mk q => by obtain ⟨q0, q1, qP, qK, qD⟩ := q; exact ⟨q0, q1, qP, va_K.moved (u := U) (U := U.calling g mk a) (Vm.Alike.refl U.vm) qK, qD⟩, fun U hU hW => ⟨rfl, by rw [hU], by rw [hU]; exact hPc, va_K.moved hW.alike hKc, hDc.weaken (fun _ _ _ _ => trivial)⟩⟩ rfl rfl hl.1 rfl (lv_room (Nat.le_of_ble_eq_true rfl)) dL_law_4 ⟨by decide, by decide⟩) hS (fun q _ h => hFc q h) hFc (fun u t H1 locs ht hvm hw hB hz1 hk1 hS => ?_)
  obtain ⟨aN, aL, aK, aC, aT, aO, cJ, cI⟩ := u
  obtain ⟨hP1, hK1, hD1⟩ := hB
  rw [ht] at hP1
  have hK1 := va_K.moved hvm.symm hK1
  replace hK : va_K (dC, dI) vwCl [(cJ, .long), (cI, .int)] s := hK1
  obtain ⟨hPn, hDn⟩ := va_join (wr := []) (w1 := [(h0, .inr (0, [.ref aN, .ref aL, .ref aK, .ref aC, .int (nI 16), .ref aT, .int (nI 0), .ref aO, .int (nI 0), .int (bI false), .int ((-1)), .long 0])), (aN, .inl (cJ, 9504, .inr (.inl zL))), (aL, .inl (cJ, 9504, .inr (.inl zL))), (aK, .inl (cI, 1056, .inl (fun i9 => nI ((flF zN 1 1056) i9)))), (aC, .inl (cI, 4, .inl (fun i9 => nI ((va_up zN 1 1056) i9)))), (aT, .inl (cJ, 8, .inr (.inl zL))), (aO, .inl (cJ, 8, .inr (.inl zL)))]) hP hD [0] [] rfl rfl (by decide) (by decide) hk1 hFc hP1 hD1
  clear hP hD hP1 hD1 hPc hDc hKc hFc hk1 hz1 hvm ht
  generalize H1 = H at hPn hS ⊢
  have hP := hPn
  have hD := hDn
  clear hPn hDn
  replace hP : va_P (dC, dI) vwCl [(h0, .inr (0, [.ref aN, .ref aL, .ref aK, .ref aC, .int (nI 16), .ref aT, .int (nI 0), .ref aO, .int (nI 0), .int (bI false), .int ((-1)), .long 0])), (aN, .inl (cJ, 9504, .inr (.inl zL))), (aL, .inl (cJ, 9504, .inr (.inl zL))), (aK, .inl (cI, 1056, .inl (fun i9 => nI ((flF zN 1 1056) i9)))), (aC, .inl (cI, 4, .inl (fun i9 => nI ((va_up zN 1 1056) i9)))), (aT, .inl (cJ, 8, .inr (.inl zL))), (aO, .inl (cJ, 8, .inr (.inl zL)))] H := hP
  replace hD : va_D (fun q : Nat => s.heap.size ≤ q) [(h0, .inr (0, [.ref aN, .ref aL, .ref aK, .ref aC, .int (nI 16), .ref aT, .int (nI 0), .ref aO, .int (nI 0), .int (bI false), .int ((-1)), .long 0])), (aN, .inl (cJ, 9504, .inr (.inl zL))), (aL, .inl (cJ, 9504, .inr (.inl zL))), (aK, .inl (cI, 1056, .inl (fun i9 => nI ((flF zN 1 1056) i9)))), (aC, .inl (cI, 4, .inl (fun i9 => nI ((va_up zN 1 1056) i9)))), (aT, .inl (cJ, 8, .inr (.inl zL))), (aO, .inl (cJ, 8, .inr (.inl zL)))] := hD
  refine W.widen (k := 7) (n := 20096) (Nat.le_refl _) (Nat.le_refl _) ?_
  refine lv_astore_n (lv' := [(1, .ref h0), (0, .ref b)]) hx hb dL_law_7 rfl hl (by decide) rfl (fun ls hl => ?_)
  refine va_new (ci := 1) (fs := [.int (nI 0), .null, .int (nI 0), .null, .int (nI 0), .null, .null, .null, .null, .long 0, .long 0, .int (bI false), .null]) (C := RX1) (T := TX1) (N := 13) hx hb hts0 inX1 tyX1 tyX1_ok hown (hts (.classLink RL 61 RX1) (by decide +kernel)) (hts (.instantiable RX1 13) (by decide +kernel)) (hts (.initialized RX1) (by decide +kernel)) hK hP hD hS hA rfl (fun j hj => by rcases (show j = 0 ∨ j = 1 ∨ j = 2 ∨ j = 3 ∨ j = 4 ∨ j = 5 ∨ j = 6 ∨ j = 7 ∨ j = 8 ∨ j = 9 ∨ j = 10 ∨ j = 11 ∨ j = 12 by omega) with rfl | rfl | rfl | rfl | rfl | rfl | rfl | rfl | rfl | rfl | rfl | rfl | rfl <;> rfl) (by decide) (by decide) dL_law_8 (fun g0 H hP hD hS => ?_)
  replace hP : va_P (dC, dI) vwCl [(h0, .inr (0, [.ref aN, .ref aL, .ref aK, .ref aC, .int (nI 16), .ref aT, .int (nI 0), .ref aO, .int (nI 0), .int (bI false), .int ((-1)), .long 0])), (aN, .inl (cJ, 9504, .inr (.inl zL))), (aL, .inl (cJ, 9504, .inr (.inl zL))), (aK, .inl (cI, 1056, .inl (fun i9 => nI ((flF zN 1 1056) i9)))), (aC, .inl (cI, 4, .inl (fun i9 => nI ((va_up zN 1 1056) i9)))), (aT, .inl (cJ, 8, .inr (.inl zL))), (aO, .inl (cJ, 8, .inr (.inl zL))), (g0, .inr (1, [.int (nI 0), .null, .int (nI 0), .null, .int (nI 0), .null, .null, .null, .null, .long 0, .long 0, .int (bI false), .null]))] H := hP
  replace hD : va_D (fun q : Nat => s.heap.size ≤ q) [(h0, .inr (0, [.ref aN, .ref aL, .ref aK, .ref aC, .int (nI 16), .ref aT, .int (nI 0), .ref aO, .int (nI 0), .int (bI false), .int ((-1)), .long 0])), (aN, .inl (cJ, 9504, .inr (.inl zL))), (aL, .inl (cJ, 9504, .inr (.inl zL))), (aK, .inl (cI, 1056, .inl (fun i9 => nI ((flF zN 1 1056) i9)))), (aC, .inl (cI, 4, .inl (fun i9 => nI ((va_up zN 1 1056) i9)))), (aT, .inl (cJ, 8, .inr (.inl zL))), (aO, .inl (cJ, 8, .inr (.inl zL))), (g0, .inr (1, [.int (nI 0), .null, .int (nI 0), .null, .int (nI 0), .null, .null, .null, .null, .long 0, .long 0, .int (bI false), .null]))] := hD
  refine W.widen (k := 8) (n := 20109) (Nat.le_refl _) (Nat.le_refl _) ?_
  refine lv_dup hx hb dL_law_11 rfl ?_
  have hPc := hP.sub (ws' := [(g0, .inr (1, [.int (nI 0), .null, .int (nI 0), .null, .int (nI 0), .null, .null, .null, .null, .long 0, .long 0, .int (bI false), .null]))]) [7] rfl
  have hDc := hD.sub (ws' := [(g0, .inr (1, [.int (nI 0), .null, .int (nI 0), .null, .int (nI 0), .null, .null, .null, .null, .long 0, .long 0, .int (bI false), .null]))]) [7] (by decide) rfl
  have hKc := hK.sub (tys' := []) [] rfl
  have hFc := va_free (wc := [(g0, .inr (1, [.int (nI 0), .null, .int (nI 0), .null, .int (nI 0), .null, .null, .null, .null, .long 0, .long 0, .int (bI false), .null]))]) hD hS hA [7] rfl
  refine va_callv (va_runI (As := []) (rest := [.ref g0]) ⟨hx, hb, hml, hown, hts⟩ (c_X1_init l dC dI H.size g0) (cwI 0 hts gL_law_X1_init rfl rfl rfl (hts (.initialized RX1) (by decide +kernel)) (hts (.methodLink RL 63 yX1_init) (by decide +kernel)) (hts (.instanceMethod yX1_init) (by decide +kernel)) rfl (by decide +kernel) ⟨Nat.le_of_ble_eq_true rfl, Nat.le_of_ble_eq_true rfl⟩) ⟨fun a U g mk q => by obtain ⟨q0, q1, qP, qK, qD⟩ := q; exact ⟨q0, q1, qP, va_K.moved (u := U) (U := U.calling g mk a) (Vm.Alike.refl U.vm) qK, qD⟩, fun U hU hW => ⟨rfl, by rw [hU], by rw [hU]; exact hPc, va_K.moved hW.alike hKc, hDc.weaken (fun _ _ _ _ => trivial)⟩⟩ rfl rfl hl.1 rfl (lv_room (Nat.le_of_ble_eq_true rfl)) dL_law_12 ⟨by decide, by decide⟩) hS (fun q _ h => hFc q h) hFc (fun u t H1 locs ht hvm hw hB hz1 hk1 hS => ?_)
  obtain ⟨bT, bO, bL, bW, bB, bD, bX, cI9, cZ, cB⟩ := u
  obtain ⟨hP1, hK1, hD1⟩ := hB
  rw [ht] at hP1
  have hK1 := va_K.moved hvm.symm hK1
  have hKx := hK.app hK1
  obtain rfl : cI = cI9 := zr_cls hKx 1 2 rfl rfl (fun _ => rfl)
  replace hK := hKx.sub (tys' := [(cJ, .long), (cI, .int), (cZ, .boolean), (cB, .byte)]) [0, 1, 3, 4] rfl
  obtain ⟨hPn, hDn⟩ := va_join (wr := [(h0, .inr (0, [.ref aN, .ref aL, .ref aK, .ref aC, .int (nI 16), .ref aT, .int (nI 0), .ref aO, .int (nI 0), .int (bI false), .int ((-1)), .long 0])), (aN, .inl (cJ, 9504, .inr (.inl zL))), (aL, .inl (cJ, 9504, .inr (.inl zL))), (aK, .inl (cI, 1056, .inl (fun i9 => nI ((flF zN 1 1056) i9)))), (aC, .inl (cI, 4, .inl (fun i9 => nI ((va_up zN 1 1056) i9)))), (aT, .inl (cJ, 8, .inr (.inl zL))), (aO, .inl (cJ, 8, .inr (.inl zL)))]) (w1 := [(g0, .inr (1, [.int (nI 0), .ref bT, .int (nI 0), .ref bO, .int (nI 0), .ref bL, .ref bW, .ref bB, .ref bD, .long 0, .long (-1), .int (bI false), .ref bX])), (bT, .inl (cI, 64, .inl (fun i9 => nI (zN i9)))), (bO, .inl (cI, 64, .inl (fun i9 => nI (zN i9)))), (bL, .inl (cZ, 16, .inl (fun i9 => bI ((flF zZ true 16) i9)))), (bW, .inl (cZ, 1056, .inl (fun i9 => bI (zZ i9)))), (bB, .inl (cB, 73920, .inl (fun i9 => sx (zX i9)))), (bD, .inl (cB, 73920, .inl (fun i9 => sx (zX i9)))), (bX, .inl (cZ, 560, .inl (fun i9 => bI (zZ i9))))]) hP hD [7] [0, 1, 2, 3, 4, 5, 6] rfl rfl (by decide) (by decide) hk1 hFc hP1 hD1
  clear hP hD hP1 hD1 hPc hDc hKc hFc hk1 hz1 hvm ht
  generalize H1 = H at hPn hS ⊢
  have hP := hPn
  have hD := hDn
  clear hPn hDn
  replace hP : va_P (dC, dI) vwCl [(h0, .inr (0, [.ref aN, .ref aL, .ref aK, .ref aC, .int (nI 16), .ref aT, .int (nI 0), .ref aO, .int (nI 0), .int (bI false), .int ((-1)), .long 0])), (aN, .inl (cJ, 9504, .inr (.inl zL))), (aL, .inl (cJ, 9504, .inr (.inl zL))), (aK, .inl (cI, 1056, .inl (fun i9 => nI ((flF zN 1 1056) i9)))), (aC, .inl (cI, 4, .inl (fun i9 => nI ((va_up zN 1 1056) i9)))), (aT, .inl (cJ, 8, .inr (.inl zL))), (aO, .inl (cJ, 8, .inr (.inl zL))), (g0, .inr (1, [.int (nI 0), .ref bT, .int (nI 0), .ref bO, .int (nI 0), .ref bL, .ref bW, .ref bB, .ref bD, .long 0, .long (-1), .int (bI false), .ref bX])), (bT, .inl (cI, 64, .inl (fun i9 => nI (zN i9)))), (bO, .inl (cI, 64, .inl (fun i9 => nI (zN i9)))), (bL, .inl (cZ, 16, .inl (fun i9 => bI ((flF zZ true 16) i9)))), (bW, .inl (cZ, 1056, .inl (fun i9 => bI (zZ i9)))), (bB, .inl (cB, 73920, .inl (fun i9 => sx (zX i9)))), (bD, .inl (cB, 73920, .inl (fun i9 => sx (zX i9)))), (bX, .inl (cZ, 560, .inl (fun i9 => bI (zZ i9))))] H := hP
  replace hD : va_D (fun q : Nat => s.heap.size ≤ q) [(h0, .inr (0, [.ref aN, .ref aL, .ref aK, .ref aC, .int (nI 16), .ref aT, .int (nI 0), .ref aO, .int (nI 0), .int (bI false), .int ((-1)), .long 0])), (aN, .inl (cJ, 9504, .inr (.inl zL))), (aL, .inl (cJ, 9504, .inr (.inl zL))), (aK, .inl (cI, 1056, .inl (fun i9 => nI ((flF zN 1 1056) i9)))), (aC, .inl (cI, 4, .inl (fun i9 => nI ((va_up zN 1 1056) i9)))), (aT, .inl (cJ, 8, .inr (.inl zL))), (aO, .inl (cJ, 8, .inr (.inl zL))), (g0, .inr (1, [.int (nI 0), .ref bT, .int (nI 0), .ref bO, .int (nI 0), .ref bL, .ref bW, .ref bB, .ref bD, .long 0, .long (-1), .int (bI false), .ref bX])), (bT, .inl (cI, 64, .inl (fun i9 => nI (zN i9)))), (bO, .inl (cI, 64, .inl (fun i9 => nI (zN i9)))), (bL, .inl (cZ, 16, .inl (fun i9 => bI ((flF zZ true 16) i9)))), (bW, .inl (cZ, 1056, .inl (fun i9 => bI (zZ i9)))), (bB, .inl (cB, 73920, .inl (fun i9 => sx (zX i9)))), (bD, .inl (cB, 73920, .inl (fun i9 => sx (zX i9)))), (bX, .inl (cZ, 560, .inl (fun i9 => bI (zZ i9))))] := hD
  refine W.widen (k := 15) (n := 169709) (Nat.le_refl _) (Nat.le_refl _) ?_
  refine lv_astore_n (lv' := [(2, .ref g0), (1, .ref h0), (0, .ref b)]) hx hb dL_law_15 rfl hl (by decide) rfl (fun ls hl => ?_)
  refine lv_iconst (v := nI 1) hx hb dL_law_16 (by decide) ?_
  refine va_newa (atype := .long) (ty := .long) (a0 := (1, .inr (.inl zL))) hx hb (hts (.arrayClass .long) (by decide +kernel)) rfl hK hP hD hS hA (fun cA => zr_nJ cA 1) (nI_pos (by decide)) (nI_clamp (by decide)) (by decide) (Nat.le_of_ble_eq_true rfl) (Nat.le_of_ble_eq_true rfl) dL_law_17 (fun aU c9 H hK hP hD hS => ?_)
  obtain rfl : cJ = c9 := zr_cls hK 0 4 rfl rfl (fun _ => rfl)
  have hK := hK.sub (tys' := [(cJ, .long), (cI, .int), (cZ, .boolean), (cB, .byte)]) [0, 1, 2, 3] rfl
  replace hP : va_P (dC, dI) vwCl [(h0, .inr (0, [.ref aN, .ref aL, .ref aK, .ref aC, .int (nI 16), .ref aT, .int (nI 0), .ref aO, .int (nI 0), .int (bI false), .int ((-1)), .long 0])), (aN, .inl (cJ, 9504, .inr (.inl zL))), (aL, .inl (cJ, 9504, .inr (.inl zL))), (aK, .inl (cI, 1056, .inl (fun i9 => nI ((flF zN 1 1056) i9)))), (aC, .inl (cI, 4, .inl (fun i9 => nI ((va_up zN 1 1056) i9)))), (aT, .inl (cJ, 8, .inr (.inl zL))), (aO, .inl (cJ, 8, .inr (.inl zL))), (g0, .inr (1, [.int (nI 0), .ref bT, .int (nI 0), .ref bO, .int (nI 0), .ref bL, .ref bW, .ref bB, .ref bD, .long 0, .long (-1), .int (bI false), .ref bX])), (bT, .inl (cI, 64, .inl (fun i9 => nI (zN i9)))), (bO, .inl (cI, 64, .inl (fun i9 => nI (zN i9)))), (bL, .inl (cZ, 16, .inl (fun i9 => bI ((flF zZ true 16) i9)))), (bW, .inl (cZ, 1056, .inl (fun i9 => bI (zZ i9)))), (bB, .inl (cB, 73920, .inl (fun i9 => sx (zX i9)))), (bD, .inl (cB, 73920, .inl (fun i9 => sx (zX i9)))), (bX, .inl (cZ, 560, .inl (fun i9 => bI (zZ i9)))), (aU, .inl (cJ, 1, .inr (.inl zL)))] H := hP
  replace hD : va_D (fun q : Nat => s.heap.size ≤ q) [(h0, .inr (0, [.ref aN, .ref aL, .ref aK, .ref aC, .int (nI 16), .ref aT, .int (nI 0), .ref aO, .int (nI 0), .int (bI false), .int ((-1)), .long 0])), (aN, .inl (cJ, 9504, .inr (.inl zL))), (aL, .inl (cJ, 9504, .inr (.inl zL))), (aK, .inl (cI, 1056, .inl (fun i9 => nI ((flF zN 1 1056) i9)))), (aC, .inl (cI, 4, .inl (fun i9 => nI ((va_up zN 1 1056) i9)))), (aT, .inl (cJ, 8, .inr (.inl zL))), (aO, .inl (cJ, 8, .inr (.inl zL))), (g0, .inr (1, [.int (nI 0), .ref bT, .int (nI 0), .ref bO, .int (nI 0), .ref bL, .ref bW, .ref bB, .ref bD, .long 0, .long (-1), .int (bI false), .ref bX])), (bT, .inl (cI, 64, .inl (fun i9 => nI (zN i9)))), (bO, .inl (cI, 64, .inl (fun i9 => nI (zN i9)))), (bL, .inl (cZ, 16, .inl (fun i9 => bI ((flF zZ true 16) i9)))), (bW, .inl (cZ, 1056, .inl (fun i9 => bI (zZ i9)))), (bB, .inl (cB, 73920, .inl (fun i9 => sx (zX i9)))), (bD, .inl (cB, 73920, .inl (fun i9 => sx (zX i9)))), (bX, .inl (cZ, 560, .inl (fun i9 => bI (zZ i9)))), (aU, .inl (cJ, 1, .inr (.inl zL)))] := hD
  refine W.widen (k := 16) (n := 169710) (Nat.le_refl _) (Nat.le_refl _) ?_
  refine lv_astore_n (lv' := [(3, .ref aU), (2, .ref g0), (1, .ref h0), (0, .ref b)]) hx hb dL_law_19 rfl hl (by decide) rfl (fun ls hl => ?_)
  refine lv_iconst (v := nI 0) hx hb dL_law_20 (by decide) ?_
  refine lv_istore (lv' := [(4, .int (nI 0)), (3, .ref aU), (2, .ref g0), (1, .ref h0), (0, .ref b)]) hx hb dL_law_21 hl (by decide) rfl (fun ls hl => ?_)
  exact law_loop hl9 hx hb hml hown hts hX hbl hL31 hxw hxz hxn hr hlocks hL h0 aN aL aK aC aT aO aU cJ cI g0 bT bO bL bW bB bD bX cZ cB hK (L / 7 + 1) 0 (by omega) (by omega) zL zL (flF zN 1 1056) (va_up zN 1 1056) 16 zL 0 zL 0 false ((-1)) 0 zL 0 0 0 0 (-1) false zN zN (flF zZ true 16) zZ zZ zX zX rel_init H _ ls (hP.sub [0, 1, 2, 3, 4, 5, 6, 15, 7, 8, 9, 10, 11, 12, 13, 14] rfl) (hD.sub [0, 1, 2, 3, 4, 5, 6, 15, 7, 8, 9, 10, 11, 12, 13, 14] (by decide) rfl) hS (lv_sub hl [4, 3, 2, 1, 0] rfl)
