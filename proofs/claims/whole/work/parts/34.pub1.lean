set_option maxHeartbeats 4000000 in
set_option maxRecDepth 100000 in
theorem c_X0_feed (l : Launch) (hl9 : l.stackTraces = false) (dC : Nat → ClassId) (dI : Nat → Nat → Nat) (sz : Nat) (h0 aN aL aK aC aT aO : Nat) (ld tb ob : Nat) (off : Bool) (wl : Int32) (wd : Int64) (cJ : ClassId) (tape : Nat → Int64) (x : Int32) (v : Int64) (htb : tb ≤ 64) : vx_Met l yX0_feed wsX0_feed ({ frames := 6, cells := 1, slots := 6, locals := 82 }) (va_Pc [.ref h0, .int x, .long v] (fun U => U.heap.size = sz ∧ va_P (dC, dI) vwCl [(h0, .inr (0, [.ref aN, .ref aL, .ref aK, .ref aC, .int (nI ld), .ref aT, .int (nI tb), .ref aO, .int (nI ob), .int (bI off), .int wl, .long wd])), (aT, .inl (cJ, 8, .inr (.inl tape)))] U.heap ∧ va_K (dC, dI) vwCl [(cJ, .long)] U ∧ va_D (fun _ => True) [(h0, .inr (0, [.ref aN, .ref aL, .ref aK, .ref aC, .int (nI ld), .ref aT, .int (nI tb), .ref aO, .int (nI ob), .int (bI off), .int wl, .long wd])), (aT, .inl (cJ, 8, .inr (.inl tape)))] ∧ xw U ∧ xz (va_A [(h0, .inr (0, [.ref aN, .ref aL, .ref aK, .ref aC, .int (nI ld), .ref aT, .int (nI tb), .ref aO, .int (nI ob), .int (bI off), .int wl, .long wd])), (aT, .inl (cJ, 8, .inr (.inl tape)))] sz) U U.heap)) (va_Qi (fun (r : Int32) (k : Nat) => 1 ≤ k ∧ k ≤ 8 ∧ x = nI k ∧ tb + k ≤ 64 ∧ r = nI (tb + k)) (fun (k : Nat) t => va_P (dC, dI) vwCl [(h0, .inr (0, [.ref aN, .ref aL, .ref aK, .ref aC, .int (nI ld), .ref aT, .int (nI (tb + k)), .ref aO, .int (nI ob), .int (bI off), .int wl, .long wd])), (aT, .inl (cJ, 8, .inr (.inl (tF tape 0 tb v k))))] t.heap ∧ va_K (dC, dI) vwCl [(cJ, .long)] t ∧ va_D (va_A [(h0, .inr (0, [.ref aN, .ref aL, .ref aK, .ref aC, .int (nI ld), .ref aT, .int (nI tb), .ref aO, .int (nI ob), .int (bI off), .int wl, .long wd])), (aT, .inl (cJ, 8, .inr (.inl tape)))] sz) [(h0, .inr (0, [.ref aN, .ref aL, .ref aK, .ref aC, .int (nI ld), .ref aT, .int (nI (tb + k)), .ref aO, .int (nI ob), .int (bI off), .int wl, .long wd])), (aT, .inl (cJ, 8, .inr (.inl (tF tape 0 tb v k))))]) (va_A [(h0, .inr (0, [.ref aN, .ref aL, .ref aK, .ref aC, .int (nI ld), .ref aT, .int (nI tb), .ref aO, .int (nI ob), .int (bI off), .int wl, .long wd])), (aT, .inl (cJ, 8, .inr (.inl tape)))] sz)) (vx_X (fun (_ : Unit) => True) (fun E (_ : Unit) t => ((E = "java/lang/IllegalArgumentException" ∧ okC x = false) ∨ (E = "java/lang/IllegalStateException" ∧ ∃ k : Nat, 1 ≤ k ∧ k ≤ 8 ∧ x = nI k ∧ 64 < tb + k)) ∧ va_P (dC, dI) vwCl [(h0, .inr (0, [.ref aN, .ref aL, .ref aK, .ref aC, .int (nI ld), .ref aT, .int (nI tb), .ref aO, .int (nI ob), .int (bI off), .int wl, .long wd])), (aT, .inl (cJ, 8, .inr (.inl tape)))] t.heap ∧ va_K (dC, dI) vwCl [(cJ, .long)] t ∧ va_D (va_A [(h0, .inr (0, [.ref aN, .ref aL, .ref aK, .ref aC, .int (nI ld), .ref aT, .int (nI tb), .ref aO, .int (nI ob), .int (bI off), .int wl, .long wd])), (aT, .inl (cJ, 8, .inr (.inl tape)))] sz) [(h0, .inr (0, [.ref aN, .ref aL, .ref aK, .ref aC, .int (nI ld), .ref aT, .int (nI tb), .ref aO, .int (nI ob), .int (bI off), .int wl, .long wd])), (aT, .inl (cJ, 8, .inr (.inl tape)))]) (va_A [(h0, .inr (0, [.ref aN, .ref aL, .ref aK, .ref aC, .int (nI ld), .ref aT, .int (nI tb), .ref aO, .int (nI ob), .int (bI off), .int wl, .long wd])), (aT, .inl (cJ, 8, .inr (.inl tape)))] sz)) 1 6 (va_A [(h0, .inr (0, [.ref aN, .ref aL, .ref aK, .ref aC, .int (nI ld), .ref aT, .int (nI tb), .ref aO, .int (nI ob), .int (bI off), .int wl, .long wd])), (aT, .inl (cJ, 8, .inr (.inl tape)))] sz) := by
  refine vx_ofW (cc := cX0_feed) (maxL := 4) (ret := some .int) (by decide) rfl ?_
  intro p e s m args below meth c s₁ B hml hno hv
  obtain ⟨rfl, hsz, hP, hK, hD0, hxw, hxz⟩ := hv
  have hx := B.exec
  have hb := B.bytes
  have hr := B.returns
  have hts := atoms_spec (ws := wsX0_feed) B.pre
  have hown : s.vm.findClass RX0 = some m.cls := findClass_of_methodNamed B.named
  have hlocks := B.notSynchronized
  subst hsz
  have hD := hD0.self (sz := s.heap.size)
  generalize hAe : va_A [(h0, .inr (0, [.ref aN, .ref aL, .ref aK, .ref aC, .int (nI ld), .ref aT, .int (nI tb), .ref aO, .int (nI ob), .int (bI off), .int wl, .long wd])), (aT, .inl (cJ, 8, .inr (.inl tape)))] s.heap.size = A at hD hxz ⊢
  have hA : ∀ q : Nat, s.heap.size ≤ q → A q := fun q h => by rw [← hAe]; exact Or.inr h
  generalize hH : s.heap = H at hP ⊢
  have hS : va_S A s.heap H [] := by rw [hH]; exact va_S.rf
  replace hP : va_P (dC, dI) vwCl [(h0, .inr (0, [.ref aN, .ref aL, .ref aK, .ref aC, .int (nI ld), .ref aT, .int (nI tb), .ref aO, .int (nI ob), .int (bI off), .int wl, .long wd])), (aT, .inl (cJ, 8, .inr (.inl tape)))] H := hP
  have hl := lv_entry ([.ref h0, .int x, .long v]) (n := 4) (Nat.le_of_ble_eq_true rfl)
  rw [lg_entry_eq]
  generalize (lg_sl ([.ref h0, .int x, .long v]) ++ List.replicate (4 - (lg_sl ([.ref h0, .int x, .long v])).length) Slot.unset).toArray = ls at hl ⊢
  have hl : lv_has ls 4 [(0, .ref h0), (1, .int x), (2, .long v)] := hl
  have hi0 : ∀ w ∈ u_ws RX0 TX0 12, w ∈ wsX0_feed := by decide +kernel
  have hat0 : ∀ w ∈ vx_atS RX0 64 "java/lang/IllegalArgumentException" ["java/lang/RuntimeException", "java/lang/Exception"], w.before _ s = true := vx_hat (L := vx_atS RX0 64 "java/lang/IllegalArgumentException" ["java/lang/RuntimeException", "java/lang/Exception"]) (B := [.castable "java/lang/IllegalArgumentException" "java/lang/IllegalArgumentException", .declares ⟨"java/lang/RuntimeException", "<init>", "(Ljava/lang/String;)V"⟩, .declares ⟨"java/lang/Exception", "<init>", "(Ljava/lang/String;)V"⟩, .declares ⟨"java/lang/Throwable", "<init>", "(Ljava/lang/String;)V"⟩]) (fun w hw => hts w ((by decide +kernel : ∀ w ∈ (vx_atS RX0 64 "java/lang/IllegalArgumentException" ["java/lang/RuntimeException", "java/lang/Exception"]).filter goodWord, w ∈ wsX0_feed) w hw)) (by decide +kernel) (vx_c (va_Nw.use rfl hxw.1.1) (vx_c (va_Nw.use rfl hxw.1.2.2.2.1) (vx_c (va_Nw.use rfl hxw.1.2.2.2.2.1) (vx_c (va_Nw.use rfl hxw.1.2.2.2.2.2) (vx_n)))))
  have hat1 : ∀ w ∈ vx_atS RX0 71 "java/lang/IllegalStateException" ["java/lang/RuntimeException", "java/lang/Exception"], w.before _ s = true := vx_hat (L := vx_atS RX0 71 "java/lang/IllegalStateException" ["java/lang/RuntimeException", "java/lang/Exception"]) (B := [.castable "java/lang/IllegalStateException" "java/lang/IllegalStateException", .declares ⟨"java/lang/RuntimeException", "<init>", "(Ljava/lang/String;)V"⟩, .declares ⟨"java/lang/Exception", "<init>", "(Ljava/lang/String;)V"⟩, .declares ⟨"java/lang/Throwable", "<init>", "(Ljava/lang/String;)V"⟩]) (fun w hw => hts w ((by decide +kernel : ∀ w ∈ (vx_atS RX0 71 "java/lang/IllegalStateException" ["java/lang/RuntimeException", "java/lang/Exception"]).filter goodWord, w ∈ wsX0_feed) w hw)) (by decide +kernel) (vx_c (va_Nw.use rfl hxw.1.2.1) (vx_c (va_Nw.use rfl hxw.1.2.2.2.1) (vx_c (va_Nw.use rfl hxw.1.2.2.2.2.1) (vx_c (va_Nw.use rfl hxw.1.2.2.2.2.2) (vx_n)))))
  refine lv_iload_n hx hb dX0_feed_0 rfl (lv_at hl 1 rfl) ?_
  have hPc := hP.sub (ws' := []) [] rfl
  have hDc := hD.sub (ws' := []) [] (by decide) rfl
  have hKc := hK.sub (tys' := []) [] rfl
  have hFc := va_free (wc := []) hD hS hA [] rfl
  refine va_calli (va_runS (As := [.int x]) (rest := []) ⟨hx, hb, hml, hown, hts⟩ (c_X0_isCount l dC dI H.size x) (va_cwS 1 hts gX0_feed_X0_isCount rfl rfl rfl (by decide +kernel) ⟨Nat.le_of_ble_eq_true rfl, Nat.le_of_ble_eq_true rfl⟩) ⟨fun a U g mk q => by obtain ⟨q0, q1, qP, qK, qD⟩ := q; exact ⟨q0, q1, qP, va_K.moved (u := U) (U := U.calling g mk a) (Vm.Alike.refl U.vm) qK, qD⟩, fun U hU hW => ⟨rfl, by rw [hU], by rw [hU]; exact hPc, va_K.moved hW.alike hKc, hDc.weaken (fun _ _ _ _ => trivial)⟩⟩ rfl rfl hl.1 rfl (lv_room (Nat.le_of_ble_eq_true rfl)) dX0_feed_1 ⟨Nat.le_of_ble_eq_true rfl, Nat.le_of_ble_eq_true rfl⟩) hS (fun q _ h => hFc q h) hFc (fun r_1 u t H1 locs ht hvm hw hB hz1 hk1 hS => ?_)
  obtain ⟨hP1, hK1, hD1⟩ := hB
  rw [ht] at hP1
  obtain ⟨hPn, hDn⟩ := va_join (wr := [(h0, .inr (0, [.ref aN, .ref aL, .ref aK, .ref aC, .int (nI ld), .ref aT, .int (nI tb), .ref aO, .int (nI ob), .int (bI off), .int wl, .long wd])), (aT, .inl (cJ, 8, .inr (.inl tape)))]) (w1 := []) hP hD [] [0, 1] rfl rfl (by decide) (by decide) hk1 hFc hP1 hD1
  clear hP hD hP1 hD1 hK1 hPc hDc hKc hFc hk1 hz1 hvm ht
  generalize H1 = H at hPn hS ⊢
  have hP := hPn
  have hD := hDn
  clear hPn hDn
  replace hP : va_P (dC, dI) vwCl [(h0, .inr (0, [.ref aN, .ref aL, .ref aK, .ref aC, .int (nI ld), .ref aT, .int (nI tb), .ref aO, .int (nI ob), .int (bI off), .int wl, .long wd])), (aT, .inl (cJ, 8, .inr (.inl tape)))] H := hP
  replace hD : va_D A [(h0, .inr (0, [.ref aN, .ref aL, .ref aK, .ref aC, .int (nI ld), .ref aT, .int (nI tb), .ref aO, .int (nI ob), .int (bI off), .int wl, .long wd])), (aT, .inl (cJ, 8, .inr (.inl tape)))] := hD
  refine W.widen (k := 0) (n := 0) (Nat.le_refl _) (Nat.le_refl _) ?_
  obtain rfl := hw
  refine zr_ifb_ne (tgt := 17) hx hb dX0_feed_4 (by decide) (fun c4 => ?_) (fun c4 => ?_)
  · obtain ⟨k, hk1, hk8, rfl⟩ := okC_get c4
    refine lv_aload_n hx hb dX0_feed_17 rfl (lv_at hl 0 rfl) ?_
    refine va_get (D := (dC, dI)) (ci := 0) (v := .int (nI tb)) (C := RX0) (T := TX0) (N := 12) hx hb hts hi0 hown hK hP 0 rfl rfl 6 (by decide) (hts (.fieldLink RX0 36 "CellRack" "tapeBytes" "I") (by decide +kernel)) (fun _ h9 => h9) rfl dX0_feed_18 ?_
    refine lv_iload_n hx hb dX0_feed_21 rfl (lv_at hl 1 rfl) ?_
    refine zr_iadd hx hb dX0_feed_22 ?_
    refine lv_bipush (v := nI 64) hx hb dX0_feed_23 (by decide) ?_
    refine zr_icmp_le (tgt := 38) hx hb (by omega) (by omega) dX0_feed_25 (by decide) (fun c25 => ?_) (fun c25 => ?_)
    · refine lv_aload_n hx hb dX0_feed_38 rfl (lv_at hl 0 rfl) ?_
      refine va_get (D := (dC, dI)) (ci := 0) (v := .ref aT) (C := RX0) (T := TX0) (N := 12) hx hb hts hi0 hown hK hP 0 rfl rfl 5 (by decide) (hts (.fieldLink RX0 33 "CellRack" "tape" "[J") (by decide +kernel)) (fun _ h9 => h9) rfl dX0_feed_39 ?_
      refine lv_iconst (v := nI 0) hx hb dX0_feed_42 (by decide) ?_
      refine lv_aload_n hx hb dX0_feed_43 rfl (lv_at hl 0 rfl) ?_
      refine va_get (D := (dC, dI)) (ci := 0) (v := .int (nI tb)) (C := RX0) (T := TX0) (N := 12) hx hb hts hi0 hown hK hP 0 rfl rfl 6 (by decide) (hts (.fieldLink RX0 36 "CellRack" "tapeBytes" "I") (by decide +kernel)) (fun _ h9 => h9) rfl dX0_feed_44 ?_
      refine lv_lload_n hx hb dX0_feed_47 rfl (lv_at hl 2 rfl) ?_
      refine lv_iload_n hx hb dX0_feed_48 rfl (lv_at hl 1 rfl) ?_
      have hPc := hP.sub (ws' := [(aT, .inl (cJ, 8, .inr (.inl tape)))]) [1] rfl
      have hDc := hD.sub (ws' := [(aT, .inl (cJ, 8, .inr (.inl tape)))]) [1] (by decide) rfl
      have hKc := hK.sub (tys' := [(cJ, .long)]) [0] rfl
      have hFc := va_free (wc := [(aT, .inl (cJ, 8, .inr (.inl tape)))]) hD hS hA [1] rfl
      refine va_callv (va_runS (As := [.ref aT, .int (nI 0), .int (nI tb), .long v, .int (nI k)]) (rest := []) ⟨hx, hb, hml, hown, hts⟩ (c_X0_turnBytes l dC dI H.size aT cJ 8 tape 0 tb v k (by decide) (by omega) (by omega) (fun i hi => by omega)) (va_cwS 5 hts gX0_feed_X0_turnBytes rfl rfl rfl (by decide +kernel) ⟨Nat.le_of_ble_eq_true rfl, Nat.le_of_ble_eq_true rfl⟩) ⟨fun a U g mk q => by obtain ⟨q0, q1, qP, qK, qD⟩ := q; exact ⟨q0, q1, qP, va_K.moved (u := U) (U := U.calling g mk a) (Vm.Alike.refl U.vm) qK, qD⟩, fun U hU hW => ⟨rfl, by rw [hU], by rw [hU]; exact hPc, va_K.moved hW.alike hKc, hDc.weaken (fun _ _ _ _ => trivial)⟩⟩ rfl rfl hl.1 rfl (lv_room (Nat.le_of_ble_eq_true rfl)) dX0_feed_49 ⟨Nat.le_of_ble_eq_true rfl, Nat.le_of_ble_eq_true rfl⟩) hS (fun q _ h => hFc q h) hFc (fun u t H1 locs ht hvm hw hB hz1 hk1 hS => ?_)
      obtain ⟨hP1, hK1, hD1⟩ := hB
      rw [ht] at hP1
      obtain ⟨hPn, hDn⟩ := va_join (wr := [(h0, .inr (0, [.ref aN, .ref aL, .ref aK, .ref aC, .int (nI ld), .ref aT, .int (nI tb), .ref aO, .int (nI ob), .int (bI off), .int wl, .long wd]))]) (w1 := [(aT, .inl (cJ, 8, .inr (.inl (tF tape 0 tb v k))))]) hP hD [1] [0] rfl rfl (by decide) (by decide) hk1 hFc hP1 hD1
      clear hP hD hP1 hD1 hK1 hPc hDc hKc hFc hk1 hz1 hvm ht
      generalize H1 = H at hPn hS ⊢
      have hP := hPn
      have hD := hDn
      clear hPn hDn
      replace hP : va_P (dC, dI) vwCl [(h0, .inr (0, [.ref aN, .ref aL, .ref aK, .ref aC, .int (nI ld), .ref aT, .int (nI tb), .ref aO, .int (nI ob), .int (bI off), .int wl, .long wd])), (aT, .inl (cJ, 8, .inr (.inl (tF tape 0 tb v k))))] H := hP
      replace hD : va_D A [(h0, .inr (0, [.ref aN, .ref aL, .ref aK, .ref aC, .int (nI ld), .ref aT, .int (nI tb), .ref aO, .int (nI ob), .int (bI off), .int wl, .long wd])), (aT, .inl (cJ, 8, .inr (.inl (tF tape 0 tb v k))))] := hD
      refine W.widen (k := 0) (n := 0) (Nat.le_refl _) (Nat.le_refl _) ?_
      refine lv_aload_n hx hb dX0_feed_52 rfl (lv_at hl 0 rfl) ?_
      refine lv_dup hx hb dX0_feed_53 rfl ?_
      refine va_get (D := (dC, dI)) (ci := 0) (v := .int (nI tb)) (C := RX0) (T := TX0) (N := 12) hx hb hts hi0 hown hK hP 0 rfl rfl 6 (by decide) (hts (.fieldLink RX0 36 "CellRack" "tapeBytes" "I") (by decide +kernel)) (fun _ h9 => h9) rfl dX0_feed_54 ?_
      refine lv_iload_n hx hb dX0_feed_57 rfl (lv_at hl 1 rfl) ?_
      refine zr_iadd hx hb dX0_feed_58 ?_
      refine va_put (D := (dC, dI)) (ci := 0) (v := .int (nI (tb + k))) (ty := .int) (C := RX0) (T := TX0) (N := 12) hx hb hts hi0 tyX0 tyX0_ok nmX0 hown hK hP hD hS 0 rfl rfl 6 (by decide) (hts (.fieldLink RX0 36 "CellRack" "tapeBytes" "I") (by decide +kernel)) (fun _ h9 => h9) rfl (by decide +kernel) (rfl) (rfl) (Nat.le_of_ble_eq_true rfl) dX0_feed_59 (fun H locs hP hD hS => ?_)
      replace hP : va_P (dC, dI) vwCl [(h0, .inr (0, [.ref aN, .ref aL, .ref aK, .ref aC, .int (nI ld), .ref aT, .int (nI (tb + k)), .ref aO, .int (nI ob), .int (bI off), .int wl, .long wd])), (aT, .inl (cJ, 8, .inr (.inl (tF tape 0 tb v k))))] H := hP
      replace hD : va_D A [(h0, .inr (0, [.ref aN, .ref aL, .ref aK, .ref aC, .int (nI ld), .ref aT, .int (nI (tb + k)), .ref aO, .int (nI ob), .int (bI off), .int wl, .long wd])), (aT, .inl (cJ, 8, .inr (.inl (tF tape 0 tb v k))))] := hD
      refine lv_aload_n hx hb dX0_feed_62 rfl (lv_at hl 0 rfl) ?_
      refine va_get (D := (dC, dI)) (ci := 0) (v := .int (nI (tb + k))) (C := RX0) (T := TX0) (N := 12) hx hb hts hi0 hown hK hP 0 rfl rfl 6 (by decide) (hts (.fieldLink RX0 36 "CellRack" "tapeBytes" "I") (by decide +kernel)) (fun _ h9 => h9) rfl dX0_feed_63 ?_
      refine W.widen (k := 1) (n := 6) (Nat.le_of_ble_eq_true rfl) (Nat.le_of_ble_eq_true rfl) ?_
      refine vx_ret ?_
      have hP9 := hP.sub (ws' := [(h0, .inr (0, [.ref aN, .ref aL, .ref aK, .ref aC, .int (nI ld), .ref aT, .int (nI (tb + k)), .ref aO, .int (nI ob), .int (bI off), .int wl, .long wd])), (aT, .inl (cJ, 8, .inr (.inl (tF tape 0 tb v k))))]) [0, 1] rfl
      have hD9 := hD.sub (ws' := [(h0, .inr (0, [.ref aN, .ref aL, .ref aK, .ref aC, .int (nI ld), .ref aT, .int (nI (tb + k)), .ref aO, .int (nI ob), .int (bI off), .int wl, .long wd])), (aT, .inl (cJ, 8, .inr (.inl (tF tape 0 tb v k))))]) [0, 1] (by decide) rfl
      exact W.iret (v := nI (tb + k)) hx hb hr (fun t ht hW => ⟨⟨nI (tb + k), k, rfl, ⟨hk1, hk8, rfl, by omega, rfl⟩, by rw [ht]; exact hP9, va_K.moved hW.alike hK, hD9⟩, hS.F ht⟩) hS.2.2 dX0_feed_66
    · obtain ⟨sa, hstr⟩ := hxw.2 (69, "the tape would have more than 64 bytes") (by decide)
      have hP9 := hP.sub (ws' := [(h0, .inr (0, [.ref aN, .ref aL, .ref aK, .ref aC, .int (nI ld), .ref aT, .int (nI tb), .ref aO, .int (nI ob), .int (bI off), .int wl, .long wd])), (aT, .inl (cJ, 8, .inr (.inl tape)))]) [0, 1] rfl
      have hD9 := hD.sub (ws' := [(h0, .inr (0, [.ref aN, .ref aL, .ref aK, .ref aC, .int (nI ld), .ref aT, .int (nI tb), .ref aO, .int (nI ob), .int (bI off), .int wl, .long wd])), (aT, .inl (cJ, 8, .inr (.inl tape)))]) [0, 1] (by decide) rfl
      exact vx_throwS (own := RX0) (cls := "java/lang/IllegalStateException") (names := ["java/lang/RuntimeException", "java/lang/Exception"]) hx hb hl9 hown (by decide +kernel) (by decide +kernel) (hts (.classLink RX0 67 "java/lang/IllegalStateException") (by decide +kernel)) (hts (.initialized "java/lang/IllegalStateException") (by decide +kernel)) hstr hat1 (by decide +kernel) hxz.1 hxz.2 hS (hl.1.trans hml.symm) dX0_feed_28 dX0_feed_31 dX0_feed_32 dX0_feed_34 dX0_feed_37 (fun x hx => (hno x hx).elim) (Nat.le_of_ble_eq_true rfl) (Nat.le_of_ble_eq_true rfl) (Nat.le_of_ble_eq_true rfl) (Nat.le_of_ble_eq_true rfl) hlocks (fun t ha hsz hk => ⟨(), trivial, ⟨Or.inr ⟨rfl, k, hk1, hk8, rfl, by omega⟩, hP9.kept (fun k q hq => hk q.1 (hP9 k q hq).lt), va_K.moved ha hK, hD9⟩, Nat.le_trans hS.1 hsz, fun q h1 h2 => (hk q (Nat.lt_of_lt_of_le h1 hS.1)).trans (hS.2.1 q h1 h2)⟩) hS.2.2 (Nat.le_of_ble_eq_true rfl) (Nat.le_of_ble_eq_true rfl)
  · obtain ⟨sa, hstr⟩ := hxw.2 (62, "n is not 1 .. 8") (by decide)
    have hP9 := hP.sub (ws' := [(h0, .inr (0, [.ref aN, .ref aL, .ref aK, .ref aC, .int (nI ld), .ref aT, .int (nI tb), .ref aO, .int (nI ob), .int (bI off), .int wl, .long wd])), (aT, .inl (cJ, 8, .inr (.inl tape)))]) [0, 1] rfl
    have hD9 := hD.sub (ws' := [(h0, .inr (0, [.ref aN, .ref aL, .ref aK, .ref aC, .int (nI ld), .ref aT, .int (nI tb), .ref aO, .int (nI ob), .int (bI off), .int wl, .long wd])), (aT, .inl (cJ, 8, .inr (.inl tape)))]) [0, 1] (by decide) rfl
    exact vx_throwS (own := RX0) (cls := "java/lang/IllegalArgumentException") (names := ["java/lang/RuntimeException", "java/lang/Exception"]) hx hb hl9 hown (by decide +kernel) (by decide +kernel) (hts (.classLink RX0 60 "java/lang/IllegalArgumentException") (by decide +kernel)) (hts (.initialized "java/lang/IllegalArgumentException") (by decide +kernel)) hstr hat0 (by decide +kernel) hxz.1 hxz.2 hS (hl.1.trans hml.symm) dX0_feed_7 dX0_feed_10 dX0_feed_11 dX0_feed_13 dX0_feed_16 (fun x hx => (hno x hx).elim) (Nat.le_of_ble_eq_true rfl) (Nat.le_of_ble_eq_true rfl) (Nat.le_of_ble_eq_true rfl) (Nat.le_of_ble_eq_true rfl) hlocks (fun t ha hsz hk => ⟨(), trivial, ⟨Or.inl ⟨rfl, c4⟩, hP9.kept (fun k q hq => hk q.1 (hP9 k q hq).lt), va_K.moved ha hK, hD9⟩, Nat.le_trans hS.1 hsz, fun q h1 h2 => (hk q (Nat.lt_of_lt_of_le h1 hS.1)).trans (hS.2.1 q h1 h2)⟩) hS.2.2 (Nat.le_of_ble_eq_true rfl) (Nat.le_of_ble_eq_true rfl)
set_option maxHeartbeats 4000000 in
set_option maxRecDepth 100000 in
theorem c_X0_lose (l : Launch) (hl9 : l.stackTraces = false) (dC : Nat → ClassId) (dI : Nat → Nat → Nat) (sz : Nat) (h0 aN aL aK aC aT aO : Nat) (ld tb ob : Nat) (off : Bool) (wl : Int32) (wd : Int64) (x : Int32) : vx_Met l yX0_lose wsX0_lose ({ frames := 6, cells := 1, slots := 6, locals := 82 }) (va_Pc [.ref h0, .int x] (fun U => U.heap.size = sz ∧ va_P (dC, dI) vwCl [(h0, .inr (0, [.ref aN, .ref aL, .ref aK, .ref aC, .int (nI ld), .ref aT, .int (nI tb), .ref aO, .int (nI ob), .int (bI off), .int wl, .long wd]))] U.heap ∧ va_K (dC, dI) vwCl [] U ∧ va_D (fun _ => True) [(h0, .inr (0, [.ref aN, .ref aL, .ref aK, .ref aC, .int (nI ld), .ref aT, .int (nI tb), .ref aO, .int (nI ob), .int (bI off), .int wl, .long wd]))] ∧ xw U ∧ xz (va_A [(h0, .inr (0, [.ref aN, .ref aL, .ref aK, .ref aC, .int (nI ld), .ref aT, .int (nI tb), .ref aO, .int (nI ob), .int (bI off), .int wl, .long wd]))] sz) U U.heap)) (va_Qv (fun (_ : Unit) => nI 1 ≤ x ∧ off = false) (fun (_ : Unit) t => va_P (dC, dI) vwCl [(h0, .inr (0, [.ref aN, .ref aL, .ref aK, .ref aC, .int (nI ld), .ref aT, .int (nI tb), .ref aO, .int (nI ob), .int (bI off), .int (x - (nI 1)), .long wd]))] t.heap ∧ va_K (dC, dI) vwCl [] t ∧ va_D (va_A [(h0, .inr (0, [.ref aN, .ref aL, .ref aK, .ref aC, .int (nI ld), .ref aT, .int (nI tb), .ref aO, .int (nI ob), .int (bI off), .int wl, .long wd]))] sz) [(h0, .inr (0, [.ref aN, .ref aL, .ref aK, .ref aC, .int (nI ld), .ref aT, .int (nI tb), .ref aO, .int (nI ob), .int (bI off), .int (x - (nI 1)), .long wd]))]) (va_A [(h0, .inr (0, [.ref aN, .ref aL, .ref aK, .ref aC, .int (nI ld), .ref aT, .int (nI tb), .ref aO, .int (nI ob), .int (bI off), .int wl, .long wd]))] sz)) (vx_X (fun (_ : Unit) => True) (fun E (_ : Unit) t => ((E = "java/lang/IllegalArgumentException" ∧ ¬ nI 1 ≤ x) ∨ (E = "java/lang/IllegalStateException" ∧ nI 1 ≤ x ∧ off = true)) ∧ va_P (dC, dI) vwCl [(h0, .inr (0, [.ref aN, .ref aL, .ref aK, .ref aC, .int (nI ld), .ref aT, .int (nI tb), .ref aO, .int (nI ob), .int (bI off), .int wl, .long wd]))] t.heap ∧ va_K (dC, dI) vwCl [] t ∧ va_D (va_A [(h0, .inr (0, [.ref aN, .ref aL, .ref aK, .ref aC, .int (nI ld), .ref aT, .int (nI tb), .ref aO, .int (nI ob), .int (bI off), .int wl, .long wd]))] sz) [(h0, .inr (0, [.ref aN, .ref aL, .ref aK, .ref aC, .int (nI ld), .ref aT, .int (nI tb), .ref aO, .int (nI ob), .int (bI off), .int wl, .long wd]))]) (va_A [(h0, .inr (0, [.ref aN, .ref aL, .ref aK, .ref aC, .int (nI ld), .ref aT, .int (nI tb), .ref aO, .int (nI ob), .int (bI off), .int wl, .long wd]))] sz)) 1 6 (va_A [(h0, .inr (0, [.ref aN, .ref aL, .ref aK, .ref aC, .int (nI ld), .ref aT, .int (nI tb), .ref aO, .int (nI ob), .int (bI off), .int wl, .long wd]))] sz) := by
  refine vx_ofW (cc := cX0_lose) (maxL := 2) (ret := none) (by decide) rfl ?_
  intro p e s m args below meth c s₁ B hml hno hv
  obtain ⟨rfl, hsz, hP, hK, hD0, hxw, hxz⟩ := hv
  have hx := B.exec
  have hb := B.bytes
  have hr := B.returns
  have hts := atoms_spec (ws := wsX0_lose) B.pre
  have hown : s.vm.findClass RX0 = some m.cls := findClass_of_methodNamed B.named
  have hlocks := B.notSynchronized
  subst hsz
  have hD := hD0.self (sz := s.heap.size)
  generalize hAe : va_A [(h0, .inr (0, [.ref aN, .ref aL, .ref aK, .ref aC, .int (nI ld), .ref aT, .int (nI tb), .ref aO, .int (nI ob), .int (bI off), .int wl, .long wd]))] s.heap.size = A at hD hxz ⊢
  have hA : ∀ q : Nat, s.heap.size ≤ q → A q := fun q h => by rw [← hAe]; exact Or.inr h
  generalize hH : s.heap = H at hP ⊢
  have hS : va_S A s.heap H [] := by rw [hH]; exact va_S.rf
  replace hP : va_P (dC, dI) vwCl [(h0, .inr (0, [.ref aN, .ref aL, .ref aK, .ref aC, .int (nI ld), .ref aT, .int (nI tb), .ref aO, .int (nI ob), .int (bI off), .int wl, .long wd]))] H := hP
  have hl := lv_entry ([.ref h0, .int x]) (n := 2) (Nat.le_of_ble_eq_true rfl)
  rw [lg_entry_eq]
  generalize (lg_sl ([.ref h0, .int x]) ++ List.replicate (2 - (lg_sl ([.ref h0, .int x])).length) Slot.unset).toArray = ls at hl ⊢
  have hl : lv_has ls 2 [(0, .ref h0), (1, .int x)] := hl
  have hi0 : ∀ w ∈ u_ws RX0 TX0 12, w ∈ wsX0_lose := by decide +kernel
  have hat0 : ∀ w ∈ vx_atS RX0 64 "java/lang/IllegalArgumentException" ["java/lang/RuntimeException", "java/lang/Exception"], w.before _ s = true := vx_hat (L := vx_atS RX0 64 "java/lang/IllegalArgumentException" ["java/lang/RuntimeException", "java/lang/Exception"]) (B := [.castable "java/lang/IllegalArgumentException" "java/lang/IllegalArgumentException", .declares ⟨"java/lang/RuntimeException", "<init>", "(Ljava/lang/String;)V"⟩, .declares ⟨"java/lang/Exception", "<init>", "(Ljava/lang/String;)V"⟩, .declares ⟨"java/lang/Throwable", "<init>", "(Ljava/lang/String;)V"⟩]) (fun w hw => hts w ((by decide +kernel : ∀ w ∈ (vx_atS RX0 64 "java/lang/IllegalArgumentException" ["java/lang/RuntimeException", "java/lang/Exception"]).filter goodWord, w ∈ wsX0_lose) w hw)) (by decide +kernel) (vx_c (va_Nw.use rfl hxw.1.1) (vx_c (va_Nw.use rfl hxw.1.2.2.2.1) (vx_c (va_Nw.use rfl hxw.1.2.2.2.2.1) (vx_c (va_Nw.use rfl hxw.1.2.2.2.2.2) (vx_n)))))
  have hat1 : ∀ w ∈ vx_atS RX0 71 "java/lang/IllegalStateException" ["java/lang/RuntimeException", "java/lang/Exception"], w.before _ s = true := vx_hat (L := vx_atS RX0 71 "java/lang/IllegalStateException" ["java/lang/RuntimeException", "java/lang/Exception"]) (B := [.castable "java/lang/IllegalStateException" "java/lang/IllegalStateException", .declares ⟨"java/lang/RuntimeException", "<init>", "(Ljava/lang/String;)V"⟩, .declares ⟨"java/lang/Exception", "<init>", "(Ljava/lang/String;)V"⟩, .declares ⟨"java/lang/Throwable", "<init>", "(Ljava/lang/String;)V"⟩]) (fun w hw => hts w ((by decide +kernel : ∀ w ∈ (vx_atS RX0 71 "java/lang/IllegalStateException" ["java/lang/RuntimeException", "java/lang/Exception"]).filter goodWord, w ∈ wsX0_lose) w hw)) (by decide +kernel) (vx_c (va_Nw.use rfl hxw.1.2.1) (vx_c (va_Nw.use rfl hxw.1.2.2.2.1) (vx_c (va_Nw.use rfl hxw.1.2.2.2.2.1) (vx_c (va_Nw.use rfl hxw.1.2.2.2.2.2) (vx_n)))))
  refine lv_iload_n hx hb dX0_lose_0 rfl (lv_at hl 1 rfl) ?_
  refine lv_iconst (v := nI 1) hx hb dX0_lose_1 (by decide) ?_
  refine lv_icmp_ge (tgt := 15) hx hb dX0_lose_2 (by decide) (fun c2 => ?_) (fun c2 => ?_)
  · refine lv_aload_n hx hb dX0_lose_15 rfl (lv_at hl 0 rfl) ?_
    refine va_get (D := (dC, dI)) (ci := 0) (v := .int (bI off)) (C := RX0) (T := TX0) (N := 12) hx hb hts hi0 hown hK hP 0 rfl rfl 9 (by decide) (hts (.fieldLink RX0 45 "CellRack" "off" "Z") (by decide +kernel)) (fun _ h9 => h9) rfl dX0_lose_16 ?_
    refine zr_ifb_eq (tgt := 32) hx hb dX0_lose_19 (by decide) (fun c19 => ?_) (fun c19 => ?_)
    · refine lv_aload_n hx hb dX0_lose_32 rfl (lv_at hl 0 rfl) ?_
      refine lv_iload_n hx hb dX0_lose_33 rfl (lv_at hl 1 rfl) ?_
      refine lv_iconst (v := nI 1) hx hb dX0_lose_34 (by decide) ?_
      refine lv_isub hx hb dX0_lose_35 ?_
      refine va_put (D := (dC, dI)) (ci := 0) (v := .int (x - (nI 1))) (ty := .int) (C := RX0) (T := TX0) (N := 12) hx hb hts hi0 tyX0 tyX0_ok nmX0 hown hK hP hD hS 0 rfl rfl 10 (by decide) (hts (.fieldLink RX0 49 "CellRack" "writesLeft" "I") (by decide +kernel)) (fun _ h9 => h9) rfl (by decide +kernel) (rfl) (rfl) (Nat.le_of_ble_eq_true rfl) dX0_lose_36 (fun H locs hP hD hS => ?_)
      replace hP : va_P (dC, dI) vwCl [(h0, .inr (0, [.ref aN, .ref aL, .ref aK, .ref aC, .int (nI ld), .ref aT, .int (nI tb), .ref aO, .int (nI ob), .int (bI off), .int (x - (nI 1)), .long wd]))] H := hP
      replace hD : va_D A [(h0, .inr (0, [.ref aN, .ref aL, .ref aK, .ref aC, .int (nI ld), .ref aT, .int (nI tb), .ref aO, .int (nI ob), .int (bI off), .int (x - (nI 1)), .long wd]))] := hD
      refine W.widen (k := 1) (n := 6) (Nat.le_of_ble_eq_true rfl) (Nat.le_of_ble_eq_true rfl) ?_
      refine vx_ret ?_
      have hP9 := hP.sub (ws' := [(h0, .inr (0, [.ref aN, .ref aL, .ref aK, .ref aC, .int (nI ld), .ref aT, .int (nI tb), .ref aO, .int (nI ob), .int (bI off), .int (x - (nI 1)), .long wd]))]) [0] rfl
      have hD9 := hD.sub (ws' := [(h0, .inr (0, [.ref aN, .ref aL, .ref aK, .ref aC, .int (nI ld), .ref aT, .int (nI tb), .ref aO, .int (nI ob), .int (bI off), .int (x - (nI 1)), .long wd]))]) [0] (by decide) rfl
      exact W.vret hx hb hr (fun t ht hW => ⟨⟨(), rfl, ⟨c2, c19⟩, by rw [ht]; exact hP9, va_K.moved hW.alike hK, hD9⟩, hS.F ht⟩) hS.2.2 dX0_lose_39
    · obtain ⟨sa, hstr⟩ := hxw.2 (153, "the power is off") (by decide)
      have hP9 := hP.sub (ws' := [(h0, .inr (0, [.ref aN, .ref aL, .ref aK, .ref aC, .int (nI ld), .ref aT, .int (nI tb), .ref aO, .int (nI ob), .int (bI off), .int wl, .long wd]))]) [0] rfl
      have hD9 := hD.sub (ws' := [(h0, .inr (0, [.ref aN, .ref aL, .ref aK, .ref aC, .int (nI ld), .ref aT, .int (nI tb), .ref aO, .int (nI ob), .int (bI off), .int wl, .long wd]))]) [0] (by decide) rfl
      exact vx_throwS (own := RX0) (cls := "java/lang/IllegalStateException") (names := ["java/lang/RuntimeException", "java/lang/Exception"]) hx hb hl9 hown (by decide +kernel) (by decide +kernel) (hts (.classLink RX0 67 "java/lang/IllegalStateException") (by decide +kernel)) (hts (.initialized "java/lang/IllegalStateException") (by decide +kernel)) hstr hat1 (by decide +kernel) hxz.1 hxz.2 hS (hl.1.trans hml.symm) dX0_lose_22 dX0_lose_25 dX0_lose_26 dX0_lose_28 dX0_lose_31 (fun x hx => (hno x hx).elim) (Nat.le_of_ble_eq_true rfl) (Nat.le_of_ble_eq_true rfl) (Nat.le_of_ble_eq_true rfl) (Nat.le_of_ble_eq_true rfl) hlocks (fun t ha hsz hk => ⟨(), trivial, ⟨Or.inr ⟨rfl, c2, c19⟩, hP9.kept (fun k q hq => hk q.1 (hP9 k q hq).lt), va_K.moved ha hK, hD9⟩, Nat.le_trans hS.1 hsz, fun q h1 h2 => (hk q (Nat.lt_of_lt_of_le h1 hS.1)).trans (hS.2.1 q h1 h2)⟩) hS.2.2 (Nat.le_of_ble_eq_true rfl) (Nat.le_of_ble_eq_true rfl)
  · obtain ⟨sa, hstr⟩ := hxw.2 (151, "n is below 1") (by decide)
    have hP9 := hP.sub (ws' := [(h0, .inr (0, [.ref aN, .ref aL, .ref aK, .ref aC, .int (nI ld), .ref aT, .int (nI tb), .ref aO, .int (nI ob), .int (bI off), .int wl, .long wd]))]) [0] rfl
    have hD9 := hD.sub (ws' := [(h0, .inr (0, [.ref aN, .ref aL, .ref aK, .ref aC, .int (nI ld), .ref aT, .int (nI tb), .ref aO, .int (nI ob), .int (bI off), .int wl, .long wd]))]) [0] (by decide) rfl
    exact vx_throwS (own := RX0) (cls := "java/lang/IllegalArgumentException") (names := ["java/lang/RuntimeException", "java/lang/Exception"]) hx hb hl9 hown (by decide +kernel) (by decide +kernel) (hts (.classLink RX0 60 "java/lang/IllegalArgumentException") (by decide +kernel)) (hts (.initialized "java/lang/IllegalArgumentException") (by decide +kernel)) hstr hat0 (by decide +kernel) hxz.1 hxz.2 hS (hl.1.trans hml.symm) dX0_lose_5 dX0_lose_8 dX0_lose_9 dX0_lose_11 dX0_lose_14 (fun x hx => (hno x hx).elim) (Nat.le_of_ble_eq_true rfl) (Nat.le_of_ble_eq_true rfl) (Nat.le_of_ble_eq_true rfl) (Nat.le_of_ble_eq_true rfl) hlocks (fun t ha hsz hk => ⟨(), trivial, ⟨Or.inl ⟨rfl, c2⟩, hP9.kept (fun k q hq => hk q.1 (hP9 k q hq).lt), va_K.moved ha hK, hD9⟩, Nat.le_trans hS.1 hsz, fun q h1 h2 => (hk q (Nat.lt_of_lt_of_le h1 hS.1)).trans (hS.2.1 q h1 h2)⟩) hS.2.2 (Nat.le_of_ble_eq_true rfl) (Nat.le_of_ble_eq_true rfl)
set_option maxHeartbeats 4000000 in
set_option maxRecDepth 100000 in
theorem c_X0_power (l : Launch) (dC : Nat → ClassId) (dI : Nat → Nat → Nat) (sz : Nat) (h0 aN aL aK aC aT aO : Nat) (ld tb ob : Nat) (off : Bool) (wl : Int32) (wd : Int64) : Met l yX0_power wsX0_power ({ frames := 0, cells := 0, slots := 0, locals := 0 }) (va_Pc [.ref h0] (fun U => U.heap.size = sz ∧ va_P (dC, dI) vwCl [(h0, .inr (0, [.ref aN, .ref aL, .ref aK, .ref aC, .int (nI ld), .ref aT, .int (nI tb), .ref aO, .int (nI ob), .int (bI off), .int wl, .long wd]))] U.heap ∧ va_K (dC, dI) vwCl [] U ∧ va_D (fun _ => True) [(h0, .inr (0, [.ref aN, .ref aL, .ref aK, .ref aC, .int (nI ld), .ref aT, .int (nI tb), .ref aO, .int (nI ob), .int (bI off), .int wl, .long wd]))])) (va_Qi (fun (r : Int32) (_ : Unit) => r = bI off) (fun (_ : Unit) t => va_P (dC, dI) vwCl [(h0, .inr (0, [.ref aN, .ref aL, .ref aK, .ref aC, .int (nI ld), .ref aT, .int (nI tb), .ref aO, .int (nI ob), .int (bI false), .int ((-1)), .long wd]))] t.heap ∧ va_K (dC, dI) vwCl [] t ∧ va_D (va_A [(h0, .inr (0, [.ref aN, .ref aL, .ref aK, .ref aC, .int (nI ld), .ref aT, .int (nI tb), .ref aO, .int (nI ob), .int (bI off), .int wl, .long wd]))] sz) [(h0, .inr (0, [.ref aN, .ref aL, .ref aK, .ref aC, .int (nI ld), .ref aT, .int (nI tb), .ref aO, .int (nI ob), .int (bI false), .int ((-1)), .long wd]))]) (va_A [(h0, .inr (0, [.ref aN, .ref aL, .ref aK, .ref aC, .int (nI ld), .ref aT, .int (nI tb), .ref aO, .int (nI ob), .int (bI off), .int wl, .long wd]))] sz)) 0 0 (va_A [(h0, .inr (0, [.ref aN, .ref aL, .ref aK, .ref aC, .int (nI ld), .ref aT, .int (nI tb), .ref aO, .int (nI ob), .int (bI off), .int wl, .long wd]))] sz) := by
  refine Met.ofW (cc := cX0_power) (maxL := 2) (ret := some .boolean) (by decide) rfl ?_
  intro p e s m args below meth c s₁ B hml hv
  obtain ⟨rfl, hsz, hP, hK, hD0⟩ := hv
  have hx := B.exec
  have hb := B.bytes
  have hr := B.returns
  have hts := atoms_spec (ws := wsX0_power) B.pre
  have hown : s.vm.findClass RX0 = some m.cls := findClass_of_methodNamed B.named
  have hlocks := B.notSynchronized
  subst hsz
  have hD := hD0.self (sz := s.heap.size)
  generalize hAe : va_A [(h0, .inr (0, [.ref aN, .ref aL, .ref aK, .ref aC, .int (nI ld), .ref aT, .int (nI tb), .ref aO, .int (nI ob), .int (bI off), .int wl, .long wd]))] s.heap.size = A at hD ⊢
  have hA : ∀ q : Nat, s.heap.size ≤ q → A q := fun q h => by rw [← hAe]; exact Or.inr h
  generalize hH : s.heap = H at hP ⊢
  have hS : va_S A s.heap H [] := by rw [hH]; exact va_S.rf
  replace hP : va_P (dC, dI) vwCl [(h0, .inr (0, [.ref aN, .ref aL, .ref aK, .ref aC, .int (nI ld), .ref aT, .int (nI tb), .ref aO, .int (nI ob), .int (bI off), .int wl, .long wd]))] H := hP
  have hl := lv_entry ([.ref h0]) (n := 2) (Nat.le_of_ble_eq_true rfl)
  rw [lg_entry_eq]
  generalize (lg_sl ([.ref h0]) ++ List.replicate (2 - (lg_sl ([.ref h0])).length) Slot.unset).toArray = ls at hl ⊢
  have hl : lv_has ls 2 [(0, .ref h0)] := hl
  have hi0 : ∀ w ∈ u_ws RX0 TX0 12, w ∈ wsX0_power := by decide +kernel
  refine lv_aload_n hx hb dX0_power_0 rfl (lv_at hl 0 rfl) ?_
  refine va_get (D := (dC, dI)) (ci := 0) (v := .int (bI off)) (C := RX0) (T := TX0) (N := 12) hx hb hts hi0 hown hK hP 0 rfl rfl 9 (by decide) (hts (.fieldLink RX0 45 "CellRack" "off" "Z") (by decide +kernel)) (fun _ h9 => h9) rfl dX0_power_1 ?_
  refine lv_istore_n (lv' := [(1, .int (bI off)), (0, .ref h0)]) hx hb dX0_power_4 rfl hl (by decide) rfl (fun ls hl => ?_)
  refine lv_aload_n hx hb dX0_power_5 rfl (lv_at hl 1 rfl) ?_
  refine lv_iconst (v := nI 0) hx hb dX0_power_6 (by decide) ?_
  refine zr_topi (bI false) (rfl) ?_
  refine va_put (D := (dC, dI)) (ci := 0) (v := .int (bI false)) (ty := .boolean) (C := RX0) (T := TX0) (N := 12) hx hb hts hi0 tyX0 tyX0_ok nmX0 hown hK hP hD hS 0 rfl rfl 9 (by decide) (hts (.fieldLink RX0 45 "CellRack" "off" "Z") (by decide +kernel)) (fun _ h9 => h9) rfl (by decide +kernel) (zr_nar_b _) (zr_fit_b _) (Nat.le_of_ble_eq_true rfl) dX0_power_7 (fun H locs hP hD hS => ?_)
  replace hP : va_P (dC, dI) vwCl [(h0, .inr (0, [.ref aN, .ref aL, .ref aK, .ref aC, .int (nI ld), .ref aT, .int (nI tb), .ref aO, .int (nI ob), .int (bI false), .int wl, .long wd]))] H := hP
  replace hD : va_D A [(h0, .inr (0, [.ref aN, .ref aL, .ref aK, .ref aC, .int (nI ld), .ref aT, .int (nI tb), .ref aO, .int (nI ob), .int (bI false), .int wl, .long wd]))] := hD
  refine lv_aload_n hx hb dX0_power_10 rfl (lv_at hl 1 rfl) ?_
  refine lv_iconst (v := (-1)) hx hb dX0_power_11 (by decide) ?_
  refine va_put (D := (dC, dI)) (ci := 0) (v := .int ((-1))) (ty := .int) (C := RX0) (T := TX0) (N := 12) hx hb hts hi0 tyX0 tyX0_ok nmX0 hown hK hP hD hS 0 rfl rfl 10 (by decide) (hts (.fieldLink RX0 49 "CellRack" "writesLeft" "I") (by decide +kernel)) (fun _ h9 => h9) rfl (by decide +kernel) (rfl) (rfl) (Nat.le_of_ble_eq_true rfl) dX0_power_12 (fun H locs hP hD hS => ?_)
  replace hP : va_P (dC, dI) vwCl [(h0, .inr (0, [.ref aN, .ref aL, .ref aK, .ref aC, .int (nI ld), .ref aT, .int (nI tb), .ref aO, .int (nI ob), .int (bI false), .int ((-1)), .long wd]))] H := hP
  replace hD : va_D A [(h0, .inr (0, [.ref aN, .ref aL, .ref aK, .ref aC, .int (nI ld), .ref aT, .int (nI tb), .ref aO, .int (nI ob), .int (bI false), .int ((-1)), .long wd]))] := hD
  refine lv_iload_n hx hb dX0_power_15 rfl (lv_at hl 0 rfl) ?_
  have hP9 := hP.sub (ws' := [(h0, .inr (0, [.ref aN, .ref aL, .ref aK, .ref aC, .int (nI ld), .ref aT, .int (nI tb), .ref aO, .int (nI ob), .int (bI false), .int ((-1)), .long wd]))]) [0] rfl
  have hD9 := hD.sub (ws' := [(h0, .inr (0, [.ref aN, .ref aL, .ref aK, .ref aC, .int (nI ld), .ref aT, .int (nI tb), .ref aO, .int (nI ob), .int (bI false), .int ((-1)), .long wd]))]) [0] (by decide) rfl
  exact W.zret (v := bI off) hx hb hr (zr_nar_b _) (fun t ht hW => ⟨⟨bI off, (), rfl, rfl, by rw [ht]; exact hP9, va_K.moved hW.alike hK, hD9⟩, hS.F ht⟩) hS.2.2 dX0_power_16
set_option maxHeartbeats 4000000 in
set_option maxRecDepth 100000 in
theorem c_X0_look (l : Launch) (hl9 : l.stackTraces = false) (dC : Nat → ClassId) (dI : Nat → Nat → Nat) (sz : Nat) (h0 aN aL aK aC aT aO : Nat) (ld tb ob : Nat) (off : Bool) (wl : Int32) (wd : Int64) (cI : ClassId) (cn : Nat → Nat) (x : Int32) : vx_Met l yX0_look wsX0_look ({ frames := 6, cells := 1, slots := 6, locals := 82 }) (va_Pc [.ref h0, .int x] (fun U => U.heap.size = sz ∧ va_P (dC, dI) vwCl [(h0, .inr (0, [.ref aN, .ref aL, .ref aK, .ref aC, .int (nI ld), .ref aT, .int (nI tb), .ref aO, .int (nI ob), .int (bI off), .int wl, .long wd])), (aC, .inl (cI, 4, .inl (fun i9 => nI (cn i9))))] U.heap ∧ va_K (dC, dI) vwCl [(cI, .int)] U ∧ va_D (fun _ => True) [(h0, .inr (0, [.ref aN, .ref aL, .ref aK, .ref aC, .int (nI ld), .ref aT, .int (nI tb), .ref aO, .int (nI ob), .int (bI off), .int wl, .long wd])), (aC, .inl (cI, 4, .inl (fun i9 => nI (cn i9))))] ∧ xw U ∧ xz (va_A [(h0, .inr (0, [.ref aN, .ref aL, .ref aK, .ref aC, .int (nI ld), .ref aT, .int (nI tb), .ref aO, .int (nI ob), .int (bI off), .int wl, .long wd])), (aC, .inl (cI, 4, .inl (fun i9 => nI (cn i9))))] sz) U U.heap)) (va_Ql (fun (r : Int64) (_ : Unit) => ∃ k : Nat, k < 6 ∧ x = nI k ∧ r = lkV wd off wl ld cn k) (fun (_ : Unit) t => va_P (dC, dI) vwCl [(h0, .inr (0, [.ref aN, .ref aL, .ref aK, .ref aC, .int (nI ld), .ref aT, .int (nI tb), .ref aO, .int (nI ob), .int (bI off), .int wl, .long wd])), (aC, .inl (cI, 4, .inl (fun i9 => nI (cn i9))))] t.heap ∧ va_K (dC, dI) vwCl [(cI, .int)] t ∧ va_D (va_A [(h0, .inr (0, [.ref aN, .ref aL, .ref aK, .ref aC, .int (nI ld), .ref aT, .int (nI tb), .ref aO, .int (nI ob), .int (bI off), .int wl, .long wd])), (aC, .inl (cI, 4, .inl (fun i9 => nI (cn i9))))] sz) [(h0, .inr (0, [.ref aN, .ref aL, .ref aK, .ref aC, .int (nI ld), .ref aT, .int (nI tb), .ref aO, .int (nI ob), .int (bI off), .int wl, .long wd])), (aC, .inl (cI, 4, .inl (fun i9 => nI (cn i9))))]) (va_A [(h0, .inr (0, [.ref aN, .ref aL, .ref aK, .ref aC, .int (nI ld), .ref aT, .int (nI tb), .ref aO, .int (nI ob), .int (bI off), .int wl, .long wd])), (aC, .inl (cI, 4, .inl (fun i9 => nI (cn i9))))] sz)) (vx_X (fun (_ : Unit) => True) (fun E (_ : Unit) t => (E = "java/util/NoSuchElementException" ∧ okI x 6 = false) ∧ va_P (dC, dI) vwCl [(h0, .inr (0, [.ref aN, .ref aL, .ref aK, .ref aC, .int (nI ld), .ref aT, .int (nI tb), .ref aO, .int (nI ob), .int (bI off), .int wl, .long wd])), (aC, .inl (cI, 4, .inl (fun i9 => nI (cn i9))))] t.heap ∧ va_K (dC, dI) vwCl [(cI, .int)] t ∧ va_D (va_A [(h0, .inr (0, [.ref aN, .ref aL, .ref aK, .ref aC, .int (nI ld), .ref aT, .int (nI tb), .ref aO, .int (nI ob), .int (bI off), .int wl, .long wd])), (aC, .inl (cI, 4, .inl (fun i9 => nI (cn i9))))] sz) [(h0, .inr (0, [.ref aN, .ref aL, .ref aK, .ref aC, .int (nI ld), .ref aT, .int (nI tb), .ref aO, .int (nI ob), .int (bI off), .int wl, .long wd])), (aC, .inl (cI, 4, .inl (fun i9 => nI (cn i9))))]) (va_A [(h0, .inr (0, [.ref aN, .ref aL, .ref aK, .ref aC, .int (nI ld), .ref aT, .int (nI tb), .ref aO, .int (nI ob), .int (bI off), .int wl, .long wd])), (aC, .inl (cI, 4, .inl (fun i9 => nI (cn i9))))] sz)) 1 6 (va_A [(h0, .inr (0, [.ref aN, .ref aL, .ref aK, .ref aC, .int (nI ld), .ref aT, .int (nI tb), .ref aO, .int (nI ob), .int (bI off), .int wl, .long wd])), (aC, .inl (cI, 4, .inl (fun i9 => nI (cn i9))))] sz) := by
  refine vx_ofW (cc := cX0_look) (maxL := 2) (ret := some .long) (by decide) rfl ?_
  intro p e s m args below meth c s₁ B hml hno hv
  obtain ⟨rfl, hsz, hP, hK, hD0, hxw, hxz⟩ := hv
  have hx := B.exec
  have hb := B.bytes
  have hr := B.returns
  have hts := atoms_spec (ws := wsX0_look) B.pre
  have hown : s.vm.findClass RX0 = some m.cls := findClass_of_methodNamed B.named
  have hlocks := B.notSynchronized
  subst hsz
  have hD := hD0.self (sz := s.heap.size)
  generalize hAe : va_A [(h0, .inr (0, [.ref aN, .ref aL, .ref aK, .ref aC, .int (nI ld), .ref aT, .int (nI tb), .ref aO, .int (nI ob), .int (bI off), .int wl, .long wd])), (aC, .inl (cI, 4, .inl (fun i9 => nI (cn i9))))] s.heap.size = A at hD hxz ⊢
  have hA : ∀ q : Nat, s.heap.size ≤ q → A q := fun q h => by rw [← hAe]; exact Or.inr h
  generalize hH : s.heap = H at hP ⊢
  have hS : va_S A s.heap H [] := by rw [hH]; exact va_S.rf
  replace hP : va_P (dC, dI) vwCl [(h0, .inr (0, [.ref aN, .ref aL, .ref aK, .ref aC, .int (nI ld), .ref aT, .int (nI tb), .ref aO, .int (nI ob), .int (bI off), .int wl, .long wd])), (aC, .inl (cI, 4, .inl (fun i9 => nI (cn i9))))] H := hP
  have hl := lv_entry ([.ref h0, .int x]) (n := 2) (Nat.le_of_ble_eq_true rfl)
  rw [lg_entry_eq]
  generalize (lg_sl ([.ref h0, .int x]) ++ List.replicate (2 - (lg_sl ([.ref h0, .int x])).length) Slot.unset).toArray = ls at hl ⊢
  have hl : lv_has ls 2 [(0, .ref h0), (1, .int x)] := hl
  have hi0 : ∀ w ∈ u_ws RX0 TX0 12, w ∈ wsX0_look := by decide +kernel
  have hat0 : ∀ w ∈ zr_atS RX0 116 "java/util/NoSuchElementException" ["java/lang/RuntimeException", "java/lang/Exception"], w.before _ s = true := vx_hat (L := zr_atS RX0 116 "java/util/NoSuchElementException" ["java/lang/RuntimeException", "java/lang/Exception"]) (B := [.castable "java/util/NoSuchElementException" "java/util/NoSuchElementException", .declares ⟨"java/lang/RuntimeException", "<init>", "(Ljava/lang/String;)V"⟩, .declares ⟨"java/lang/Exception", "<init>", "(Ljava/lang/String;)V"⟩, .declares ⟨"java/lang/Throwable", "<init>", "(Ljava/lang/String;)V"⟩]) (fun w hw => hts w ((by decide +kernel : ∀ w ∈ (zr_atS RX0 116 "java/util/NoSuchElementException" ["java/lang/RuntimeException", "java/lang/Exception"]).filter goodWord, w ∈ wsX0_look) w hw)) (by decide +kernel) (vx_c (va_Nw.use rfl hxw.1.2.2.1) (vx_c (va_Nw.use rfl hxw.1.2.2.2.1) (vx_c (va_Nw.use rfl hxw.1.2.2.2.2.1) (vx_c (va_Nw.use rfl hxw.1.2.2.2.2.2) (vx_n)))))
  refine lv_iload_n hx hb dX0_look_0 rfl (lv_at hl 1 rfl) ?_
  rcases pk_ix x (n := 6) (by decide) with hsw | hsw | ⟨jsw, hjsw, rfl⟩
  · refine lv_tableOut (tgt := 86) hx hb dX0_look_1 (zr_sw_lt hsw) (by decide) ?_
    obtain ⟨sa, hstr⟩ := hxw.2 (155, "there is nothing of this number to look at") (by decide)
    have hP9 := hP.sub (ws' := [(h0, .inr (0, [.ref aN, .ref aL, .ref aK, .ref aC, .int (nI ld), .ref aT, .int (nI tb), .ref aO, .int (nI ob), .int (bI off), .int wl, .long wd])), (aC, .inl (cI, 4, .inl (fun i9 => nI (cn i9))))]) [0, 1] rfl
    have hD9 := hD.sub (ws' := [(h0, .inr (0, [.ref aN, .ref aL, .ref aK, .ref aC, .int (nI ld), .ref aT, .int (nI tb), .ref aO, .int (nI ob), .int (bI off), .int wl, .long wd])), (aC, .inl (cI, 4, .inl (fun i9 => nI (cn i9))))]) [0, 1] (by decide) rfl
    exact zr_throwS (own := RX0) (cls := "java/util/NoSuchElementException") (Y := "java/lang/RuntimeException") (r := ["java/lang/Exception"]) hx hb hl9 hown (by decide +kernel) (by decide +kernel) (hts (.classLink RX0 112 "java/util/NoSuchElementException") (by decide +kernel)) (hts (.initialized "java/util/NoSuchElementException") (by decide +kernel)) hstr hat0 (by decide +kernel) hxz.1 hxz.2 hS (hl.1.trans hml.symm) dX0_look_86 dX0_look_89 dX0_look_90 dX0_look_92 dX0_look_95 (fun x hx => (hno x hx).elim) (Nat.le_of_ble_eq_true rfl) (Nat.le_of_ble_eq_true rfl) (Nat.le_of_ble_eq_true rfl) (Nat.le_of_ble_eq_true rfl) hlocks (fun t ha hsz hk => ⟨(), trivial, ⟨⟨rfl, okI_f1 hsw⟩, hP9.kept (fun k q hq => hk q.1 (hP9 k q hq).lt), va_K.moved ha hK, hD9⟩, Nat.le_trans hS.1 hsz, fun q h1 h2 => (hk q (Nat.lt_of_lt_of_le h1 hS.1)).trans (hS.2.1 q h1 h2)⟩) hS.2.2 (Nat.le_of_ble_eq_true rfl) (Nat.le_of_ble_eq_true rfl)
  · refine lv_tableOut (tgt := 86) hx hb dX0_look_1 (zr_sw_ge (by decide) hsw) (by decide) ?_
    obtain ⟨sa, hstr⟩ := hxw.2 (155, "there is nothing of this number to look at") (by decide)
    have hP9 := hP.sub (ws' := [(h0, .inr (0, [.ref aN, .ref aL, .ref aK, .ref aC, .int (nI ld), .ref aT, .int (nI tb), .ref aO, .int (nI ob), .int (bI off), .int wl, .long wd])), (aC, .inl (cI, 4, .inl (fun i9 => nI (cn i9))))]) [0, 1] rfl
    have hD9 := hD.sub (ws' := [(h0, .inr (0, [.ref aN, .ref aL, .ref aK, .ref aC, .int (nI ld), .ref aT, .int (nI tb), .ref aO, .int (nI ob), .int (bI off), .int wl, .long wd])), (aC, .inl (cI, 4, .inl (fun i9 => nI (cn i9))))]) [0, 1] (by decide) rfl
    exact zr_throwS (own := RX0) (cls := "java/util/NoSuchElementException") (Y := "java/lang/RuntimeException") (r := ["java/lang/Exception"]) hx hb hl9 hown (by decide +kernel) (by decide +kernel) (hts (.classLink RX0 112 "java/util/NoSuchElementException") (by decide +kernel)) (hts (.initialized "java/util/NoSuchElementException") (by decide +kernel)) hstr hat0 (by decide +kernel) hxz.1 hxz.2 hS (hl.1.trans hml.symm) dX0_look_86 dX0_look_89 dX0_look_90 dX0_look_92 dX0_look_95 (fun x hx => (hno x hx).elim) (Nat.le_of_ble_eq_true rfl) (Nat.le_of_ble_eq_true rfl) (Nat.le_of_ble_eq_true rfl) (Nat.le_of_ble_eq_true rfl) hlocks (fun t ha hsz hk => ⟨(), trivial, ⟨⟨rfl, okI_f2 (by decide) hsw⟩, hP9.kept (fun k q hq => hk q.1 (hP9 k q hq).lt), va_K.moved ha hK, hD9⟩, Nat.le_trans hS.1 hsz, fun q h1 h2 => (hk q (Nat.lt_of_lt_of_le h1 hS.1)).trans (hS.2.1 q h1 h2)⟩) hS.2.2 (Nat.le_of_ble_eq_true rfl) (Nat.le_of_ble_eq_true rfl)
  · rcases (show jsw = 0 ∨ jsw = 1 ∨ jsw = 2 ∨ jsw = 3 ∨ jsw = 4 ∨ jsw = 5 by omega) with rfl | rfl | rfl | rfl | rfl | rfl
    · refine lv_tableIn (off := 39) (tgt := 40) hx hb dX0_look_1 (by decide) (by decide) (by decide) (by decide) ?_
      refine lv_aload_n hx hb dX0_look_40 rfl (lv_at hl 0 rfl) ?_
      refine va_get (D := (dC, dI)) (ci := 0) (v := .long wd) (C := RX0) (T := TX0) (N := 12) hx hb hts hi0 hown hK hP 0 rfl rfl 11 (by decide) (hts (.fieldLink RX0 52 "CellRack" "writesDone" "J") (by decide +kernel)) (fun _ h9 => h9) rfl dX0_look_41 ?_
      refine W.widen (k := 1) (n := 6) (Nat.le_of_ble_eq_true rfl) (Nat.le_of_ble_eq_true rfl) ?_
      refine vx_ret ?_
      have hP9 := hP.sub (ws' := [(h0, .inr (0, [.ref aN, .ref aL, .ref aK, .ref aC, .int (nI ld), .ref aT, .int (nI tb), .ref aO, .int (nI ob), .int (bI off), .int wl, .long wd])), (aC, .inl (cI, 4, .inl (fun i9 => nI (cn i9))))]) [0, 1] rfl
      have hD9 := hD.sub (ws' := [(h0, .inr (0, [.ref aN, .ref aL, .ref aK, .ref aC, .int (nI ld), .ref aT, .int (nI tb), .ref aO, .int (nI ob), .int (bI off), .int wl, .long wd])), (aC, .inl (cI, 4, .inl (fun i9 => nI (cn i9))))]) [0, 1] (by decide) rfl
      exact W.lret (v := wd) hx hb hr (fun t ht hW => ⟨⟨wd, (), rfl, ⟨0, by decide, rfl, rfl⟩, by rw [ht]; exact hP9, va_K.moved hW.alike hK, hD9⟩, hS.F ht⟩) hS.2.2 dX0_look_44
    · refine lv_tableIn (off := 44) (tgt := 45) hx hb dX0_look_1 (by decide) (by decide) (by decide) (by decide) ?_
      refine lv_aload_n hx hb dX0_look_45 rfl (lv_at hl 0 rfl) ?_
      refine va_get (D := (dC, dI)) (ci := 0) (v := .int (bI off)) (C := RX0) (T := TX0) (N := 12) hx hb hts hi0 hown hK hP 0 rfl rfl 9 (by decide) (hts (.fieldLink RX0 45 "CellRack" "off" "Z") (by decide +kernel)) (fun _ h9 => h9) rfl dX0_look_46 ?_
      refine zr_ifb_eq (tgt := 56) hx hb dX0_look_49 (by decide) (fun c49 => ?_) (fun c49 => ?_)
      · refine lv_lconst (v := 0) hx hb dX0_look_56 (by decide) ?_
        refine W.widen (k := 1) (n := 6) (Nat.le_of_ble_eq_true rfl) (Nat.le_of_ble_eq_true rfl) ?_
        refine vx_ret ?_
        have hP9 := hP.sub (ws' := [(h0, .inr (0, [.ref aN, .ref aL, .ref aK, .ref aC, .int (nI ld), .ref aT, .int (nI tb), .ref aO, .int (nI ob), .int (bI off), .int wl, .long wd])), (aC, .inl (cI, 4, .inl (fun i9 => nI (cn i9))))]) [0, 1] rfl
        have hD9 := hD.sub (ws' := [(h0, .inr (0, [.ref aN, .ref aL, .ref aK, .ref aC, .int (nI ld), .ref aT, .int (nI tb), .ref aO, .int (nI ob), .int (bI off), .int wl, .long wd])), (aC, .inl (cI, 4, .inl (fun i9 => nI (cn i9))))]) [0, 1] (by decide) rfl
        exact W.lret (v := 0) hx hb hr (fun t ht hW => ⟨⟨0, (), rfl, ⟨1, by decide, rfl, by rw [c49]; rfl⟩, by rw [ht]; exact hP9, va_K.moved hW.alike hK, hD9⟩, hS.F ht⟩) hS.2.2 dX0_look_57
      · refine lv_lconst (v := 1) hx hb dX0_look_52 (by decide) ?_
        refine lv_goto (tgt := 57) hx hb dX0_look_53 (by decide) ?_
        refine W.widen (k := 1) (n := 6) (Nat.le_of_ble_eq_true rfl) (Nat.le_of_ble_eq_true rfl) ?_
        refine vx_ret ?_
        have hP9 := hP.sub (ws' := [(h0, .inr (0, [.ref aN, .ref aL, .ref aK, .ref aC, .int (nI ld), .ref aT, .int (nI tb), .ref aO, .int (nI ob), .int (bI off), .int wl, .long wd])), (aC, .inl (cI, 4, .inl (fun i9 => nI (cn i9))))]) [0, 1] rfl
        have hD9 := hD.sub (ws' := [(h0, .inr (0, [.ref aN, .ref aL, .ref aK, .ref aC, .int (nI ld), .ref aT, .int (nI tb), .ref aO, .int (nI ob), .int (bI off), .int wl, .long wd])), (aC, .inl (cI, 4, .inl (fun i9 => nI (cn i9))))]) [0, 1] (by decide) rfl
        exact W.lret (v := 1) hx hb hr (fun t ht hW => ⟨⟨1, (), rfl, ⟨1, by decide, rfl, by rw [c49]; rfl⟩, by rw [ht]; exact hP9, va_K.moved hW.alike hK, hD9⟩, hS.F ht⟩) hS.2.2 dX0_look_57
    · refine lv_tableIn (off := 57) (tgt := 58) hx hb dX0_look_1 (by decide) (by decide) (by decide) (by decide) ?_
      refine lv_aload_n hx hb dX0_look_58 rfl (lv_at hl 0 rfl) ?_
      refine va_get (D := (dC, dI)) (ci := 0) (v := .int wl) (C := RX0) (T := TX0) (N := 12) hx hb hts hi0 hown hK hP 0 rfl rfl 10 (by decide) (hts (.fieldLink RX0 49 "CellRack" "writesLeft" "I") (by decide +kernel)) (fun _ h9 => h9) rfl dX0_look_59 ?_
      refine lv_i2l hx hb dX0_look_62 rfl ?_
      refine W.widen (k := 1) (n := 6) (Nat.le_of_ble_eq_true rfl) (Nat.le_of_ble_eq_true rfl) ?_
      refine vx_ret ?_
      have hP9 := hP.sub (ws' := [(h0, .inr (0, [.ref aN, .ref aL, .ref aK, .ref aC, .int (nI ld), .ref aT, .int (nI tb), .ref aO, .int (nI ob), .int (bI off), .int wl, .long wd])), (aC, .inl (cI, 4, .inl (fun i9 => nI (cn i9))))]) [0, 1] rfl
      have hD9 := hD.sub (ws' := [(h0, .inr (0, [.ref aN, .ref aL, .ref aK, .ref aC, .int (nI ld), .ref aT, .int (nI tb), .ref aO, .int (nI ob), .int (bI off), .int wl, .long wd])), (aC, .inl (cI, 4, .inl (fun i9 => nI (cn i9))))]) [0, 1] (by decide) rfl
      exact W.lret (v := wl.toInt64) hx hb hr (fun t ht hW => ⟨⟨wl.toInt64, (), rfl, ⟨2, by decide, rfl, rfl⟩, by rw [ht]; exact hP9, va_K.moved hW.alike hK, hD9⟩, hS.F ht⟩) hS.2.2 dX0_look_63
    · refine lv_tableIn (off := 63) (tgt := 64) hx hb dX0_look_1 (by decide) (by decide) (by decide) (by decide) ?_
      refine lv_aload_n hx hb dX0_look_64 rfl (lv_at hl 0 rfl) ?_
      refine va_get (D := (dC, dI)) (ci := 0) (v := .int (nI ld)) (C := RX0) (T := TX0) (N := 12) hx hb hts hi0 hown hK hP 0 rfl rfl 4 (by decide) (hts (.fieldLink RX0 29 "CellRack" "liveDisks" "I") (by decide +kernel)) (fun _ h9 => h9) rfl dX0_look_65 ?_
      refine lv_i2l hx hb dX0_look_68 rfl ?_
      refine W.widen (k := 1) (n := 6) (Nat.le_of_ble_eq_true rfl) (Nat.le_of_ble_eq_true rfl) ?_
      refine vx_ret ?_
      have hP9 := hP.sub (ws' := [(h0, .inr (0, [.ref aN, .ref aL, .ref aK, .ref aC, .int (nI ld), .ref aT, .int (nI tb), .ref aO, .int (nI ob), .int (bI off), .int wl, .long wd])), (aC, .inl (cI, 4, .inl (fun i9 => nI (cn i9))))]) [0, 1] rfl
      have hD9 := hD.sub (ws' := [(h0, .inr (0, [.ref aN, .ref aL, .ref aK, .ref aC, .int (nI ld), .ref aT, .int (nI tb), .ref aO, .int (nI ob), .int (bI off), .int wl, .long wd])), (aC, .inl (cI, 4, .inl (fun i9 => nI (cn i9))))]) [0, 1] (by decide) rfl
      exact W.lret (v := (nI ld).toInt64) hx hb hr (fun t ht hW => ⟨⟨(nI ld).toInt64, (), rfl, ⟨3, by decide, rfl, rfl⟩, by rw [ht]; exact hP9, va_K.moved hW.alike hK, hD9⟩, hS.F ht⟩) hS.2.2 dX0_look_69
    · refine lv_tableIn (off := 69) (tgt := 70) hx hb dX0_look_1 (by decide) (by decide) (by decide) (by decide) ?_
      refine lv_aload_n hx hb dX0_look_70 rfl (lv_at hl 0 rfl) ?_
      refine va_get (D := (dC, dI)) (ci := 0) (v := .ref aC) (C := RX0) (T := TX0) (N := 12) hx hb hts hi0 hown hK hP 0 rfl rfl 3 (by decide) (hts (.fieldLink RX0 26 "CellRack" "cellsOfKind" "[I") (by decide +kernel)) (fun _ h9 => h9) rfl dX0_look_71 ?_
      refine lv_iconst (v := nI 2) hx hb dX0_look_74 (by decide) ?_
      refine zr_nald hx hb hK hP 1 0 rfl rfl (by omega) (by omega) dX0_look_75 ?_
      refine lv_i2l hx hb dX0_look_76 rfl ?_
      refine W.widen (k := 1) (n := 6) (Nat.le_of_ble_eq_true rfl) (Nat.le_of_ble_eq_true rfl) ?_
      refine vx_ret ?_
      have hP9 := hP.sub (ws' := [(h0, .inr (0, [.ref aN, .ref aL, .ref aK, .ref aC, .int (nI ld), .ref aT, .int (nI tb), .ref aO, .int (nI ob), .int (bI off), .int wl, .long wd])), (aC, .inl (cI, 4, .inl (fun i9 => nI (cn i9))))]) [0, 1] rfl
      have hD9 := hD.sub (ws' := [(h0, .inr (0, [.ref aN, .ref aL, .ref aK, .ref aC, .int (nI ld), .ref aT, .int (nI tb), .ref aO, .int (nI ob), .int (bI off), .int wl, .long wd])), (aC, .inl (cI, 4, .inl (fun i9 => nI (cn i9))))]) [0, 1] (by decide) rfl
      exact W.lret (v := (nI (cn 2)).toInt64) hx hb hr (fun t ht hW => ⟨⟨(nI (cn 2)).toInt64, (), rfl, ⟨4, by decide, rfl, rfl⟩, by rw [ht]; exact hP9, va_K.moved hW.alike hK, hD9⟩, hS.F ht⟩) hS.2.2 dX0_look_77
    · refine lv_tableIn (off := 77) (tgt := 78) hx hb dX0_look_1 (by decide) (by decide) (by decide) (by decide) ?_
      refine lv_aload_n hx hb dX0_look_78 rfl (lv_at hl 0 rfl) ?_
      refine va_get (D := (dC, dI)) (ci := 0) (v := .ref aC) (C := RX0) (T := TX0) (N := 12) hx hb hts hi0 hown hK hP 0 rfl rfl 3 (by decide) (hts (.fieldLink RX0 26 "CellRack" "cellsOfKind" "[I") (by decide +kernel)) (fun _ h9 => h9) rfl dX0_look_79 ?_
      refine lv_iconst (v := nI 3) hx hb dX0_look_82 (by decide) ?_
      refine zr_nald hx hb hK hP 1 0 rfl rfl (by omega) (by omega) dX0_look_83 ?_
      refine lv_i2l hx hb dX0_look_84 rfl ?_
      refine W.widen (k := 1) (n := 6) (Nat.le_of_ble_eq_true rfl) (Nat.le_of_ble_eq_true rfl) ?_
      refine vx_ret ?_
      have hP9 := hP.sub (ws' := [(h0, .inr (0, [.ref aN, .ref aL, .ref aK, .ref aC, .int (nI ld), .ref aT, .int (nI tb), .ref aO, .int (nI ob), .int (bI off), .int wl, .long wd])), (aC, .inl (cI, 4, .inl (fun i9 => nI (cn i9))))]) [0, 1] rfl
      have hD9 := hD.sub (ws' := [(h0, .inr (0, [.ref aN, .ref aL, .ref aK, .ref aC, .int (nI ld), .ref aT, .int (nI tb), .ref aO, .int (nI ob), .int (bI off), .int wl, .long wd])), (aC, .inl (cI, 4, .inl (fun i9 => nI (cn i9))))]) [0, 1] (by decide) rfl
      exact W.lret (v := (nI (cn 3)).toInt64) hx hb hr (fun t ht hW => ⟨⟨(nI (cn 3)).toInt64, (), rfl, ⟨5, by decide, rfl, rfl⟩, by rw [ht]; exact hP9, va_K.moved hW.alike hK, hD9⟩, hS.F ht⟩) hS.2.2 dX0_look_85
set_option maxHeartbeats 4000000 in
set_option maxRecDepth 100000 in
theorem c_X0_tag (l : Launch) (hl9 : l.stackTraces = false) (dC : Nat → ClassId) (dI : Nat → Nat → Nat) (sz : Nat) (h0 aN aL aK aC aT aO : Nat) (ld tb ob : Nat) (off : Bool) (wl : Int32) (wd : Int64) (cJ cI : ClassId) (now : Nat → Int64) (kd : Nat → Nat) (x y : Int32) (hk : kdOK kd) : vx_Met l yX0_tag wsX0_tag ({ frames := 7, cells := 1, slots := 6, locals := 103 }) (va_Pc [.ref h0, .int x, .int y] (fun U => U.heap.size = sz ∧ va_P (dC, dI) vwCl [(h0, .inr (0, [.ref aN, .ref aL, .ref aK, .ref aC, .int (nI ld), .ref aT, .int (nI tb), .ref aO, .int (nI ob), .int (bI off), .int wl, .long wd])), (aN, .inl (cJ, 9504, .inr (.inl now))), (aK, .inl (cI, 1056, .inl (fun i9 => nI (kd i9))))] U.heap ∧ va_K (dC, dI) vwCl [(cJ, .long), (cI, .int)] U ∧ va_D (fun _ => True) [(h0, .inr (0, [.ref aN, .ref aL, .ref aK, .ref aC, .int (nI ld), .ref aT, .int (nI tb), .ref aO, .int (nI ob), .int (bI off), .int wl, .long wd])), (aN, .inl (cJ, 9504, .inr (.inl now))), (aK, .inl (cI, 1056, .inl (fun i9 => nI (kd i9))))] ∧ xw U ∧ xz (va_A [(h0, .inr (0, [.ref aN, .ref aL, .ref aK, .ref aC, .int (nI ld), .ref aT, .int (nI tb), .ref aO, .int (nI ob), .int (bI off), .int wl, .long wd])), (aN, .inl (cJ, 9504, .inr (.inl now))), (aK, .inl (cI, 1056, .inl (fun i9 => nI (kd i9))))] sz) U U.heap)) (va_Qi (fun (r : Int32) (_ : Unit) => ∃ di ce : Nat, di < 16 ∧ ce < 66 ∧ x = nI di ∧ y = nI ce ∧ r = if kd (di * 66 + ce) = 2 then (now ((di * 66 + ce) * 9 + 8) &&& 65535).toInt32 else -1) (fun (_ : Unit) t => va_P (dC, dI) vwCl [(h0, .inr (0, [.ref aN, .ref aL, .ref aK, .ref aC, .int (nI ld), .ref aT, .int (nI tb), .ref aO, .int (nI ob), .int (bI off), .int wl, .long wd])), (aN, .inl (cJ, 9504, .inr (.inl now))), (aK, .inl (cI, 1056, .inl (fun i9 => nI (kd i9))))] t.heap ∧ va_K (dC, dI) vwCl [(cJ, .long), (cI, .int)] t ∧ va_D (va_A [(h0, .inr (0, [.ref aN, .ref aL, .ref aK, .ref aC, .int (nI ld), .ref aT, .int (nI tb), .ref aO, .int (nI ob), .int (bI off), .int wl, .long wd])), (aN, .inl (cJ, 9504, .inr (.inl now))), (aK, .inl (cI, 1056, .inl (fun i9 => nI (kd i9))))] sz) [(h0, .inr (0, [.ref aN, .ref aL, .ref aK, .ref aC, .int (nI ld), .ref aT, .int (nI tb), .ref aO, .int (nI ob), .int (bI off), .int wl, .long wd])), (aN, .inl (cJ, 9504, .inr (.inl now))), (aK, .inl (cI, 1056, .inl (fun i9 => nI (kd i9))))]) (va_A [(h0, .inr (0, [.ref aN, .ref aL, .ref aK, .ref aC, .int (nI ld), .ref aT, .int (nI tb), .ref aO, .int (nI ob), .int (bI off), .int wl, .long wd])), (aN, .inl (cJ, 9504, .inr (.inl now))), (aK, .inl (cI, 1056, .inl (fun i9 => nI (kd i9))))] sz)) (vx_X (fun (_ : Unit) => True) (fun E (_ : Unit) t => (E = "java/lang/IllegalArgumentException" ∧ (okI x 16 && okI y 66) = false) ∧ va_P (dC, dI) vwCl [(h0, .inr (0, [.ref aN, .ref aL, .ref aK, .ref aC, .int (nI ld), .ref aT, .int (nI tb), .ref aO, .int (nI ob), .int (bI off), .int wl, .long wd])), (aN, .inl (cJ, 9504, .inr (.inl now))), (aK, .inl (cI, 1056, .inl (fun i9 => nI (kd i9))))] t.heap ∧ va_K (dC, dI) vwCl [(cJ, .long), (cI, .int)] t ∧ va_D (va_A [(h0, .inr (0, [.ref aN, .ref aL, .ref aK, .ref aC, .int (nI ld), .ref aT, .int (nI tb), .ref aO, .int (nI ob), .int (bI off), .int wl, .long wd])), (aN, .inl (cJ, 9504, .inr (.inl now))), (aK, .inl (cI, 1056, .inl (fun i9 => nI (kd i9))))] sz) [(h0, .inr (0, [.ref aN, .ref aL, .ref aK, .ref aC, .int (nI ld), .ref aT, .int (nI tb), .ref aO, .int (nI ob), .int (bI off), .int wl, .long wd])), (aN, .inl (cJ, 9504, .inr (.inl now))), (aK, .inl (cI, 1056, .inl (fun i9 => nI (kd i9))))]) (va_A [(h0, .inr (0, [.ref aN, .ref aL, .ref aK, .ref aC, .int (nI ld), .ref aT, .int (nI tb), .ref aO, .int (nI ob), .int (bI off), .int wl, .long wd])), (aN, .inl (cJ, 9504, .inr (.inl now))), (aK, .inl (cI, 1056, .inl (fun i9 => nI (kd i9))))] sz)) 1 6 (va_A [(h0, .inr (0, [.ref aN, .ref aL, .ref aK, .ref aC, .int (nI ld), .ref aT, .int (nI tb), .ref aO, .int (nI ob), .int (bI off), .int wl, .long wd])), (aN, .inl (cJ, 9504, .inr (.inl now))), (aK, .inl (cI, 1056, .inl (fun i9 => nI (kd i9))))] sz) := by
  refine vx_ofW (cc := cX0_tag) (maxL := 4) (ret := some .int) (by decide) rfl ?_
  intro p e s m args below meth c s₁ B hml hno hv
  obtain ⟨rfl, hsz, hP, hK, hD0, hxw, hxz⟩ := hv
  have hx := B.exec
  have hb := B.bytes
  have hr := B.returns
  have hts := atoms_spec (ws := wsX0_tag) B.pre
  have hown : s.vm.findClass RX0 = some m.cls := findClass_of_methodNamed B.named
  have hlocks := B.notSynchronized
  subst hsz
  have hD := hD0.self (sz := s.heap.size)
  generalize hAe : va_A [(h0, .inr (0, [.ref aN, .ref aL, .ref aK, .ref aC, .int (nI ld), .ref aT, .int (nI tb), .ref aO, .int (nI ob), .int (bI off), .int wl, .long wd])), (aN, .inl (cJ, 9504, .inr (.inl now))), (aK, .inl (cI, 1056, .inl (fun i9 => nI (kd i9))))] s.heap.size = A at hD hxz ⊢
  have hA : ∀ q : Nat, s.heap.size ≤ q → A q := fun q h => by rw [← hAe]; exact Or.inr h
  generalize hH : s.heap = H at hP ⊢
  have hS : va_S A s.heap H [] := by rw [hH]; exact va_S.rf
  replace hP : va_P (dC, dI) vwCl [(h0, .inr (0, [.ref aN, .ref aL, .ref aK, .ref aC, .int (nI ld), .ref aT, .int (nI tb), .ref aO, .int (nI ob), .int (bI off), .int wl, .long wd])), (aN, .inl (cJ, 9504, .inr (.inl now))), (aK, .inl (cI, 1056, .inl (fun i9 => nI (kd i9))))] H := hP
  have hl := lv_entry ([.ref h0, .int x, .int y]) (n := 4) (Nat.le_of_ble_eq_true rfl)
  rw [lg_entry_eq]
  generalize (lg_sl ([.ref h0, .int x, .int y]) ++ List.replicate (4 - (lg_sl ([.ref h0, .int x, .int y])).length) Slot.unset).toArray = ls at hl ⊢
  have hl : lv_has ls 4 [(0, .ref h0), (1, .int x), (2, .int y)] := hl
  have hi0 : ∀ w ∈ u_ws RX0 TX0 12, w ∈ wsX0_tag := by decide +kernel
  refine lv_iload_n hx hb dX0_tag_0 rfl (lv_at hl 1 rfl) ?_
  refine lv_iload_n hx hb dX0_tag_1 rfl (lv_at hl 2 rfl) ?_
  have hPc := hP.sub (ws' := []) [] rfl
  have hDc := hD.sub (ws' := []) [] (by decide) rfl
  have hKc := hK.sub (tys' := []) [] rfl
  have hFc := va_free (wc := []) hD hS hA [] rfl
  refine vx_callv (vx_runS (As := [.int x, .int y]) (rest := []) ⟨hx, hb, hml, hown, hts⟩ (c_X0_needCell l hl9 dC dI H.size x y) (va_cwS 2 hts gX0_tag_X0_needCell rfl rfl rfl (by decide +kernel) ⟨Nat.le_of_ble_eq_true rfl, Nat.le_of_ble_eq_true rfl⟩) ⟨fun a U g mk q => by obtain ⟨q0, q1, qP, qK, qD, qw, qz⟩ := q; exact ⟨q0, q1, qP, va_K.moved (u := U) (U := U.calling g mk a) (Vm.Alike.refl U.vm) qK, qD, xw.same (u := U) rfl qw, xz.moved (u := U) (U := U.calling g mk a) (Vm.Alike.refl U.vm) qz⟩, fun U hU hW => ⟨rfl, by rw [hU], by rw [hU]; exact hPc, va_K.moved hW.alike hKc, hDc.weaken (fun _ _ _ _ => trivial), xw.warm hW hxw, xz.go hxz hS hW.alike hU hFc⟩⟩ rfl rfl hl.1 rfl (lv_room (Nat.le_of_ble_eq_true rfl)) dX0_tag_2 ⟨Nat.le_of_ble_eq_true rfl, Nat.le_of_ble_eq_true rfl⟩) hS (fun q _ h => hFc q h) hFc (fun q _ h => hFc q h) (fun E ce q9 u t H1 locs ht hvm _hu hB hz1 hk1 hS hce hcv hcl => ?_) (fun u t H1 locs ht hvm hw hB hz1 hk1 hS => ?_)
  · obtain ⟨hxp, hP1, hK1, hD1⟩ := hB
    rw [ht] at hP1
    obtain ⟨hPn, hDn⟩ := va_join (wr := [(h0, .inr (0, [.ref aN, .ref aL, .ref aK, .ref aC, .int (nI ld), .ref aT, .int (nI tb), .ref aO, .int (nI ob), .int (bI off), .int wl, .long wd])), (aN, .inl (cJ, 9504, .inr (.inl now))), (aK, .inl (cI, 1056, .inl (fun i9 => nI (kd i9))))]) (w1 := []) hP hD [] [0, 1, 2] rfl rfl (by decide) (by decide) hk1 hFc hP1 hD1
    clear hP hD hP1 hD1 hK1 hPc hDc hKc hFc hk1 hz1 hvm ht
    generalize H1 = H at hPn hS hce ⊢
    have hP := hPn
    have hD := hDn
    clear hPn hDn
    replace hP : va_P (dC, dI) vwCl [(h0, .inr (0, [.ref aN, .ref aL, .ref aK, .ref aC, .int (nI ld), .ref aT, .int (nI tb), .ref aO, .int (nI ob), .int (bI off), .int wl, .long wd])), (aN, .inl (cJ, 9504, .inr (.inl now))), (aK, .inl (cI, 1056, .inl (fun i9 => nI (kd i9))))] H := hP
    replace hD : va_D A [(h0, .inr (0, [.ref aN, .ref aL, .ref aK, .ref aC, .int (nI ld), .ref aT, .int (nI tb), .ref aO, .int (nI ob), .int (bI off), .int wl, .long wd])), (aN, .inl (cJ, 9504, .inr (.inl now))), (aK, .inl (cI, 1056, .inl (fun i9 => nI (kd i9))))] := hD
    refine vx_widen (k := 1) (n := 6) (Nat.le_refl _) (Nat.le_refl _) ?_
    have hP9 := hP.sub (ws' := [(h0, .inr (0, [.ref aN, .ref aL, .ref aK, .ref aC, .int (nI ld), .ref aT, .int (nI tb), .ref aO, .int (nI ob), .int (bI off), .int wl, .long wd])), (aN, .inl (cJ, 9504, .inr (.inl now))), (aK, .inl (cI, 1056, .inl (fun i9 => nI (kd i9))))]) [0, 1, 2] rfl
    have hD9 := hD.sub (ws' := [(h0, .inr (0, [.ref aN, .ref aL, .ref aK, .ref aC, .int (nI ld), .ref aT, .int (nI tb), .ref aO, .int (nI ob), .int (bI off), .int wl, .long wd])), (aN, .inl (cJ, 9504, .inr (.inl now))), (aK, .inl (cI, 1056, .inl (fun i9 => nI (kd i9))))]) [0, 1, 2] (by decide) rfl
    exact vx_out (fun x hx => (hno x hx).elim) hlocks hce hcv hcl (fun t ht ha => ⟨(), trivial, ⟨hxp, by rw [ht]; exact hP9, va_K.moved ha hK, hD9⟩, hS.F ht⟩) hS.2.2 (Nat.le_of_ble_eq_true rfl) (Nat.le_of_ble_eq_true rfl)
  · obtain ⟨hP1, hK1, hD1⟩ := hB
    rw [ht] at hP1
    obtain ⟨hPn, hDn⟩ := va_join (wr := [(h0, .inr (0, [.ref aN, .ref aL, .ref aK, .ref aC, .int (nI ld), .ref aT, .int (nI tb), .ref aO, .int (nI ob), .int (bI off), .int wl, .long wd])), (aN, .inl (cJ, 9504, .inr (.inl now))), (aK, .inl (cI, 1056, .inl (fun i9 => nI (kd i9))))]) (w1 := []) hP hD [] [0, 1, 2] rfl rfl (by decide) (by decide) hk1 hFc hP1 hD1
    clear hP hD hP1 hD1 hK1 hPc hDc hKc hFc hk1 hz1 hvm ht
    generalize H1 = H at hPn hS ⊢
    have hP := hPn
    have hD := hDn
    clear hPn hDn
    replace hP : va_P (dC, dI) vwCl [(h0, .inr (0, [.ref aN, .ref aL, .ref aK, .ref aC, .int (nI ld), .ref aT, .int (nI tb), .ref aO, .int (nI ob), .int (bI off), .int wl, .long wd])), (aN, .inl (cJ, 9504, .inr (.inl now))), (aK, .inl (cI, 1056, .inl (fun i9 => nI (kd i9))))] H := hP
    replace hD : va_D A [(h0, .inr (0, [.ref aN, .ref aL, .ref aK, .ref aC, .int (nI ld), .ref aT, .int (nI tb), .ref aO, .int (nI ob), .int (bI off), .int wl, .long wd])), (aN, .inl (cJ, 9504, .inr (.inl now))), (aK, .inl (cI, 1056, .inl (fun i9 => nI (kd i9))))] := hD
    refine W.widen (k := 1) (n := 6) (Nat.le_refl _) (Nat.le_refl _) ?_
    have hcell := hw
    obtain ⟨di, hdi, rfl⟩ := okI_get (by decide) (Bool.and_eq_true_iff.mp hcell).1
    obtain ⟨ce, hce9, rfl⟩ := okI_get (by decide) (Bool.and_eq_true_iff.mp hcell).2
    refine lv_iload_n hx hb dX0_tag_5 rfl (lv_at hl 1 rfl) ?_
    refine lv_iload_n hx hb dX0_tag_6 rfl (lv_at hl 2 rfl) ?_
    have hPc := hP.sub (ws' := []) [] rfl
    have hDc := hD.sub (ws' := []) [] (by decide) rfl
    have hKc := hK.sub (tys' := []) [] rfl
    have hFc := va_free (wc := []) hD hS hA [] rfl
    refine va_calli (va_runS (As := [.int (nI di), .int (nI ce)]) (rest := []) ⟨hx, hb, hml, hown, hts⟩ (c_X0_spotOf l dC dI H.size di ce) (va_cwS 2 hts gX0_tag_X0_spotOf rfl rfl rfl (by decide +kernel) ⟨Nat.le_of_ble_eq_true rfl, Nat.le_of_ble_eq_true rfl⟩) ⟨fun a U g mk q => by obtain ⟨q0, q1, qP, qK, qD⟩ := q; exact ⟨q0, q1, qP, va_K.moved (u := U) (U := U.calling g mk a) (Vm.Alike.refl U.vm) qK, qD⟩, fun U hU hW => ⟨rfl, by rw [hU], by rw [hU]; exact hPc, va_K.moved hW.alike hKc, hDc.weaken (fun _ _ _ _ => trivial)⟩⟩ rfl rfl hl.1 rfl (lv_room (Nat.le_of_ble_eq_true rfl)) dX0_tag_7 ⟨Nat.le_of_ble_eq_true rfl, Nat.le_of_ble_eq_true rfl⟩) hS (fun q _ h => hFc q h) hFc (fun r_2 u t H1 locs ht hvm hw hB hz1 hk1 hS => ?_)
    obtain ⟨hP1, hK1, hD1⟩ := hB
    rw [ht] at hP1
    obtain ⟨hPn, hDn⟩ := va_join (wr := [(h0, .inr (0, [.ref aN, .ref aL, .ref aK, .ref aC, .int (nI ld), .ref aT, .int (nI tb), .ref aO, .int (nI ob), .int (bI off), .int wl, .long wd])), (aN, .inl (cJ, 9504, .inr (.inl now))), (aK, .inl (cI, 1056, .inl (fun i9 => nI (kd i9))))]) (w1 := []) hP hD [] [0, 1, 2] rfl rfl (by decide) (by decide) hk1 hFc hP1 hD1
    clear hP hD hP1 hD1 hK1 hPc hDc hKc hFc hk1 hz1 hvm ht
    generalize H1 = H at hPn hS ⊢
    have hP := hPn
    have hD := hDn
    clear hPn hDn
    replace hP : va_P (dC, dI) vwCl [(h0, .inr (0, [.ref aN, .ref aL, .ref aK, .ref aC, .int (nI ld), .ref aT, .int (nI tb), .ref aO, .int (nI ob), .int (bI off), .int wl, .long wd])), (aN, .inl (cJ, 9504, .inr (.inl now))), (aK, .inl (cI, 1056, .inl (fun i9 => nI (kd i9))))] H := hP
    replace hD : va_D A [(h0, .inr (0, [.ref aN, .ref aL, .ref aK, .ref aC, .int (nI ld), .ref aT, .int (nI tb), .ref aO, .int (nI ob), .int (bI off), .int wl, .long wd])), (aN, .inl (cJ, 9504, .inr (.inl now))), (aK, .inl (cI, 1056, .inl (fun i9 => nI (kd i9))))] := hD
    refine W.widen (k := 1) (n := 6) (Nat.le_refl _) (Nat.le_refl _) ?_
    obtain rfl := hw
    refine lv_istore_n (lv' := [(3, .int (nI (di * 66 + ce))), (0, .ref h0), (1, .int (nI di)), (2, .int (nI ce))]) hx hb dX0_tag_10 rfl hl (by decide) rfl (fun ls hl => ?_)
    refine lv_aload_n hx hb dX0_tag_11 rfl (lv_at hl 1 rfl) ?_
    refine va_get (D := (dC, dI)) (ci := 0) (v := .ref aK) (C := RX0) (T := TX0) (N := 12) hx hb hts hi0 hown hK hP 0 rfl rfl 2 (by decide) (hts (.fieldLink RX0 16 "CellRack" "kinds" "[I") (by decide +kernel)) (fun _ h9 => h9) rfl dX0_tag_12 ?_
    refine lv_iload_n hx hb dX0_tag_15 rfl (lv_at hl 0 rfl) ?_
    refine zr_nald hx hb hK hP 2 1 rfl rfl (by omega) (by omega) dX0_tag_16 ?_
    refine lv_iconst (v := nI 2) hx hb dX0_tag_17 (by decide) ?_
    refine zr_icmp_ne (tgt := 41) hx hb (Nat.lt_trans (hk _) (by decide)) (by omega) dX0_tag_18 (by decide) (fun c18 => ?_) (fun c18 => ?_)
    · refine lv_iconst (v := (-1)) hx hb dX0_tag_41 (by decide) ?_
      refine vx_ret ?_
      have hP9 := hP.sub (ws' := [(h0, .inr (0, [.ref aN, .ref aL, .ref aK, .ref aC, .int (nI ld), .ref aT, .int (nI tb), .ref aO, .int (nI ob), .int (bI off), .int wl, .long wd])), (aN, .inl (cJ, 9504, .inr (.inl now))), (aK, .inl (cI, 1056, .inl (fun i9 => nI (kd i9))))]) [0, 1, 2] rfl
      have hD9 := hD.sub (ws' := [(h0, .inr (0, [.ref aN, .ref aL, .ref aK, .ref aC, .int (nI ld), .ref aT, .int (nI tb), .ref aO, .int (nI ob), .int (bI off), .int wl, .long wd])), (aN, .inl (cJ, 9504, .inr (.inl now))), (aK, .inl (cI, 1056, .inl (fun i9 => nI (kd i9))))]) [0, 1, 2] (by decide) rfl
      exact W.iret (v := (-1)) hx hb hr (fun t ht hW => ⟨⟨(-1), (), rfl, ⟨di, ce, hdi, hce9, rfl, rfl, by first | rw [if_pos c18] | rw [if_neg c18]⟩, by rw [ht]; exact hP9, va_K.moved hW.alike hK, hD9⟩, hS.F ht⟩) hS.2.2 dX0_tag_42
    · refine lv_aload_n hx hb dX0_tag_21 rfl (lv_at hl 1 rfl) ?_
      refine va_get (D := (dC, dI)) (ci := 0) (v := .ref aN) (C := RX0) (T := TX0) (N := 12) hx hb hts hi0 hown hK hP 0 rfl rfl 0 (by decide) (hts (.fieldLink RX0 9 "CellRack" "now" "[J") (by decide +kernel)) (fun _ h9 => h9) rfl dX0_tag_22 ?_
      refine lv_iload_n hx hb dX0_tag_25 rfl (lv_at hl 0 rfl) ?_
      refine lv_bipush (v := nI 9) hx hb dX0_tag_26 (by decide) ?_
      refine zr_imul hx hb dX0_tag_28 ?_
      refine lv_bipush (v := nI 8) hx hb dX0_tag_29 (by decide) ?_
      refine zr_iadd hx hb dX0_tag_31 ?_
      refine zr_lald hx hb hK hP 1 0 rfl rfl (by omega) (by omega) dX0_tag_32 ?_
      refine lv_ldc2 hx hb hown (hts (.constantLong RX0 126 (65535)) (by decide +kernel)) dX0_tag_33 ?_
      refine lv_land hx hb dX0_tag_36 ?_
      refine lv_l2i hx hb dX0_tag_37 rfl ?_
      refine lv_goto (tgt := 42) hx hb dX0_tag_38 (by decide) ?_
      refine vx_ret ?_
      have hP9 := hP.sub (ws' := [(h0, .inr (0, [.ref aN, .ref aL, .ref aK, .ref aC, .int (nI ld), .ref aT, .int (nI tb), .ref aO, .int (nI ob), .int (bI off), .int wl, .long wd])), (aN, .inl (cJ, 9504, .inr (.inl now))), (aK, .inl (cI, 1056, .inl (fun i9 => nI (kd i9))))]) [0, 1, 2] rfl
      have hD9 := hD.sub (ws' := [(h0, .inr (0, [.ref aN, .ref aL, .ref aK, .ref aC, .int (nI ld), .ref aT, .int (nI tb), .ref aO, .int (nI ob), .int (bI off), .int wl, .long wd])), (aN, .inl (cJ, 9504, .inr (.inl now))), (aK, .inl (cI, 1056, .inl (fun i9 => nI (kd i9))))]) [0, 1, 2] (by decide) rfl
      exact W.iret (v := ((now (((di * 66 + ce) * 9) + 8)) &&& 65535).toInt32) hx hb hr (fun t ht hW => ⟨⟨((now (((di * 66 + ce) * 9) + 8)) &&& 65535).toInt32, (), rfl, ⟨di, ce, hdi, hce9, rfl, rfl, by first | rw [if_pos c18] | rw [if_neg c18]⟩, by rw [ht]; exact hP9, va_K.moved hW.alike hK, hD9⟩, hS.F ht⟩) hS.2.2 dX0_tag_42
set_option maxHeartbeats 4000000 in
set_option maxRecDepth 100000 in
theorem c_X0_at (l : Launch) (hl9 : l.stackTraces = false) (dC : Nat → ClassId) (dI : Nat → Nat → Nat) (sz : Nat) (h0 aN aL aK aC aT aO : Nat) (ld tb ob : Nat) (off : Bool) (wl : Int32) (wd : Int64) (cJ cI : ClassId) (now : Nat → Int64) (kd : Nat → Nat) (x y z : Int32) (hk : kdOK kd) : vx_Met l yX0_at wsX0_at ({ frames := 7, cells := 2, slots := 12, locals := 103 }) (va_Pc [.ref h0, .int x, .int y, .int z] (fun U => U.heap.size = sz ∧ va_P (dC, dI) vwCl [(h0, .inr (0, [.ref aN, .ref aL, .ref aK, .ref aC, .int (nI ld), .ref aT, .int (nI tb), .ref aO, .int (nI ob), .int (bI off), .int wl, .long wd])), (aN, .inl (cJ, 9504, .inr (.inl now))), (aK, .inl (cI, 1056, .inl (fun i9 => nI (kd i9))))] U.heap ∧ va_K (dC, dI) vwCl [(cJ, .long), (cI, .int)] U ∧ va_D (fun _ => True) [(h0, .inr (0, [.ref aN, .ref aL, .ref aK, .ref aC, .int (nI ld), .ref aT, .int (nI tb), .ref aO, .int (nI ob), .int (bI off), .int wl, .long wd])), (aN, .inl (cJ, 9504, .inr (.inl now))), (aK, .inl (cI, 1056, .inl (fun i9 => nI (kd i9))))] ∧ xw U ∧ xz (va_A [(h0, .inr (0, [.ref aN, .ref aL, .ref aK, .ref aC, .int (nI ld), .ref aT, .int (nI tb), .ref aO, .int (nI ob), .int (bI off), .int wl, .long wd])), (aN, .inl (cJ, 9504, .inr (.inl now))), (aK, .inl (cI, 1056, .inl (fun i9 => nI (kd i9))))] sz) U U.heap)) (va_Qi (fun (r : Int32) (_ : Unit) => ∃ di ce k : Nat, di < 16 ∧ ce < 66 ∧ k < 70 ∧ x = nI di ∧ y = nI ce ∧ z = nI k ∧ (kd (di * 66 + ce) = 2 ∨ kd (di * 66 + ce) = 3) ∧ r = nI (byF now ((di * 66 + ce) * 9) k)) (fun (_ : Unit) t => va_P (dC, dI) vwCl [(h0, .inr (0, [.ref aN, .ref aL, .ref aK, .ref aC, .int (nI ld), .ref aT, .int (nI tb), .ref aO, .int (nI ob), .int (bI off), .int wl, .long wd])), (aN, .inl (cJ, 9504, .inr (.inl now))), (aK, .inl (cI, 1056, .inl (fun i9 => nI (kd i9))))] t.heap ∧ va_K (dC, dI) vwCl [(cJ, .long), (cI, .int)] t ∧ va_D (va_A [(h0, .inr (0, [.ref aN, .ref aL, .ref aK, .ref aC, .int (nI ld), .ref aT, .int (nI tb), .ref aO, .int (nI ob), .int (bI off), .int wl, .long wd])), (aN, .inl (cJ, 9504, .inr (.inl now))), (aK, .inl (cI, 1056, .inl (fun i9 => nI (kd i9))))] sz) [(h0, .inr (0, [.ref aN, .ref aL, .ref aK, .ref aC, .int (nI ld), .ref aT, .int (nI tb), .ref aO, .int (nI ob), .int (bI off), .int wl, .long wd])), (aN, .inl (cJ, 9504, .inr (.inl now))), (aK, .inl (cI, 1056, .inl (fun i9 => nI (kd i9))))]) (va_A [(h0, .inr (0, [.ref aN, .ref aL, .ref aK, .ref aC, .int (nI ld), .ref aT, .int (nI tb), .ref aO, .int (nI ob), .int (bI off), .int wl, .long wd])), (aN, .inl (cJ, 9504, .inr (.inl now))), (aK, .inl (cI, 1056, .inl (fun i9 => nI (kd i9))))] sz)) (vx_X (fun (_ : Unit) => True) (fun E (_ : Unit) t => ((E = "java/lang/IllegalArgumentException" ∧ (okI x 16 && okI y 66) = false) ∨ (E = "java/util/NoSuchElementException" ∧ ∃ di ce : Nat, di < 16 ∧ ce < 66 ∧ x = nI di ∧ y = nI ce ∧ ((decide (kd (di * 66 + ce) = 2) || decide (kd (di * 66 + ce) = 3)) = false ∨ okI z 70 = false))) ∧ va_P (dC, dI) vwCl [(h0, .inr (0, [.ref aN, .ref aL, .ref aK, .ref aC, .int (nI ld), .ref aT, .int (nI tb), .ref aO, .int (nI ob), .int (bI off), .int wl, .long wd])), (aN, .inl (cJ, 9504, .inr (.inl now))), (aK, .inl (cI, 1056, .inl (fun i9 => nI (kd i9))))] t.heap ∧ va_K (dC, dI) vwCl [(cJ, .long), (cI, .int)] t ∧ va_D (va_A [(h0, .inr (0, [.ref aN, .ref aL, .ref aK, .ref aC, .int (nI ld), .ref aT, .int (nI tb), .ref aO, .int (nI ob), .int (bI off), .int wl, .long wd])), (aN, .inl (cJ, 9504, .inr (.inl now))), (aK, .inl (cI, 1056, .inl (fun i9 => nI (kd i9))))] sz) [(h0, .inr (0, [.ref aN, .ref aL, .ref aK, .ref aC, .int (nI ld), .ref aT, .int (nI tb), .ref aO, .int (nI ob), .int (bI off), .int wl, .long wd])), (aN, .inl (cJ, 9504, .inr (.inl now))), (aK, .inl (cI, 1056, .inl (fun i9 => nI (kd i9))))]) (va_A [(h0, .inr (0, [.ref aN, .ref aL, .ref aK, .ref aC, .int (nI ld), .ref aT, .int (nI tb), .ref aO, .int (nI ob), .int (bI off), .int wl, .long wd])), (aN, .inl (cJ, 9504, .inr (.inl now))), (aK, .inl (cI, 1056, .inl (fun i9 => nI (kd i9))))] sz)) 2 12 (va_A [(h0, .inr (0, [.ref aN, .ref aL, .ref aK, .ref aC, .int (nI ld), .ref aT, .int (nI tb), .ref aO, .int (nI ob), .int (bI off), .int wl, .long wd])), (aN, .inl (cJ, 9504, .inr (.inl now))), (aK, .inl (cI, 1056, .inl (fun i9 => nI (kd i9))))] sz) := by
  refine vx_ofW (cc := cX0_at) (maxL := 5) (ret := some .int) (by decide) rfl ?_
  intro p e s m args below meth c s₁ B hml hno hv
  obtain ⟨rfl, hsz, hP, hK, hD0, hxw, hxz⟩ := hv
  have hx := B.exec
  have hb := B.bytes
  have hr := B.returns
  have hts := atoms_spec (ws := wsX0_at) B.pre
  have hown : s.vm.findClass RX0 = some m.cls := findClass_of_methodNamed B.named
  have hlocks := B.notSynchronized
  subst hsz
  have hD := hD0.self (sz := s.heap.size)
  generalize hAe : va_A [(h0, .inr (0, [.ref aN, .ref aL, .ref aK, .ref aC, .int (nI ld), .ref aT, .int (nI tb), .ref aO, .int (nI ob), .int (bI off), .int wl, .long wd])), (aN, .inl (cJ, 9504, .inr (.inl now))), (aK, .inl (cI, 1056, .inl (fun i9 => nI (kd i9))))] s.heap.size = A at hD hxz ⊢
  have hA : ∀ q : Nat, s.heap.size ≤ q → A q := fun q h => by rw [← hAe]; exact Or.inr h
  generalize hH : s.heap = H at hP ⊢
  have hS : va_S A s.heap H [] := by rw [hH]; exact va_S.rf
  replace hP : va_P (dC, dI) vwCl [(h0, .inr (0, [.ref aN, .ref aL, .ref aK, .ref aC, .int (nI ld), .ref aT, .int (nI tb), .ref aO, .int (nI ob), .int (bI off), .int wl, .long wd])), (aN, .inl (cJ, 9504, .inr (.inl now))), (aK, .inl (cI, 1056, .inl (fun i9 => nI (kd i9))))] H := hP
  have hl := lv_entry ([.ref h0, .int x, .int y, .int z]) (n := 5) (Nat.le_of_ble_eq_true rfl)
  rw [lg_entry_eq]
  generalize (lg_sl ([.ref h0, .int x, .int y, .int z]) ++ List.replicate (5 - (lg_sl ([.ref h0, .int x, .int y, .int z])).length) Slot.unset).toArray = ls at hl ⊢
  have hl : lv_has ls 5 [(0, .ref h0), (1, .int x), (2, .int y), (3, .int z)] := hl
  have hi0 : ∀ w ∈ u_ws RX0 TX0 12, w ∈ wsX0_at := by decide +kernel
  have hat0 : ∀ w ∈ zr_atS RX0 116 "java/util/NoSuchElementException" ["java/lang/RuntimeException", "java/lang/Exception"], w.before _ s = true := vx_hat (L := zr_atS RX0 116 "java/util/NoSuchElementException" ["java/lang/RuntimeException", "java/lang/Exception"]) (B := [.castable "java/util/NoSuchElementException" "java/util/NoSuchElementException", .declares ⟨"java/lang/RuntimeException", "<init>", "(Ljava/lang/String;)V"⟩, .declares ⟨"java/lang/Exception", "<init>", "(Ljava/lang/String;)V"⟩, .declares ⟨"java/lang/Throwable", "<init>", "(Ljava/lang/String;)V"⟩]) (fun w hw => hts w ((by decide +kernel : ∀ w ∈ (zr_atS RX0 116 "java/util/NoSuchElementException" ["java/lang/RuntimeException", "java/lang/Exception"]).filter goodWord, w ∈ wsX0_at) w hw)) (by decide +kernel) (vx_c (va_Nw.use rfl hxw.1.2.2.1) (vx_c (va_Nw.use rfl hxw.1.2.2.2.1) (vx_c (va_Nw.use rfl hxw.1.2.2.2.2.1) (vx_c (va_Nw.use rfl hxw.1.2.2.2.2.2) (vx_n)))))
  refine lv_iload_n hx hb dX0_at_0 rfl (lv_at hl 1 rfl) ?_
  refine lv_iload_n hx hb dX0_at_1 rfl (lv_at hl 2 rfl) ?_
  have hPc := hP.sub (ws' := []) [] rfl
  have hDc := hD.sub (ws' := []) [] (by decide) rfl
  have hKc := hK.sub (tys' := []) [] rfl
  have hFc := va_free (wc := []) hD hS hA [] rfl
  refine vx_callv (vx_runS (As := [.int x, .int y]) (rest := []) ⟨hx, hb, hml, hown, hts⟩ (c_X0_needCell l hl9 dC dI H.size x y) (va_cwS 2 hts gX0_at_X0_needCell rfl rfl rfl (by decide +kernel) ⟨Nat.le_of_ble_eq_true rfl, Nat.le_of_ble_eq_true rfl⟩) ⟨fun a U g mk q => by obtain ⟨q0, q1, qP, qK, qD, qw, qz⟩ := q; exact ⟨q0, q1, qP, va_K.moved (u := U) (U := U.calling g mk a) (Vm.Alike.refl U.vm) qK, qD, xw.same (u := U) rfl qw, xz.moved (u := U) (U := U.calling g mk a) (Vm.Alike.refl U.vm) qz⟩, fun U hU hW => ⟨rfl, by rw [hU], by rw [hU]; exact hPc, va_K.moved hW.alike hKc, hDc.weaken (fun _ _ _ _ => trivial), xw.warm hW hxw, xz.go hxz hS hW.alike hU hFc⟩⟩ rfl rfl hl.1 rfl (lv_room (Nat.le_of_ble_eq_true rfl)) dX0_at_2 ⟨Nat.le_of_ble_eq_true rfl, Nat.le_of_ble_eq_true rfl⟩) hS (fun q _ h => hFc q h) hFc (fun q _ h => hFc q h) (fun E ce q9 u t H1 locs ht hvm _hu hB hz1 hk1 hS hce hcv hcl => ?_) (fun u t H1 locs ht hvm hw hB hz1 hk1 hS => ?_)
  · obtain ⟨hxp, hP1, hK1, hD1⟩ := hB
    rw [ht] at hP1
    obtain ⟨hPn, hDn⟩ := va_join (wr := [(h0, .inr (0, [.ref aN, .ref aL, .ref aK, .ref aC, .int (nI ld), .ref aT, .int (nI tb), .ref aO, .int (nI ob), .int (bI off), .int wl, .long wd])), (aN, .inl (cJ, 9504, .inr (.inl now))), (aK, .inl (cI, 1056, .inl (fun i9 => nI (kd i9))))]) (w1 := []) hP hD [] [0, 1, 2] rfl rfl (by decide) (by decide) hk1 hFc hP1 hD1
    clear hP hD hP1 hD1 hK1 hPc hDc hKc hFc hk1 hz1 hvm ht
    generalize H1 = H at hPn hS hce ⊢
    have hP := hPn
    have hD := hDn
    clear hPn hDn
    replace hP : va_P (dC, dI) vwCl [(h0, .inr (0, [.ref aN, .ref aL, .ref aK, .ref aC, .int (nI ld), .ref aT, .int (nI tb), .ref aO, .int (nI ob), .int (bI off), .int wl, .long wd])), (aN, .inl (cJ, 9504, .inr (.inl now))), (aK, .inl (cI, 1056, .inl (fun i9 => nI (kd i9))))] H := hP
    replace hD : va_D A [(h0, .inr (0, [.ref aN, .ref aL, .ref aK, .ref aC, .int (nI ld), .ref aT, .int (nI tb), .ref aO, .int (nI ob), .int (bI off), .int wl, .long wd])), (aN, .inl (cJ, 9504, .inr (.inl now))), (aK, .inl (cI, 1056, .inl (fun i9 => nI (kd i9))))] := hD
    refine vx_widen (k := 1) (n := 6) (Nat.le_refl _) (Nat.le_refl _) ?_
    have hP9 := hP.sub (ws' := [(h0, .inr (0, [.ref aN, .ref aL, .ref aK, .ref aC, .int (nI ld), .ref aT, .int (nI tb), .ref aO, .int (nI ob), .int (bI off), .int wl, .long wd])), (aN, .inl (cJ, 9504, .inr (.inl now))), (aK, .inl (cI, 1056, .inl (fun i9 => nI (kd i9))))]) [0, 1, 2] rfl
    have hD9 := hD.sub (ws' := [(h0, .inr (0, [.ref aN, .ref aL, .ref aK, .ref aC, .int (nI ld), .ref aT, .int (nI tb), .ref aO, .int (nI ob), .int (bI off), .int wl, .long wd])), (aN, .inl (cJ, 9504, .inr (.inl now))), (aK, .inl (cI, 1056, .inl (fun i9 => nI (kd i9))))]) [0, 1, 2] (by decide) rfl
    exact vx_out (fun x hx => (hno x hx).elim) hlocks hce hcv hcl (fun t ht ha => ⟨(), trivial, ⟨Or.inl hxp, by rw [ht]; exact hP9, va_K.moved ha hK, hD9⟩, hS.F ht⟩) hS.2.2 (Nat.le_of_ble_eq_true rfl) (Nat.le_of_ble_eq_true rfl)
  · obtain ⟨hP1, hK1, hD1⟩ := hB
    rw [ht] at hP1
    obtain ⟨hPn, hDn⟩ := va_join (wr := [(h0, .inr (0, [.ref aN, .ref aL, .ref aK, .ref aC, .int (nI ld), .ref aT, .int (nI tb), .ref aO, .int (nI ob), .int (bI off), .int wl, .long wd])), (aN, .inl (cJ, 9504, .inr (.inl now))), (aK, .inl (cI, 1056, .inl (fun i9 => nI (kd i9))))]) (w1 := []) hP hD [] [0, 1, 2] rfl rfl (by decide) (by decide) hk1 hFc hP1 hD1
    clear hP hD hP1 hD1 hK1 hPc hDc hKc hFc hk1 hz1 hvm ht
    generalize H1 = H at hPn hS ⊢
    have hP := hPn
    have hD := hDn
    clear hPn hDn
    replace hP : va_P (dC, dI) vwCl [(h0, .inr (0, [.ref aN, .ref aL, .ref aK, .ref aC, .int (nI ld), .ref aT, .int (nI tb), .ref aO, .int (nI ob), .int (bI off), .int wl, .long wd])), (aN, .inl (cJ, 9504, .inr (.inl now))), (aK, .inl (cI, 1056, .inl (fun i9 => nI (kd i9))))] H := hP
    replace hD : va_D A [(h0, .inr (0, [.ref aN, .ref aL, .ref aK, .ref aC, .int (nI ld), .ref aT, .int (nI tb), .ref aO, .int (nI ob), .int (bI off), .int wl, .long wd])), (aN, .inl (cJ, 9504, .inr (.inl now))), (aK, .inl (cI, 1056, .inl (fun i9 => nI (kd i9))))] := hD
    refine W.widen (k := 1) (n := 6) (Nat.le_refl _) (Nat.le_refl _) ?_
    have hcell := hw
    obtain ⟨di, hdi, rfl⟩ := okI_get (by decide) (Bool.and_eq_true_iff.mp hcell).1
    obtain ⟨ce, hce9, rfl⟩ := okI_get (by decide) (Bool.and_eq_true_iff.mp hcell).2
    refine lv_iload_n hx hb dX0_at_5 rfl (lv_at hl 1 rfl) ?_
    refine lv_iload_n hx hb dX0_at_6 rfl (lv_at hl 2 rfl) ?_
    have hPc := hP.sub (ws' := []) [] rfl
    have hDc := hD.sub (ws' := []) [] (by decide) rfl
    have hKc := hK.sub (tys' := []) [] rfl
    have hFc := va_free (wc := []) hD hS hA [] rfl
    refine va_calli (va_runS (As := [.int (nI di), .int (nI ce)]) (rest := []) ⟨hx, hb, hml, hown, hts⟩ (c_X0_spotOf l dC dI H.size di ce) (va_cwS 2 hts gX0_at_X0_spotOf rfl rfl rfl (by decide +kernel) ⟨Nat.le_of_ble_eq_true rfl, Nat.le_of_ble_eq_true rfl⟩) ⟨fun a U g mk q => by obtain ⟨q0, q1, qP, qK, qD⟩ := q; exact ⟨q0, q1, qP, va_K.moved (u := U) (U := U.calling g mk a) (Vm.Alike.refl U.vm) qK, qD⟩, fun U hU hW => ⟨rfl, by rw [hU], by rw [hU]; exact hPc, va_K.moved hW.alike hKc, hDc.weaken (fun _ _ _ _ => trivial)⟩⟩ rfl rfl hl.1 rfl (lv_room (Nat.le_of_ble_eq_true rfl)) dX0_at_7 ⟨Nat.le_of_ble_eq_true rfl, Nat.le_of_ble_eq_true rfl⟩) hS (fun q _ h => hFc q h) hFc (fun r_2 u t H1 locs ht hvm hw hB hz1 hk1 hS => ?_)
    obtain ⟨hP1, hK1, hD1⟩ := hB
    rw [ht] at hP1
    obtain ⟨hPn, hDn⟩ := va_join (wr := [(h0, .inr (0, [.ref aN, .ref aL, .ref aK, .ref aC, .int (nI ld), .ref aT, .int (nI tb), .ref aO, .int (nI ob), .int (bI off), .int wl, .long wd])), (aN, .inl (cJ, 9504, .inr (.inl now))), (aK, .inl (cI, 1056, .inl (fun i9 => nI (kd i9))))]) (w1 := []) hP hD [] [0, 1, 2] rfl rfl (by decide) (by decide) hk1 hFc hP1 hD1
    clear hP hD hP1 hD1 hK1 hPc hDc hKc hFc hk1 hz1 hvm ht
    generalize H1 = H at hPn hS ⊢
    have hP := hPn
    have hD := hDn
    clear hPn hDn
    replace hP : va_P (dC, dI) vwCl [(h0, .inr (0, [.ref aN, .ref aL, .ref aK, .ref aC, .int (nI ld), .ref aT, .int (nI tb), .ref aO, .int (nI ob), .int (bI off), .int wl, .long wd])), (aN, .inl (cJ, 9504, .inr (.inl now))), (aK, .inl (cI, 1056, .inl (fun i9 => nI (kd i9))))] H := hP
    replace hD : va_D A [(h0, .inr (0, [.ref aN, .ref aL, .ref aK, .ref aC, .int (nI ld), .ref aT, .int (nI tb), .ref aO, .int (nI ob), .int (bI off), .int wl, .long wd])), (aN, .inl (cJ, 9504, .inr (.inl now))), (aK, .inl (cI, 1056, .inl (fun i9 => nI (kd i9))))] := hD
    refine W.widen (k := 1) (n := 6) (Nat.le_refl _) (Nat.le_refl _) ?_
    obtain rfl := hw
    refine lv_istore (lv' := [(4, .int (nI (di * 66 + ce))), (0, .ref h0), (1, .int (nI di)), (2, .int (nI ce)), (3, .int z)]) hx hb dX0_at_10 hl (by decide) rfl (fun ls hl => ?_)
    refine lv_aload_n hx hb dX0_at_12 rfl (lv_at hl 1 rfl) ?_
    refine lv_iload hx hb dX0_at_13 (lv_at hl 0 rfl) ?_
    have hPc := hP.sub (ws' := [(h0, .inr (0, [.ref aN, .ref aL, .ref aK, .ref aC, .int (nI ld), .ref aT, .int (nI tb), .ref aO, .int (nI ob), .int (bI off), .int wl, .long wd])), (aK, .inl (cI, 1056, .inl (fun i9 => nI (kd i9))))]) [0, 2] rfl
    have hDc := hD.sub (ws' := [(h0, .inr (0, [.ref aN, .ref aL, .ref aK, .ref aC, .int (nI ld), .ref aT, .int (nI tb), .ref aO, .int (nI ob), .int (bI off), .int wl, .long wd])), (aK, .inl (cI, 1056, .inl (fun i9 => nI (kd i9))))]) [0, 2] (by decide) rfl
    have hKc := hK.sub (tys' := [(cI, .int)]) [1] rfl
    have hFc := va_free (wc := [(h0, .inr (0, [.ref aN, .ref aL, .ref aK, .ref aC, .int (nI ld), .ref aT, .int (nI tb), .ref aO, .int (nI ob), .int (bI off), .int wl, .long wd])), (aK, .inl (cI, 1056, .inl (fun i9 => nI (kd i9))))]) hD hS hA [0, 2] rfl
    refine va_calli (va_runV (As := [.int (nI (di * 66 + ce))]) (rest := []) ⟨hx, hb, hml, hown, hts⟩ (c_X0_hasBytes l dC dI H.size h0 aN aL aK aC aT aO ld tb ob off wl wd cI kd (di * 66 + ce) (by omega) hk) (cwV 1 hts gX0_at_X0_hasBytes rfl rfl rfl (by decide +kernel) ⟨Nat.le_of_ble_eq_true rfl, Nat.le_of_ble_eq_true rfl⟩) ⟨fun a U g mk q => by obtain ⟨q0, q1, qP, qK, qD⟩ := q; exact ⟨q0, q1, qP, va_K.moved (u := U) (U := U.calling g mk a) (Vm.Alike.refl U.vm) qK, qD⟩, va_recv hKc hPc (ci := 0) (q0 := 0) rfl rfl, fun U hU hW => ⟨rfl, by rw [hU], by rw [hU]; exact hPc, va_K.moved hW.alike hKc, hDc.weaken (fun _ _ _ _ => trivial)⟩⟩ rfl rfl hl.1 rfl (lv_room (Nat.le_of_ble_eq_true rfl)) dX0_at_15 ⟨Nat.le_of_ble_eq_true rfl, Nat.le_of_ble_eq_true rfl⟩) hS (fun q _ h => hFc q h) hFc (fun r_3 u t H1 locs ht hvm hw hB hz1 hk1 hS => ?_)
    obtain ⟨hP1, hK1, hD1⟩ := hB
    rw [ht] at hP1
    obtain ⟨hPn, hDn⟩ := va_join (wr := [(aN, .inl (cJ, 9504, .inr (.inl now)))]) (w1 := [(h0, .inr (0, [.ref aN, .ref aL, .ref aK, .ref aC, .int (nI ld), .ref aT, .int (nI tb), .ref aO, .int (nI ob), .int (bI off), .int wl, .long wd])), (aK, .inl (cI, 1056, .inl (fun i9 => nI (kd i9))))]) hP hD [0, 2] [1] rfl rfl (by decide) (by decide) hk1 hFc hP1 hD1
    clear hP hD hP1 hD1 hK1 hPc hDc hKc hFc hk1 hz1 hvm ht
    generalize H1 = H at hPn hS ⊢
    have hP := hPn
    have hD := hDn
    clear hPn hDn
    replace hP : va_P (dC, dI) vwCl [(aN, .inl (cJ, 9504, .inr (.inl now))), (h0, .inr (0, [.ref aN, .ref aL, .ref aK, .ref aC, .int (nI ld), .ref aT, .int (nI tb), .ref aO, .int (nI ob), .int (bI off), .int wl, .long wd])), (aK, .inl (cI, 1056, .inl (fun i9 => nI (kd i9))))] H := hP
    replace hD : va_D A [(aN, .inl (cJ, 9504, .inr (.inl now))), (h0, .inr (0, [.ref aN, .ref aL, .ref aK, .ref aC, .int (nI ld), .ref aT, .int (nI tb), .ref aO, .int (nI ob), .int (bI off), .int wl, .long wd])), (aK, .inl (cI, 1056, .inl (fun i9 => nI (kd i9))))] := hD
    refine W.widen (k := 1) (n := 6) (Nat.le_refl _) (Nat.le_refl _) ?_
    obtain rfl := hw
    refine zr_ifb_eq (tgt := 31) hx hb dX0_at_18 (by decide) (fun c18 => ?_) (fun c18 => ?_)
    · obtain ⟨sa, hstr⟩ := hxw.2 (131, "the cell has no such byte") (by decide)
      have hP9 := hP.sub (ws' := [(h0, .inr (0, [.ref aN, .ref aL, .ref aK, .ref aC, .int (nI ld), .ref aT, .int (nI tb), .ref aO, .int (nI ob), .int (bI off), .int wl, .long wd])), (aN, .inl (cJ, 9504, .inr (.inl now))), (aK, .inl (cI, 1056, .inl (fun i9 => nI (kd i9))))]) [1, 0, 2] rfl
      have hD9 := hD.sub (ws' := [(h0, .inr (0, [.ref aN, .ref aL, .ref aK, .ref aC, .int (nI ld), .ref aT, .int (nI tb), .ref aO, .int (nI ob), .int (bI off), .int wl, .long wd])), (aN, .inl (cJ, 9504, .inr (.inl now))), (aK, .inl (cI, 1056, .inl (fun i9 => nI (kd i9))))]) [1, 0, 2] (by decide) rfl
      exact zr_throwS (own := RX0) (cls := "java/util/NoSuchElementException") (Y := "java/lang/RuntimeException") (r := ["java/lang/Exception"]) hx hb hl9 hown (by decide +kernel) (by decide +kernel) (hts (.classLink RX0 112 "java/util/NoSuchElementException") (by decide +kernel)) (hts (.initialized "java/util/NoSuchElementException") (by decide +kernel)) hstr hat0 (by decide +kernel) hxz.1 hxz.2 hS (hl.1.trans hml.symm) dX0_at_31 dX0_at_34 dX0_at_35 dX0_at_37 dX0_at_40 (fun x hx => (hno x hx).elim) (Nat.le_of_ble_eq_true rfl) (Nat.le_of_ble_eq_true rfl) (Nat.le_of_ble_eq_true rfl) (Nat.le_of_ble_eq_true rfl) hlocks (fun t ha hsz hk => ⟨(), trivial, ⟨Or.inr ⟨rfl, di, ce, hdi, hce9, rfl, rfl, by first | exact Or.inl c18 | exact Or.inr (okI_f1 c22) | exact Or.inr (okI_f2 (by decide) (Int32.not_lt.mp c28))⟩, hP9.kept (fun k q hq => hk q.1 (hP9 k q hq).lt), va_K.moved ha hK, hD9⟩, Nat.le_trans hS.1 hsz, fun q h1 h2 => (hk q (Nat.lt_of_lt_of_le h1 hS.1)).trans (hS.2.1 q h1 h2)⟩) hS.2.2 (Nat.le_of_ble_eq_true rfl) (Nat.le_of_ble_eq_true rfl)
    · refine lv_iload_n hx hb dX0_at_21 rfl (lv_at hl 4 rfl) ?_
      refine lv_if_lt (tgt := 31) hx hb dX0_at_22 (by decide) (fun c22 => ?_) (fun c22 => ?_)
      · obtain ⟨sa, hstr⟩ := hxw.2 (131, "the cell has no such byte") (by decide)
        have hP9 := hP.sub (ws' := [(h0, .inr (0, [.ref aN, .ref aL, .ref aK, .ref aC, .int (nI ld), .ref aT, .int (nI tb), .ref aO, .int (nI ob), .int (bI off), .int wl, .long wd])), (aN, .inl (cJ, 9504, .inr (.inl now))), (aK, .inl (cI, 1056, .inl (fun i9 => nI (kd i9))))]) [1, 0, 2] rfl
        have hD9 := hD.sub (ws' := [(h0, .inr (0, [.ref aN, .ref aL, .ref aK, .ref aC, .int (nI ld), .ref aT, .int (nI tb), .ref aO, .int (nI ob), .int (bI off), .int wl, .long wd])), (aN, .inl (cJ, 9504, .inr (.inl now))), (aK, .inl (cI, 1056, .inl (fun i9 => nI (kd i9))))]) [1, 0, 2] (by decide) rfl
        exact zr_throwS (own := RX0) (cls := "java/util/NoSuchElementException") (Y := "java/lang/RuntimeException") (r := ["java/lang/Exception"]) hx hb hl9 hown (by decide +kernel) (by decide +kernel) (hts (.classLink RX0 112 "java/util/NoSuchElementException") (by decide +kernel)) (hts (.initialized "java/util/NoSuchElementException") (by decide +kernel)) hstr hat0 (by decide +kernel) hxz.1 hxz.2 hS (hl.1.trans hml.symm) dX0_at_31 dX0_at_34 dX0_at_35 dX0_at_37 dX0_at_40 (fun x hx => (hno x hx).elim) (Nat.le_of_ble_eq_true rfl) (Nat.le_of_ble_eq_true rfl) (Nat.le_of_ble_eq_true rfl) (Nat.le_of_ble_eq_true rfl) hlocks (fun t ha hsz hk => ⟨(), trivial, ⟨Or.inr ⟨rfl, di, ce, hdi, hce9, rfl, rfl, by first | exact Or.inl c18 | exact Or.inr (okI_f1 c22) | exact Or.inr (okI_f2 (by decide) (Int32.not_lt.mp c28))⟩, hP9.kept (fun k q hq => hk q.1 (hP9 k q hq).lt), va_K.moved ha hK, hD9⟩, Nat.le_trans hS.1 hsz, fun q h1 h2 => (hk q (Nat.lt_of_lt_of_le h1 hS.1)).trans (hS.2.1 q h1 h2)⟩) hS.2.2 (Nat.le_of_ble_eq_true rfl) (Nat.le_of_ble_eq_true rfl)
      · refine lv_iload_n hx hb dX0_at_25 rfl (lv_at hl 4 rfl) ?_
        refine lv_bipush (v := nI 70) hx hb dX0_at_26 (by decide) ?_
        refine lv_icmp_lt (tgt := 41) hx hb dX0_at_28 (by decide) (fun c28 => ?_) (fun c28 => ?_)
        · obtain ⟨k, hk70, rfl⟩ := okI_get (n := 70) (by decide) (okI_t (by decide) c22 (fun q => Int32.not_lt.mpr q c28))
          refine lv_aload_n hx hb dX0_at_41 rfl (lv_at hl 1 rfl) ?_
          refine va_get (D := (dC, dI)) (ci := 0) (v := .ref aN) (C := RX0) (T := TX0) (N := 12) hx hb hts hi0 hown hK hP 1 rfl rfl 0 (by decide) (hts (.fieldLink RX0 9 "CellRack" "now" "[J") (by decide +kernel)) (fun _ h9 => h9) rfl dX0_at_42 ?_
          refine lv_iload hx hb dX0_at_45 (lv_at hl 0 rfl) ?_
          refine lv_bipush (v := nI 9) hx hb dX0_at_47 (by decide) ?_
          refine zr_imul hx hb dX0_at_49 ?_
          refine lv_iload_n hx hb dX0_at_50 rfl (lv_at hl 4 rfl) ?_
          have hPc := hP.sub (ws' := [(aN, .inl (cJ, 9504, .inr (.inl now)))]) [0] rfl
          have hDc := hD.sub (ws' := [(aN, .inl (cJ, 9504, .inr (.inl now)))]) [0] (by decide) rfl
          have hKc := hK.sub (tys' := [(cJ, .long)]) [0] rfl
          have hFc := va_free (wc := [(aN, .inl (cJ, 9504, .inr (.inl now)))]) hD hS hA [0] rfl
          refine va_calli (va_runS (As := [.ref aN, .int (nI ((di * 66 + ce) * 9)), .int (nI k)]) (rest := []) ⟨hx, hb, hml, hown, hts⟩ (c_X0_byteOf l dC dI H.size aN cJ 9504 now ((di * 66 + ce) * 9) k (by decide) (by omega) (by omega)) (va_cwS 3 hts gX0_at_X0_byteOf rfl rfl rfl (by decide +kernel) ⟨Nat.le_of_ble_eq_true rfl, Nat.le_of_ble_eq_true rfl⟩) ⟨fun a U g mk q => by obtain ⟨q0, q1, qP, qK, qD⟩ := q; exact ⟨q0, q1, qP, va_K.moved (u := U) (U := U.calling g mk a) (Vm.Alike.refl U.vm) qK, qD⟩, fun U hU hW => ⟨rfl, by rw [hU], by rw [hU]; exact hPc, va_K.moved hW.alike hKc, hDc.weaken (fun _ _ _ _ => trivial)⟩⟩ rfl rfl hl.1 rfl (lv_room (Nat.le_of_ble_eq_true rfl)) dX0_at_51 ⟨Nat.le_of_ble_eq_true rfl, Nat.le_of_ble_eq_true rfl⟩) hS (fun q _ h => hFc q h) hFc (fun r_4 u t H1 locs ht hvm hw hB hz1 hk1 hS => ?_)
          obtain ⟨hP1, hK1, hD1⟩ := hB
          rw [ht] at hP1
          obtain ⟨hPn, hDn⟩ := va_join (wr := [(h0, .inr (0, [.ref aN, .ref aL, .ref aK, .ref aC, .int (nI ld), .ref aT, .int (nI tb), .ref aO, .int (nI ob), .int (bI off), .int wl, .long wd])), (aK, .inl (cI, 1056, .inl (fun i9 => nI (kd i9))))]) (w1 := [(aN, .inl (cJ, 9504, .inr (.inl now)))]) hP hD [0] [1, 2] rfl rfl (by decide) (by decide) hk1 hFc hP1 hD1
          clear hP hD hP1 hD1 hK1 hPc hDc hKc hFc hk1 hz1 hvm ht
          generalize H1 = H at hPn hS ⊢
          have hP := hPn
          have hD := hDn
          clear hPn hDn
          replace hP : va_P (dC, dI) vwCl [(h0, .inr (0, [.ref aN, .ref aL, .ref aK, .ref aC, .int (nI ld), .ref aT, .int (nI tb), .ref aO, .int (nI ob), .int (bI off), .int wl, .long wd])), (aK, .inl (cI, 1056, .inl (fun i9 => nI (kd i9)))), (aN, .inl (cJ, 9504, .inr (.inl now)))] H := hP
          replace hD : va_D A [(h0, .inr (0, [.ref aN, .ref aL, .ref aK, .ref aC, .int (nI ld), .ref aT, .int (nI tb), .ref aO, .int (nI ob), .int (bI off), .int wl, .long wd])), (aK, .inl (cI, 1056, .inl (fun i9 => nI (kd i9)))), (aN, .inl (cJ, 9504, .inr (.inl now)))] := hD
          refine W.widen (k := 1) (n := 6) (Nat.le_refl _) (Nat.le_refl _) ?_
          obtain rfl := hw
          refine W.widen (k := 2) (n := 12) (Nat.le_of_ble_eq_true rfl) (Nat.le_of_ble_eq_true rfl) ?_
          refine vx_ret ?_
          have hP9 := hP.sub (ws' := [(h0, .inr (0, [.ref aN, .ref aL, .ref aK, .ref aC, .int (nI ld), .ref aT, .int (nI tb), .ref aO, .int (nI ob), .int (bI off), .int wl, .long wd])), (aN, .inl (cJ, 9504, .inr (.inl now))), (aK, .inl (cI, 1056, .inl (fun i9 => nI (kd i9))))]) [0, 2, 1] rfl
          have hD9 := hD.sub (ws' := [(h0, .inr (0, [.ref aN, .ref aL, .ref aK, .ref aC, .int (nI ld), .ref aT, .int (nI tb), .ref aO, .int (nI ob), .int (bI off), .int wl, .long wd])), (aN, .inl (cJ, 9504, .inr (.inl now))), (aK, .inl (cI, 1056, .inl (fun i9 => nI (kd i9))))]) [0, 2, 1] (by decide) rfl
          exact W.iret (v := nI (byF now ((di * 66 + ce) * 9) k)) hx hb hr (fun t ht hW => ⟨⟨nI (byF now ((di * 66 + ce) * 9) k), (), rfl, ⟨di, ce, k, hdi, hce9, hk70, rfl, rfl, rfl, by simpa using c18, rfl⟩, by rw [ht]; exact hP9, va_K.moved hW.alike hK, hD9⟩, hS.F ht⟩) hS.2.2 dX0_at_54
        · obtain ⟨sa, hstr⟩ := hxw.2 (131, "the cell has no such byte") (by decide)
          have hP9 := hP.sub (ws' := [(h0, .inr (0, [.ref aN, .ref aL, .ref aK, .ref aC, .int (nI ld), .ref aT, .int (nI tb), .ref aO, .int (nI ob), .int (bI off), .int wl, .long wd])), (aN, .inl (cJ, 9504, .inr (.inl now))), (aK, .inl (cI, 1056, .inl (fun i9 => nI (kd i9))))]) [1, 0, 2] rfl
          have hD9 := hD.sub (ws' := [(h0, .inr (0, [.ref aN, .ref aL, .ref aK, .ref aC, .int (nI ld), .ref aT, .int (nI tb), .ref aO, .int (nI ob), .int (bI off), .int wl, .long wd])), (aN, .inl (cJ, 9504, .inr (.inl now))), (aK, .inl (cI, 1056, .inl (fun i9 => nI (kd i9))))]) [1, 0, 2] (by decide) rfl
          exact zr_throwS (own := RX0) (cls := "java/util/NoSuchElementException") (Y := "java/lang/RuntimeException") (r := ["java/lang/Exception"]) hx hb hl9 hown (by decide +kernel) (by decide +kernel) (hts (.classLink RX0 112 "java/util/NoSuchElementException") (by decide +kernel)) (hts (.initialized "java/util/NoSuchElementException") (by decide +kernel)) hstr hat0 (by decide +kernel) hxz.1 hxz.2 hS (hl.1.trans hml.symm) dX0_at_31 dX0_at_34 dX0_at_35 dX0_at_37 dX0_at_40 (fun x hx => (hno x hx).elim) (Nat.le_of_ble_eq_true rfl) (Nat.le_of_ble_eq_true rfl) (Nat.le_of_ble_eq_true rfl) (Nat.le_of_ble_eq_true rfl) hlocks (fun t ha hsz hk => ⟨(), trivial, ⟨Or.inr ⟨rfl, di, ce, hdi, hce9, rfl, rfl, by first | exact Or.inl c18 | exact Or.inr (okI_f1 c22) | exact Or.inr (okI_f2 (by decide) (Int32.not_lt.mp c28))⟩, hP9.kept (fun k q hq => hk q.1 (hP9 k q hq).lt), va_K.moved ha hK, hD9⟩, Nat.le_trans hS.1 hsz, fun q h1 h2 => (hk q (Nat.lt_of_lt_of_le h1 hS.1)).trans (hS.2.1 q h1 h2)⟩) hS.2.2 (Nat.le_of_ble_eq_true rfl) (Nat.le_of_ble_eq_true rfl)
