set_option maxHeartbeats 4000000 in
set_option maxRecDepth 100000 in
theorem lp_X0_outs {p : Program} {l : Launch} {e : Env} {R : Room} {s : State} {m : MethodId} {args : Array Value} {below : List Frame} {meth : Method} {c : Code} {cells slots : Nat} {Q : State → Prop} {A : Nat → Prop} {H0 : Heap} {dC : Nat → ClassId} {dI : Nat → Nat → Nat} (h0 aN aL aK aC aT aO : Nat) (ld tb ob : Nat) (off : Bool) (wl : Int32) (wd : Int64) (cJ : ClassId) (outw : Nat → Int64) (k0 e0 : Nat) (hke : k0 ≤ e0) (he : e0 ≤ 64) (hx : p.tables.exec = Jvm.exec) (hb : c.code = cX0_outs) (hml : c.maxLocals = 6) (hown : s.vm.findClass RX0 = some m.cls) (hts : ∀ w ∈ wsX0_outs, w.before args s = true) (hA : ∀ q : Nat, H0.size ≤ q → A q) (hK : va_K (dC, dI) vwCl [(cJ, .long)] s) (hRf : 1 ≤ R.frames) (hRl : 22 ≤ R.locals) (hRc : cells ≤ R.cells) (hRs : slots ≤ R.slots) (kk : ∀  (H : Heap) (locs : List Loc) (ls : Array Slot), va_P (dC, dI) vwCl [(h0, .inr (0, [.ref aN, .ref aL, .ref aK, .ref aC, .int (nI ld), .ref aT, .int (nI tb), .ref aO, .int (nI ob), .int (bI off), .int wl, .long wd])), (aO, .inl (cJ, 8, .inr (.inl outw)))] H → va_D A [(h0, .inr (0, [.ref aN, .ref aL, .ref aK, .ref aC, .int (nI ld), .ref aT, .int (nI tb), .ref aO, .int (nI ob), .int (bI off), .int wl, .long wd])), (aO, .inl (cJ, 8, .inr (.inl outw)))] → va_S A H0 H locs → lv_has ls 6 [(3, .long (oV outw e0 (e0 - k0)))] → W p l e R s m args below meth c H locs cells slots Q (F0 m 70 ls [])) : ∀ (n : Nat) (d : Nat), e0 - k0 + 1 ≤ d + n → d ≤ e0 - k0 → ∀ (H : Heap) (locs : List Loc) (ls : Array Slot), va_P (dC, dI) vwCl [(h0, .inr (0, [.ref aN, .ref aL, .ref aK, .ref aC, .int (nI ld), .ref aT, .int (nI tb), .ref aO, .int (nI ob), .int (bI off), .int wl, .long wd])), (aO, .inl (cJ, 8, .inr (.inl outw)))] H → va_D A [(h0, .inr (0, [.ref aN, .ref aL, .ref aK, .ref aC, .int (nI ld), .ref aT, .int (nI tb), .ref aO, .int (nI ob), .int (bI off), .int wl, .long wd])), (aO, .inl (cJ, 8, .inr (.inl outw)))] → va_S A H0 H locs → lv_has ls 6 [(0, .ref h0), (1, .int (nI k0)), (3, .long (oV outw e0 d)), (5, .int (zM (e0 - d)))] → W p l e R s m args below meth c H locs cells slots Q (F0 m 41 ls []) := by
  have hi0 : ∀ w ∈ u_ws RX0 TX0 12, w ∈ wsX0_outs := by decide +kernel
  intro n
  induction n with
  | zero => intro d  hm hi; exact absurd hm (by omega)
  | succ n ih =>
    intro d  hm hi H locs ls hP hD hS hl
    refine lv_iload hx hb dX0_outs_41 (lv_at hl 3 rfl) ?_
    refine lv_iload_n hx hb dX0_outs_43 rfl (lv_at hl 1 rfl) ?_
    refine lv_icmp_lt (tgt := 70) hx hb dX0_outs_44 (by decide) (fun c44 => ?_) (fun c44 => ?_)
    · have q44 := (zM_lt (by omega) (by omega)).mp c44
      obtain rfl : e0 - k0 = d := by omega
      exact kk  H locs ls (hP.sub [0, 1] rfl) (hD.sub [0, 1] (by decide) rfl) hS (lv_sub hl [2] rfl)
    · have q44 : ¬ e0 - d ≤ k0 := fun q => c44 ((zM_lt (by omega) (by omega)).mpr q)
      rw [zM_1 (show 1 ≤ e0 - d by omega)] at hl
      refine lv_lload_n hx hb dX0_outs_47 rfl (lv_at hl 2 rfl) ?_
      refine lv_bipush (v := nI 8) hx hb dX0_outs_48 (by decide) ?_
      refine lv_lshl hx hb dX0_outs_50 rfl ?_
      refine lv_aload_n hx hb dX0_outs_51 rfl (lv_at hl 0 rfl) ?_
      refine va_get (D := (dC, dI)) (ci := 0) (v := .ref aO) (C := RX0) (T := TX0) (N := 12) hx hb hts hi0 hown hK hP 0 rfl rfl 7 (by decide) (hts (.fieldLink RX0 39 "CellRack" "out" "[J") (by decide +kernel)) (fun _ h9 => h9) rfl dX0_outs_52 ?_
      refine lv_iconst (v := nI 0) hx hb dX0_outs_55 (by decide) ?_
      refine lv_iload hx hb dX0_outs_56 (lv_at hl 3 rfl) ?_
      have hPc := hP.sub (ws' := [(aO, .inl (cJ, 8, .inr (.inl outw)))]) [1] rfl
      have hDc := hD.sub (ws' := [(aO, .inl (cJ, 8, .inr (.inl outw)))]) [1] (by decide) rfl
      have hKc := hK.sub (tys' := [(cJ, .long)]) [0] rfl
      have hFc := va_free (wc := [(aO, .inl (cJ, 8, .inr (.inl outw)))]) hD hS hA [1] rfl
      refine va_calli (va_runS (As := [.ref aO, .int (nI 0), .int (nI (e0 - d - 1))]) (rest := [.long ((oV outw e0 d) <<< ((nI 8).toInt64 &&& 63))]) ⟨hx, hb, hml, hown, hts⟩ (c_X0_byteOf l dC dI H.size aO cJ 8 outw 0 (e0 - d - 1) (by decide) (by omega) (by omega)) (va_cwS 3 hts gX0_outs_X0_byteOf rfl rfl rfl (by decide +kernel) ⟨Nat.le_trans (by decide) hRf, Nat.le_trans (by decide) hRl⟩) ⟨fun a U g mk q => by obtain ⟨q0, q1, qP, qK, qD⟩ := q; exact ⟨q0, q1, qP, va_K.moved (u := U) (U := U.calling g mk a) (Vm.Alike.refl U.vm) qK, qD⟩, fun U hU hW => ⟨rfl, by rw [hU], by rw [hU]; exact hPc, va_K.moved hW.alike hKc, hDc.weaken (fun _ _ _ _ => trivial)⟩⟩ rfl rfl hl.1 rfl (lv_room (Nat.le_of_ble_eq_true rfl)) dX0_outs_58 ⟨hRc, hRs⟩) hS (fun q _ h => hFc q h) hFc (fun r_1 u t H1 locs ht hvm hw hB hz1 hk1 hS => ?_)
      obtain ⟨hP1, hK1, hD1⟩ := hB
      rw [ht] at hP1
      obtain ⟨hPn, hDn⟩ := va_join (wr := [(h0, .inr (0, [.ref aN, .ref aL, .ref aK, .ref aC, .int (nI ld), .ref aT, .int (nI tb), .ref aO, .int (nI ob), .int (bI off), .int wl, .long wd]))]) (w1 := [(aO, .inl (cJ, 8, .inr (.inl outw)))]) hP hD [1] [0] rfl rfl (by decide) (by decide) hk1 hFc hP1 hD1
      clear hP hD hP1 hD1 hK1 hPc hDc hKc hFc hk1 hz1 hvm ht
      generalize H1 = H at hPn hS ⊢
      have hP := hPn
      have hD := hDn
      clear hPn hDn
      replace hP : va_P (dC, dI) vwCl [(h0, .inr (0, [.ref aN, .ref aL, .ref aK, .ref aC, .int (nI ld), .ref aT, .int (nI tb), .ref aO, .int (nI ob), .int (bI off), .int wl, .long wd])), (aO, .inl (cJ, 8, .inr (.inl outw)))] H := hP
      replace hD : va_D A [(h0, .inr (0, [.ref aN, .ref aL, .ref aK, .ref aC, .int (nI ld), .ref aT, .int (nI tb), .ref aO, .int (nI ob), .int (bI off), .int wl, .long wd])), (aO, .inl (cJ, 8, .inr (.inl outw)))] := hD
      refine W.widen (k := cells) (n := slots) (Nat.le_refl _) (Nat.le_refl _) ?_
      obtain rfl := hw
      refine lv_i2l hx hb dX0_outs_61 rfl ?_
      refine lv_lor hx hb dX0_outs_62 ?_
      refine zr_topl (oV outw e0 (d + 1)) (by rw [show e0 - d - 1 = e0 - 1 - d by omega]; rfl) ?_
      refine lv_lstore_n (lv' := [(3, .long (oV outw e0 (d + 1))), (0, .ref h0), (1, .int (nI k0)), (5, .int (nI (e0 - d - 1)))]) hx hb dX0_outs_63 rfl hl (by decide) rfl (fun ls hl => ?_)
      refine lv_iinc (v := zM (e0 - (d + 1))) (lv' := [(5, .int (zM (e0 - (d + 1)))), (3, .long (oV outw e0 (d + 1))), (0, .ref h0), (1, .int (nI k0))]) hx hb dX0_outs_64 hl (k := 3) rfl (by rw [zM_dec (show 1 ≤ e0 - d by omega), show e0 - d - 1 = e0 - (d + 1) by omega]) (by decide) rfl (fun ls hl => ?_)
      refine lv_goto (tgt := 41) hx hb dX0_outs_67 (by decide) ?_
      exact ih (d + 1) (by omega) (by omega) H locs ls (hP.sub [0, 1] rfl) (hD.sub [0, 1] (by decide) rfl) hS (lv_sub hl [2, 3, 1, 0] rfl)
set_option maxHeartbeats 4000000 in
set_option maxRecDepth 100000 in
theorem c_X0_outs (l : Launch) (hl9 : l.stackTraces = false) (dC : Nat → ClassId) (dI : Nat → Nat → Nat) (sz : Nat) (h0 aN aL aK aC aT aO : Nat) (ld tb ob : Nat) (off : Bool) (wl : Int32) (wd : Int64) (cJ : ClassId) (outw : Nat → Int64) (x : Int32) (hob : ob ≤ 64) : vx_Met l yX0_outs wsX0_outs ({ frames := 6, cells := 1, slots := 6, locals := 82 }) (va_Pc [.ref h0, .int x] (fun U => U.heap.size = sz ∧ va_P (dC, dI) vwCl [(h0, .inr (0, [.ref aN, .ref aL, .ref aK, .ref aC, .int (nI ld), .ref aT, .int (nI tb), .ref aO, .int (nI ob), .int (bI off), .int wl, .long wd])), (aO, .inl (cJ, 8, .inr (.inl outw)))] U.heap ∧ va_K (dC, dI) vwCl [(cJ, .long)] U ∧ va_D (fun _ => True) [(h0, .inr (0, [.ref aN, .ref aL, .ref aK, .ref aC, .int (nI ld), .ref aT, .int (nI tb), .ref aO, .int (nI ob), .int (bI off), .int wl, .long wd])), (aO, .inl (cJ, 8, .inr (.inl outw)))] ∧ xw U ∧ xz (va_A [(h0, .inr (0, [.ref aN, .ref aL, .ref aK, .ref aC, .int (nI ld), .ref aT, .int (nI tb), .ref aO, .int (nI ob), .int (bI off), .int wl, .long wd])), (aO, .inl (cJ, 8, .inr (.inl outw)))] sz) U U.heap)) (va_Ql (fun (r : Int64) (_ : Unit) => ∃ k : Nat, k < ob ∧ x = nI k ∧ r = oV outw (min (k + 8) ob) (min (k + 8) ob - k)) (fun (_ : Unit) t => va_P (dC, dI) vwCl [(h0, .inr (0, [.ref aN, .ref aL, .ref aK, .ref aC, .int (nI ld), .ref aT, .int (nI tb), .ref aO, .int (nI ob), .int (bI off), .int wl, .long wd])), (aO, .inl (cJ, 8, .inr (.inl outw)))] t.heap ∧ va_K (dC, dI) vwCl [(cJ, .long)] t ∧ va_D (va_A [(h0, .inr (0, [.ref aN, .ref aL, .ref aK, .ref aC, .int (nI ld), .ref aT, .int (nI tb), .ref aO, .int (nI ob), .int (bI off), .int wl, .long wd])), (aO, .inl (cJ, 8, .inr (.inl outw)))] sz) [(h0, .inr (0, [.ref aN, .ref aL, .ref aK, .ref aC, .int (nI ld), .ref aT, .int (nI tb), .ref aO, .int (nI ob), .int (bI off), .int wl, .long wd])), (aO, .inl (cJ, 8, .inr (.inl outw)))]) (va_A [(h0, .inr (0, [.ref aN, .ref aL, .ref aK, .ref aC, .int (nI ld), .ref aT, .int (nI tb), .ref aO, .int (nI ob), .int (bI off), .int wl, .long wd])), (aO, .inl (cJ, 8, .inr (.inl outw)))] sz)) (vx_X (fun (_ : Unit) => True) (fun E (_ : Unit) t => (E = "java/util/NoSuchElementException" ∧ okI x ob = false) ∧ va_P (dC, dI) vwCl [(h0, .inr (0, [.ref aN, .ref aL, .ref aK, .ref aC, .int (nI ld), .ref aT, .int (nI tb), .ref aO, .int (nI ob), .int (bI off), .int wl, .long wd])), (aO, .inl (cJ, 8, .inr (.inl outw)))] t.heap ∧ va_K (dC, dI) vwCl [(cJ, .long)] t ∧ va_D (va_A [(h0, .inr (0, [.ref aN, .ref aL, .ref aK, .ref aC, .int (nI ld), .ref aT, .int (nI tb), .ref aO, .int (nI ob), .int (bI off), .int wl, .long wd])), (aO, .inl (cJ, 8, .inr (.inl outw)))] sz) [(h0, .inr (0, [.ref aN, .ref aL, .ref aK, .ref aC, .int (nI ld), .ref aT, .int (nI tb), .ref aO, .int (nI ob), .int (bI off), .int wl, .long wd])), (aO, .inl (cJ, 8, .inr (.inl outw)))]) (va_A [(h0, .inr (0, [.ref aN, .ref aL, .ref aK, .ref aC, .int (nI ld), .ref aT, .int (nI tb), .ref aO, .int (nI ob), .int (bI off), .int wl, .long wd])), (aO, .inl (cJ, 8, .inr (.inl outw)))] sz)) 1 6 (va_A [(h0, .inr (0, [.ref aN, .ref aL, .ref aK, .ref aC, .int (nI ld), .ref aT, .int (nI tb), .ref aO, .int (nI ob), .int (bI off), .int wl, .long wd])), (aO, .inl (cJ, 8, .inr (.inl outw)))] sz) := by
  refine vx_ofW (cc := cX0_outs) (maxL := 6) (ret := some .long) (by decide) rfl ?_
  intro p e s m args below meth c s₁ B hml hno hv
  obtain ⟨rfl, hsz, hP, hK, hD0, hxw, hxz⟩ := hv
  have hx := B.exec
  have hb := B.bytes
  have hr := B.returns
  have hts := atoms_spec (ws := wsX0_outs) B.pre
  have hown : s.vm.findClass RX0 = some m.cls := findClass_of_methodNamed B.named
  have hlocks := B.notSynchronized
  subst hsz
  have hD := hD0.self (sz := s.heap.size)
  generalize hAe : va_A [(h0, .inr (0, [.ref aN, .ref aL, .ref aK, .ref aC, .int (nI ld), .ref aT, .int (nI tb), .ref aO, .int (nI ob), .int (bI off), .int wl, .long wd])), (aO, .inl (cJ, 8, .inr (.inl outw)))] s.heap.size = A at hD hxz ⊢
  have hA : ∀ q : Nat, s.heap.size ≤ q → A q := fun q h => by rw [← hAe]; exact Or.inr h
  generalize hH : s.heap = H at hP ⊢
  have hS : va_S A s.heap H [] := by rw [hH]; exact va_S.rf
  replace hP : va_P (dC, dI) vwCl [(h0, .inr (0, [.ref aN, .ref aL, .ref aK, .ref aC, .int (nI ld), .ref aT, .int (nI tb), .ref aO, .int (nI ob), .int (bI off), .int wl, .long wd])), (aO, .inl (cJ, 8, .inr (.inl outw)))] H := hP
  have hl := lv_entry ([.ref h0, .int x]) (n := 6) (Nat.le_of_ble_eq_true rfl)
  rw [lg_entry_eq]
  generalize (lg_sl ([.ref h0, .int x]) ++ List.replicate (6 - (lg_sl ([.ref h0, .int x])).length) Slot.unset).toArray = ls at hl ⊢
  have hl : lv_has ls 6 [(0, .ref h0), (1, .int x)] := hl
  have hi0 : ∀ w ∈ u_ws RX0 TX0 12, w ∈ wsX0_outs := by decide +kernel
  have hat0 : ∀ w ∈ zr_atS RX0 116 "java/util/NoSuchElementException" ["java/lang/RuntimeException", "java/lang/Exception"], w.before _ s = true := vx_hat (L := zr_atS RX0 116 "java/util/NoSuchElementException" ["java/lang/RuntimeException", "java/lang/Exception"]) (B := [.castable "java/util/NoSuchElementException" "java/util/NoSuchElementException", .declares ⟨"java/lang/RuntimeException", "<init>", "(Ljava/lang/String;)V"⟩, .declares ⟨"java/lang/Exception", "<init>", "(Ljava/lang/String;)V"⟩, .declares ⟨"java/lang/Throwable", "<init>", "(Ljava/lang/String;)V"⟩]) (fun w hw => hts w ((by decide +kernel : ∀ w ∈ (zr_atS RX0 116 "java/util/NoSuchElementException" ["java/lang/RuntimeException", "java/lang/Exception"]).filter goodWord, w ∈ wsX0_outs) w hw)) (by decide +kernel) (vx_c (va_Nw.use rfl hxw.1.2.2.1) (vx_c (va_Nw.use rfl hxw.1.2.2.2.1) (vx_c (va_Nw.use rfl hxw.1.2.2.2.2.1) (vx_c (va_Nw.use rfl hxw.1.2.2.2.2.2) (vx_n)))))
  refine lv_iload_n hx hb dX0_outs_0 rfl (lv_at hl 1 rfl) ?_
  refine lv_if_lt (tgt := 12) hx hb dX0_outs_1 (by decide) (fun c1 => ?_) (fun c1 => ?_)
  · obtain ⟨sa, hstr⟩ := hxw.2 (114, "the OUT has no such byte") (by decide)
    have hP9 := hP.sub (ws' := [(h0, .inr (0, [.ref aN, .ref aL, .ref aK, .ref aC, .int (nI ld), .ref aT, .int (nI tb), .ref aO, .int (nI ob), .int (bI off), .int wl, .long wd])), (aO, .inl (cJ, 8, .inr (.inl outw)))]) [0, 1] rfl
    have hD9 := hD.sub (ws' := [(h0, .inr (0, [.ref aN, .ref aL, .ref aK, .ref aC, .int (nI ld), .ref aT, .int (nI tb), .ref aO, .int (nI ob), .int (bI off), .int wl, .long wd])), (aO, .inl (cJ, 8, .inr (.inl outw)))]) [0, 1] (by decide) rfl
    exact zr_throwS (own := RX0) (cls := "java/util/NoSuchElementException") (Y := "java/lang/RuntimeException") (r := ["java/lang/Exception"]) hx hb hl9 hown (by decide +kernel) (by decide +kernel) (hts (.classLink RX0 112 "java/util/NoSuchElementException") (by decide +kernel)) (hts (.initialized "java/util/NoSuchElementException") (by decide +kernel)) hstr hat0 (by decide +kernel) hxz.1 hxz.2 hS (hl.1.trans hml.symm) dX0_outs_12 dX0_outs_15 dX0_outs_16 dX0_outs_18 dX0_outs_21 (fun x hx => (hno x hx).elim) (Nat.le_of_ble_eq_true rfl) (Nat.le_of_ble_eq_true rfl) (Nat.le_of_ble_eq_true rfl) (Nat.le_of_ble_eq_true rfl) hlocks (fun t ha hsz hk => ⟨(), trivial, ⟨⟨rfl, by first | exact okI_f1 c1 | exact okI_f2 (by omega) (Int32.not_lt.mp c9)⟩, hP9.kept (fun k q hq => hk q.1 (hP9 k q hq).lt), va_K.moved ha hK, hD9⟩, Nat.le_trans hS.1 hsz, fun q h1 h2 => (hk q (Nat.lt_of_lt_of_le h1 hS.1)).trans (hS.2.1 q h1 h2)⟩) hS.2.2 (Nat.le_of_ble_eq_true rfl) (Nat.le_of_ble_eq_true rfl)
  · refine lv_iload_n hx hb dX0_outs_4 rfl (lv_at hl 1 rfl) ?_
    refine lv_aload_n hx hb dX0_outs_5 rfl (lv_at hl 0 rfl) ?_
    refine va_get (D := (dC, dI)) (ci := 0) (v := .int (nI ob)) (C := RX0) (T := TX0) (N := 12) hx hb hts hi0 hown hK hP 0 rfl rfl 8 (by decide) (hts (.fieldLink RX0 42 "CellRack" "outBytes" "I") (by decide +kernel)) (fun _ h9 => h9) rfl dX0_outs_6 ?_
    refine lv_icmp_lt (tgt := 22) hx hb dX0_outs_9 (by decide) (fun c9 => ?_) (fun c9 => ?_)
    · obtain ⟨k, hkob, rfl⟩ := okI_get (n := ob) (by omega) (okI_t (by omega) c1 (fun q => Int32.not_lt.mpr q c9))
      refine lv_iload_n hx hb dX0_outs_22 rfl (lv_at hl 1 rfl) ?_
      refine lv_bipush (v := nI 8) hx hb dX0_outs_23 (by decide) ?_
      refine zr_iadd hx hb dX0_outs_25 ?_
      refine lv_aload_n hx hb dX0_outs_26 rfl (lv_at hl 0 rfl) ?_
      refine va_get (D := (dC, dI)) (ci := 0) (v := .int (nI ob)) (C := RX0) (T := TX0) (N := 12) hx hb hts hi0 hown hK hP 0 rfl rfl 8 (by decide) (hts (.fieldLink RX0 42 "CellRack" "outBytes" "I") (by decide +kernel)) (fun _ h9 => h9) rfl dX0_outs_27 ?_
      refine va_mmin hx hb (hml.trans hl.1.symm) hown (hts (.methodLink RX0 117 Lib.Math.min.name) (by decide +kernel)) (hts (.static Lib.Math.min.name) (by decide +kernel)) (hts (.initialized "java/lang/Math") (by decide +kernel)) (hts (.code Lib.Math.min.name Lib.Math.min.code 2 (some .int)) (by decide +kernel)) (Nat.le_of_ble_eq_true rfl) (Nat.le_of_ble_eq_true rfl) (Nat.zero_le _) (Nat.zero_le _) dX0_outs_30 ?_
      refine zr_topi (nI (min (k + 8) ob)) (zr_min (by omega) (by omega)) ?_
      refine lv_istore_n (lv' := [(2, .int (nI (min (k + 8) ob))), (0, .ref h0), (1, .int (nI k))]) hx hb dX0_outs_33 rfl hl (by decide) rfl (fun ls hl => ?_)
      refine lv_lconst (v := 0) hx hb dX0_outs_34 (by decide) ?_
      refine lv_lstore_n (lv' := [(3, .long 0), (2, .int (nI (min (k + 8) ob))), (0, .ref h0), (1, .int (nI k))]) hx hb dX0_outs_35 rfl hl (by decide) rfl (fun ls hl => ?_)
      refine lv_iload_n hx hb dX0_outs_36 rfl (lv_at hl 1 rfl) ?_
      refine lv_iconst (v := nI 1) hx hb dX0_outs_37 (by decide) ?_
      refine zr_isub hx hb (by omega) dX0_outs_38 ?_
      refine lv_istore (lv' := [(5, .int (nI ((min (k + 8) ob) - 1))), (3, .long 0), (2, .int (nI (min (k + 8) ob))), (0, .ref h0), (1, .int (nI k))]) hx hb dX0_outs_39 hl (by decide) rfl (fun ls hl => ?_)
      rw [← zM_1 (show 1 ≤ min (k + 8) ob by omega)] at hl
      refine lp_X0_outs h0 aN aL aK aC aT aO ld tb ob off wl wd cJ outw k (min (k + 8) ob) (by omega) (by omega) hx hb hml hown hts hA hK (Nat.le_of_ble_eq_true rfl) (Nat.le_of_ble_eq_true rfl) (Nat.zero_le _) (Nat.zero_le _) (fun  H locs ls hP hD hS hl => ?_) (min (k + 8) ob - k + 1) 0 (by omega) (by omega) _ _ _ (hP.sub [0, 1] rfl) (hD.sub [0, 1] (by decide) rfl) hS (lv_sub hl [3, 4, 1, 0] rfl)
      refine lv_lload_n hx hb dX0_outs_70 rfl (lv_at hl 0 rfl) ?_
      refine W.widen (k := 1) (n := 6) (Nat.le_of_ble_eq_true rfl) (Nat.le_of_ble_eq_true rfl) ?_
      refine vx_ret ?_
      have hP9 := hP.sub (ws' := [(h0, .inr (0, [.ref aN, .ref aL, .ref aK, .ref aC, .int (nI ld), .ref aT, .int (nI tb), .ref aO, .int (nI ob), .int (bI off), .int wl, .long wd])), (aO, .inl (cJ, 8, .inr (.inl outw)))]) [0, 1] rfl
      have hD9 := hD.sub (ws' := [(h0, .inr (0, [.ref aN, .ref aL, .ref aK, .ref aC, .int (nI ld), .ref aT, .int (nI tb), .ref aO, .int (nI ob), .int (bI off), .int wl, .long wd])), (aO, .inl (cJ, 8, .inr (.inl outw)))]) [0, 1] (by decide) rfl
      exact W.lret (v := oV outw (min (k + 8) ob) ((min (k + 8) ob) - k)) hx hb hr (fun t ht hW => ⟨⟨oV outw (min (k + 8) ob) ((min (k + 8) ob) - k), (), rfl, ⟨k, hkob, rfl, rfl⟩, by rw [ht]; exact hP9, va_K.moved hW.alike hK, hD9⟩, hS.F ht⟩) hS.2.2 dX0_outs_71
    · obtain ⟨sa, hstr⟩ := hxw.2 (114, "the OUT has no such byte") (by decide)
      have hP9 := hP.sub (ws' := [(h0, .inr (0, [.ref aN, .ref aL, .ref aK, .ref aC, .int (nI ld), .ref aT, .int (nI tb), .ref aO, .int (nI ob), .int (bI off), .int wl, .long wd])), (aO, .inl (cJ, 8, .inr (.inl outw)))]) [0, 1] rfl
      have hD9 := hD.sub (ws' := [(h0, .inr (0, [.ref aN, .ref aL, .ref aK, .ref aC, .int (nI ld), .ref aT, .int (nI tb), .ref aO, .int (nI ob), .int (bI off), .int wl, .long wd])), (aO, .inl (cJ, 8, .inr (.inl outw)))]) [0, 1] (by decide) rfl
      exact zr_throwS (own := RX0) (cls := "java/util/NoSuchElementException") (Y := "java/lang/RuntimeException") (r := ["java/lang/Exception"]) hx hb hl9 hown (by decide +kernel) (by decide +kernel) (hts (.classLink RX0 112 "java/util/NoSuchElementException") (by decide +kernel)) (hts (.initialized "java/util/NoSuchElementException") (by decide +kernel)) hstr hat0 (by decide +kernel) hxz.1 hxz.2 hS (hl.1.trans hml.symm) dX0_outs_12 dX0_outs_15 dX0_outs_16 dX0_outs_18 dX0_outs_21 (fun x hx => (hno x hx).elim) (Nat.le_of_ble_eq_true rfl) (Nat.le_of_ble_eq_true rfl) (Nat.le_of_ble_eq_true rfl) (Nat.le_of_ble_eq_true rfl) hlocks (fun t ha hsz hk => ⟨(), trivial, ⟨⟨rfl, by first | exact okI_f1 c1 | exact okI_f2 (by omega) (Int32.not_lt.mp c9)⟩, hP9.kept (fun k q hq => hk q.1 (hP9 k q hq).lt), va_K.moved ha hK, hD9⟩, Nat.le_trans hS.1 hsz, fun q h1 h2 => (hk q (Nat.lt_of_lt_of_le h1 hS.1)).trans (hS.2.1 q h1 h2)⟩) hS.2.2 (Nat.le_of_ble_eq_true rfl) (Nat.le_of_ble_eq_true rfl)
set_option maxHeartbeats 4000000 in
set_option maxRecDepth 100000 in
theorem c_X0_read (l : Launch) (hl9 : l.stackTraces = false) (dC : Nat → ClassId) (dI : Nat → Nat → Nat) (sz : Nat) (h0 aN aL aK aC aT aO : Nat) (ld tb ob : Nat) (off : Bool) (wl : Int32) (wd : Int64) (cJ cI : ClassId) (now outw : Nat → Int64) (kd : Nat → Nat) (x y : Int32) (hk : kdOK kd) : vx_Met l yX0_read wsX0_read ({ frames := 7, cells := 1, slots := 6, locals := 103 }) (va_Pc [.ref h0, .int x, .int y] (fun U => U.heap.size = sz ∧ va_P (dC, dI) vwCl [(h0, .inr (0, [.ref aN, .ref aL, .ref aK, .ref aC, .int (nI ld), .ref aT, .int (nI tb), .ref aO, .int (nI ob), .int (bI off), .int wl, .long wd])), (aN, .inl (cJ, 9504, .inr (.inl now))), (aK, .inl (cI, 1056, .inl (fun i9 => nI (kd i9)))), (aO, .inl (cJ, 8, .inr (.inl outw)))] U.heap ∧ va_K (dC, dI) vwCl [(cJ, .long), (cI, .int)] U ∧ va_D (fun _ => True) [(h0, .inr (0, [.ref aN, .ref aL, .ref aK, .ref aC, .int (nI ld), .ref aT, .int (nI tb), .ref aO, .int (nI ob), .int (bI off), .int wl, .long wd])), (aN, .inl (cJ, 9504, .inr (.inl now))), (aK, .inl (cI, 1056, .inl (fun i9 => nI (kd i9)))), (aO, .inl (cJ, 8, .inr (.inl outw)))] ∧ xw U ∧ xz (va_A [(h0, .inr (0, [.ref aN, .ref aL, .ref aK, .ref aC, .int (nI ld), .ref aT, .int (nI tb), .ref aO, .int (nI ob), .int (bI off), .int wl, .long wd])), (aN, .inl (cJ, 9504, .inr (.inl now))), (aK, .inl (cI, 1056, .inl (fun i9 => nI (kd i9)))), (aO, .inl (cJ, 8, .inr (.inl outw)))] sz) U U.heap)) (va_Qi (fun (r : Int32) (u : (Nat → Int64) × Nat) => match u with | (o2, b2) => ∃ di ce : Nat, di < 16 ∧ ce < 66 ∧ x = nI di ∧ y = nI ce ∧ ((kd (di * 66 + ce) = 2 ∧ r = bI true ∧ o2 = va_cpy now outw ((di * 66 + ce) * 9) 0 8 ∧ b2 = 64) ∨ (¬ kd (di * 66 + ce) = 2 ∧ r = bI false ∧ o2 = outw ∧ b2 = 0))) (fun (u : (Nat → Int64) × Nat) t => match u with | (o2, b2) => va_P (dC, dI) vwCl [(h0, .inr (0, [.ref aN, .ref aL, .ref aK, .ref aC, .int (nI ld), .ref aT, .int (nI tb), .ref aO, .int (nI b2), .int (bI off), .int wl, .long wd])), (aN, .inl (cJ, 9504, .inr (.inl now))), (aK, .inl (cI, 1056, .inl (fun i9 => nI (kd i9)))), (aO, .inl (cJ, 8, .inr (.inl o2)))] t.heap ∧ va_K (dC, dI) vwCl [(cJ, .long), (cI, .int)] t ∧ va_D (va_A [(h0, .inr (0, [.ref aN, .ref aL, .ref aK, .ref aC, .int (nI ld), .ref aT, .int (nI tb), .ref aO, .int (nI ob), .int (bI off), .int wl, .long wd])), (aN, .inl (cJ, 9504, .inr (.inl now))), (aK, .inl (cI, 1056, .inl (fun i9 => nI (kd i9)))), (aO, .inl (cJ, 8, .inr (.inl outw)))] sz) [(h0, .inr (0, [.ref aN, .ref aL, .ref aK, .ref aC, .int (nI ld), .ref aT, .int (nI tb), .ref aO, .int (nI b2), .int (bI off), .int wl, .long wd])), (aN, .inl (cJ, 9504, .inr (.inl now))), (aK, .inl (cI, 1056, .inl (fun i9 => nI (kd i9)))), (aO, .inl (cJ, 8, .inr (.inl o2)))]) (va_A [(h0, .inr (0, [.ref aN, .ref aL, .ref aK, .ref aC, .int (nI ld), .ref aT, .int (nI tb), .ref aO, .int (nI ob), .int (bI off), .int wl, .long wd])), (aN, .inl (cJ, 9504, .inr (.inl now))), (aK, .inl (cI, 1056, .inl (fun i9 => nI (kd i9)))), (aO, .inl (cJ, 8, .inr (.inl outw)))] sz)) (vx_X (fun (_ : Unit) => True) (fun E (_ : Unit) t => (E = "java/lang/IllegalArgumentException" ∧ (okI x 16 && okI y 66) = false) ∧ va_P (dC, dI) vwCl [(h0, .inr (0, [.ref aN, .ref aL, .ref aK, .ref aC, .int (nI ld), .ref aT, .int (nI tb), .ref aO, .int (nI ob), .int (bI off), .int wl, .long wd])), (aN, .inl (cJ, 9504, .inr (.inl now))), (aK, .inl (cI, 1056, .inl (fun i9 => nI (kd i9)))), (aO, .inl (cJ, 8, .inr (.inl outw)))] t.heap ∧ va_K (dC, dI) vwCl [(cJ, .long), (cI, .int)] t ∧ va_D (va_A [(h0, .inr (0, [.ref aN, .ref aL, .ref aK, .ref aC, .int (nI ld), .ref aT, .int (nI tb), .ref aO, .int (nI ob), .int (bI off), .int wl, .long wd])), (aN, .inl (cJ, 9504, .inr (.inl now))), (aK, .inl (cI, 1056, .inl (fun i9 => nI (kd i9)))), (aO, .inl (cJ, 8, .inr (.inl outw)))] sz) [(h0, .inr (0, [.ref aN, .ref aL, .ref aK, .ref aC, .int (nI ld), .ref aT, .int (nI tb), .ref aO, .int (nI ob), .int (bI off), .int wl, .long wd])), (aN, .inl (cJ, 9504, .inr (.inl now))), (aK, .inl (cI, 1056, .inl (fun i9 => nI (kd i9)))), (aO, .inl (cJ, 8, .inr (.inl outw)))]) (va_A [(h0, .inr (0, [.ref aN, .ref aL, .ref aK, .ref aC, .int (nI ld), .ref aT, .int (nI tb), .ref aO, .int (nI ob), .int (bI off), .int wl, .long wd])), (aN, .inl (cJ, 9504, .inr (.inl now))), (aK, .inl (cI, 1056, .inl (fun i9 => nI (kd i9)))), (aO, .inl (cJ, 8, .inr (.inl outw)))] sz)) 1 6 (va_A [(h0, .inr (0, [.ref aN, .ref aL, .ref aK, .ref aC, .int (nI ld), .ref aT, .int (nI tb), .ref aO, .int (nI ob), .int (bI off), .int wl, .long wd])), (aN, .inl (cJ, 9504, .inr (.inl now))), (aK, .inl (cI, 1056, .inl (fun i9 => nI (kd i9)))), (aO, .inl (cJ, 8, .inr (.inl outw)))] sz) := by
  refine vx_ofW (cc := cX0_read) (maxL := 5) (ret := some .boolean) (by decide) rfl ?_
  intro p e s m args below meth c s₁ B hml hno hv
  obtain ⟨rfl, hsz, hP, hK, hD0, hxw, hxz⟩ := hv
  have hx := B.exec
  have hb := B.bytes
  have hr := B.returns
  have hts := atoms_spec (ws := wsX0_read) B.pre
  have hown : s.vm.findClass RX0 = some m.cls := findClass_of_methodNamed B.named
  have hlocks := B.notSynchronized
  subst hsz
  have hD := hD0.self (sz := s.heap.size)
  generalize hAe : va_A [(h0, .inr (0, [.ref aN, .ref aL, .ref aK, .ref aC, .int (nI ld), .ref aT, .int (nI tb), .ref aO, .int (nI ob), .int (bI off), .int wl, .long wd])), (aN, .inl (cJ, 9504, .inr (.inl now))), (aK, .inl (cI, 1056, .inl (fun i9 => nI (kd i9)))), (aO, .inl (cJ, 8, .inr (.inl outw)))] s.heap.size = A at hD hxz ⊢
  have hA : ∀ q : Nat, s.heap.size ≤ q → A q := fun q h => by rw [← hAe]; exact Or.inr h
  generalize hH : s.heap = H at hP ⊢
  have hS : va_S A s.heap H [] := by rw [hH]; exact va_S.rf
  replace hP : va_P (dC, dI) vwCl [(h0, .inr (0, [.ref aN, .ref aL, .ref aK, .ref aC, .int (nI ld), .ref aT, .int (nI tb), .ref aO, .int (nI ob), .int (bI off), .int wl, .long wd])), (aN, .inl (cJ, 9504, .inr (.inl now))), (aK, .inl (cI, 1056, .inl (fun i9 => nI (kd i9)))), (aO, .inl (cJ, 8, .inr (.inl outw)))] H := hP
  have hl := lv_entry ([.ref h0, .int x, .int y]) (n := 5) (Nat.le_of_ble_eq_true rfl)
  rw [lg_entry_eq]
  generalize (lg_sl ([.ref h0, .int x, .int y]) ++ List.replicate (5 - (lg_sl ([.ref h0, .int x, .int y])).length) Slot.unset).toArray = ls at hl ⊢
  have hl : lv_has ls 5 [(0, .ref h0), (1, .int x), (2, .int y)] := hl
  have hi0 : ∀ w ∈ u_ws RX0 TX0 12, w ∈ wsX0_read := by decide +kernel
  refine lv_iload_n hx hb dX0_read_0 rfl (lv_at hl 1 rfl) ?_
  refine lv_iload_n hx hb dX0_read_1 rfl (lv_at hl 2 rfl) ?_
  have hPc := hP.sub (ws' := []) [] rfl
  have hDc := hD.sub (ws' := []) [] (by decide) rfl
  have hKc := hK.sub (tys' := []) [] rfl
  have hFc := va_free (wc := []) hD hS hA [] rfl
  refine vx_callv (vx_runS (As := [.int x, .int y]) (rest := []) ⟨hx, hb, hml, hown, hts⟩ (c_X0_needCell l hl9 dC dI H.size x y) (va_cwS 2 hts gX0_read_X0_needCell rfl rfl rfl (by decide +kernel) ⟨Nat.le_of_ble_eq_true rfl, Nat.le_of_ble_eq_true rfl⟩) ⟨fun a U g mk q => by obtain ⟨q0, q1, qP, qK, qD, qw, qz⟩ := q; exact ⟨q0, q1, qP, va_K.moved (u := U) (U := U.calling g mk a) (Vm.Alike.refl U.vm) qK, qD, xw.same (u := U) rfl qw, xz.moved (u := U) (U := U.calling g mk a) (Vm.Alike.refl U.vm) qz⟩, fun U hU hW => ⟨rfl, by rw [hU], by rw [hU]; exact hPc, va_K.moved hW.alike hKc, hDc.weaken (fun _ _ _ _ => trivial), xw.warm hW hxw, xz.go hxz hS hW.alike hU hFc⟩⟩ rfl rfl hl.1 rfl (lv_room (Nat.le_of_ble_eq_true rfl)) dX0_read_2 ⟨Nat.le_of_ble_eq_true rfl, Nat.le_of_ble_eq_true rfl⟩) hS (fun q _ h => hFc q h) hFc (fun q _ h => hFc q h) (fun E ce q9 u t H1 locs ht hvm _hu hB hz1 hk1 hS hce hcv hcl => ?_) (fun u t H1 locs ht hvm hw hB hz1 hk1 hS => ?_)
  · obtain ⟨hxp, hP1, hK1, hD1⟩ := hB
    rw [ht] at hP1
    obtain ⟨hPn, hDn⟩ := va_join (wr := [(h0, .inr (0, [.ref aN, .ref aL, .ref aK, .ref aC, .int (nI ld), .ref aT, .int (nI tb), .ref aO, .int (nI ob), .int (bI off), .int wl, .long wd])), (aN, .inl (cJ, 9504, .inr (.inl now))), (aK, .inl (cI, 1056, .inl (fun i9 => nI (kd i9)))), (aO, .inl (cJ, 8, .inr (.inl outw)))]) (w1 := []) hP hD [] [0, 1, 2, 3] rfl rfl (by decide) (by decide) hk1 hFc hP1 hD1
    clear hP hD hP1 hD1 hK1 hPc hDc hKc hFc hk1 hz1 hvm ht
    generalize H1 = H at hPn hS hce ⊢
    have hP := hPn
    have hD := hDn
    clear hPn hDn
    replace hP : va_P (dC, dI) vwCl [(h0, .inr (0, [.ref aN, .ref aL, .ref aK, .ref aC, .int (nI ld), .ref aT, .int (nI tb), .ref aO, .int (nI ob), .int (bI off), .int wl, .long wd])), (aN, .inl (cJ, 9504, .inr (.inl now))), (aK, .inl (cI, 1056, .inl (fun i9 => nI (kd i9)))), (aO, .inl (cJ, 8, .inr (.inl outw)))] H := hP
    replace hD : va_D A [(h0, .inr (0, [.ref aN, .ref aL, .ref aK, .ref aC, .int (nI ld), .ref aT, .int (nI tb), .ref aO, .int (nI ob), .int (bI off), .int wl, .long wd])), (aN, .inl (cJ, 9504, .inr (.inl now))), (aK, .inl (cI, 1056, .inl (fun i9 => nI (kd i9)))), (aO, .inl (cJ, 8, .inr (.inl outw)))] := hD
    refine vx_widen (k := 1) (n := 6) (Nat.le_refl _) (Nat.le_refl _) ?_
    have hP9 := hP.sub (ws' := [(h0, .inr (0, [.ref aN, .ref aL, .ref aK, .ref aC, .int (nI ld), .ref aT, .int (nI tb), .ref aO, .int (nI ob), .int (bI off), .int wl, .long wd])), (aN, .inl (cJ, 9504, .inr (.inl now))), (aK, .inl (cI, 1056, .inl (fun i9 => nI (kd i9)))), (aO, .inl (cJ, 8, .inr (.inl outw)))]) [0, 1, 2, 3] rfl
    have hD9 := hD.sub (ws' := [(h0, .inr (0, [.ref aN, .ref aL, .ref aK, .ref aC, .int (nI ld), .ref aT, .int (nI tb), .ref aO, .int (nI ob), .int (bI off), .int wl, .long wd])), (aN, .inl (cJ, 9504, .inr (.inl now))), (aK, .inl (cI, 1056, .inl (fun i9 => nI (kd i9)))), (aO, .inl (cJ, 8, .inr (.inl outw)))]) [0, 1, 2, 3] (by decide) rfl
    exact vx_out (fun x hx => (hno x hx).elim) hlocks hce hcv hcl (fun t ht ha => ⟨(), trivial, ⟨hxp, by rw [ht]; exact hP9, va_K.moved ha hK, hD9⟩, hS.F ht⟩) hS.2.2 (Nat.le_of_ble_eq_true rfl) (Nat.le_of_ble_eq_true rfl)
  · obtain ⟨hP1, hK1, hD1⟩ := hB
    rw [ht] at hP1
    obtain ⟨hPn, hDn⟩ := va_join (wr := [(h0, .inr (0, [.ref aN, .ref aL, .ref aK, .ref aC, .int (nI ld), .ref aT, .int (nI tb), .ref aO, .int (nI ob), .int (bI off), .int wl, .long wd])), (aN, .inl (cJ, 9504, .inr (.inl now))), (aK, .inl (cI, 1056, .inl (fun i9 => nI (kd i9)))), (aO, .inl (cJ, 8, .inr (.inl outw)))]) (w1 := []) hP hD [] [0, 1, 2, 3] rfl rfl (by decide) (by decide) hk1 hFc hP1 hD1
    clear hP hD hP1 hD1 hK1 hPc hDc hKc hFc hk1 hz1 hvm ht
    generalize H1 = H at hPn hS ⊢
    have hP := hPn
    have hD := hDn
    clear hPn hDn
    replace hP : va_P (dC, dI) vwCl [(h0, .inr (0, [.ref aN, .ref aL, .ref aK, .ref aC, .int (nI ld), .ref aT, .int (nI tb), .ref aO, .int (nI ob), .int (bI off), .int wl, .long wd])), (aN, .inl (cJ, 9504, .inr (.inl now))), (aK, .inl (cI, 1056, .inl (fun i9 => nI (kd i9)))), (aO, .inl (cJ, 8, .inr (.inl outw)))] H := hP
    replace hD : va_D A [(h0, .inr (0, [.ref aN, .ref aL, .ref aK, .ref aC, .int (nI ld), .ref aT, .int (nI tb), .ref aO, .int (nI ob), .int (bI off), .int wl, .long wd])), (aN, .inl (cJ, 9504, .inr (.inl now))), (aK, .inl (cI, 1056, .inl (fun i9 => nI (kd i9)))), (aO, .inl (cJ, 8, .inr (.inl outw)))] := hD
    refine W.widen (k := 1) (n := 6) (Nat.le_refl _) (Nat.le_refl _) ?_
    have hcell := hw
    obtain ⟨di, hdi, rfl⟩ := okI_get (by decide) (Bool.and_eq_true_iff.mp hcell).1
    obtain ⟨ce, hce9, rfl⟩ := okI_get (by decide) (Bool.and_eq_true_iff.mp hcell).2
    refine lv_iload_n hx hb dX0_read_5 rfl (lv_at hl 1 rfl) ?_
    refine lv_iload_n hx hb dX0_read_6 rfl (lv_at hl 2 rfl) ?_
    have hPc := hP.sub (ws' := []) [] rfl
    have hDc := hD.sub (ws' := []) [] (by decide) rfl
    have hKc := hK.sub (tys' := []) [] rfl
    have hFc := va_free (wc := []) hD hS hA [] rfl
    refine va_calli (va_runS (As := [.int (nI di), .int (nI ce)]) (rest := []) ⟨hx, hb, hml, hown, hts⟩ (c_X0_spotOf l dC dI H.size di ce) (va_cwS 2 hts gX0_read_X0_spotOf rfl rfl rfl (by decide +kernel) ⟨Nat.le_of_ble_eq_true rfl, Nat.le_of_ble_eq_true rfl⟩) ⟨fun a U g mk q => by obtain ⟨q0, q1, qP, qK, qD⟩ := q; exact ⟨q0, q1, qP, va_K.moved (u := U) (U := U.calling g mk a) (Vm.Alike.refl U.vm) qK, qD⟩, fun U hU hW => ⟨rfl, by rw [hU], by rw [hU]; exact hPc, va_K.moved hW.alike hKc, hDc.weaken (fun _ _ _ _ => trivial)⟩⟩ rfl rfl hl.1 rfl (lv_room (Nat.le_of_ble_eq_true rfl)) dX0_read_7 ⟨Nat.le_of_ble_eq_true rfl, Nat.le_of_ble_eq_true rfl⟩) hS (fun q _ h => hFc q h) hFc (fun r_2 u t H1 locs ht hvm hw hB hz1 hk1 hS => ?_)
    obtain ⟨hP1, hK1, hD1⟩ := hB
    rw [ht] at hP1
    obtain ⟨hPn, hDn⟩ := va_join (wr := [(h0, .inr (0, [.ref aN, .ref aL, .ref aK, .ref aC, .int (nI ld), .ref aT, .int (nI tb), .ref aO, .int (nI ob), .int (bI off), .int wl, .long wd])), (aN, .inl (cJ, 9504, .inr (.inl now))), (aK, .inl (cI, 1056, .inl (fun i9 => nI (kd i9)))), (aO, .inl (cJ, 8, .inr (.inl outw)))]) (w1 := []) hP hD [] [0, 1, 2, 3] rfl rfl (by decide) (by decide) hk1 hFc hP1 hD1
    clear hP hD hP1 hD1 hK1 hPc hDc hKc hFc hk1 hz1 hvm ht
    generalize H1 = H at hPn hS ⊢
    have hP := hPn
    have hD := hDn
    clear hPn hDn
    replace hP : va_P (dC, dI) vwCl [(h0, .inr (0, [.ref aN, .ref aL, .ref aK, .ref aC, .int (nI ld), .ref aT, .int (nI tb), .ref aO, .int (nI ob), .int (bI off), .int wl, .long wd])), (aN, .inl (cJ, 9504, .inr (.inl now))), (aK, .inl (cI, 1056, .inl (fun i9 => nI (kd i9)))), (aO, .inl (cJ, 8, .inr (.inl outw)))] H := hP
    replace hD : va_D A [(h0, .inr (0, [.ref aN, .ref aL, .ref aK, .ref aC, .int (nI ld), .ref aT, .int (nI tb), .ref aO, .int (nI ob), .int (bI off), .int wl, .long wd])), (aN, .inl (cJ, 9504, .inr (.inl now))), (aK, .inl (cI, 1056, .inl (fun i9 => nI (kd i9)))), (aO, .inl (cJ, 8, .inr (.inl outw)))] := hD
    refine W.widen (k := 1) (n := 6) (Nat.le_refl _) (Nat.le_refl _) ?_
    obtain rfl := hw
    refine lv_istore_n (lv' := [(3, .int (nI (di * 66 + ce))), (0, .ref h0), (1, .int (nI di)), (2, .int (nI ce))]) hx hb dX0_read_10 rfl hl (by decide) rfl (fun ls hl => ?_)
    refine lv_aload_n hx hb dX0_read_11 rfl (lv_at hl 1 rfl) ?_
    refine va_get (D := (dC, dI)) (ci := 0) (v := .ref aK) (C := RX0) (T := TX0) (N := 12) hx hb hts hi0 hown hK hP 0 rfl rfl 2 (by decide) (hts (.fieldLink RX0 16 "CellRack" "kinds" "[I") (by decide +kernel)) (fun _ h9 => h9) rfl dX0_read_12 ?_
    refine lv_iload_n hx hb dX0_read_15 rfl (lv_at hl 0 rfl) ?_
    refine zr_nald hx hb hK hP 2 1 rfl rfl (by omega) (by omega) dX0_read_16 ?_
    refine lv_iconst (v := nI 2) hx hb dX0_read_17 (by decide) ?_
    refine zr_icmp_ne (tgt := 25) hx hb (Nat.lt_trans (hk _) (by decide)) (by omega) dX0_read_18 (by decide) (fun c18 => ?_) (fun c18 => ?_)
    · refine lv_iconst (v := nI 0) hx hb dX0_read_25 (by decide) ?_
      refine lv_istore (lv' := [(4, .int (nI 0)), (3, .int (nI (di * 66 + ce))), (0, .ref h0), (1, .int (nI di)), (2, .int (nI ce))]) hx hb dX0_read_26 hl (by decide) rfl (fun ls hl => ?_)
      refine lv_iload hx hb dX0_read_28 (lv_at hl 0 rfl) ?_
      refine zr_ifn_eq (tgt := 51) hx hb (by omega) dX0_read_30 (by decide) (fun c30 => ?_) (fun c30 => absurd c30 (by decide))
      refine lv_aload_n hx hb dX0_read_51 rfl (lv_at hl 2 rfl) ?_
      refine lv_iload hx hb dX0_read_52 (lv_at hl 0 rfl) ?_
      refine zr_ifn_eq (tgt := 62) hx hb (by omega) dX0_read_54 (by decide) (fun c54 => ?_) (fun c54 => absurd c54 (by decide))
      refine lv_iconst (v := nI 0) hx hb dX0_read_62 (by decide) ?_
      refine va_put (D := (dC, dI)) (ci := 0) (v := .int (nI 0)) (ty := .int) (C := RX0) (T := TX0) (N := 12) hx hb hts hi0 tyX0 tyX0_ok nmX0 hown hK hP hD hS 0 rfl rfl 8 (by decide) (hts (.fieldLink RX0 42 "CellRack" "outBytes" "I") (by decide +kernel)) (fun _ h9 => h9) rfl (by decide +kernel) (rfl) (rfl) (Nat.le_of_ble_eq_true rfl) dX0_read_63 (fun H locs hP hD hS => ?_)
      replace hP : va_P (dC, dI) vwCl [(h0, .inr (0, [.ref aN, .ref aL, .ref aK, .ref aC, .int (nI ld), .ref aT, .int (nI tb), .ref aO, .int (nI 0), .int (bI off), .int wl, .long wd])), (aN, .inl (cJ, 9504, .inr (.inl now))), (aK, .inl (cI, 1056, .inl (fun i9 => nI (kd i9)))), (aO, .inl (cJ, 8, .inr (.inl outw)))] H := hP
      replace hD : va_D A [(h0, .inr (0, [.ref aN, .ref aL, .ref aK, .ref aC, .int (nI ld), .ref aT, .int (nI tb), .ref aO, .int (nI 0), .int (bI off), .int wl, .long wd])), (aN, .inl (cJ, 9504, .inr (.inl now))), (aK, .inl (cI, 1056, .inl (fun i9 => nI (kd i9)))), (aO, .inl (cJ, 8, .inr (.inl outw)))] := hD
      refine lv_iload hx hb dX0_read_66 (lv_at hl 0 rfl) ?_
      refine vx_ret ?_
      have hP9 := hP.sub (ws' := [(h0, .inr (0, [.ref aN, .ref aL, .ref aK, .ref aC, .int (nI ld), .ref aT, .int (nI tb), .ref aO, .int (nI 0), .int (bI off), .int wl, .long wd])), (aN, .inl (cJ, 9504, .inr (.inl now))), (aK, .inl (cI, 1056, .inl (fun i9 => nI (kd i9)))), (aO, .inl (cJ, 8, .inr (.inl outw)))]) [0, 1, 2, 3] rfl
      have hD9 := hD.sub (ws' := [(h0, .inr (0, [.ref aN, .ref aL, .ref aK, .ref aC, .int (nI ld), .ref aT, .int (nI tb), .ref aO, .int (nI 0), .int (bI off), .int wl, .long wd])), (aN, .inl (cJ, 9504, .inr (.inl now))), (aK, .inl (cI, 1056, .inl (fun i9 => nI (kd i9)))), (aO, .inl (cJ, 8, .inr (.inl outw)))]) [0, 1, 2, 3] (by decide) rfl
      exact W.zret (v := nI 0) hx hb hr (by decide) (fun t ht hW => ⟨⟨nI 0, (outw, 0), rfl, ⟨di, ce, hdi, hce9, rfl, rfl, Or.inr ⟨c18, rfl, rfl, rfl⟩⟩, by rw [ht]; exact hP9, va_K.moved hW.alike hK, hD9⟩, hS.F ht⟩) hS.2.2 dX0_read_68
    · refine lv_iconst (v := nI 1) hx hb dX0_read_21 (by decide) ?_
      refine lv_goto (tgt := 26) hx hb dX0_read_22 (by decide) ?_
      refine lv_istore (lv' := [(4, .int (nI 1)), (3, .int (nI (di * 66 + ce))), (0, .ref h0), (1, .int (nI di)), (2, .int (nI ce))]) hx hb dX0_read_26 hl (by decide) rfl (fun ls hl => ?_)
      refine lv_iload hx hb dX0_read_28 (lv_at hl 0 rfl) ?_
      refine zr_ifn_eq (tgt := 51) hx hb (by omega) dX0_read_30 (by decide) (fun c30 => absurd c30 (by decide)) (fun c30 => ?_)
      refine lv_aload_n hx hb dX0_read_33 rfl (lv_at hl 2 rfl) ?_
      refine va_get (D := (dC, dI)) (ci := 0) (v := .ref aN) (C := RX0) (T := TX0) (N := 12) hx hb hts hi0 hown hK hP 0 rfl rfl 0 (by decide) (hts (.fieldLink RX0 9 "CellRack" "now" "[J") (by decide +kernel)) (fun _ h9 => h9) rfl dX0_read_34 ?_
      refine lv_iload_n hx hb dX0_read_37 rfl (lv_at hl 1 rfl) ?_
      refine lv_bipush (v := nI 9) hx hb dX0_read_38 (by decide) ?_
      refine zr_imul hx hb dX0_read_40 ?_
      refine lv_aload_n hx hb dX0_read_41 rfl (lv_at hl 2 rfl) ?_
      refine va_get (D := (dC, dI)) (ci := 0) (v := .ref aO) (C := RX0) (T := TX0) (N := 12) hx hb hts hi0 hown hK hP 0 rfl rfl 7 (by decide) (hts (.fieldLink RX0 39 "CellRack" "out" "[J") (by decide +kernel)) (fun _ h9 => h9) rfl dX0_read_42 ?_
      refine lv_iconst (v := nI 0) hx hb dX0_read_45 (by decide) ?_
      refine lv_bipush (v := nI 8) hx hb dX0_read_46 (by decide) ?_
      refine zr_copyl hx hb (hml.trans hl.1.symm) hown (hts (.methodLink RX0 106 arraycopyName) (by decide +kernel)) (hts (.native arraycopyName) (by decide +kernel)) (hts (.static arraycopyName) (by decide +kernel)) (hts (.initialized "java/lang/System") (by decide +kernel)) hK hP hD hS 1 3 0 rfl rfl rfl (by omega) (by omega) (by decide) (by decide) (Nat.le_of_ble_eq_true rfl) (Nat.le_of_ble_eq_true rfl) dX0_read_48 (fun H locs hP hD hS => ?_)
      replace hP : va_P (dC, dI) vwCl [(h0, .inr (0, [.ref aN, .ref aL, .ref aK, .ref aC, .int (nI ld), .ref aT, .int (nI tb), .ref aO, .int (nI ob), .int (bI off), .int wl, .long wd])), (aN, .inl (cJ, 9504, .inr (.inl now))), (aK, .inl (cI, 1056, .inl (fun i9 => nI (kd i9)))), (aO, .inl (cJ, 8, .inr (.inl (va_cpy now outw ((di * 66 + ce) * 9) 0 8))))] H := hP
      replace hD : va_D A [(h0, .inr (0, [.ref aN, .ref aL, .ref aK, .ref aC, .int (nI ld), .ref aT, .int (nI tb), .ref aO, .int (nI ob), .int (bI off), .int wl, .long wd])), (aN, .inl (cJ, 9504, .inr (.inl now))), (aK, .inl (cI, 1056, .inl (fun i9 => nI (kd i9)))), (aO, .inl (cJ, 8, .inr (.inl (va_cpy now outw ((di * 66 + ce) * 9) 0 8))))] := hD
      refine lv_aload_n hx hb dX0_read_51 rfl (lv_at hl 2 rfl) ?_
      refine lv_iload hx hb dX0_read_52 (lv_at hl 0 rfl) ?_
      refine zr_ifn_eq (tgt := 62) hx hb (by omega) dX0_read_54 (by decide) (fun c54 => absurd c54 (by decide)) (fun c54 => ?_)
      refine lv_bipush (v := nI 64) hx hb dX0_read_57 (by decide) ?_
      refine lv_goto (tgt := 63) hx hb dX0_read_59 (by decide) ?_
      refine va_put (D := (dC, dI)) (ci := 0) (v := .int (nI 64)) (ty := .int) (C := RX0) (T := TX0) (N := 12) hx hb hts hi0 tyX0 tyX0_ok nmX0 hown hK hP hD hS 0 rfl rfl 8 (by decide) (hts (.fieldLink RX0 42 "CellRack" "outBytes" "I") (by decide +kernel)) (fun _ h9 => h9) rfl (by decide +kernel) (rfl) (rfl) (Nat.le_of_ble_eq_true rfl) dX0_read_63 (fun H locs hP hD hS => ?_)
      replace hP : va_P (dC, dI) vwCl [(h0, .inr (0, [.ref aN, .ref aL, .ref aK, .ref aC, .int (nI ld), .ref aT, .int (nI tb), .ref aO, .int (nI 64), .int (bI off), .int wl, .long wd])), (aN, .inl (cJ, 9504, .inr (.inl now))), (aK, .inl (cI, 1056, .inl (fun i9 => nI (kd i9)))), (aO, .inl (cJ, 8, .inr (.inl (va_cpy now outw ((di * 66 + ce) * 9) 0 8))))] H := hP
      replace hD : va_D A [(h0, .inr (0, [.ref aN, .ref aL, .ref aK, .ref aC, .int (nI ld), .ref aT, .int (nI tb), .ref aO, .int (nI 64), .int (bI off), .int wl, .long wd])), (aN, .inl (cJ, 9504, .inr (.inl now))), (aK, .inl (cI, 1056, .inl (fun i9 => nI (kd i9)))), (aO, .inl (cJ, 8, .inr (.inl (va_cpy now outw ((di * 66 + ce) * 9) 0 8))))] := hD
      refine lv_iload hx hb dX0_read_66 (lv_at hl 0 rfl) ?_
      refine vx_ret ?_
      have hP9 := hP.sub (ws' := [(h0, .inr (0, [.ref aN, .ref aL, .ref aK, .ref aC, .int (nI ld), .ref aT, .int (nI tb), .ref aO, .int (nI 64), .int (bI off), .int wl, .long wd])), (aN, .inl (cJ, 9504, .inr (.inl now))), (aK, .inl (cI, 1056, .inl (fun i9 => nI (kd i9)))), (aO, .inl (cJ, 8, .inr (.inl (va_cpy now outw ((di * 66 + ce) * 9) 0 8))))]) [0, 1, 2, 3] rfl
      have hD9 := hD.sub (ws' := [(h0, .inr (0, [.ref aN, .ref aL, .ref aK, .ref aC, .int (nI ld), .ref aT, .int (nI tb), .ref aO, .int (nI 64), .int (bI off), .int wl, .long wd])), (aN, .inl (cJ, 9504, .inr (.inl now))), (aK, .inl (cI, 1056, .inl (fun i9 => nI (kd i9)))), (aO, .inl (cJ, 8, .inr (.inl (va_cpy now outw ((di * 66 + ce) * 9) 0 8))))]) [0, 1, 2, 3] (by decide) rfl
      exact W.zret (v := nI 1) hx hb hr (by decide) (fun t ht hW => ⟨⟨nI 1, (va_cpy now outw ((di * 66 + ce) * 9) 0 8, 64), rfl, ⟨di, ce, hdi, hce9, rfl, rfl, Or.inl ⟨c18, rfl, rfl, rfl⟩⟩, by rw [ht]; exact hP9, va_K.moved hW.alike hK, hD9⟩, hS.F ht⟩) hS.2.2 dX0_read_68
set_option maxHeartbeats 4000000 in
set_option maxRecDepth 100000 in
theorem c_X0_fail (l : Launch) (hl9 : l.stackTraces = false) (dC : Nat → ClassId) (dI : Nat → Nat → Nat) (sz : Nat) (h0 aN aL aK aC aT aO : Nat) (ld tb ob : Nat) (off : Bool) (wl : Int32) (wd : Int64) (cI : ClassId) (kd cn : Nat → Nat) (x : Int32) (hk : kdOK kd) (hc : cnOK kd cn) (hld : ∀ di, di < 16 → ¬ kd (di * 66) = 0 → 1 ≤ ld) : vx_Met l yX0_fail wsX0_fail ({ frames := 7, cells := 1, slots := 6, locals := 102 }) (va_Pc [.ref h0, .int x] (fun U => U.heap.size = sz ∧ va_P (dC, dI) vwCl [(h0, .inr (0, [.ref aN, .ref aL, .ref aK, .ref aC, .int (nI ld), .ref aT, .int (nI tb), .ref aO, .int (nI ob), .int (bI off), .int wl, .long wd])), (aK, .inl (cI, 1056, .inl (fun i9 => nI (kd i9)))), (aC, .inl (cI, 4, .inl (fun i9 => nI (cn i9))))] U.heap ∧ va_K (dC, dI) vwCl [(cI, .int)] U ∧ va_D (fun _ => True) [(h0, .inr (0, [.ref aN, .ref aL, .ref aK, .ref aC, .int (nI ld), .ref aT, .int (nI tb), .ref aO, .int (nI ob), .int (bI off), .int wl, .long wd])), (aK, .inl (cI, 1056, .inl (fun i9 => nI (kd i9)))), (aC, .inl (cI, 4, .inl (fun i9 => nI (cn i9))))] ∧ xw U ∧ xz (va_A [(h0, .inr (0, [.ref aN, .ref aL, .ref aK, .ref aC, .int (nI ld), .ref aT, .int (nI tb), .ref aO, .int (nI ob), .int (bI off), .int wl, .long wd])), (aK, .inl (cI, 1056, .inl (fun i9 => nI (kd i9)))), (aC, .inl (cI, 4, .inl (fun i9 => nI (cn i9))))] sz) U U.heap)) (va_Qi (fun (r : Int32) (u : (Nat → Nat) × (Nat → Nat) × Nat) => match u with | (k2, c2, l2) => ∃ di : Nat, di < 16 ∧ x = nI di ∧ ((¬ kd (di * 66) = 0 ∧ r = bI true ∧ k2 = skK kd di 0 66 ∧ c2 = skN kd cn di 0 66 ∧ l2 = ld - 1) ∨ (kd (di * 66) = 0 ∧ r = bI false ∧ k2 = kd ∧ c2 = cn ∧ l2 = ld))) (fun (u : (Nat → Nat) × (Nat → Nat) × Nat) t => match u with | (k2, c2, l2) => va_P (dC, dI) vwCl [(h0, .inr (0, [.ref aN, .ref aL, .ref aK, .ref aC, .int (nI l2), .ref aT, .int (nI tb), .ref aO, .int (nI ob), .int (bI off), .int wl, .long wd])), (aK, .inl (cI, 1056, .inl (fun i9 => nI (k2 i9)))), (aC, .inl (cI, 4, .inl (fun i9 => nI (c2 i9))))] t.heap ∧ va_K (dC, dI) vwCl [(cI, .int)] t ∧ va_D (va_A [(h0, .inr (0, [.ref aN, .ref aL, .ref aK, .ref aC, .int (nI ld), .ref aT, .int (nI tb), .ref aO, .int (nI ob), .int (bI off), .int wl, .long wd])), (aK, .inl (cI, 1056, .inl (fun i9 => nI (kd i9)))), (aC, .inl (cI, 4, .inl (fun i9 => nI (cn i9))))] sz) [(h0, .inr (0, [.ref aN, .ref aL, .ref aK, .ref aC, .int (nI l2), .ref aT, .int (nI tb), .ref aO, .int (nI ob), .int (bI off), .int wl, .long wd])), (aK, .inl (cI, 1056, .inl (fun i9 => nI (k2 i9)))), (aC, .inl (cI, 4, .inl (fun i9 => nI (c2 i9))))]) (va_A [(h0, .inr (0, [.ref aN, .ref aL, .ref aK, .ref aC, .int (nI ld), .ref aT, .int (nI tb), .ref aO, .int (nI ob), .int (bI off), .int wl, .long wd])), (aK, .inl (cI, 1056, .inl (fun i9 => nI (kd i9)))), (aC, .inl (cI, 4, .inl (fun i9 => nI (cn i9))))] sz)) (vx_X (fun (_ : Unit) => True) (fun E (_ : Unit) t => (E = "java/lang/IllegalArgumentException" ∧ okI x 16 = false) ∧ va_P (dC, dI) vwCl [(h0, .inr (0, [.ref aN, .ref aL, .ref aK, .ref aC, .int (nI ld), .ref aT, .int (nI tb), .ref aO, .int (nI ob), .int (bI off), .int wl, .long wd])), (aK, .inl (cI, 1056, .inl (fun i9 => nI (kd i9)))), (aC, .inl (cI, 4, .inl (fun i9 => nI (cn i9))))] t.heap ∧ va_K (dC, dI) vwCl [(cI, .int)] t ∧ va_D (va_A [(h0, .inr (0, [.ref aN, .ref aL, .ref aK, .ref aC, .int (nI ld), .ref aT, .int (nI tb), .ref aO, .int (nI ob), .int (bI off), .int wl, .long wd])), (aK, .inl (cI, 1056, .inl (fun i9 => nI (kd i9)))), (aC, .inl (cI, 4, .inl (fun i9 => nI (cn i9))))] sz) [(h0, .inr (0, [.ref aN, .ref aL, .ref aK, .ref aC, .int (nI ld), .ref aT, .int (nI tb), .ref aO, .int (nI ob), .int (bI off), .int wl, .long wd])), (aK, .inl (cI, 1056, .inl (fun i9 => nI (kd i9)))), (aC, .inl (cI, 4, .inl (fun i9 => nI (cn i9))))]) (va_A [(h0, .inr (0, [.ref aN, .ref aL, .ref aK, .ref aC, .int (nI ld), .ref aT, .int (nI tb), .ref aO, .int (nI ob), .int (bI off), .int wl, .long wd])), (aK, .inl (cI, 1056, .inl (fun i9 => nI (kd i9)))), (aC, .inl (cI, 4, .inl (fun i9 => nI (cn i9))))] sz)) 1 6 (va_A [(h0, .inr (0, [.ref aN, .ref aL, .ref aK, .ref aC, .int (nI ld), .ref aT, .int (nI tb), .ref aO, .int (nI ob), .int (bI off), .int wl, .long wd])), (aK, .inl (cI, 1056, .inl (fun i9 => nI (kd i9)))), (aC, .inl (cI, 4, .inl (fun i9 => nI (cn i9))))] sz) := by
  refine vx_ofW (cc := cX0_fail) (maxL := 2) (ret := some .boolean) (by decide) rfl ?_
  intro p e s m args below meth c s₁ B hml hno hv
  obtain ⟨rfl, hsz, hP, hK, hD0, hxw, hxz⟩ := hv
  have hx := B.exec
  have hb := B.bytes
  have hr := B.returns
  have hts := atoms_spec (ws := wsX0_fail) B.pre
  have hown : s.vm.findClass RX0 = some m.cls := findClass_of_methodNamed B.named
  have hlocks := B.notSynchronized
  subst hsz
  have hD := hD0.self (sz := s.heap.size)
  generalize hAe : va_A [(h0, .inr (0, [.ref aN, .ref aL, .ref aK, .ref aC, .int (nI ld), .ref aT, .int (nI tb), .ref aO, .int (nI ob), .int (bI off), .int wl, .long wd])), (aK, .inl (cI, 1056, .inl (fun i9 => nI (kd i9)))), (aC, .inl (cI, 4, .inl (fun i9 => nI (cn i9))))] s.heap.size = A at hD hxz ⊢
  have hA : ∀ q : Nat, s.heap.size ≤ q → A q := fun q h => by rw [← hAe]; exact Or.inr h
  generalize hH : s.heap = H at hP ⊢
  have hS : va_S A s.heap H [] := by rw [hH]; exact va_S.rf
  replace hP : va_P (dC, dI) vwCl [(h0, .inr (0, [.ref aN, .ref aL, .ref aK, .ref aC, .int (nI ld), .ref aT, .int (nI tb), .ref aO, .int (nI ob), .int (bI off), .int wl, .long wd])), (aK, .inl (cI, 1056, .inl (fun i9 => nI (kd i9)))), (aC, .inl (cI, 4, .inl (fun i9 => nI (cn i9))))] H := hP
  have hl := lv_entry ([.ref h0, .int x]) (n := 2) (Nat.le_of_ble_eq_true rfl)
  rw [lg_entry_eq]
  generalize (lg_sl ([.ref h0, .int x]) ++ List.replicate (2 - (lg_sl ([.ref h0, .int x])).length) Slot.unset).toArray = ls at hl ⊢
  have hl : lv_has ls 2 [(0, .ref h0), (1, .int x)] := hl
  have hi0 : ∀ w ∈ u_ws RX0 TX0 12, w ∈ wsX0_fail := by decide +kernel
  refine lv_iload_n hx hb dX0_fail_0 rfl (lv_at hl 1 rfl) ?_
  have hPc := hP.sub (ws' := []) [] rfl
  have hDc := hD.sub (ws' := []) [] (by decide) rfl
  have hKc := hK.sub (tys' := []) [] rfl
  have hFc := va_free (wc := []) hD hS hA [] rfl
  refine vx_callv (vx_runS (As := [.int x]) (rest := []) ⟨hx, hb, hml, hown, hts⟩ (c_X0_needDisk l hl9 dC dI H.size x) (va_cwS 1 hts gX0_fail_X0_needDisk rfl rfl rfl (by decide +kernel) ⟨Nat.le_of_ble_eq_true rfl, Nat.le_of_ble_eq_true rfl⟩) ⟨fun a U g mk q => by obtain ⟨q0, q1, qP, qK, qD, qw, qz⟩ := q; exact ⟨q0, q1, qP, va_K.moved (u := U) (U := U.calling g mk a) (Vm.Alike.refl U.vm) qK, qD, xw.same (u := U) rfl qw, xz.moved (u := U) (U := U.calling g mk a) (Vm.Alike.refl U.vm) qz⟩, fun U hU hW => ⟨rfl, by rw [hU], by rw [hU]; exact hPc, va_K.moved hW.alike hKc, hDc.weaken (fun _ _ _ _ => trivial), xw.warm hW hxw, xz.go hxz hS hW.alike hU hFc⟩⟩ rfl rfl hl.1 rfl (lv_room (Nat.le_of_ble_eq_true rfl)) dX0_fail_1 ⟨Nat.le_of_ble_eq_true rfl, Nat.le_of_ble_eq_true rfl⟩) hS (fun q _ h => hFc q h) hFc (fun q _ h => hFc q h) (fun E ce q9 u t H1 locs ht hvm _hu hB hz1 hk1 hS hce hcv hcl => ?_) (fun u t H1 locs ht hvm hw hB hz1 hk1 hS => ?_)
  · obtain ⟨hxp, hP1, hK1, hD1⟩ := hB
    rw [ht] at hP1
    obtain ⟨hPn, hDn⟩ := va_join (wr := [(h0, .inr (0, [.ref aN, .ref aL, .ref aK, .ref aC, .int (nI ld), .ref aT, .int (nI tb), .ref aO, .int (nI ob), .int (bI off), .int wl, .long wd])), (aK, .inl (cI, 1056, .inl (fun i9 => nI (kd i9)))), (aC, .inl (cI, 4, .inl (fun i9 => nI (cn i9))))]) (w1 := []) hP hD [] [0, 1, 2] rfl rfl (by decide) (by decide) hk1 hFc hP1 hD1
    clear hP hD hP1 hD1 hK1 hPc hDc hKc hFc hk1 hz1 hvm ht
    generalize H1 = H at hPn hS hce ⊢
    have hP := hPn
    have hD := hDn
    clear hPn hDn
    replace hP : va_P (dC, dI) vwCl [(h0, .inr (0, [.ref aN, .ref aL, .ref aK, .ref aC, .int (nI ld), .ref aT, .int (nI tb), .ref aO, .int (nI ob), .int (bI off), .int wl, .long wd])), (aK, .inl (cI, 1056, .inl (fun i9 => nI (kd i9)))), (aC, .inl (cI, 4, .inl (fun i9 => nI (cn i9))))] H := hP
    replace hD : va_D A [(h0, .inr (0, [.ref aN, .ref aL, .ref aK, .ref aC, .int (nI ld), .ref aT, .int (nI tb), .ref aO, .int (nI ob), .int (bI off), .int wl, .long wd])), (aK, .inl (cI, 1056, .inl (fun i9 => nI (kd i9)))), (aC, .inl (cI, 4, .inl (fun i9 => nI (cn i9))))] := hD
    refine vx_widen (k := 1) (n := 6) (Nat.le_refl _) (Nat.le_refl _) ?_
    have hP9 := hP.sub (ws' := [(h0, .inr (0, [.ref aN, .ref aL, .ref aK, .ref aC, .int (nI ld), .ref aT, .int (nI tb), .ref aO, .int (nI ob), .int (bI off), .int wl, .long wd])), (aK, .inl (cI, 1056, .inl (fun i9 => nI (kd i9)))), (aC, .inl (cI, 4, .inl (fun i9 => nI (cn i9))))]) [0, 1, 2] rfl
    have hD9 := hD.sub (ws' := [(h0, .inr (0, [.ref aN, .ref aL, .ref aK, .ref aC, .int (nI ld), .ref aT, .int (nI tb), .ref aO, .int (nI ob), .int (bI off), .int wl, .long wd])), (aK, .inl (cI, 1056, .inl (fun i9 => nI (kd i9)))), (aC, .inl (cI, 4, .inl (fun i9 => nI (cn i9))))]) [0, 1, 2] (by decide) rfl
    exact vx_out (fun x hx => (hno x hx).elim) hlocks hce hcv hcl (fun t ht ha => ⟨(), trivial, ⟨hxp, by rw [ht]; exact hP9, va_K.moved ha hK, hD9⟩, hS.F ht⟩) hS.2.2 (Nat.le_of_ble_eq_true rfl) (Nat.le_of_ble_eq_true rfl)
  · obtain ⟨hP1, hK1, hD1⟩ := hB
    rw [ht] at hP1
    obtain ⟨hPn, hDn⟩ := va_join (wr := [(h0, .inr (0, [.ref aN, .ref aL, .ref aK, .ref aC, .int (nI ld), .ref aT, .int (nI tb), .ref aO, .int (nI ob), .int (bI off), .int wl, .long wd])), (aK, .inl (cI, 1056, .inl (fun i9 => nI (kd i9)))), (aC, .inl (cI, 4, .inl (fun i9 => nI (cn i9))))]) (w1 := []) hP hD [] [0, 1, 2] rfl rfl (by decide) (by decide) hk1 hFc hP1 hD1
    clear hP hD hP1 hD1 hK1 hPc hDc hKc hFc hk1 hz1 hvm ht
    generalize H1 = H at hPn hS ⊢
    have hP := hPn
    have hD := hDn
    clear hPn hDn
    replace hP : va_P (dC, dI) vwCl [(h0, .inr (0, [.ref aN, .ref aL, .ref aK, .ref aC, .int (nI ld), .ref aT, .int (nI tb), .ref aO, .int (nI ob), .int (bI off), .int wl, .long wd])), (aK, .inl (cI, 1056, .inl (fun i9 => nI (kd i9)))), (aC, .inl (cI, 4, .inl (fun i9 => nI (cn i9))))] H := hP
    replace hD : va_D A [(h0, .inr (0, [.ref aN, .ref aL, .ref aK, .ref aC, .int (nI ld), .ref aT, .int (nI tb), .ref aO, .int (nI ob), .int (bI off), .int wl, .long wd])), (aK, .inl (cI, 1056, .inl (fun i9 => nI (kd i9)))), (aC, .inl (cI, 4, .inl (fun i9 => nI (cn i9))))] := hD
    refine W.widen (k := 1) (n := 6) (Nat.le_refl _) (Nat.le_refl _) ?_
    have hdisk := hw
    obtain ⟨di, hdi, rfl⟩ := okI_get (by decide) hdisk
    refine lv_aload_n hx hb dX0_fail_4 rfl (lv_at hl 0 rfl) ?_
    refine lv_iload_n hx hb dX0_fail_5 rfl (lv_at hl 1 rfl) ?_
    have hPc := hP.sub (ws' := [(h0, .inr (0, [.ref aN, .ref aL, .ref aK, .ref aC, .int (nI ld), .ref aT, .int (nI tb), .ref aO, .int (nI ob), .int (bI off), .int wl, .long wd])), (aK, .inl (cI, 1056, .inl (fun i9 => nI (kd i9))))]) [0, 1] rfl
    have hDc := hD.sub (ws' := [(h0, .inr (0, [.ref aN, .ref aL, .ref aK, .ref aC, .int (nI ld), .ref aT, .int (nI tb), .ref aO, .int (nI ob), .int (bI off), .int wl, .long wd])), (aK, .inl (cI, 1056, .inl (fun i9 => nI (kd i9))))]) [0, 1] (by decide) rfl
    have hKc := hK.sub (tys' := [(cI, .int)]) [0] rfl
    have hFc := va_free (wc := [(h0, .inr (0, [.ref aN, .ref aL, .ref aK, .ref aC, .int (nI ld), .ref aT, .int (nI tb), .ref aO, .int (nI ob), .int (bI off), .int wl, .long wd])), (aK, .inl (cI, 1056, .inl (fun i9 => nI (kd i9))))]) hD hS hA [0, 1] rfl
    refine va_calli (va_runV (As := [.int (nI di)]) (rest := []) ⟨hx, hb, hml, hown, hts⟩ (c_X0_isLive l dC dI H.size h0 aN aL aK aC aT aO ld tb ob off wl wd cI kd di hdi hk) (cwV 1 hts gX0_fail_X0_isLive rfl rfl rfl (by decide +kernel) ⟨Nat.le_of_ble_eq_true rfl, Nat.le_of_ble_eq_true rfl⟩) ⟨fun a U g mk q => by obtain ⟨q0, q1, qP, qK, qD⟩ := q; exact ⟨q0, q1, qP, va_K.moved (u := U) (U := U.calling g mk a) (Vm.Alike.refl U.vm) qK, qD⟩, va_recv hKc hPc (ci := 0) (q0 := 0) rfl rfl, fun U hU hW => ⟨rfl, by rw [hU], by rw [hU]; exact hPc, va_K.moved hW.alike hKc, hDc.weaken (fun _ _ _ _ => trivial)⟩⟩ rfl rfl hl.1 rfl (lv_room (Nat.le_of_ble_eq_true rfl)) dX0_fail_6 ⟨Nat.le_of_ble_eq_true rfl, Nat.le_of_ble_eq_true rfl⟩) hS (fun q _ h => hFc q h) hFc (fun r_2 u t H1 locs ht hvm hw hB hz1 hk1 hS => ?_)
    obtain ⟨hP1, hK1, hD1⟩ := hB
    rw [ht] at hP1
    obtain ⟨hPn, hDn⟩ := va_join (wr := [(aC, .inl (cI, 4, .inl (fun i9 => nI (cn i9))))]) (w1 := [(h0, .inr (0, [.ref aN, .ref aL, .ref aK, .ref aC, .int (nI ld), .ref aT, .int (nI tb), .ref aO, .int (nI ob), .int (bI off), .int wl, .long wd])), (aK, .inl (cI, 1056, .inl (fun i9 => nI (kd i9))))]) hP hD [0, 1] [2] rfl rfl (by decide) (by decide) hk1 hFc hP1 hD1
    clear hP hD hP1 hD1 hK1 hPc hDc hKc hFc hk1 hz1 hvm ht
    generalize H1 = H at hPn hS ⊢
    have hP := hPn
    have hD := hDn
    clear hPn hDn
    replace hP : va_P (dC, dI) vwCl [(aC, .inl (cI, 4, .inl (fun i9 => nI (cn i9)))), (h0, .inr (0, [.ref aN, .ref aL, .ref aK, .ref aC, .int (nI ld), .ref aT, .int (nI tb), .ref aO, .int (nI ob), .int (bI off), .int wl, .long wd])), (aK, .inl (cI, 1056, .inl (fun i9 => nI (kd i9))))] H := hP
    replace hD : va_D A [(aC, .inl (cI, 4, .inl (fun i9 => nI (cn i9)))), (h0, .inr (0, [.ref aN, .ref aL, .ref aK, .ref aC, .int (nI ld), .ref aT, .int (nI tb), .ref aO, .int (nI ob), .int (bI off), .int wl, .long wd])), (aK, .inl (cI, 1056, .inl (fun i9 => nI (kd i9))))] := hD
    refine W.widen (k := 1) (n := 6) (Nat.le_refl _) (Nat.le_refl _) ?_
    obtain rfl := hw
    refine zr_ifb_ne (tgt := 14) hx hb dX0_fail_9 (by decide) (fun c9 => ?_) (fun c9 => ?_)
    · have q9 : ¬ kd (di * 66) = 0 := by simpa using c9
      have q8 := hld di hdi q9
      refine lv_aload_n hx hb dX0_fail_14 rfl (lv_at hl 0 rfl) ?_
      refine lv_iload_n hx hb dX0_fail_15 rfl (lv_at hl 1 rfl) ?_
      refine lv_iconst (v := nI 0) hx hb dX0_fail_16 (by decide) ?_
      have hPc := hP.sub (ws' := [(h0, .inr (0, [.ref aN, .ref aL, .ref aK, .ref aC, .int (nI ld), .ref aT, .int (nI tb), .ref aO, .int (nI ob), .int (bI off), .int wl, .long wd])), (aK, .inl (cI, 1056, .inl (fun i9 => nI (kd i9)))), (aC, .inl (cI, 4, .inl (fun i9 => nI (cn i9))))]) [1, 2, 0] rfl
      have hDc := hD.sub (ws' := [(h0, .inr (0, [.ref aN, .ref aL, .ref aK, .ref aC, .int (nI ld), .ref aT, .int (nI tb), .ref aO, .int (nI ob), .int (bI off), .int wl, .long wd])), (aK, .inl (cI, 1056, .inl (fun i9 => nI (kd i9)))), (aC, .inl (cI, 4, .inl (fun i9 => nI (cn i9))))]) [1, 2, 0] (by decide) rfl
      have hKc := hK.sub (tys' := [(cI, .int)]) [0] rfl
      have hFc := va_free (wc := [(h0, .inr (0, [.ref aN, .ref aL, .ref aK, .ref aC, .int (nI ld), .ref aT, .int (nI tb), .ref aO, .int (nI ob), .int (bI off), .int wl, .long wd])), (aK, .inl (cI, 1056, .inl (fun i9 => nI (kd i9)))), (aC, .inl (cI, 4, .inl (fun i9 => nI (cn i9))))]) hD hS hA [1, 2, 0] rfl
      refine va_callv (va_runV (As := [.int (nI di), .int (nI 0)]) (rest := []) ⟨hx, hb, hml, hown, hts⟩ (c_X0_setKindOfAll l dC dI H.size h0 aN aL aK aC aT aO ld tb ob off wl wd cI kd cn di 0 hdi (by decide) hk hc) (cwV 2 hts gX0_fail_X0_setKindOfAll rfl rfl rfl (by decide +kernel) ⟨Nat.le_of_ble_eq_true rfl, Nat.le_of_ble_eq_true rfl⟩) ⟨fun a U g mk q => by obtain ⟨q0, q1, qP, qK, qD⟩ := q; exact ⟨q0, q1, qP, va_K.moved (u := U) (U := U.calling g mk a) (Vm.Alike.refl U.vm) qK, qD⟩, va_recv hKc hPc (ci := 0) (q0 := 0) rfl rfl, fun U hU hW => ⟨rfl, by rw [hU], by rw [hU]; exact hPc, va_K.moved hW.alike hKc, hDc.weaken (fun _ _ _ _ => trivial)⟩⟩ rfl rfl hl.1 rfl (lv_room (Nat.le_of_ble_eq_true rfl)) dX0_fail_17 ⟨Nat.le_of_ble_eq_true rfl, Nat.le_of_ble_eq_true rfl⟩) hS (fun q _ h => hFc q h) hFc (fun u t H1 locs ht hvm hw hB hz1 hk1 hS => ?_)
      obtain ⟨hP1, hK1, hD1⟩ := hB
      rw [ht] at hP1
      obtain ⟨hPn, hDn⟩ := va_join (wr := []) (w1 := [(h0, .inr (0, [.ref aN, .ref aL, .ref aK, .ref aC, .int (nI ld), .ref aT, .int (nI tb), .ref aO, .int (nI ob), .int (bI off), .int wl, .long wd])), (aK, .inl (cI, 1056, .inl (fun i9 => nI ((skK kd di 0 66) i9)))), (aC, .inl (cI, 4, .inl (fun i9 => nI ((skN kd cn di 0 66) i9))))]) hP hD [1, 2, 0] [] rfl rfl (by decide) (by decide) hk1 hFc hP1 hD1
      clear hP hD hP1 hD1 hK1 hPc hDc hKc hFc hk1 hz1 hvm ht
      generalize H1 = H at hPn hS ⊢
      have hP := hPn
      have hD := hDn
      clear hPn hDn
      replace hP : va_P (dC, dI) vwCl [(h0, .inr (0, [.ref aN, .ref aL, .ref aK, .ref aC, .int (nI ld), .ref aT, .int (nI tb), .ref aO, .int (nI ob), .int (bI off), .int wl, .long wd])), (aK, .inl (cI, 1056, .inl (fun i9 => nI ((skK kd di 0 66) i9)))), (aC, .inl (cI, 4, .inl (fun i9 => nI ((skN kd cn di 0 66) i9))))] H := hP
      replace hD : va_D A [(h0, .inr (0, [.ref aN, .ref aL, .ref aK, .ref aC, .int (nI ld), .ref aT, .int (nI tb), .ref aO, .int (nI ob), .int (bI off), .int wl, .long wd])), (aK, .inl (cI, 1056, .inl (fun i9 => nI ((skK kd di 0 66) i9)))), (aC, .inl (cI, 4, .inl (fun i9 => nI ((skN kd cn di 0 66) i9))))] := hD
      refine W.widen (k := 1) (n := 6) (Nat.le_refl _) (Nat.le_refl _) ?_
      refine lv_aload_n hx hb dX0_fail_20 rfl (lv_at hl 0 rfl) ?_
      refine lv_dup hx hb dX0_fail_21 rfl ?_
      refine va_get (D := (dC, dI)) (ci := 0) (v := .int (nI ld)) (C := RX0) (T := TX0) (N := 12) hx hb hts hi0 hown hK hP 0 rfl rfl 4 (by decide) (hts (.fieldLink RX0 29 "CellRack" "liveDisks" "I") (by decide +kernel)) (fun _ h9 => h9) rfl dX0_fail_22 ?_
      refine lv_iconst (v := nI 1) hx hb dX0_fail_25 (by decide) ?_
      refine zr_isub hx hb (by omega) dX0_fail_26 ?_
      refine va_put (D := (dC, dI)) (ci := 0) (v := .int (nI (ld - 1))) (ty := .int) (C := RX0) (T := TX0) (N := 12) hx hb hts hi0 tyX0 tyX0_ok nmX0 hown hK hP hD hS 0 rfl rfl 4 (by decide) (hts (.fieldLink RX0 29 "CellRack" "liveDisks" "I") (by decide +kernel)) (fun _ h9 => h9) rfl (by decide +kernel) (rfl) (rfl) (Nat.le_of_ble_eq_true rfl) dX0_fail_27 (fun H locs hP hD hS => ?_)
      replace hP : va_P (dC, dI) vwCl [(h0, .inr (0, [.ref aN, .ref aL, .ref aK, .ref aC, .int (nI (ld - 1)), .ref aT, .int (nI tb), .ref aO, .int (nI ob), .int (bI off), .int wl, .long wd])), (aK, .inl (cI, 1056, .inl (fun i9 => nI ((skK kd di 0 66) i9)))), (aC, .inl (cI, 4, .inl (fun i9 => nI ((skN kd cn di 0 66) i9))))] H := hP
      replace hD : va_D A [(h0, .inr (0, [.ref aN, .ref aL, .ref aK, .ref aC, .int (nI (ld - 1)), .ref aT, .int (nI tb), .ref aO, .int (nI ob), .int (bI off), .int wl, .long wd])), (aK, .inl (cI, 1056, .inl (fun i9 => nI ((skK kd di 0 66) i9)))), (aC, .inl (cI, 4, .inl (fun i9 => nI ((skN kd cn di 0 66) i9))))] := hD
      refine lv_iconst (v := nI 1) hx hb dX0_fail_30 (by decide) ?_
      refine vx_ret ?_
      have hP9 := hP.sub (ws' := [(h0, .inr (0, [.ref aN, .ref aL, .ref aK, .ref aC, .int (nI (ld - 1)), .ref aT, .int (nI tb), .ref aO, .int (nI ob), .int (bI off), .int wl, .long wd])), (aK, .inl (cI, 1056, .inl (fun i9 => nI ((skK kd di 0 66) i9)))), (aC, .inl (cI, 4, .inl (fun i9 => nI ((skN kd cn di 0 66) i9))))]) [0, 1, 2] rfl
      have hD9 := hD.sub (ws' := [(h0, .inr (0, [.ref aN, .ref aL, .ref aK, .ref aC, .int (nI (ld - 1)), .ref aT, .int (nI tb), .ref aO, .int (nI ob), .int (bI off), .int wl, .long wd])), (aK, .inl (cI, 1056, .inl (fun i9 => nI ((skK kd di 0 66) i9)))), (aC, .inl (cI, 4, .inl (fun i9 => nI ((skN kd cn di 0 66) i9))))]) [0, 1, 2] (by decide) rfl
      exact W.zret (v := nI 1) hx hb hr (by decide) (fun t ht hW => ⟨⟨nI 1, (skK kd di 0 66, skN kd cn di 0 66, ld - 1), rfl, ⟨di, hdi, rfl, Or.inl ⟨q9, rfl, rfl, rfl, rfl⟩⟩, by rw [ht]; exact hP9, va_K.moved hW.alike hK, hD9⟩, hS.F ht⟩) hS.2.2 dX0_fail_31
    · have q9 : kd (di * 66) = 0 := by simpa using c9
      refine lv_iconst (v := nI 0) hx hb dX0_fail_12 (by decide) ?_
      refine vx_ret ?_
      have hP9 := hP.sub (ws' := [(h0, .inr (0, [.ref aN, .ref aL, .ref aK, .ref aC, .int (nI ld), .ref aT, .int (nI tb), .ref aO, .int (nI ob), .int (bI off), .int wl, .long wd])), (aK, .inl (cI, 1056, .inl (fun i9 => nI (kd i9)))), (aC, .inl (cI, 4, .inl (fun i9 => nI (cn i9))))]) [1, 2, 0] rfl
      have hD9 := hD.sub (ws' := [(h0, .inr (0, [.ref aN, .ref aL, .ref aK, .ref aC, .int (nI ld), .ref aT, .int (nI tb), .ref aO, .int (nI ob), .int (bI off), .int wl, .long wd])), (aK, .inl (cI, 1056, .inl (fun i9 => nI (kd i9)))), (aC, .inl (cI, 4, .inl (fun i9 => nI (cn i9))))]) [1, 2, 0] (by decide) rfl
      exact W.zret (v := nI 0) hx hb hr (by decide) (fun t ht hW => ⟨⟨nI 0, (kd, cn, ld), rfl, ⟨di, hdi, rfl, Or.inr ⟨q9, rfl, rfl, rfl, rfl⟩⟩, by rw [ht]; exact hP9, va_K.moved hW.alike hK, hD9⟩, hS.F ht⟩) hS.2.2 dX0_fail_13
set_option maxHeartbeats 4000000 in
set_option maxRecDepth 100000 in
theorem c_X0_replace (l : Launch) (hl9 : l.stackTraces = false) (dC : Nat → ClassId) (dI : Nat → Nat → Nat) (sz : Nat) (h0 aN aL aK aC aT aO : Nat) (ld tb ob : Nat) (off : Bool) (wl : Int32) (wd : Int64) (cI : ClassId) (kd cn : Nat → Nat) (x : Int32) (hk : kdOK kd) (hc : cnOK kd cn) : vx_Met l yX0_replace wsX0_replace ({ frames := 7, cells := 1, slots := 6, locals := 102 }) (va_Pc [.ref h0, .int x] (fun U => U.heap.size = sz ∧ va_P (dC, dI) vwCl [(h0, .inr (0, [.ref aN, .ref aL, .ref aK, .ref aC, .int (nI ld), .ref aT, .int (nI tb), .ref aO, .int (nI ob), .int (bI off), .int wl, .long wd])), (aK, .inl (cI, 1056, .inl (fun i9 => nI (kd i9)))), (aC, .inl (cI, 4, .inl (fun i9 => nI (cn i9))))] U.heap ∧ va_K (dC, dI) vwCl [(cI, .int)] U ∧ va_D (fun _ => True) [(h0, .inr (0, [.ref aN, .ref aL, .ref aK, .ref aC, .int (nI ld), .ref aT, .int (nI tb), .ref aO, .int (nI ob), .int (bI off), .int wl, .long wd])), (aK, .inl (cI, 1056, .inl (fun i9 => nI (kd i9)))), (aC, .inl (cI, 4, .inl (fun i9 => nI (cn i9))))] ∧ xw U ∧ xz (va_A [(h0, .inr (0, [.ref aN, .ref aL, .ref aK, .ref aC, .int (nI ld), .ref aT, .int (nI tb), .ref aO, .int (nI ob), .int (bI off), .int wl, .long wd])), (aK, .inl (cI, 1056, .inl (fun i9 => nI (kd i9)))), (aC, .inl (cI, 4, .inl (fun i9 => nI (cn i9))))] sz) U U.heap)) (va_Qi (fun (r : Int32) (u : (Nat → Nat) × (Nat → Nat) × Nat) => match u with | (k2, c2, l2) => ∃ di : Nat, di < 16 ∧ x = nI di ∧ ((kd (di * 66) = 0 ∧ r = bI true ∧ k2 = skK kd di 1 66 ∧ c2 = skN kd cn di 1 66 ∧ l2 = ld + 1) ∨ (¬ kd (di * 66) = 0 ∧ r = bI false ∧ k2 = kd ∧ c2 = cn ∧ l2 = ld))) (fun (u : (Nat → Nat) × (Nat → Nat) × Nat) t => match u with | (k2, c2, l2) => va_P (dC, dI) vwCl [(h0, .inr (0, [.ref aN, .ref aL, .ref aK, .ref aC, .int (nI l2), .ref aT, .int (nI tb), .ref aO, .int (nI ob), .int (bI off), .int wl, .long wd])), (aK, .inl (cI, 1056, .inl (fun i9 => nI (k2 i9)))), (aC, .inl (cI, 4, .inl (fun i9 => nI (c2 i9))))] t.heap ∧ va_K (dC, dI) vwCl [(cI, .int)] t ∧ va_D (va_A [(h0, .inr (0, [.ref aN, .ref aL, .ref aK, .ref aC, .int (nI ld), .ref aT, .int (nI tb), .ref aO, .int (nI ob), .int (bI off), .int wl, .long wd])), (aK, .inl (cI, 1056, .inl (fun i9 => nI (kd i9)))), (aC, .inl (cI, 4, .inl (fun i9 => nI (cn i9))))] sz) [(h0, .inr (0, [.ref aN, .ref aL, .ref aK, .ref aC, .int (nI l2), .ref aT, .int (nI tb), .ref aO, .int (nI ob), .int (bI off), .int wl, .long wd])), (aK, .inl (cI, 1056, .inl (fun i9 => nI (k2 i9)))), (aC, .inl (cI, 4, .inl (fun i9 => nI (c2 i9))))]) (va_A [(h0, .inr (0, [.ref aN, .ref aL, .ref aK, .ref aC, .int (nI ld), .ref aT, .int (nI tb), .ref aO, .int (nI ob), .int (bI off), .int wl, .long wd])), (aK, .inl (cI, 1056, .inl (fun i9 => nI (kd i9)))), (aC, .inl (cI, 4, .inl (fun i9 => nI (cn i9))))] sz)) (vx_X (fun (_ : Unit) => True) (fun E (_ : Unit) t => (E = "java/lang/IllegalArgumentException" ∧ okI x 16 = false) ∧ va_P (dC, dI) vwCl [(h0, .inr (0, [.ref aN, .ref aL, .ref aK, .ref aC, .int (nI ld), .ref aT, .int (nI tb), .ref aO, .int (nI ob), .int (bI off), .int wl, .long wd])), (aK, .inl (cI, 1056, .inl (fun i9 => nI (kd i9)))), (aC, .inl (cI, 4, .inl (fun i9 => nI (cn i9))))] t.heap ∧ va_K (dC, dI) vwCl [(cI, .int)] t ∧ va_D (va_A [(h0, .inr (0, [.ref aN, .ref aL, .ref aK, .ref aC, .int (nI ld), .ref aT, .int (nI tb), .ref aO, .int (nI ob), .int (bI off), .int wl, .long wd])), (aK, .inl (cI, 1056, .inl (fun i9 => nI (kd i9)))), (aC, .inl (cI, 4, .inl (fun i9 => nI (cn i9))))] sz) [(h0, .inr (0, [.ref aN, .ref aL, .ref aK, .ref aC, .int (nI ld), .ref aT, .int (nI tb), .ref aO, .int (nI ob), .int (bI off), .int wl, .long wd])), (aK, .inl (cI, 1056, .inl (fun i9 => nI (kd i9)))), (aC, .inl (cI, 4, .inl (fun i9 => nI (cn i9))))]) (va_A [(h0, .inr (0, [.ref aN, .ref aL, .ref aK, .ref aC, .int (nI ld), .ref aT, .int (nI tb), .ref aO, .int (nI ob), .int (bI off), .int wl, .long wd])), (aK, .inl (cI, 1056, .inl (fun i9 => nI (kd i9)))), (aC, .inl (cI, 4, .inl (fun i9 => nI (cn i9))))] sz)) 1 6 (va_A [(h0, .inr (0, [.ref aN, .ref aL, .ref aK, .ref aC, .int (nI ld), .ref aT, .int (nI tb), .ref aO, .int (nI ob), .int (bI off), .int wl, .long wd])), (aK, .inl (cI, 1056, .inl (fun i9 => nI (kd i9)))), (aC, .inl (cI, 4, .inl (fun i9 => nI (cn i9))))] sz) := by
  refine vx_ofW (cc := cX0_replace) (maxL := 2) (ret := some .boolean) (by decide) rfl ?_
  intro p e s m args below meth c s₁ B hml hno hv
  obtain ⟨rfl, hsz, hP, hK, hD0, hxw, hxz⟩ := hv
  have hx := B.exec
  have hb := B.bytes
  have hr := B.returns
  have hts := atoms_spec (ws := wsX0_replace) B.pre
  have hown : s.vm.findClass RX0 = some m.cls := findClass_of_methodNamed B.named
  have hlocks := B.notSynchronized
  subst hsz
  have hD := hD0.self (sz := s.heap.size)
  generalize hAe : va_A [(h0, .inr (0, [.ref aN, .ref aL, .ref aK, .ref aC, .int (nI ld), .ref aT, .int (nI tb), .ref aO, .int (nI ob), .int (bI off), .int wl, .long wd])), (aK, .inl (cI, 1056, .inl (fun i9 => nI (kd i9)))), (aC, .inl (cI, 4, .inl (fun i9 => nI (cn i9))))] s.heap.size = A at hD hxz ⊢
  have hA : ∀ q : Nat, s.heap.size ≤ q → A q := fun q h => by rw [← hAe]; exact Or.inr h
  generalize hH : s.heap = H at hP ⊢
  have hS : va_S A s.heap H [] := by rw [hH]; exact va_S.rf
  replace hP : va_P (dC, dI) vwCl [(h0, .inr (0, [.ref aN, .ref aL, .ref aK, .ref aC, .int (nI ld), .ref aT, .int (nI tb), .ref aO, .int (nI ob), .int (bI off), .int wl, .long wd])), (aK, .inl (cI, 1056, .inl (fun i9 => nI (kd i9)))), (aC, .inl (cI, 4, .inl (fun i9 => nI (cn i9))))] H := hP
  have hl := lv_entry ([.ref h0, .int x]) (n := 2) (Nat.le_of_ble_eq_true rfl)
  rw [lg_entry_eq]
  generalize (lg_sl ([.ref h0, .int x]) ++ List.replicate (2 - (lg_sl ([.ref h0, .int x])).length) Slot.unset).toArray = ls at hl ⊢
  have hl : lv_has ls 2 [(0, .ref h0), (1, .int x)] := hl
  have hi0 : ∀ w ∈ u_ws RX0 TX0 12, w ∈ wsX0_replace := by decide +kernel
  refine lv_iload_n hx hb dX0_replace_0 rfl (lv_at hl 1 rfl) ?_
  have hPc := hP.sub (ws' := []) [] rfl
  have hDc := hD.sub (ws' := []) [] (by decide) rfl
  have hKc := hK.sub (tys' := []) [] rfl
  have hFc := va_free (wc := []) hD hS hA [] rfl
  refine vx_callv (vx_runS (As := [.int x]) (rest := []) ⟨hx, hb, hml, hown, hts⟩ (c_X0_needDisk l hl9 dC dI H.size x) (va_cwS 1 hts gX0_replace_X0_needDisk rfl rfl rfl (by decide +kernel) ⟨Nat.le_of_ble_eq_true rfl, Nat.le_of_ble_eq_true rfl⟩) ⟨fun a U g mk q => by obtain ⟨q0, q1, qP, qK, qD, qw, qz⟩ := q; exact ⟨q0, q1, qP, va_K.moved (u := U) (U := U.calling g mk a) (Vm.Alike.refl U.vm) qK, qD, xw.same (u := U) rfl qw, xz.moved (u := U) (U := U.calling g mk a) (Vm.Alike.refl U.vm) qz⟩, fun U hU hW => ⟨rfl, by rw [hU], by rw [hU]; exact hPc, va_K.moved hW.alike hKc, hDc.weaken (fun _ _ _ _ => trivial), xw.warm hW hxw, xz.go hxz hS hW.alike hU hFc⟩⟩ rfl rfl hl.1 rfl (lv_room (Nat.le_of_ble_eq_true rfl)) dX0_replace_1 ⟨Nat.le_of_ble_eq_true rfl, Nat.le_of_ble_eq_true rfl⟩) hS (fun q _ h => hFc q h) hFc (fun q _ h => hFc q h) (fun E ce q9 u t H1 locs ht hvm _hu hB hz1 hk1 hS hce hcv hcl => ?_) (fun u t H1 locs ht hvm hw hB hz1 hk1 hS => ?_)
  · obtain ⟨hxp, hP1, hK1, hD1⟩ := hB
    rw [ht] at hP1
    obtain ⟨hPn, hDn⟩ := va_join (wr := [(h0, .inr (0, [.ref aN, .ref aL, .ref aK, .ref aC, .int (nI ld), .ref aT, .int (nI tb), .ref aO, .int (nI ob), .int (bI off), .int wl, .long wd])), (aK, .inl (cI, 1056, .inl (fun i9 => nI (kd i9)))), (aC, .inl (cI, 4, .inl (fun i9 => nI (cn i9))))]) (w1 := []) hP hD [] [0, 1, 2] rfl rfl (by decide) (by decide) hk1 hFc hP1 hD1
    clear hP hD hP1 hD1 hK1 hPc hDc hKc hFc hk1 hz1 hvm ht
    generalize H1 = H at hPn hS hce ⊢
    have hP := hPn
    have hD := hDn
    clear hPn hDn
    replace hP : va_P (dC, dI) vwCl [(h0, .inr (0, [.ref aN, .ref aL, .ref aK, .ref aC, .int (nI ld), .ref aT, .int (nI tb), .ref aO, .int (nI ob), .int (bI off), .int wl, .long wd])), (aK, .inl (cI, 1056, .inl (fun i9 => nI (kd i9)))), (aC, .inl (cI, 4, .inl (fun i9 => nI (cn i9))))] H := hP
    replace hD : va_D A [(h0, .inr (0, [.ref aN, .ref aL, .ref aK, .ref aC, .int (nI ld), .ref aT, .int (nI tb), .ref aO, .int (nI ob), .int (bI off), .int wl, .long wd])), (aK, .inl (cI, 1056, .inl (fun i9 => nI (kd i9)))), (aC, .inl (cI, 4, .inl (fun i9 => nI (cn i9))))] := hD
    refine vx_widen (k := 1) (n := 6) (Nat.le_refl _) (Nat.le_refl _) ?_
    have hP9 := hP.sub (ws' := [(h0, .inr (0, [.ref aN, .ref aL, .ref aK, .ref aC, .int (nI ld), .ref aT, .int (nI tb), .ref aO, .int (nI ob), .int (bI off), .int wl, .long wd])), (aK, .inl (cI, 1056, .inl (fun i9 => nI (kd i9)))), (aC, .inl (cI, 4, .inl (fun i9 => nI (cn i9))))]) [0, 1, 2] rfl
    have hD9 := hD.sub (ws' := [(h0, .inr (0, [.ref aN, .ref aL, .ref aK, .ref aC, .int (nI ld), .ref aT, .int (nI tb), .ref aO, .int (nI ob), .int (bI off), .int wl, .long wd])), (aK, .inl (cI, 1056, .inl (fun i9 => nI (kd i9)))), (aC, .inl (cI, 4, .inl (fun i9 => nI (cn i9))))]) [0, 1, 2] (by decide) rfl
    exact vx_out (fun x hx => (hno x hx).elim) hlocks hce hcv hcl (fun t ht ha => ⟨(), trivial, ⟨hxp, by rw [ht]; exact hP9, va_K.moved ha hK, hD9⟩, hS.F ht⟩) hS.2.2 (Nat.le_of_ble_eq_true rfl) (Nat.le_of_ble_eq_true rfl)
  · obtain ⟨hP1, hK1, hD1⟩ := hB
    rw [ht] at hP1
    obtain ⟨hPn, hDn⟩ := va_join (wr := [(h0, .inr (0, [.ref aN, .ref aL, .ref aK, .ref aC, .int (nI ld), .ref aT, .int (nI tb), .ref aO, .int (nI ob), .int (bI off), .int wl, .long wd])), (aK, .inl (cI, 1056, .inl (fun i9 => nI (kd i9)))), (aC, .inl (cI, 4, .inl (fun i9 => nI (cn i9))))]) (w1 := []) hP hD [] [0, 1, 2] rfl rfl (by decide) (by decide) hk1 hFc hP1 hD1
    clear hP hD hP1 hD1 hK1 hPc hDc hKc hFc hk1 hz1 hvm ht
    generalize H1 = H at hPn hS ⊢
    have hP := hPn
    have hD := hDn
    clear hPn hDn
    replace hP : va_P (dC, dI) vwCl [(h0, .inr (0, [.ref aN, .ref aL, .ref aK, .ref aC, .int (nI ld), .ref aT, .int (nI tb), .ref aO, .int (nI ob), .int (bI off), .int wl, .long wd])), (aK, .inl (cI, 1056, .inl (fun i9 => nI (kd i9)))), (aC, .inl (cI, 4, .inl (fun i9 => nI (cn i9))))] H := hP
    replace hD : va_D A [(h0, .inr (0, [.ref aN, .ref aL, .ref aK, .ref aC, .int (nI ld), .ref aT, .int (nI tb), .ref aO, .int (nI ob), .int (bI off), .int wl, .long wd])), (aK, .inl (cI, 1056, .inl (fun i9 => nI (kd i9)))), (aC, .inl (cI, 4, .inl (fun i9 => nI (cn i9))))] := hD
    refine W.widen (k := 1) (n := 6) (Nat.le_refl _) (Nat.le_refl _) ?_
    have hdisk := hw
    obtain ⟨di, hdi, rfl⟩ := okI_get (by decide) hdisk
    refine lv_aload_n hx hb dX0_replace_4 rfl (lv_at hl 0 rfl) ?_
    refine lv_iload_n hx hb dX0_replace_5 rfl (lv_at hl 1 rfl) ?_
    have hPc := hP.sub (ws' := [(h0, .inr (0, [.ref aN, .ref aL, .ref aK, .ref aC, .int (nI ld), .ref aT, .int (nI tb), .ref aO, .int (nI ob), .int (bI off), .int wl, .long wd])), (aK, .inl (cI, 1056, .inl (fun i9 => nI (kd i9))))]) [0, 1] rfl
    have hDc := hD.sub (ws' := [(h0, .inr (0, [.ref aN, .ref aL, .ref aK, .ref aC, .int (nI ld), .ref aT, .int (nI tb), .ref aO, .int (nI ob), .int (bI off), .int wl, .long wd])), (aK, .inl (cI, 1056, .inl (fun i9 => nI (kd i9))))]) [0, 1] (by decide) rfl
    have hKc := hK.sub (tys' := [(cI, .int)]) [0] rfl
    have hFc := va_free (wc := [(h0, .inr (0, [.ref aN, .ref aL, .ref aK, .ref aC, .int (nI ld), .ref aT, .int (nI tb), .ref aO, .int (nI ob), .int (bI off), .int wl, .long wd])), (aK, .inl (cI, 1056, .inl (fun i9 => nI (kd i9))))]) hD hS hA [0, 1] rfl
    refine va_calli (va_runV (As := [.int (nI di)]) (rest := []) ⟨hx, hb, hml, hown, hts⟩ (c_X0_isLive l dC dI H.size h0 aN aL aK aC aT aO ld tb ob off wl wd cI kd di hdi hk) (cwV 1 hts gX0_replace_X0_isLive rfl rfl rfl (by decide +kernel) ⟨Nat.le_of_ble_eq_true rfl, Nat.le_of_ble_eq_true rfl⟩) ⟨fun a U g mk q => by obtain ⟨q0, q1, qP, qK, qD⟩ := q; exact ⟨q0, q1, qP, va_K.moved (u := U) (U := U.calling g mk a) (Vm.Alike.refl U.vm) qK, qD⟩, va_recv hKc hPc (ci := 0) (q0 := 0) rfl rfl, fun U hU hW => ⟨rfl, by rw [hU], by rw [hU]; exact hPc, va_K.moved hW.alike hKc, hDc.weaken (fun _ _ _ _ => trivial)⟩⟩ rfl rfl hl.1 rfl (lv_room (Nat.le_of_ble_eq_true rfl)) dX0_replace_6 ⟨Nat.le_of_ble_eq_true rfl, Nat.le_of_ble_eq_true rfl⟩) hS (fun q _ h => hFc q h) hFc (fun r_2 u t H1 locs ht hvm hw hB hz1 hk1 hS => ?_)
    obtain ⟨hP1, hK1, hD1⟩ := hB
    rw [ht] at hP1
    obtain ⟨hPn, hDn⟩ := va_join (wr := [(aC, .inl (cI, 4, .inl (fun i9 => nI (cn i9))))]) (w1 := [(h0, .inr (0, [.ref aN, .ref aL, .ref aK, .ref aC, .int (nI ld), .ref aT, .int (nI tb), .ref aO, .int (nI ob), .int (bI off), .int wl, .long wd])), (aK, .inl (cI, 1056, .inl (fun i9 => nI (kd i9))))]) hP hD [0, 1] [2] rfl rfl (by decide) (by decide) hk1 hFc hP1 hD1
    clear hP hD hP1 hD1 hK1 hPc hDc hKc hFc hk1 hz1 hvm ht
    generalize H1 = H at hPn hS ⊢
    have hP := hPn
    have hD := hDn
    clear hPn hDn
    replace hP : va_P (dC, dI) vwCl [(aC, .inl (cI, 4, .inl (fun i9 => nI (cn i9)))), (h0, .inr (0, [.ref aN, .ref aL, .ref aK, .ref aC, .int (nI ld), .ref aT, .int (nI tb), .ref aO, .int (nI ob), .int (bI off), .int wl, .long wd])), (aK, .inl (cI, 1056, .inl (fun i9 => nI (kd i9))))] H := hP
    replace hD : va_D A [(aC, .inl (cI, 4, .inl (fun i9 => nI (cn i9)))), (h0, .inr (0, [.ref aN, .ref aL, .ref aK, .ref aC, .int (nI ld), .ref aT, .int (nI tb), .ref aO, .int (nI ob), .int (bI off), .int wl, .long wd])), (aK, .inl (cI, 1056, .inl (fun i9 => nI (kd i9))))] := hD
    refine W.widen (k := 1) (n := 6) (Nat.le_refl _) (Nat.le_refl _) ?_
    obtain rfl := hw
    refine zr_ifb_eq (tgt := 14) hx hb dX0_replace_9 (by decide) (fun c9 => ?_) (fun c9 => ?_)
    · have q9 : kd (di * 66) = 0 := by simpa using c9
      refine lv_aload_n hx hb dX0_replace_14 rfl (lv_at hl 0 rfl) ?_
      refine lv_iload_n hx hb dX0_replace_15 rfl (lv_at hl 1 rfl) ?_
      refine lv_iconst (v := nI 1) hx hb dX0_replace_16 (by decide) ?_
      have hPc := hP.sub (ws' := [(h0, .inr (0, [.ref aN, .ref aL, .ref aK, .ref aC, .int (nI ld), .ref aT, .int (nI tb), .ref aO, .int (nI ob), .int (bI off), .int wl, .long wd])), (aK, .inl (cI, 1056, .inl (fun i9 => nI (kd i9)))), (aC, .inl (cI, 4, .inl (fun i9 => nI (cn i9))))]) [1, 2, 0] rfl
      have hDc := hD.sub (ws' := [(h0, .inr (0, [.ref aN, .ref aL, .ref aK, .ref aC, .int (nI ld), .ref aT, .int (nI tb), .ref aO, .int (nI ob), .int (bI off), .int wl, .long wd])), (aK, .inl (cI, 1056, .inl (fun i9 => nI (kd i9)))), (aC, .inl (cI, 4, .inl (fun i9 => nI (cn i9))))]) [1, 2, 0] (by decide) rfl
      have hKc := hK.sub (tys' := [(cI, .int)]) [0] rfl
      have hFc := va_free (wc := [(h0, .inr (0, [.ref aN, .ref aL, .ref aK, .ref aC, .int (nI ld), .ref aT, .int (nI tb), .ref aO, .int (nI ob), .int (bI off), .int wl, .long wd])), (aK, .inl (cI, 1056, .inl (fun i9 => nI (kd i9)))), (aC, .inl (cI, 4, .inl (fun i9 => nI (cn i9))))]) hD hS hA [1, 2, 0] rfl
      refine va_callv (va_runV (As := [.int (nI di), .int (nI 1)]) (rest := []) ⟨hx, hb, hml, hown, hts⟩ (c_X0_setKindOfAll l dC dI H.size h0 aN aL aK aC aT aO ld tb ob off wl wd cI kd cn di 1 hdi (by decide) hk hc) (cwV 2 hts gX0_replace_X0_setKindOfAll rfl rfl rfl (by decide +kernel) ⟨Nat.le_of_ble_eq_true rfl, Nat.le_of_ble_eq_true rfl⟩) ⟨fun a U g mk q => by obtain ⟨q0, q1, qP, qK, qD⟩ := q; exact ⟨q0, q1, qP, va_K.moved (u := U) (U := U.calling g mk a) (Vm.Alike.refl U.vm) qK, qD⟩, va_recv hKc hPc (ci := 0) (q0 := 0) rfl rfl, fun U hU hW => ⟨rfl, by rw [hU], by rw [hU]; exact hPc, va_K.moved hW.alike hKc, hDc.weaken (fun _ _ _ _ => trivial)⟩⟩ rfl rfl hl.1 rfl (lv_room (Nat.le_of_ble_eq_true rfl)) dX0_replace_17 ⟨Nat.le_of_ble_eq_true rfl, Nat.le_of_ble_eq_true rfl⟩) hS (fun q _ h => hFc q h) hFc (fun u t H1 locs ht hvm hw hB hz1 hk1 hS => ?_)
      obtain ⟨hP1, hK1, hD1⟩ := hB
      rw [ht] at hP1
      obtain ⟨hPn, hDn⟩ := va_join (wr := []) (w1 := [(h0, .inr (0, [.ref aN, .ref aL, .ref aK, .ref aC, .int (nI ld), .ref aT, .int (nI tb), .ref aO, .int (nI ob), .int (bI off), .int wl, .long wd])), (aK, .inl (cI, 1056, .inl (fun i9 => nI ((skK kd di 1 66) i9)))), (aC, .inl (cI, 4, .inl (fun i9 => nI ((skN kd cn di 1 66) i9))))]) hP hD [1, 2, 0] [] rfl rfl (by decide) (by decide) hk1 hFc hP1 hD1
      clear hP hD hP1 hD1 hK1 hPc hDc hKc hFc hk1 hz1 hvm ht
      generalize H1 = H at hPn hS ⊢
      have hP := hPn
      have hD := hDn
      clear hPn hDn
      replace hP : va_P (dC, dI) vwCl [(h0, .inr (0, [.ref aN, .ref aL, .ref aK, .ref aC, .int (nI ld), .ref aT, .int (nI tb), .ref aO, .int (nI ob), .int (bI off), .int wl, .long wd])), (aK, .inl (cI, 1056, .inl (fun i9 => nI ((skK kd di 1 66) i9)))), (aC, .inl (cI, 4, .inl (fun i9 => nI ((skN kd cn di 1 66) i9))))] H := hP
      replace hD : va_D A [(h0, .inr (0, [.ref aN, .ref aL, .ref aK, .ref aC, .int (nI ld), .ref aT, .int (nI tb), .ref aO, .int (nI ob), .int (bI off), .int wl, .long wd])), (aK, .inl (cI, 1056, .inl (fun i9 => nI ((skK kd di 1 66) i9)))), (aC, .inl (cI, 4, .inl (fun i9 => nI ((skN kd cn di 1 66) i9))))] := hD
      refine W.widen (k := 1) (n := 6) (Nat.le_refl _) (Nat.le_refl _) ?_
      refine lv_aload_n hx hb dX0_replace_20 rfl (lv_at hl 0 rfl) ?_
      refine lv_dup hx hb dX0_replace_21 rfl ?_
      refine va_get (D := (dC, dI)) (ci := 0) (v := .int (nI ld)) (C := RX0) (T := TX0) (N := 12) hx hb hts hi0 hown hK hP 0 rfl rfl 4 (by decide) (hts (.fieldLink RX0 29 "CellRack" "liveDisks" "I") (by decide +kernel)) (fun _ h9 => h9) rfl dX0_replace_22 ?_
      refine lv_iconst (v := nI 1) hx hb dX0_replace_25 (by decide) ?_
      refine zr_iadd hx hb dX0_replace_26 ?_
      refine va_put (D := (dC, dI)) (ci := 0) (v := .int (nI (ld + 1))) (ty := .int) (C := RX0) (T := TX0) (N := 12) hx hb hts hi0 tyX0 tyX0_ok nmX0 hown hK hP hD hS 0 rfl rfl 4 (by decide) (hts (.fieldLink RX0 29 "CellRack" "liveDisks" "I") (by decide +kernel)) (fun _ h9 => h9) rfl (by decide +kernel) (rfl) (rfl) (Nat.le_of_ble_eq_true rfl) dX0_replace_27 (fun H locs hP hD hS => ?_)
      replace hP : va_P (dC, dI) vwCl [(h0, .inr (0, [.ref aN, .ref aL, .ref aK, .ref aC, .int (nI (ld + 1)), .ref aT, .int (nI tb), .ref aO, .int (nI ob), .int (bI off), .int wl, .long wd])), (aK, .inl (cI, 1056, .inl (fun i9 => nI ((skK kd di 1 66) i9)))), (aC, .inl (cI, 4, .inl (fun i9 => nI ((skN kd cn di 1 66) i9))))] H := hP
      replace hD : va_D A [(h0, .inr (0, [.ref aN, .ref aL, .ref aK, .ref aC, .int (nI (ld + 1)), .ref aT, .int (nI tb), .ref aO, .int (nI ob), .int (bI off), .int wl, .long wd])), (aK, .inl (cI, 1056, .inl (fun i9 => nI ((skK kd di 1 66) i9)))), (aC, .inl (cI, 4, .inl (fun i9 => nI ((skN kd cn di 1 66) i9))))] := hD
      refine lv_iconst (v := nI 1) hx hb dX0_replace_30 (by decide) ?_
      refine vx_ret ?_
      have hP9 := hP.sub (ws' := [(h0, .inr (0, [.ref aN, .ref aL, .ref aK, .ref aC, .int (nI (ld + 1)), .ref aT, .int (nI tb), .ref aO, .int (nI ob), .int (bI off), .int wl, .long wd])), (aK, .inl (cI, 1056, .inl (fun i9 => nI ((skK kd di 1 66) i9)))), (aC, .inl (cI, 4, .inl (fun i9 => nI ((skN kd cn di 1 66) i9))))]) [0, 1, 2] rfl
      have hD9 := hD.sub (ws' := [(h0, .inr (0, [.ref aN, .ref aL, .ref aK, .ref aC, .int (nI (ld + 1)), .ref aT, .int (nI tb), .ref aO, .int (nI ob), .int (bI off), .int wl, .long wd])), (aK, .inl (cI, 1056, .inl (fun i9 => nI ((skK kd di 1 66) i9)))), (aC, .inl (cI, 4, .inl (fun i9 => nI ((skN kd cn di 1 66) i9))))]) [0, 1, 2] (by decide) rfl
      exact W.zret (v := nI 1) hx hb hr (by decide) (fun t ht hW => ⟨⟨nI 1, (skK kd di 1 66, skN kd cn di 1 66, ld + 1), rfl, ⟨di, hdi, rfl, Or.inl ⟨q9, rfl, rfl, rfl, rfl⟩⟩, by rw [ht]; exact hP9, va_K.moved hW.alike hK, hD9⟩, hS.F ht⟩) hS.2.2 dX0_replace_31
    · have q9 : ¬ kd (di * 66) = 0 := by simpa using c9
      refine lv_iconst (v := nI 0) hx hb dX0_replace_12 (by decide) ?_
      refine vx_ret ?_
      have hP9 := hP.sub (ws' := [(h0, .inr (0, [.ref aN, .ref aL, .ref aK, .ref aC, .int (nI ld), .ref aT, .int (nI tb), .ref aO, .int (nI ob), .int (bI off), .int wl, .long wd])), (aK, .inl (cI, 1056, .inl (fun i9 => nI (kd i9)))), (aC, .inl (cI, 4, .inl (fun i9 => nI (cn i9))))]) [1, 2, 0] rfl
      have hD9 := hD.sub (ws' := [(h0, .inr (0, [.ref aN, .ref aL, .ref aK, .ref aC, .int (nI ld), .ref aT, .int (nI tb), .ref aO, .int (nI ob), .int (bI off), .int wl, .long wd])), (aK, .inl (cI, 1056, .inl (fun i9 => nI (kd i9)))), (aC, .inl (cI, 4, .inl (fun i9 => nI (cn i9))))]) [1, 2, 0] (by decide) rfl
      exact W.zret (v := nI 0) hx hb hr (by decide) (fun t ht hW => ⟨⟨nI 0, (kd, cn, ld), rfl, ⟨di, hdi, rfl, Or.inr ⟨q9, rfl, rfl, rfl, rfl⟩⟩, by rw [ht]; exact hP9, va_K.moved hW.alike hK, hD9⟩, hS.F ht⟩) hS.2.2 dX0_replace_13
