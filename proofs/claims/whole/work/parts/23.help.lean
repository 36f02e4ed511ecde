set_option maxHeartbeats 4000000 in
set_option maxRecDepth 100000 in
theorem c_X0_byteOf (l : Launch) (dC : Nat → ClassId) (dI : Nat → Nat → Nat) (sz : Nat) (a0 : Nat) (cJ : ClassId) (nn : Nat) (f : Nat → Int64) (fr k : Nat) (hn : nn < 2 ^ 31) (hk : k < 2 ^ 31) (hf : fr + k / 8 < nn) : Met l yX0_byteOf wsX0_byteOf ({ frames := 0, cells := 0, slots := 0, locals := 0 }) (va_Pc [.ref a0, .int (nI fr), .int (nI k)] (fun U => U.heap.size = sz ∧ va_P (dC, dI) vwCl [(a0, .inl (cJ, nn, .inr (.inl f)))] U.heap ∧ va_K (dC, dI) vwCl [(cJ, .long)] U ∧ va_D (fun _ => True) [(a0, .inl (cJ, nn, .inr (.inl f)))])) (va_Qi (fun (r : Int32) (_ : Unit) => r = nI (byF f fr k)) (fun (_ : Unit) t => va_P (dC, dI) vwCl [(a0, .inl (cJ, nn, .inr (.inl f)))] t.heap ∧ va_K (dC, dI) vwCl [(cJ, .long)] t ∧ va_D (va_A [(a0, .inl (cJ, nn, .inr (.inl f)))] sz) [(a0, .inl (cJ, nn, .inr (.inl f)))]) (va_A [(a0, .inl (cJ, nn, .inr (.inl f)))] sz)) 0 0 (va_A [(a0, .inl (cJ, nn, .inr (.inl f)))] sz) := by
  refine Met.ofW (cc := cX0_byteOf) (maxL := 3) (ret := some .int) (by decide) rfl ?_
  intro p e s m args below meth c s₁ B hml hv
  obtain ⟨rfl, hsz, hP, hK, hD0⟩ := hv
  have hx := B.exec
  have hb := B.bytes
  have hr := B.returns
  have hts := atoms_spec (ws := wsX0_byteOf) B.pre
  have hown : s.vm.findClass RX0 = some m.cls := findClass_of_methodNamed B.named
  have hlocks := B.notSynchronized
  subst hsz
  have hD := hD0.self (sz := s.heap.size)
  generalize hAe : va_A [(a0, .inl (cJ, nn, .inr (.inl f)))] s.heap.size = A at hD ⊢
  have hA : ∀ q : Nat, s.heap.size ≤ q → A q := fun q h => by rw [← hAe]; exact Or.inr h
  generalize hH : s.heap = H at hP ⊢
  have hS : va_S A s.heap H [] := by rw [hH]; exact va_S.rf
  replace hP : va_P (dC, dI) vwCl [(a0, .inl (cJ, nn, .inr (.inl f)))] H := hP
  have hl := lv_entry ([.ref a0, .int (nI fr), .int (nI k)]) (n := 3) (Nat.le_of_ble_eq_true rfl)
  rw [lg_entry_eq]
  generalize (lg_sl ([.ref a0, .int (nI fr), .int (nI k)]) ++ List.replicate (3 - (lg_sl ([.ref a0, .int (nI fr), .int (nI k)])).length) Slot.unset).toArray = ls at hl ⊢
  have hl : lv_has ls 3 [(0, .ref a0), (1, .int (nI fr)), (2, .int (nI k))] := hl
  refine lv_aload_n hx hb dX0_byteOf_0 rfl (lv_at hl 0 rfl) ?_
  refine lv_iload_n hx hb dX0_byteOf_1 rfl (lv_at hl 1 rfl) ?_
  refine lv_iload_n hx hb dX0_byteOf_2 rfl (lv_at hl 2 rfl) ?_
  refine lv_bipush (v := nI 8) hx hb dX0_byteOf_3 (by decide) ?_
  refine zr_idiv hx hb (by omega) (by omega) (by omega) dX0_byteOf_5 ?_
  refine zr_iadd hx hb dX0_byteOf_6 ?_
  refine zr_lald hx hb hK hP 0 0 rfl rfl (by omega) (by omega) dX0_byteOf_7 ?_
  refine lv_iload_n hx hb dX0_byteOf_8 rfl (lv_at hl 2 rfl) ?_
  refine lv_bipush (v := nI 8) hx hb dX0_byteOf_9 (by decide) ?_
  refine zr_irem hx hb (by omega) (by omega) (by omega) dX0_byteOf_11 ?_
  refine lv_bipush (v := nI 8) hx hb dX0_byteOf_12 (by decide) ?_
  refine zr_imul hx hb dX0_byteOf_14 ?_
  refine lv_lushr hx hb dX0_byteOf_15 rfl ?_
  refine lv_l2i hx hb dX0_byteOf_16 rfl ?_
  refine lv_sipush (v := nI 255) hx hb dX0_byteOf_17 (by decide) ?_
  refine lv_iand hx hb dX0_byteOf_20 ?_
  refine zr_topi (nI (byF f fr k)) (byF_eq _ (by omega)) ?_
  have hP9 := hP.sub (ws' := [(a0, .inl (cJ, nn, .inr (.inl f)))]) [0] rfl
  have hD9 := hD.sub (ws' := [(a0, .inl (cJ, nn, .inr (.inl f)))]) [0] (by decide) rfl
  exact W.iret (v := nI (byF f fr k)) hx hb hr (fun t ht hW => ⟨⟨nI (byF f fr k), (), rfl, rfl, by rw [ht]; exact hP9, va_K.moved hW.alike hK, hD9⟩, hS.F ht⟩) hS.2.2 dX0_byteOf_21
set_option maxHeartbeats 4000000 in
set_option maxRecDepth 100000 in
theorem lp_X0_turnBytes {p : Program} {l : Launch} {e : Env} {R : Room} {s : State} {m : MethodId} {args : Array Value} {below : List Frame} {meth : Method} {c : Code} {cells slots : Nat} {Q : State → Prop} {A : Nat → Prop} {H0 : Heap} {dC : Nat → ClassId} {dI : Nat → Nat → Nat} (a0 : Nat) (cJ : ClassId) (nn : Nat) (f : Nat → Int64) (fr pl : Nat) (mk : Int64) (n0 : Nat) (hn : nn < 2 ^ 31) (h8 : n0 ≤ 8) (hp : pl + n0 < 2 ^ 31) (hf : ∀ i, i < n0 → fr + (pl + i) / 8 < nn) (hx : p.tables.exec = Jvm.exec) (hb : c.code = cX0_turnBytes) (hml : c.maxLocals = 8) (hown : s.vm.findClass RX0 = some m.cls) (hts : ∀ w ∈ wsX0_turnBytes, w.before args s = true) (hA : ∀ q : Nat, H0.size ≤ q → A q) (hK : va_K (dC, dI) vwCl [(cJ, .long)] s) (kk : ∀  (H : Heap) (locs : List Loc) (ls : Array Slot), va_P (dC, dI) vwCl [(a0, .inl (cJ, nn, .inr (.inl (tF f fr pl mk n0))))] H → va_D A [(a0, .inl (cJ, nn, .inr (.inl (tF f fr pl mk n0))))] → va_S A H0 H locs → lv_has ls 8 [(0, .ref a0), (1, .int (nI fr)), (2, .int (nI pl)), (3, .long mk), (5, .int (nI n0)), (6, .int (nI n0))] → W p l e R s m args below meth c H locs cells slots Q (F0 m 54 ls [])) : ∀ (n : Nat) (i : Nat), n0 + 1 ≤ i + n → i ≤ n0 → ∀ (H : Heap) (locs : List Loc) (ls : Array Slot), va_P (dC, dI) vwCl [(a0, .inl (cJ, nn, .inr (.inl (tF f fr pl mk i))))] H → va_D A [(a0, .inl (cJ, nn, .inr (.inl (tF f fr pl mk i))))] → va_S A H0 H locs → lv_has ls 8 [(0, .ref a0), (1, .int (nI fr)), (2, .int (nI pl)), (3, .long mk), (5, .int (nI n0)), (6, .int (nI i))] → W p l e R s m args below meth c H locs cells slots Q (F0 m 3 ls []) := by
  intro n
  induction n with
  | zero => intro i  hm hi; exact absurd hm (by omega)
  | succ n ih =>
    intro i  hm hi H locs ls hP hD hS hl
    refine lv_iload hx hb dX0_turnBytes_3 (lv_at hl 5 rfl) ?_
    refine lv_iload hx hb dX0_turnBytes_5 (lv_at hl 4 rfl) ?_
    refine zr_icmp_ge (tgt := 54) hx hb (by omega) (by omega) dX0_turnBytes_7 (by decide) (fun c7 => ?_) (fun c7 => ?_)
    · obtain rfl : n0 = i := by omega
      exact kk  H locs ls (hP.sub [0] rfl) (hD.sub [0] (by decide) rfl) hS (lv_sub hl [0, 1, 2, 3, 4, 5] rfl)
    · refine lv_iload_n hx hb dX0_turnBytes_10 rfl (lv_at hl 2 rfl) ?_
      refine lv_iload hx hb dX0_turnBytes_11 (lv_at hl 5 rfl) ?_
      refine zr_iadd hx hb dX0_turnBytes_13 ?_
      refine lv_istore (lv' := [(7, .int (nI (pl + i))), (0, .ref a0), (1, .int (nI fr)), (2, .int (nI pl)), (3, .long mk), (5, .int (nI n0)), (6, .int (nI i))]) hx hb dX0_turnBytes_14 hl (by decide) rfl (fun ls hl => ?_)
      refine lv_aload_n hx hb dX0_turnBytes_16 rfl (lv_at hl 1 rfl) ?_
      refine lv_iload_n hx hb dX0_turnBytes_17 rfl (lv_at hl 2 rfl) ?_
      refine lv_iload hx hb dX0_turnBytes_18 (lv_at hl 0 rfl) ?_
      refine lv_bipush (v := nI 8) hx hb dX0_turnBytes_20 (by decide) ?_
      refine zr_idiv hx hb (by omega) (by omega) (by omega) dX0_turnBytes_22 ?_
      refine zr_iadd hx hb dX0_turnBytes_23 ?_
      refine lv_dup2_11 hx hb dX0_turnBytes_24 rfl rfl ?_
      refine zr_lald hx hb hK hP 0 0 rfl rfl (hf i (by omega)) (by omega) dX0_turnBytes_25 ?_
      refine lv_lload_n hx hb dX0_turnBytes_26 rfl (lv_at hl 4 rfl) ?_
      refine lv_iload hx hb dX0_turnBytes_27 (lv_at hl 6 rfl) ?_
      refine lv_bipush (v := nI 8) hx hb dX0_turnBytes_29 (by decide) ?_
      refine zr_imul hx hb dX0_turnBytes_31 ?_
      refine lv_lushr hx hb dX0_turnBytes_32 rfl ?_
      refine lv_ldc2 hx hb hown (hts (.constantLong RX0 175 (255)) (by decide +kernel)) dX0_turnBytes_33 ?_
      refine lv_land hx hb dX0_turnBytes_36 ?_
      refine lv_iload hx hb dX0_turnBytes_37 (lv_at hl 0 rfl) ?_
      refine lv_bipush (v := nI 8) hx hb dX0_turnBytes_39 (by decide) ?_
      refine zr_irem hx hb (by omega) (by omega) (by omega) dX0_turnBytes_41 ?_
      refine lv_bipush (v := nI 8) hx hb dX0_turnBytes_42 (by decide) ?_
      refine zr_imul hx hb dX0_turnBytes_44 ?_
      refine lv_lshl hx hb dX0_turnBytes_45 rfl ?_
      refine lv_lxor hx hb dX0_turnBytes_46 ?_
      refine zr_last hx hb hK hP hD hS 0 0 rfl rfl (hf i (by omega)) (by omega) dX0_turnBytes_47 (fun H locs hP hD hS => ?_)
      replace hP : va_P (dC, dI) vwCl [(a0, .inl (cJ, nn, .inr (.inl (va_up (tF f fr pl mk i) (fr + ((pl + i) / 8)) (((tF f fr pl mk i) (fr + ((pl + i) / 8))) ^^^ ((((mk.toUInt64 >>> ((nI (i * 8)).toInt64.toUInt64 &&& Int64.toUInt64 63)).toInt64) &&& 255) <<< ((nI (((pl + i) % 8) * 8)).toInt64 &&& 63)))))))] H := hP
      replace hD : va_D A [(a0, .inl (cJ, nn, .inr (.inl (va_up (tF f fr pl mk i) (fr + ((pl + i) / 8)) (((tF f fr pl mk i) (fr + ((pl + i) / 8))) ^^^ ((((mk.toUInt64 >>> ((nI (i * 8)).toInt64.toUInt64 &&& Int64.toUInt64 63)).toInt64) &&& 255) <<< ((nI (((pl + i) % 8) * 8)).toInt64 &&& 63)))))))] := hD
      refine lv_iinc (v := nI (i + 1)) (lv' := [(6, .int (nI (i + 1))), (7, .int (nI (pl + i))), (0, .ref a0), (1, .int (nI fr)), (2, .int (nI pl)), (3, .long mk), (5, .int (nI n0))]) hx hb dX0_turnBytes_48 hl (k := 6) rfl (nI_add (i) 1) (by decide) rfl (fun ls hl => ?_)
      refine lv_goto (tgt := 3) hx hb dX0_turnBytes_51 (by decide) ?_
      exact ih (i + 1) (by omega) (by omega) H locs ls (hP.sub [0] rfl) (hD.sub [0] (by decide) rfl) hS (lv_sub hl [2, 3, 4, 5, 6, 0] rfl)
set_option maxHeartbeats 4000000 in
set_option maxRecDepth 100000 in
theorem c_X0_turnBytes (l : Launch) (dC : Nat → ClassId) (dI : Nat → Nat → Nat) (sz : Nat) (a0 : Nat) (cJ : ClassId) (nn : Nat) (f : Nat → Int64) (fr pl : Nat) (mk : Int64) (n0 : Nat) (hn : nn < 2 ^ 31) (h8 : n0 ≤ 8) (hp : pl + n0 < 2 ^ 31) (hf : ∀ i, i < n0 → fr + (pl + i) / 8 < nn) : Met l yX0_turnBytes wsX0_turnBytes ({ frames := 0, cells := 0, slots := 0, locals := 0 }) (va_Pc [.ref a0, .int (nI fr), .int (nI pl), .long mk, .int (nI n0)] (fun U => U.heap.size = sz ∧ va_P (dC, dI) vwCl [(a0, .inl (cJ, nn, .inr (.inl f)))] U.heap ∧ va_K (dC, dI) vwCl [(cJ, .long)] U ∧ va_D (fun _ => True) [(a0, .inl (cJ, nn, .inr (.inl f)))])) (va_Qv (fun (_ : Unit) => True) (fun (_ : Unit) t => va_P (dC, dI) vwCl [(a0, .inl (cJ, nn, .inr (.inl (tF f fr pl mk n0))))] t.heap ∧ va_K (dC, dI) vwCl [(cJ, .long)] t ∧ va_D (va_A [(a0, .inl (cJ, nn, .inr (.inl f)))] sz) [(a0, .inl (cJ, nn, .inr (.inl (tF f fr pl mk n0))))]) (va_A [(a0, .inl (cJ, nn, .inr (.inl f)))] sz)) 0 0 (va_A [(a0, .inl (cJ, nn, .inr (.inl f)))] sz) := by
  refine Met.ofW (cc := cX0_turnBytes) (maxL := 8) (ret := none) (by decide) rfl ?_
  intro p e s m args below meth c s₁ B hml hv
  obtain ⟨rfl, hsz, hP, hK, hD0⟩ := hv
  have hx := B.exec
  have hb := B.bytes
  have hr := B.returns
  have hts := atoms_spec (ws := wsX0_turnBytes) B.pre
  have hown : s.vm.findClass RX0 = some m.cls := findClass_of_methodNamed B.named
  have hlocks := B.notSynchronized
  subst hsz
  have hD := hD0.self (sz := s.heap.size)
  generalize hAe : va_A [(a0, .inl (cJ, nn, .inr (.inl f)))] s.heap.size = A at hD ⊢
  have hA : ∀ q : Nat, s.heap.size ≤ q → A q := fun q h => by rw [← hAe]; exact Or.inr h
  generalize hH : s.heap = H at hP ⊢
  have hS : va_S A s.heap H [] := by rw [hH]; exact va_S.rf
  replace hP : va_P (dC, dI) vwCl [(a0, .inl (cJ, nn, .inr (.inl f)))] H := hP
  have hl := lv_entry ([.ref a0, .int (nI fr), .int (nI pl), .long mk, .int (nI n0)]) (n := 8) (Nat.le_of_ble_eq_true rfl)
  rw [lg_entry_eq]
  generalize (lg_sl ([.ref a0, .int (nI fr), .int (nI pl), .long mk, .int (nI n0)]) ++ List.replicate (8 - (lg_sl ([.ref a0, .int (nI fr), .int (nI pl), .long mk, .int (nI n0)])).length) Slot.unset).toArray = ls at hl ⊢
  have hl : lv_has ls 8 [(0, .ref a0), (1, .int (nI fr)), (2, .int (nI pl)), (3, .long mk), (5, .int (nI n0))] := hl
  refine lv_iconst (v := nI 0) hx hb dX0_turnBytes_0 (by decide) ?_
  refine lv_istore (lv' := [(6, .int (nI 0)), (0, .ref a0), (1, .int (nI fr)), (2, .int (nI pl)), (3, .long mk), (5, .int (nI n0))]) hx hb dX0_turnBytes_1 hl (by decide) rfl (fun ls hl => ?_)
  refine lp_X0_turnBytes a0 cJ nn f fr pl mk n0 hn h8 hp hf hx hb hml hown hts hA hK (fun  H locs ls hP hD hS hl => ?_) (n0 + 1) 0 (by omega) (by omega) _ _ _ (hP.sub [0] rfl) (hD.sub [0] (by decide) rfl) hS (lv_sub hl [1, 2, 3, 4, 5, 0] rfl)
  have hP9 := hP.sub (ws' := [(a0, .inl (cJ, nn, .inr (.inl (tF f fr pl mk n0))))]) [0] rfl
  have hD9 := hD.sub (ws' := [(a0, .inl (cJ, nn, .inr (.inl (tF f fr pl mk n0))))]) [0] (by decide) rfl
  exact W.vret hx hb hr (fun t ht hW => ⟨⟨(), rfl, trivial, by rw [ht]; exact hP9, va_K.moved hW.alike hK, hD9⟩, hS.F ht⟩) hS.2.2 dX0_turnBytes_54
set_option maxHeartbeats 4000000 in
set_option maxRecDepth 100000 in
theorem lp_J7_fill_d0a16 {p : Program} {l : Launch} {e : Env} {R : Room} {s : State} {m : MethodId} {args : Array Value} {below : List Frame} {meth : Method} {c : Code} {cells slots : Nat} {Q : State → Prop} {A : Nat → Prop} {H0 : Heap} {dC : Nat → ClassId} {dI : Nat → Nat → Nat} (a0 : Nat) (cJ : ClassId) (nn : Nat) (f : Nat → Int64) (v : Int64) (hn : nn < 2 ^ 31) (hx : p.tables.exec = Jvm.exec) (hb : c.code = cJ7_fill_d0a16) (hml : c.maxLocals = 5) (hown : s.vm.findClass RJ7 = some m.cls) (hts : ∀ w ∈ wsJ7_fill_d0a16, w.before args s = true) (hA : ∀ q : Nat, H0.size ≤ q → A q) (hK : va_K (dC, dI) vwCl [(cJ, .long)] s) (kk : ∀  (H : Heap) (locs : List Loc) (ls : Array Slot), va_P (dC, dI) vwCl [(a0, .inl (cJ, nn, .inr (.inl (flF f v nn))))] H → va_D A [(a0, .inl (cJ, nn, .inr (.inl (flF f v nn))))] → va_S A H0 H locs → lv_has ls 5 [(0, .ref a0), (1, .long v), (4, .int (nI nn)), (3, .int (nI nn))] → W p l e R s m args below meth c H locs cells slots Q (F0 m 22 ls [])) : ∀ (n : Nat) (i : Nat), nn + 1 ≤ i + n → i ≤ nn → ∀ (H : Heap) (locs : List Loc) (ls : Array Slot), va_P (dC, dI) vwCl [(a0, .inl (cJ, nn, .inr (.inl (flF f v i))))] H → va_D A [(a0, .inl (cJ, nn, .inr (.inl (flF f v i))))] → va_S A H0 H locs → lv_has ls 5 [(0, .ref a0), (1, .long v), (4, .int (nI nn)), (3, .int (nI i))] → W p l e R s m args below meth c H locs cells slots Q (F0 m 6 ls []) := by
  intro n
  induction n with
  | zero => intro i  hm hi; exact absurd hm (by omega)
  | succ n ih =>
    intro i  hm hi H locs ls hP hD hS hl
    refine lv_iload_n hx hb dJ7_fill_d0a16_6 rfl (lv_at hl 3 rfl) ?_
    refine lv_iload hx hb dJ7_fill_d0a16_7 (lv_at hl 2 rfl) ?_
    refine zr_icmp_ge (tgt := 22) hx hb (by omega) (by omega) dJ7_fill_d0a16_9 (by decide) (fun c9 => ?_) (fun c9 => ?_)
    · obtain rfl : nn = i := by omega
      exact kk  H locs ls (hP.sub [0] rfl) (hD.sub [0] (by decide) rfl) hS (lv_sub hl [0, 1, 2, 3] rfl)
    · refine lv_aload_n hx hb dJ7_fill_d0a16_12 rfl (lv_at hl 0 rfl) ?_
      refine lv_iload_n hx hb dJ7_fill_d0a16_13 rfl (lv_at hl 3 rfl) ?_
      refine lv_lload_n hx hb dJ7_fill_d0a16_14 rfl (lv_at hl 1 rfl) ?_
      refine zr_last hx hb hK hP hD hS 0 0 rfl rfl (by omega) (by omega) dJ7_fill_d0a16_15 (fun H locs hP hD hS => ?_)
      replace hP : va_P (dC, dI) vwCl [(a0, .inl (cJ, nn, .inr (.inl (va_up (flF f v i) i v))))] H := hP
      replace hD : va_D A [(a0, .inl (cJ, nn, .inr (.inl (va_up (flF f v i) i v))))] := hD
      refine lv_iinc (v := nI (i + 1)) (lv' := [(3, .int (nI (i + 1))), (0, .ref a0), (1, .long v), (4, .int (nI nn))]) hx hb dJ7_fill_d0a16_16 hl (k := 3) rfl (nI_add (i) 1) (by decide) rfl (fun ls hl => ?_)
      refine lv_goto (tgt := 6) hx hb dJ7_fill_d0a16_19 (by decide) ?_
      exact ih (i + 1) (by omega) (by omega) H locs ls (hP.sub [0] rfl) (hD.sub [0] (by decide) rfl) hS (lv_sub hl [1, 2, 3, 0] rfl)
set_option maxHeartbeats 4000000 in
set_option maxRecDepth 100000 in
theorem c_J7_fill_d0a16 (l : Launch) (dC : Nat → ClassId) (dI : Nat → Nat → Nat) (sz : Nat) (a0 : Nat) (cJ : ClassId) (nn : Nat) (f : Nat → Int64) (v : Int64) (hn : nn < 2 ^ 31) : Met l yJ7_fill_d0a16 wsJ7_fill_d0a16 ({ frames := 0, cells := 0, slots := 0, locals := 0 }) (va_Pc [.ref a0, .long v] (fun U => U.heap.size = sz ∧ va_P (dC, dI) vwCl [(a0, .inl (cJ, nn, .inr (.inl f)))] U.heap ∧ va_K (dC, dI) vwCl [(cJ, .long)] U ∧ va_D (fun _ => True) [(a0, .inl (cJ, nn, .inr (.inl f)))])) (va_Qv (fun (_ : Unit) => True) (fun (_ : Unit) t => va_P (dC, dI) vwCl [(a0, .inl (cJ, nn, .inr (.inl (flF f v nn))))] t.heap ∧ va_K (dC, dI) vwCl [(cJ, .long)] t ∧ va_D (va_A [(a0, .inl (cJ, nn, .inr (.inl f)))] sz) [(a0, .inl (cJ, nn, .inr (.inl (flF f v nn))))]) (va_A [(a0, .inl (cJ, nn, .inr (.inl f)))] sz)) 0 0 (va_A [(a0, .inl (cJ, nn, .inr (.inl f)))] sz) := by
  refine Met.ofW (cc := cJ7_fill_d0a16) (maxL := 5) (ret := none) (by decide) rfl ?_
  intro p e s m args below meth c s₁ B hml hv
  obtain ⟨rfl, hsz, hP, hK, hD0⟩ := hv
  have hx := B.exec
  have hb := B.bytes
  have hr := B.returns
  have hts := atoms_spec (ws := wsJ7_fill_d0a16) B.pre
  have hown : s.vm.findClass RJ7 = some m.cls := findClass_of_methodNamed B.named
  have hlocks := B.notSynchronized
  subst hsz
  have hD := hD0.self (sz := s.heap.size)
  generalize hAe : va_A [(a0, .inl (cJ, nn, .inr (.inl f)))] s.heap.size = A at hD ⊢
  have hA : ∀ q : Nat, s.heap.size ≤ q → A q := fun q h => by rw [← hAe]; exact Or.inr h
  generalize hH : s.heap = H at hP ⊢
  have hS : va_S A s.heap H [] := by rw [hH]; exact va_S.rf
  replace hP : va_P (dC, dI) vwCl [(a0, .inl (cJ, nn, .inr (.inl f)))] H := hP
  have hl := lv_entry ([.ref a0, .long v]) (n := 5) (Nat.le_of_ble_eq_true rfl)
  rw [lg_entry_eq]
  generalize (lg_sl ([.ref a0, .long v]) ++ List.replicate (5 - (lg_sl ([.ref a0, .long v])).length) Slot.unset).toArray = ls at hl ⊢
  have hl : lv_has ls 5 [(0, .ref a0), (1, .long v)] := hl
  refine lv_iconst (v := nI 0) hx hb dJ7_fill_d0a16_0 (by decide) ?_
  refine lv_istore_n (lv' := [(3, .int (nI 0)), (0, .ref a0), (1, .long v)]) hx hb dJ7_fill_d0a16_1 rfl hl (by decide) rfl (fun ls hl => ?_)
  refine lv_aload_n hx hb dJ7_fill_d0a16_2 rfl (lv_at hl 1 rfl) ?_
  refine va_alen (v := nI nn) hx hb hK hP 0 0 rfl rfl rfl dJ7_fill_d0a16_3 ?_
  refine lv_istore (lv' := [(4, .int (nI nn)), (3, .int (nI 0)), (0, .ref a0), (1, .long v)]) hx hb dJ7_fill_d0a16_4 hl (by decide) rfl (fun ls hl => ?_)
  refine lp_J7_fill_d0a16 a0 cJ nn f v hn hx hb hml hown hts hA hK (fun  H locs ls hP hD hS hl => ?_) (nn + 1) 0 (by omega) (by omega) _ _ _ (hP.sub [0] rfl) (hD.sub [0] (by decide) rfl) hS (lv_sub hl [2, 3, 0, 1] rfl)
  have hP9 := hP.sub (ws' := [(a0, .inl (cJ, nn, .inr (.inl (flF f v nn))))]) [0] rfl
  have hD9 := hD.sub (ws' := [(a0, .inl (cJ, nn, .inr (.inl (flF f v nn))))]) [0] (by decide) rfl
  exact W.vret hx hb hr (fun t ht hW => ⟨⟨(), rfl, trivial, by rw [ht]; exact hP9, va_K.moved hW.alike hK, hD9⟩, hS.F ht⟩) hS.2.2 dJ7_fill_d0a16_22
set_option maxHeartbeats 4000000 in
set_option maxRecDepth 100000 in
theorem lp_J7_fill_53178 {p : Program} {l : Launch} {e : Env} {R : Room} {s : State} {m : MethodId} {args : Array Value} {below : List Frame} {meth : Method} {c : Code} {cells slots : Nat} {Q : State → Prop} {A : Nat → Prop} {H0 : Heap} {dC : Nat → ClassId} {dI : Nat → Nat → Nat} (a0 : Nat) (cI : ClassId) (nn : Nat) (f : Nat → Nat) (v : Nat) (hn : nn < 2 ^ 31) (hx : p.tables.exec = Jvm.exec) (hb : c.code = cJ7_fill_53178) (hml : c.maxLocals = 4) (hown : s.vm.findClass RJ7 = some m.cls) (hts : ∀ w ∈ wsJ7_fill_53178, w.before args s = true) (hA : ∀ q : Nat, H0.size ≤ q → A q) (hK : va_K (dC, dI) vwCl [(cI, .int)] s) (kk : ∀  (H : Heap) (locs : List Loc) (ls : Array Slot), va_P (dC, dI) vwCl [(a0, .inl (cI, nn, .inl (fun i9 => nI ((flF f v nn) i9))))] H → va_D A [(a0, .inl (cI, nn, .inl (fun i9 => nI ((flF f v nn) i9))))] → va_S A H0 H locs → lv_has ls 4 [(0, .ref a0), (1, .int (nI v)), (3, .int (nI nn)), (2, .int (nI nn))] → W p l e R s m args below meth c H locs cells slots Q (F0 m 20 ls [])) : ∀ (n : Nat) (i : Nat), nn + 1 ≤ i + n → i ≤ nn → ∀ (H : Heap) (locs : List Loc) (ls : Array Slot), va_P (dC, dI) vwCl [(a0, .inl (cI, nn, .inl (fun i9 => nI ((flF f v i) i9))))] H → va_D A [(a0, .inl (cI, nn, .inl (fun i9 => nI ((flF f v i) i9))))] → va_S A H0 H locs → lv_has ls 4 [(0, .ref a0), (1, .int (nI v)), (3, .int (nI nn)), (2, .int (nI i))] → W p l e R s m args below meth c H locs cells slots Q (F0 m 5 ls []) := by
  intro n
  induction n with
  | zero => intro i  hm hi; exact absurd hm (by omega)
  | succ n ih =>
    intro i  hm hi H locs ls hP hD hS hl
    refine lv_iload_n hx hb dJ7_fill_53178_5 rfl (lv_at hl 3 rfl) ?_
    refine lv_iload_n hx hb dJ7_fill_53178_6 rfl (lv_at hl 2 rfl) ?_
    refine zr_icmp_ge (tgt := 20) hx hb (by omega) (by omega) dJ7_fill_53178_7 (by decide) (fun c7 => ?_) (fun c7 => ?_)
    · obtain rfl : nn = i := by omega
      exact kk  H locs ls (hP.sub [0] rfl) (hD.sub [0] (by decide) rfl) hS (lv_sub hl [0, 1, 2, 3] rfl)
    · refine lv_aload_n hx hb dJ7_fill_53178_10 rfl (lv_at hl 0 rfl) ?_
      refine lv_iload_n hx hb dJ7_fill_53178_11 rfl (lv_at hl 3 rfl) ?_
      refine lv_iload_n hx hb dJ7_fill_53178_12 rfl (lv_at hl 1 rfl) ?_
      refine zr_nast hx hb hK hP hD hS 0 0 rfl rfl (by omega) (by omega) dJ7_fill_53178_13 (fun H locs hP hD hS => ?_)
      replace hP : va_P (dC, dI) vwCl [(a0, .inl (cI, nn, .inl (fun i9 => nI ((va_up (flF f v i) i v) i9))))] H := hP
      replace hD : va_D A [(a0, .inl (cI, nn, .inl (fun i9 => nI ((va_up (flF f v i) i v) i9))))] := hD
      refine lv_iinc (v := nI (i + 1)) (lv' := [(2, .int (nI (i + 1))), (0, .ref a0), (1, .int (nI v)), (3, .int (nI nn))]) hx hb dJ7_fill_53178_14 hl (k := 3) rfl (nI_add (i) 1) (by decide) rfl (fun ls hl => ?_)
      refine lv_goto (tgt := 5) hx hb dJ7_fill_53178_17 (by decide) ?_
      exact ih (i + 1) (by omega) (by omega) H locs ls (hP.sub [0] rfl) (hD.sub [0] (by decide) rfl) hS (lv_sub hl [1, 2, 3, 0] rfl)
set_option maxHeartbeats 4000000 in
set_option maxRecDepth 100000 in
theorem c_J7_fill_53178 (l : Launch) (dC : Nat → ClassId) (dI : Nat → Nat → Nat) (sz : Nat) (a0 : Nat) (cI : ClassId) (nn : Nat) (f : Nat → Nat) (v : Nat) (hn : nn < 2 ^ 31) : Met l yJ7_fill_53178 wsJ7_fill_53178 ({ frames := 0, cells := 0, slots := 0, locals := 0 }) (va_Pc [.ref a0, .int (nI v)] (fun U => U.heap.size = sz ∧ va_P (dC, dI) vwCl [(a0, .inl (cI, nn, .inl (fun i9 => nI (f i9))))] U.heap ∧ va_K (dC, dI) vwCl [(cI, .int)] U ∧ va_D (fun _ => True) [(a0, .inl (cI, nn, .inl (fun i9 => nI (f i9))))])) (va_Qv (fun (_ : Unit) => True) (fun (_ : Unit) t => va_P (dC, dI) vwCl [(a0, .inl (cI, nn, .inl (fun i9 => nI ((flF f v nn) i9))))] t.heap ∧ va_K (dC, dI) vwCl [(cI, .int)] t ∧ va_D (va_A [(a0, .inl (cI, nn, .inl (fun i9 => nI (f i9))))] sz) [(a0, .inl (cI, nn, .inl (fun i9 => nI ((flF f v nn) i9))))]) (va_A [(a0, .inl (cI, nn, .inl (fun i9 => nI (f i9))))] sz)) 0 0 (va_A [(a0, .inl (cI, nn, .inl (fun i9 => nI (f i9))))] sz) := by
  refine Met.ofW (cc := cJ7_fill_53178) (maxL := 4) (ret := none) (by decide) rfl ?_
  intro p e s m args below meth c s₁ B hml hv
  obtain ⟨rfl, hsz, hP, hK, hD0⟩ := hv
  have hx := B.exec
  have hb := B.bytes
  have hr := B.returns
  have hts := atoms_spec (ws := wsJ7_fill_53178) B.pre
  have hown : s.vm.findClass RJ7 = some m.cls := findClass_of_methodNamed B.named
  have hlocks := B.notSynchronized
  subst hsz
  have hD := hD0.self (sz := s.heap.size)
  generalize hAe : va_A [(a0, .inl (cI, nn, .inl (fun i9 => nI (f i9))))] s.heap.size = A at hD ⊢
  have hA : ∀ q : Nat, s.heap.size ≤ q → A q := fun q h => by rw [← hAe]; exact Or.inr h
  generalize hH : s.heap = H at hP ⊢
  have hS : va_S A s.heap H [] := by rw [hH]; exact va_S.rf
  replace hP : va_P (dC, dI) vwCl [(a0, .inl (cI, nn, .inl (fun i9 => nI (f i9))))] H := hP
  have hl := lv_entry ([.ref a0, .int (nI v)]) (n := 4) (Nat.le_of_ble_eq_true rfl)
  rw [lg_entry_eq]
  generalize (lg_sl ([.ref a0, .int (nI v)]) ++ List.replicate (4 - (lg_sl ([.ref a0, .int (nI v)])).length) Slot.unset).toArray = ls at hl ⊢
  have hl : lv_has ls 4 [(0, .ref a0), (1, .int (nI v))] := hl
  refine lv_iconst (v := nI 0) hx hb dJ7_fill_53178_0 (by decide) ?_
  refine lv_istore_n (lv' := [(2, .int (nI 0)), (0, .ref a0), (1, .int (nI v))]) hx hb dJ7_fill_53178_1 rfl hl (by decide) rfl (fun ls hl => ?_)
  refine lv_aload_n hx hb dJ7_fill_53178_2 rfl (lv_at hl 1 rfl) ?_
  refine va_alen (v := nI nn) hx hb hK hP 0 0 rfl rfl rfl dJ7_fill_53178_3 ?_
  refine lv_istore_n (lv' := [(3, .int (nI nn)), (2, .int (nI 0)), (0, .ref a0), (1, .int (nI v))]) hx hb dJ7_fill_53178_4 rfl hl (by decide) rfl (fun ls hl => ?_)
  refine lp_J7_fill_53178 a0 cI nn f v hn hx hb hml hown hts hA hK (fun  H locs ls hP hD hS hl => ?_) (nn + 1) 0 (by omega) (by omega) _ _ _ (hP.sub [0] rfl) (hD.sub [0] (by decide) rfl) hS (lv_sub hl [2, 3, 0, 1] rfl)
  have hP9 := hP.sub (ws' := [(a0, .inl (cI, nn, .inl (fun i9 => nI ((flF f v nn) i9))))]) [0] rfl
  have hD9 := hD.sub (ws' := [(a0, .inl (cI, nn, .inl (fun i9 => nI ((flF f v nn) i9))))]) [0] (by decide) rfl
  exact W.vret hx hb hr (fun t ht hW => ⟨⟨(), rfl, trivial, by rw [ht]; exact hP9, va_K.moved hW.alike hK, hD9⟩, hS.F ht⟩) hS.2.2 dJ7_fill_53178_20
set_option maxHeartbeats 4000000 in
set_option maxRecDepth 100000 in
theorem c_X0_isLive (l : Launch) (dC : Nat → ClassId) (dI : Nat → Nat → Nat) (sz : Nat) (h0 aN aL aK aC aT aO : Nat) (ld tb ob : Nat) (off : Bool) (wl : Int32) (wd : Int64) (cI : ClassId) (kd : Nat → Nat) (di : Nat) (hd : di < 16) (hk : kdOK kd) : Met l yX0_isLive wsX0_isLive ({ frames := 1, cells := 0, slots := 0, locals := 21 }) (va_Pc [.ref h0, .int (nI di)] (fun U => U.heap.size = sz ∧ va_P (dC, dI) vwCl [(h0, .inr (0, [.ref aN, .ref aL, .ref aK, .ref aC, .int (nI ld), .ref aT, .int (nI tb), .ref aO, .int (nI ob), .int (bI off), .int wl, .long wd])), (aK, .inl (cI, 1056, .inl (fun i9 => nI (kd i9))))] U.heap ∧ va_K (dC, dI) vwCl [(cI, .int)] U ∧ va_D (fun _ => True) [(h0, .inr (0, [.ref aN, .ref aL, .ref aK, .ref aC, .int (nI ld), .ref aT, .int (nI tb), .ref aO, .int (nI ob), .int (bI off), .int wl, .long wd])), (aK, .inl (cI, 1056, .inl (fun i9 => nI (kd i9))))])) (va_Qi (fun (r : Int32) (_ : Unit) => r = bI (!decide (kd (di * 66) = 0))) (fun (_ : Unit) t => va_P (dC, dI) vwCl [(h0, .inr (0, [.ref aN, .ref aL, .ref aK, .ref aC, .int (nI ld), .ref aT, .int (nI tb), .ref aO, .int (nI ob), .int (bI off), .int wl, .long wd])), (aK, .inl (cI, 1056, .inl (fun i9 => nI (kd i9))))] t.heap ∧ va_K (dC, dI) vwCl [(cI, .int)] t ∧ va_D (va_A [(h0, .inr (0, [.ref aN, .ref aL, .ref aK, .ref aC, .int (nI ld), .ref aT, .int (nI tb), .ref aO, .int (nI ob), .int (bI off), .int wl, .long wd])), (aK, .inl (cI, 1056, .inl (fun i9 => nI (kd i9))))] sz) [(h0, .inr (0, [.ref aN, .ref aL, .ref aK, .ref aC, .int (nI ld), .ref aT, .int (nI tb), .ref aO, .int (nI ob), .int (bI off), .int wl, .long wd])), (aK, .inl (cI, 1056, .inl (fun i9 => nI (kd i9))))]) (va_A [(h0, .inr (0, [.ref aN, .ref aL, .ref aK, .ref aC, .int (nI ld), .ref aT, .int (nI tb), .ref aO, .int (nI ob), .int (bI off), .int wl, .long wd])), (aK, .inl (cI, 1056, .inl (fun i9 => nI (kd i9))))] sz)) 0 0 (va_A [(h0, .inr (0, [.ref aN, .ref aL, .ref aK, .ref aC, .int (nI ld), .ref aT, .int (nI tb), .ref aO, .int (nI ob), .int (bI off), .int wl, .long wd])), (aK, .inl (cI, 1056, .inl (fun i9 => nI (kd i9))))] sz) := by
  refine Met.ofW (cc := cX0_isLive) (maxL := 2) (ret := some .boolean) (by decide) rfl ?_
  intro p e s m args below meth c s₁ B hml hv
  obtain ⟨rfl, hsz, hP, hK, hD0⟩ := hv
  have hx := B.exec
  have hb := B.bytes
  have hr := B.returns
  have hts := atoms_spec (ws := wsX0_isLive) B.pre
  have hown : s.vm.findClass RX0 = some m.cls := findClass_of_methodNamed B.named
  have hlocks := B.notSynchronized
  subst hsz
  have hD := hD0.self (sz := s.heap.size)
  generalize hAe : va_A [(h0, .inr (0, [.ref aN, .ref aL, .ref aK, .ref aC, .int (nI ld), .ref aT, .int (nI tb), .ref aO, .int (nI ob), .int (bI off), .int wl, .long wd])), (aK, .inl (cI, 1056, .inl (fun i9 => nI (kd i9))))] s.heap.size = A at hD ⊢
  have hA : ∀ q : Nat, s.heap.size ≤ q → A q := fun q h => by rw [← hAe]; exact Or.inr h
  generalize hH : s.heap = H at hP ⊢
  have hS : va_S A s.heap H [] := by rw [hH]; exact va_S.rf
  replace hP : va_P (dC, dI) vwCl [(h0, .inr (0, [.ref aN, .ref aL, .ref aK, .ref aC, .int (nI ld), .ref aT, .int (nI tb), .ref aO, .int (nI ob), .int (bI off), .int wl, .long wd])), (aK, .inl (cI, 1056, .inl (fun i9 => nI (kd i9))))] H := hP
  have hl := lv_entry ([.ref h0, .int (nI di)]) (n := 2) (Nat.le_of_ble_eq_true rfl)
  rw [lg_entry_eq]
  generalize (lg_sl ([.ref h0, .int (nI di)]) ++ List.replicate (2 - (lg_sl ([.ref h0, .int (nI di)])).length) Slot.unset).toArray = ls at hl ⊢
  have hl : lv_has ls 2 [(0, .ref h0), (1, .int (nI di))] := hl
  have hi0 : ∀ w ∈ u_ws RX0 TX0 12, w ∈ wsX0_isLive := by decide +kernel
  refine lv_aload_n hx hb dX0_isLive_0 rfl (lv_at hl 0 rfl) ?_
  refine va_get (D := (dC, dI)) (ci := 0) (v := .ref aK) (C := RX0) (T := TX0) (N := 12) hx hb hts hi0 hown hK hP 0 rfl rfl 2 (by decide) (hts (.fieldLink RX0 16 "CellRack" "kinds" "[I") (by decide +kernel)) (fun _ h9 => h9) rfl dX0_isLive_1 ?_
  refine lv_iload_n hx hb dX0_isLive_4 rfl (lv_at hl 1 rfl) ?_
  refine lv_iconst (v := nI 0) hx hb dX0_isLive_5 (by decide) ?_
  have hPc := hP.sub (ws' := []) [] rfl
  have hDc := hD.sub (ws' := []) [] (by decide) rfl
  have hKc := hK.sub (tys' := []) [] rfl
  have hFc := va_free (wc := []) hD hS hA [] rfl
  refine va_calli (va_runS (As := [.int (nI di), .int (nI 0)]) (rest := [.ref aK]) ⟨hx, hb, hml, hown, hts⟩ (c_X0_spotOf l dC dI H.size di 0) (va_cwS 2 hts gX0_isLive_X0_spotOf rfl rfl rfl (by decide +kernel) ⟨Nat.le_of_ble_eq_true rfl, Nat.le_of_ble_eq_true rfl⟩) ⟨fun a U g mk q => by obtain ⟨q0, q1, qP, qK, qD⟩ := q; exact ⟨q0, q1, qP, va_K.moved (u := U) (U := U.calling g mk a) (Vm.Alike.refl U.vm) qK, qD⟩, fun U hU hW => ⟨rfl, by rw [hU], by rw [hU]; exact hPc, va_K.moved hW.alike hKc, hDc.weaken (fun _ _ _ _ => trivial)⟩⟩ rfl rfl hl.1 rfl (lv_room (Nat.le_of_ble_eq_true rfl)) dX0_isLive_6 ⟨Nat.zero_le _, Nat.zero_le _⟩) hS (fun q _ h => hFc q h) hFc (fun r_1 u t H1 locs ht hvm hw hB hz1 hk1 hS => ?_)
  obtain ⟨hP1, hK1, hD1⟩ := hB
  rw [ht] at hP1
  obtain ⟨hPn, hDn⟩ := va_join (wr := [(h0, .inr (0, [.ref aN, .ref aL, .ref aK, .ref aC, .int (nI ld), .ref aT, .int (nI tb), .ref aO, .int (nI ob), .int (bI off), .int wl, .long wd])), (aK, .inl (cI, 1056, .inl (fun i9 => nI (kd i9))))]) (w1 := []) hP hD [] [0, 1] rfl rfl (by decide) (by decide) hk1 hFc hP1 hD1
  clear hP hD hP1 hD1 hK1 hPc hDc hKc hFc hk1 hz1 hvm ht
  generalize H1 = H at hPn hS ⊢
  have hP := hPn
  have hD := hDn
  clear hPn hDn
  replace hP : va_P (dC, dI) vwCl [(h0, .inr (0, [.ref aN, .ref aL, .ref aK, .ref aC, .int (nI ld), .ref aT, .int (nI tb), .ref aO, .int (nI ob), .int (bI off), .int wl, .long wd])), (aK, .inl (cI, 1056, .inl (fun i9 => nI (kd i9))))] H := hP
  replace hD : va_D A [(h0, .inr (0, [.ref aN, .ref aL, .ref aK, .ref aC, .int (nI ld), .ref aT, .int (nI tb), .ref aO, .int (nI ob), .int (bI off), .int wl, .long wd])), (aK, .inl (cI, 1056, .inl (fun i9 => nI (kd i9))))] := hD
  refine W.widen (k := 0) (n := 0) (Nat.le_refl _) (Nat.le_refl _) ?_
  obtain rfl := hw
  refine zr_nald hx hb hK hP 1 0 rfl rfl (by omega) (by omega) dX0_isLive_9 ?_
  refine zr_ifn_eq (tgt := 17) hx hb (Nat.lt_trans (hk _) (by decide)) dX0_isLive_10 (by decide) (fun c10 => ?_) (fun c10 => ?_)
  · refine lv_iconst (v := nI 0) hx hb dX0_isLive_17 (by decide) ?_
    refine zr_topi (bI (!decide (kd (di * 66) = 0))) (by rw [decide_eq_true (show kd (di * 66) = 0 from c10)]; rfl) ?_
    have hP9 := hP.sub (ws' := [(h0, .inr (0, [.ref aN, .ref aL, .ref aK, .ref aC, .int (nI ld), .ref aT, .int (nI tb), .ref aO, .int (nI ob), .int (bI off), .int wl, .long wd])), (aK, .inl (cI, 1056, .inl (fun i9 => nI (kd i9))))]) [0, 1] rfl
    have hD9 := hD.sub (ws' := [(h0, .inr (0, [.ref aN, .ref aL, .ref aK, .ref aC, .int (nI ld), .ref aT, .int (nI tb), .ref aO, .int (nI ob), .int (bI off), .int wl, .long wd])), (aK, .inl (cI, 1056, .inl (fun i9 => nI (kd i9))))]) [0, 1] (by decide) rfl
    exact W.zret (v := bI (!decide (kd (di * 66) = 0))) hx hb hr (zr_nar_b _) (fun t ht hW => ⟨⟨bI (!decide (kd (di * 66) = 0)), (), rfl, rfl, by rw [ht]; exact hP9, va_K.moved hW.alike hK, hD9⟩, hS.F ht⟩) hS.2.2 dX0_isLive_18
  · refine lv_iconst (v := nI 1) hx hb dX0_isLive_13 (by decide) ?_
    refine lv_goto (tgt := 18) hx hb dX0_isLive_14 (by decide) ?_
    refine zr_topi (bI (!decide (kd (di * 66) = 0))) (by rw [decide_eq_false (show ¬ kd (di * 66) = 0 from c10)]; rfl) ?_
    have hP9 := hP.sub (ws' := [(h0, .inr (0, [.ref aN, .ref aL, .ref aK, .ref aC, .int (nI ld), .ref aT, .int (nI tb), .ref aO, .int (nI ob), .int (bI off), .int wl, .long wd])), (aK, .inl (cI, 1056, .inl (fun i9 => nI (kd i9))))]) [0, 1] rfl
    have hD9 := hD.sub (ws' := [(h0, .inr (0, [.ref aN, .ref aL, .ref aK, .ref aC, .int (nI ld), .ref aT, .int (nI tb), .ref aO, .int (nI ob), .int (bI off), .int wl, .long wd])), (aK, .inl (cI, 1056, .inl (fun i9 => nI (kd i9))))]) [0, 1] (by decide) rfl
    exact W.zret (v := bI (!decide (kd (di * 66) = 0))) hx hb hr (zr_nar_b _) (fun t ht hW => ⟨⟨bI (!decide (kd (di * 66) = 0)), (), rfl, rfl, by rw [ht]; exact hP9, va_K.moved hW.alike hK, hD9⟩, hS.F ht⟩) hS.2.2 dX0_isLive_18
set_option maxHeartbeats 4000000 in
set_option maxRecDepth 100000 in
theorem c_X0_hasBytes (l : Launch) (dC : Nat → ClassId) (dI : Nat → Nat → Nat) (sz : Nat) (h0 aN aL aK aC aT aO : Nat) (ld tb ob : Nat) (off : Bool) (wl : Int32) (wd : Int64) (cI : ClassId) (kd : Nat → Nat) (sp : Nat) (hs : sp < 1056) (hk : kdOK kd) : Met l yX0_hasBytes wsX0_hasBytes ({ frames := 0, cells := 0, slots := 0, locals := 0 }) (va_Pc [.ref h0, .int (nI sp)] (fun U => U.heap.size = sz ∧ va_P (dC, dI) vwCl [(h0, .inr (0, [.ref aN, .ref aL, .ref aK, .ref aC, .int (nI ld), .ref aT, .int (nI tb), .ref aO, .int (nI ob), .int (bI off), .int wl, .long wd])), (aK, .inl (cI, 1056, .inl (fun i9 => nI (kd i9))))] U.heap ∧ va_K (dC, dI) vwCl [(cI, .int)] U ∧ va_D (fun _ => True) [(h0, .inr (0, [.ref aN, .ref aL, .ref aK, .ref aC, .int (nI ld), .ref aT, .int (nI tb), .ref aO, .int (nI ob), .int (bI off), .int wl, .long wd])), (aK, .inl (cI, 1056, .inl (fun i9 => nI (kd i9))))])) (va_Qi (fun (r : Int32) (_ : Unit) => r = bI (decide (kd sp = 2) || decide (kd sp = 3))) (fun (_ : Unit) t => va_P (dC, dI) vwCl [(h0, .inr (0, [.ref aN, .ref aL, .ref aK, .ref aC, .int (nI ld), .ref aT, .int (nI tb), .ref aO, .int (nI ob), .int (bI off), .int wl, .long wd])), (aK, .inl (cI, 1056, .inl (fun i9 => nI (kd i9))))] t.heap ∧ va_K (dC, dI) vwCl [(cI, .int)] t ∧ va_D (va_A [(h0, .inr (0, [.ref aN, .ref aL, .ref aK, .ref aC, .int (nI ld), .ref aT, .int (nI tb), .ref aO, .int (nI ob), .int (bI off), .int wl, .long wd])), (aK, .inl (cI, 1056, .inl (fun i9 => nI (kd i9))))] sz) [(h0, .inr (0, [.ref aN, .ref aL, .ref aK, .ref aC, .int (nI ld), .ref aT, .int (nI tb), .ref aO, .int (nI ob), .int (bI off), .int wl, .long wd])), (aK, .inl (cI, 1056, .inl (fun i9 => nI (kd i9))))]) (va_A [(h0, .inr (0, [.ref aN, .ref aL, .ref aK, .ref aC, .int (nI ld), .ref aT, .int (nI tb), .ref aO, .int (nI ob), .int (bI off), .int wl, .long wd])), (aK, .inl (cI, 1056, .inl (fun i9 => nI (kd i9))))] sz)) 0 0 (va_A [(h0, .inr (0, [.ref aN, .ref aL, .ref aK, .ref aC, .int (nI ld), .ref aT, .int (nI tb), .ref aO, .int (nI ob), .int (bI off), .int wl, .long wd])), (aK, .inl (cI, 1056, .inl (fun i9 => nI (kd i9))))] sz) := by
  refine Met.ofW (cc := cX0_hasBytes) (maxL := 2) (ret := some .boolean) (by decide) rfl ?_
  intro p e s m args below meth c s₁ B hml hv
  obtain ⟨rfl, hsz, hP, hK, hD0⟩ := hv
  have hx := B.exec
  have hb := B.bytes
  have hr := B.returns
  have hts := atoms_spec (ws := wsX0_hasBytes) B.pre
  have hown : s.vm.findClass RX0 = some m.cls := findClass_of_methodNamed B.named
  have hlocks := B.notSynchronized
  subst hsz
  have hD := hD0.self (sz := s.heap.size)
  generalize hAe : va_A [(h0, .inr (0, [.ref aN, .ref aL, .ref aK, .ref aC, .int (nI ld), .ref aT, .int (nI tb), .ref aO, .int (nI ob), .int (bI off), .int wl, .long wd])), (aK, .inl (cI, 1056, .inl (fun i9 => nI (kd i9))))] s.heap.size = A at hD ⊢
  have hA : ∀ q : Nat, s.heap.size ≤ q → A q := fun q h => by rw [← hAe]; exact Or.inr h
  generalize hH : s.heap = H at hP ⊢
  have hS : va_S A s.heap H [] := by rw [hH]; exact va_S.rf
  replace hP : va_P (dC, dI) vwCl [(h0, .inr (0, [.ref aN, .ref aL, .ref aK, .ref aC, .int (nI ld), .ref aT, .int (nI tb), .ref aO, .int (nI ob), .int (bI off), .int wl, .long wd])), (aK, .inl (cI, 1056, .inl (fun i9 => nI (kd i9))))] H := hP
  have hl := lv_entry ([.ref h0, .int (nI sp)]) (n := 2) (Nat.le_of_ble_eq_true rfl)
  rw [lg_entry_eq]
  generalize (lg_sl ([.ref h0, .int (nI sp)]) ++ List.replicate (2 - (lg_sl ([.ref h0, .int (nI sp)])).length) Slot.unset).toArray = ls at hl ⊢
  have hl : lv_has ls 2 [(0, .ref h0), (1, .int (nI sp))] := hl
  have hi0 : ∀ w ∈ u_ws RX0 TX0 12, w ∈ wsX0_hasBytes := by decide +kernel
  refine lv_aload_n hx hb dX0_hasBytes_0 rfl (lv_at hl 0 rfl) ?_
  refine va_get (D := (dC, dI)) (ci := 0) (v := .ref aK) (C := RX0) (T := TX0) (N := 12) hx hb hts hi0 hown hK hP 0 rfl rfl 2 (by decide) (hts (.fieldLink RX0 16 "CellRack" "kinds" "[I") (by decide +kernel)) (fun _ h9 => h9) rfl dX0_hasBytes_1 ?_
  refine lv_iload_n hx hb dX0_hasBytes_4 rfl (lv_at hl 1 rfl) ?_
  refine zr_nald hx hb hK hP 1 0 rfl rfl (by omega) (by omega) dX0_hasBytes_5 ?_
  refine lv_iconst (v := nI 2) hx hb dX0_hasBytes_6 (by decide) ?_
  refine zr_icmp_eq (tgt := 20) hx hb (Nat.lt_trans (hk _) (by decide)) (by omega) dX0_hasBytes_7 (by decide) (fun c7 => ?_) (fun c7 => ?_)
  · refine lv_iconst (v := nI 1) hx hb dX0_hasBytes_20 (by decide) ?_
    refine lv_goto (tgt := 25) hx hb dX0_hasBytes_21 (by decide) ?_
    refine zr_topi (bI (decide (kd sp = 2) || decide (kd sp = 3))) (by first | rw [decide_eq_true c7]; rfl | rw [decide_eq_true c17, Bool.or_true]; rfl) ?_
    have hP9 := hP.sub (ws' := [(h0, .inr (0, [.ref aN, .ref aL, .ref aK, .ref aC, .int (nI ld), .ref aT, .int (nI tb), .ref aO, .int (nI ob), .int (bI off), .int wl, .long wd])), (aK, .inl (cI, 1056, .inl (fun i9 => nI (kd i9))))]) [0, 1] rfl
    have hD9 := hD.sub (ws' := [(h0, .inr (0, [.ref aN, .ref aL, .ref aK, .ref aC, .int (nI ld), .ref aT, .int (nI tb), .ref aO, .int (nI ob), .int (bI off), .int wl, .long wd])), (aK, .inl (cI, 1056, .inl (fun i9 => nI (kd i9))))]) [0, 1] (by decide) rfl
    exact W.zret (v := bI (decide (kd sp = 2) || decide (kd sp = 3))) hx hb hr (zr_nar_b _) (fun t ht hW => ⟨⟨bI (decide (kd sp = 2) || decide (kd sp = 3)), (), rfl, rfl, by rw [ht]; exact hP9, va_K.moved hW.alike hK, hD9⟩, hS.F ht⟩) hS.2.2 dX0_hasBytes_25
  · refine lv_aload_n hx hb dX0_hasBytes_10 rfl (lv_at hl 0 rfl) ?_
    refine va_get (D := (dC, dI)) (ci := 0) (v := .ref aK) (C := RX0) (T := TX0) (N := 12) hx hb hts hi0 hown hK hP 0 rfl rfl 2 (by decide) (hts (.fieldLink RX0 16 "CellRack" "kinds" "[I") (by decide +kernel)) (fun _ h9 => h9) rfl dX0_hasBytes_11 ?_
    refine lv_iload_n hx hb dX0_hasBytes_14 rfl (lv_at hl 1 rfl) ?_
    refine zr_nald hx hb hK hP 1 0 rfl rfl (by omega) (by omega) dX0_hasBytes_15 ?_
    refine lv_iconst (v := nI 3) hx hb dX0_hasBytes_16 (by decide) ?_
    refine zr_icmp_ne (tgt := 24) hx hb (Nat.lt_trans (hk _) (by decide)) (by omega) dX0_hasBytes_17 (by decide) (fun c17 => ?_) (fun c17 => ?_)
    · refine lv_iconst (v := nI 0) hx hb dX0_hasBytes_24 (by decide) ?_
      refine zr_topi (bI (decide (kd sp = 2) || decide (kd sp = 3))) (by rw [decide_eq_false c7, decide_eq_false c17]; rfl) ?_
      have hP9 := hP.sub (ws' := [(h0, .inr (0, [.ref aN, .ref aL, .ref aK, .ref aC, .int (nI ld), .ref aT, .int (nI tb), .ref aO, .int (nI ob), .int (bI off), .int wl, .long wd])), (aK, .inl (cI, 1056, .inl (fun i9 => nI (kd i9))))]) [0, 1] rfl
      have hD9 := hD.sub (ws' := [(h0, .inr (0, [.ref aN, .ref aL, .ref aK, .ref aC, .int (nI ld), .ref aT, .int (nI tb), .ref aO, .int (nI ob), .int (bI off), .int wl, .long wd])), (aK, .inl (cI, 1056, .inl (fun i9 => nI (kd i9))))]) [0, 1] (by decide) rfl
      exact W.zret (v := bI (decide (kd sp = 2) || decide (kd sp = 3))) hx hb hr (zr_nar_b _) (fun t ht hW => ⟨⟨bI (decide (kd sp = 2) || decide (kd sp = 3)), (), rfl, rfl, by rw [ht]; exact hP9, va_K.moved hW.alike hK, hD9⟩, hS.F ht⟩) hS.2.2 dX0_hasBytes_25
    · refine lv_iconst (v := nI 1) hx hb dX0_hasBytes_20 (by decide) ?_
      refine lv_goto (tgt := 25) hx hb dX0_hasBytes_21 (by decide) ?_
      refine zr_topi (bI (decide (kd sp = 2) || decide (kd sp = 3))) (by first | rw [decide_eq_true c7]; rfl | rw [decide_eq_true c17, Bool.or_true]; rfl) ?_
      have hP9 := hP.sub (ws' := [(h0, .inr (0, [.ref aN, .ref aL, .ref aK, .ref aC, .int (nI ld), .ref aT, .int (nI tb), .ref aO, .int (nI ob), .int (bI off), .int wl, .long wd])), (aK, .inl (cI, 1056, .inl (fun i9 => nI (kd i9))))]) [0, 1] rfl
      have hD9 := hD.sub (ws' := [(h0, .inr (0, [.ref aN, .ref aL, .ref aK, .ref aC, .int (nI ld), .ref aT, .int (nI tb), .ref aO, .int (nI ob), .int (bI off), .int wl, .long wd])), (aK, .inl (cI, 1056, .inl (fun i9 => nI (kd i9))))]) [0, 1] (by decide) rfl
      exact W.zret (v := bI (decide (kd sp = 2) || decide (kd sp = 3))) hx hb hr (zr_nar_b _) (fun t ht hW => ⟨⟨bI (decide (kd sp = 2) || decide (kd sp = 3)), (), rfl, rfl, by rw [ht]; exact hP9, va_K.moved hW.alike hK, hD9⟩, hS.F ht⟩) hS.2.2 dX0_hasBytes_25
set_option maxHeartbeats 4000000 in
set_option maxRecDepth 100000 in
theorem c_X0_setKind (l : Launch) (dC : Nat → ClassId) (dI : Nat → Nat → Nat) (sz : Nat) (h0 aN aL aK aC aT aO : Nat) (ld tb ob : Nat) (off : Bool) (wl : Int32) (wd : Int64) (cI : ClassId) (kd cn : Nat → Nat) (sp k : Nat) (hs : sp < 1056) (h4 : k < 4) (hk : kdOK kd) (hc : 1 ≤ cn (kd sp)) : Met l yX0_setKind wsX0_setKind ({ frames := 0, cells := 0, slots := 0, locals := 0 }) (va_Pc [.ref h0, .int (nI sp), .int (nI k)] (fun U => U.heap.size = sz ∧ va_P (dC, dI) vwCl [(h0, .inr (0, [.ref aN, .ref aL, .ref aK, .ref aC, .int (nI ld), .ref aT, .int (nI tb), .ref aO, .int (nI ob), .int (bI off), .int wl, .long wd])), (aK, .inl (cI, 1056, .inl (fun i9 => nI (kd i9)))), (aC, .inl (cI, 4, .inl (fun i9 => nI (cn i9))))] U.heap ∧ va_K (dC, dI) vwCl [(cI, .int)] U ∧ va_D (fun _ => True) [(h0, .inr (0, [.ref aN, .ref aL, .ref aK, .ref aC, .int (nI ld), .ref aT, .int (nI tb), .ref aO, .int (nI ob), .int (bI off), .int wl, .long wd])), (aK, .inl (cI, 1056, .inl (fun i9 => nI (kd i9)))), (aC, .inl (cI, 4, .inl (fun i9 => nI (cn i9))))])) (va_Qv (fun (_ : Unit) => True) (fun (_ : Unit) t => va_P (dC, dI) vwCl [(h0, .inr (0, [.ref aN, .ref aL, .ref aK, .ref aC, .int (nI ld), .ref aT, .int (nI tb), .ref aO, .int (nI ob), .int (bI off), .int wl, .long wd])), (aK, .inl (cI, 1056, .inl (fun i9 => nI ((va_up kd sp k) i9)))), (aC, .inl (cI, 4, .inl (fun i9 => nI ((skC cn kd sp k) i9))))] t.heap ∧ va_K (dC, dI) vwCl [(cI, .int)] t ∧ va_D (va_A [(h0, .inr (0, [.ref aN, .ref aL, .ref aK, .ref aC, .int (nI ld), .ref aT, .int (nI tb), .ref aO, .int (nI ob), .int (bI off), .int wl, .long wd])), (aK, .inl (cI, 1056, .inl (fun i9 => nI (kd i9)))), (aC, .inl (cI, 4, .inl (fun i9 => nI (cn i9))))] sz) [(h0, .inr (0, [.ref aN, .ref aL, .ref aK, .ref aC, .int (nI ld), .ref aT, .int (nI tb), .ref aO, .int (nI ob), .int (bI off), .int wl, .long wd])), (aK, .inl (cI, 1056, .inl (fun i9 => nI ((va_up kd sp k) i9)))), (aC, .inl (cI, 4, .inl (fun i9 => nI ((skC cn kd sp k) i9))))]) (va_A [(h0, .inr (0, [.ref aN, .ref aL, .ref aK, .ref aC, .int (nI ld), .ref aT, .int (nI tb), .ref aO, .int (nI ob), .int (bI off), .int wl, .long wd])), (aK, .inl (cI, 1056, .inl (fun i9 => nI (kd i9)))), (aC, .inl (cI, 4, .inl (fun i9 => nI (cn i9))))] sz)) 0 0 (va_A [(h0, .inr (0, [.ref aN, .ref aL, .ref aK, .ref aC, .int (nI ld), .ref aT, .int (nI tb), .ref aO, .int (nI ob), .int (bI off), .int wl, .long wd])), (aK, .inl (cI, 1056, .inl (fun i9 => nI (kd i9)))), (aC, .inl (cI, 4, .inl (fun i9 => nI (cn i9))))] sz) := by
  refine Met.ofW (cc := cX0_setKind) (maxL := 3) (ret := none) (by decide) rfl ?_
  intro p e s m args below meth c s₁ B hml hv
  obtain ⟨rfl, hsz, hP, hK, hD0⟩ := hv
  have hx := B.exec
  have hb := B.bytes
  have hr := B.returns
  have hts := atoms_spec (ws := wsX0_setKind) B.pre
  have hown : s.vm.findClass RX0 = some m.cls := findClass_of_methodNamed B.named
  have hlocks := B.notSynchronized
  subst hsz
  have hD := hD0.self (sz := s.heap.size)
  generalize hAe : va_A [(h0, .inr (0, [.ref aN, .ref aL, .ref aK, .ref aC, .int (nI ld), .ref aT, .int (nI tb), .ref aO, .int (nI ob), .int (bI off), .int wl, .long wd])), (aK, .inl (cI, 1056, .inl (fun i9 => nI (kd i9)))), (aC, .inl (cI, 4, .inl (fun i9 => nI (cn i9))))] s.heap.size = A at hD ⊢
  have hA : ∀ q : Nat, s.heap.size ≤ q → A q := fun q h => by rw [← hAe]; exact Or.inr h
  generalize hH : s.heap = H at hP ⊢
  have hS : va_S A s.heap H [] := by rw [hH]; exact va_S.rf
  replace hP : va_P (dC, dI) vwCl [(h0, .inr (0, [.ref aN, .ref aL, .ref aK, .ref aC, .int (nI ld), .ref aT, .int (nI tb), .ref aO, .int (nI ob), .int (bI off), .int wl, .long wd])), (aK, .inl (cI, 1056, .inl (fun i9 => nI (kd i9)))), (aC, .inl (cI, 4, .inl (fun i9 => nI (cn i9))))] H := hP
  have hl := lv_entry ([.ref h0, .int (nI sp), .int (nI k)]) (n := 3) (Nat.le_of_ble_eq_true rfl)
  rw [lg_entry_eq]
  generalize (lg_sl ([.ref h0, .int (nI sp), .int (nI k)]) ++ List.replicate (3 - (lg_sl ([.ref h0, .int (nI sp), .int (nI k)])).length) Slot.unset).toArray = ls at hl ⊢
  have hl : lv_has ls 3 [(0, .ref h0), (1, .int (nI sp)), (2, .int (nI k))] := hl
  have hi0 : ∀ w ∈ u_ws RX0 TX0 12, w ∈ wsX0_setKind := by decide +kernel
  refine lv_aload_n hx hb dX0_setKind_0 rfl (lv_at hl 0 rfl) ?_
  refine va_get (D := (dC, dI)) (ci := 0) (v := .ref aC) (C := RX0) (T := TX0) (N := 12) hx hb hts hi0 hown hK hP 0 rfl rfl 3 (by decide) (hts (.fieldLink RX0 26 "CellRack" "cellsOfKind" "[I") (by decide +kernel)) (fun _ h9 => h9) rfl dX0_setKind_1 ?_
  refine lv_aload_n hx hb dX0_setKind_4 rfl (lv_at hl 0 rfl) ?_
  refine va_get (D := (dC, dI)) (ci := 0) (v := .ref aK) (C := RX0) (T := TX0) (N := 12) hx hb hts hi0 hown hK hP 0 rfl rfl 2 (by decide) (hts (.fieldLink RX0 16 "CellRack" "kinds" "[I") (by decide +kernel)) (fun _ h9 => h9) rfl dX0_setKind_5 ?_
  refine lv_iload_n hx hb dX0_setKind_8 rfl (lv_at hl 1 rfl) ?_
  refine zr_nald hx hb hK hP 1 0 rfl rfl (by omega) (by omega) dX0_setKind_9 ?_
  refine lv_dup2_11 hx hb dX0_setKind_10 rfl rfl ?_
  refine zr_nald hx hb hK hP 2 0 rfl rfl (hk _) (by omega) dX0_setKind_11 ?_
  refine lv_iconst (v := nI 1) hx hb dX0_setKind_12 (by decide) ?_
  refine zr_isub hx hb (by omega) dX0_setKind_13 ?_
  refine zr_nast hx hb hK hP hD hS 2 0 rfl rfl (hk _) (by omega) dX0_setKind_14 (fun H locs hP hD hS => ?_)
  replace hP : va_P (dC, dI) vwCl [(h0, .inr (0, [.ref aN, .ref aL, .ref aK, .ref aC, .int (nI ld), .ref aT, .int (nI tb), .ref aO, .int (nI ob), .int (bI off), .int wl, .long wd])), (aK, .inl (cI, 1056, .inl (fun i9 => nI (kd i9)))), (aC, .inl (cI, 4, .inl (fun i9 => nI ((va_up cn (kd sp) ((cn (kd sp)) - 1)) i9))))] H := hP
  replace hD : va_D A [(h0, .inr (0, [.ref aN, .ref aL, .ref aK, .ref aC, .int (nI ld), .ref aT, .int (nI tb), .ref aO, .int (nI ob), .int (bI off), .int wl, .long wd])), (aK, .inl (cI, 1056, .inl (fun i9 => nI (kd i9)))), (aC, .inl (cI, 4, .inl (fun i9 => nI ((va_up cn (kd sp) ((cn (kd sp)) - 1)) i9))))] := hD
  refine lv_aload_n hx hb dX0_setKind_15 rfl (lv_at hl 0 rfl) ?_
  refine va_get (D := (dC, dI)) (ci := 0) (v := .ref aK) (C := RX0) (T := TX0) (N := 12) hx hb hts hi0 hown hK hP 0 rfl rfl 2 (by decide) (hts (.fieldLink RX0 16 "CellRack" "kinds" "[I") (by decide +kernel)) (fun _ h9 => h9) rfl dX0_setKind_16 ?_
  refine lv_iload_n hx hb dX0_setKind_19 rfl (lv_at hl 1 rfl) ?_
  refine lv_iload_n hx hb dX0_setKind_20 rfl (lv_at hl 2 rfl) ?_
  refine zr_nast hx hb hK hP hD hS 1 0 rfl rfl (by omega) (by omega) dX0_setKind_21 (fun H locs hP hD hS => ?_)
  replace hP : va_P (dC, dI) vwCl [(h0, .inr (0, [.ref aN, .ref aL, .ref aK, .ref aC, .int (nI ld), .ref aT, .int (nI tb), .ref aO, .int (nI ob), .int (bI off), .int wl, .long wd])), (aK, .inl (cI, 1056, .inl (fun i9 => nI ((va_up kd sp k) i9)))), (aC, .inl (cI, 4, .inl (fun i9 => nI ((va_up cn (kd sp) ((cn (kd sp)) - 1)) i9))))] H := hP
  replace hD : va_D A [(h0, .inr (0, [.ref aN, .ref aL, .ref aK, .ref aC, .int (nI ld), .ref aT, .int (nI tb), .ref aO, .int (nI ob), .int (bI off), .int wl, .long wd])), (aK, .inl (cI, 1056, .inl (fun i9 => nI ((va_up kd sp k) i9)))), (aC, .inl (cI, 4, .inl (fun i9 => nI ((va_up cn (kd sp) ((cn (kd sp)) - 1)) i9))))] := hD
  refine lv_aload_n hx hb dX0_setKind_22 rfl (lv_at hl 0 rfl) ?_
  refine va_get (D := (dC, dI)) (ci := 0) (v := .ref aC) (C := RX0) (T := TX0) (N := 12) hx hb hts hi0 hown hK hP 0 rfl rfl 3 (by decide) (hts (.fieldLink RX0 26 "CellRack" "cellsOfKind" "[I") (by decide +kernel)) (fun _ h9 => h9) rfl dX0_setKind_23 ?_
  refine lv_iload_n hx hb dX0_setKind_26 rfl (lv_at hl 2 rfl) ?_
  refine lv_dup2_11 hx hb dX0_setKind_27 rfl rfl ?_
  refine zr_nald hx hb hK hP 2 0 rfl rfl (by omega) (by omega) dX0_setKind_28 ?_
  refine lv_iconst (v := nI 1) hx hb dX0_setKind_29 (by decide) ?_
  refine zr_iadd hx hb dX0_setKind_30 ?_
  refine zr_nast hx hb hK hP hD hS 2 0 rfl rfl (by omega) (by omega) dX0_setKind_31 (fun H locs hP hD hS => ?_)
  replace hP : va_P (dC, dI) vwCl [(h0, .inr (0, [.ref aN, .ref aL, .ref aK, .ref aC, .int (nI ld), .ref aT, .int (nI tb), .ref aO, .int (nI ob), .int (bI off), .int wl, .long wd])), (aK, .inl (cI, 1056, .inl (fun i9 => nI ((va_up kd sp k) i9)))), (aC, .inl (cI, 4, .inl (fun i9 => nI ((va_up (va_up cn (kd sp) ((cn (kd sp)) - 1)) k (((va_up cn (kd sp) ((cn (kd sp)) - 1)) k) + 1)) i9))))] H := hP
  replace hD : va_D A [(h0, .inr (0, [.ref aN, .ref aL, .ref aK, .ref aC, .int (nI ld), .ref aT, .int (nI tb), .ref aO, .int (nI ob), .int (bI off), .int wl, .long wd])), (aK, .inl (cI, 1056, .inl (fun i9 => nI ((va_up kd sp k) i9)))), (aC, .inl (cI, 4, .inl (fun i9 => nI ((va_up (va_up cn (kd sp) ((cn (kd sp)) - 1)) k (((va_up cn (kd sp) ((cn (kd sp)) - 1)) k) + 1)) i9))))] := hD
  have hP9 := hP.sub (ws' := [(h0, .inr (0, [.ref aN, .ref aL, .ref aK, .ref aC, .int (nI ld), .ref aT, .int (nI tb), .ref aO, .int (nI ob), .int (bI off), .int wl, .long wd])), (aK, .inl (cI, 1056, .inl (fun i9 => nI ((va_up kd sp k) i9)))), (aC, .inl (cI, 4, .inl (fun i9 => nI ((skC cn kd sp k) i9))))]) [0, 1, 2] rfl
  have hD9 := hD.sub (ws' := [(h0, .inr (0, [.ref aN, .ref aL, .ref aK, .ref aC, .int (nI ld), .ref aT, .int (nI tb), .ref aO, .int (nI ob), .int (bI off), .int wl, .long wd])), (aK, .inl (cI, 1056, .inl (fun i9 => nI ((va_up kd sp k) i9)))), (aC, .inl (cI, 4, .inl (fun i9 => nI ((skC cn kd sp k) i9))))]) [0, 1, 2] (by decide) rfl
  exact W.vret hx hb hr (fun t ht hW => ⟨⟨(), rfl, trivial, by rw [ht]; exact hP9, va_K.moved hW.alike hK, hD9⟩, hS.F ht⟩) hS.2.2 dX0_setKind_32
set_option maxHeartbeats 4000000 in
set_option maxRecDepth 100000 in
theorem lp_X0_setKindOfAll {p : Program} {l : Launch} {e : Env} {R : Room} {s : State} {m : MethodId} {args : Array Value} {below : List Frame} {meth : Method} {c : Code} {cells slots : Nat} {Q : State → Prop} {A : Nat → Prop} {H0 : Heap} {dC : Nat → ClassId} {dI : Nat → Nat → Nat} (h0 aN aL aK aC aT aO : Nat) (ld tb ob : Nat) (off : Bool) (wl : Int32) (wd : Int64) (cI : ClassId) (kd cn : Nat → Nat) (di k : Nat) (hd : di < 16) (h4 : k < 4) (hk : kdOK kd) (hc : cnOK kd cn) (hx : p.tables.exec = Jvm.exec) (hb : c.code = cX0_setKindOfAll) (hml : c.maxLocals = 4) (hown : s.vm.findClass RX0 = some m.cls) (hts : ∀ w ∈ wsX0_setKindOfAll, w.before args s = true) (hA : ∀ q : Nat, H0.size ≤ q → A q) (hK : va_K (dC, dI) vwCl [(cI, .int)] s) (hRf : 1 ≤ R.frames) (hRl : 22 ≤ R.locals) (hRc : cells ≤ R.cells) (hRs : slots ≤ R.slots) (kk : ∀  (H : Heap) (locs : List Loc) (ls : Array Slot), va_P (dC, dI) vwCl [(h0, .inr (0, [.ref aN, .ref aL, .ref aK, .ref aC, .int (nI ld), .ref aT, .int (nI tb), .ref aO, .int (nI ob), .int (bI off), .int wl, .long wd])), (aK, .inl (cI, 1056, .inl (fun i9 => nI ((skK kd di k 66) i9)))), (aC, .inl (cI, 4, .inl (fun i9 => nI ((skN kd cn di k 66) i9))))] H → va_D A [(h0, .inr (0, [.ref aN, .ref aL, .ref aK, .ref aC, .int (nI ld), .ref aT, .int (nI tb), .ref aO, .int (nI ob), .int (bI off), .int wl, .long wd])), (aK, .inl (cI, 1056, .inl (fun i9 => nI ((skK kd di k 66) i9)))), (aC, .inl (cI, 4, .inl (fun i9 => nI ((skN kd cn di k 66) i9))))] → va_S A H0 H locs → lv_has ls 4 [(0, .ref h0), (1, .int (nI di)), (2, .int (nI k)), (3, .int (nI 66))] → W p l e R s m args below meth c H locs cells slots Q (F0 m 24 ls [])) : ∀ (n : Nat) (i : Nat), 66 + 1 ≤ i + n → i ≤ 66 → ∀ (H : Heap) (locs : List Loc) (ls : Array Slot), va_P (dC, dI) vwCl [(h0, .inr (0, [.ref aN, .ref aL, .ref aK, .ref aC, .int (nI ld), .ref aT, .int (nI tb), .ref aO, .int (nI ob), .int (bI off), .int wl, .long wd])), (aK, .inl (cI, 1056, .inl (fun i9 => nI ((skK kd di k i) i9)))), (aC, .inl (cI, 4, .inl (fun i9 => nI ((skN kd cn di k i) i9))))] H → va_D A [(h0, .inr (0, [.ref aN, .ref aL, .ref aK, .ref aC, .int (nI ld), .ref aT, .int (nI tb), .ref aO, .int (nI ob), .int (bI off), .int wl, .long wd])), (aK, .inl (cI, 1056, .inl (fun i9 => nI ((skK kd di k i) i9)))), (aC, .inl (cI, 4, .inl (fun i9 => nI ((skN kd cn di k i) i9))))] → va_S A H0 H locs → lv_has ls 4 [(0, .ref h0), (1, .int (nI di)), (2, .int (nI k)), (3, .int (nI i))] → W p l e R s m args below meth c H locs cells slots Q (F0 m 2 ls []) := by
  intro n
  induction n with
  | zero => intro i  hm hi; exact absurd hm (by omega)
  | succ n ih =>
    intro i  hm hi H locs ls hP hD hS hl
    refine lv_iload_n hx hb dX0_setKindOfAll_2 rfl (lv_at hl 3 rfl) ?_
    refine lv_bipush (v := nI 66) hx hb dX0_setKindOfAll_3 (by decide) ?_
    refine zr_icmp_ge (tgt := 24) hx hb (by omega) (by omega) dX0_setKindOfAll_5 (by decide) (fun c5 => ?_) (fun c5 => ?_)
    · obtain rfl : 66 = i := by omega
      exact kk  H locs ls (hP.sub [0, 1, 2] rfl) (hD.sub [0, 1, 2] (by decide) rfl) hS (lv_sub hl [0, 1, 2, 3] rfl)
    · refine lv_aload_n hx hb dX0_setKindOfAll_8 rfl (lv_at hl 0 rfl) ?_
      refine lv_iload_n hx hb dX0_setKindOfAll_9 rfl (lv_at hl 1 rfl) ?_
      refine lv_iload_n hx hb dX0_setKindOfAll_10 rfl (lv_at hl 3 rfl) ?_
      have hPc := hP.sub (ws' := []) [] rfl
      have hDc := hD.sub (ws' := []) [] (by decide) rfl
      have hKc := hK.sub (tys' := []) [] rfl
      have hFc := va_free (wc := []) hD hS hA [] rfl
      refine va_calli (va_runS (As := [.int (nI di), .int (nI i)]) (rest := [.ref h0]) ⟨hx, hb, hml, hown, hts⟩ (c_X0_spotOf l dC dI H.size di i) (va_cwS 2 hts gX0_setKindOfAll_X0_spotOf rfl rfl rfl (by decide +kernel) ⟨Nat.le_trans (by decide) hRf, Nat.le_trans (by decide) hRl⟩) ⟨fun a U g mk q => by obtain ⟨q0, q1, qP, qK, qD⟩ := q; exact ⟨q0, q1, qP, va_K.moved (u := U) (U := U.calling g mk a) (Vm.Alike.refl U.vm) qK, qD⟩, fun U hU hW => ⟨rfl, by rw [hU], by rw [hU]; exact hPc, va_K.moved hW.alike hKc, hDc.weaken (fun _ _ _ _ => trivial)⟩⟩ rfl rfl hl.1 rfl (lv_room (Nat.le_of_ble_eq_true rfl)) dX0_setKindOfAll_11 ⟨hRc, hRs⟩) hS (fun q _ h => hFc q h) hFc (fun r_1 u t H1 locs ht hvm hw hB hz1 hk1 hS => ?_)
      obtain ⟨hP1, hK1, hD1⟩ := hB
      rw [ht] at hP1
      obtain ⟨hPn, hDn⟩ := va_join (wr := [(h0, .inr (0, [.ref aN, .ref aL, .ref aK, .ref aC, .int (nI ld), .ref aT, .int (nI tb), .ref aO, .int (nI ob), .int (bI off), .int wl, .long wd])), (aK, .inl (cI, 1056, .inl (fun i9 => nI ((skK kd di k i) i9)))), (aC, .inl (cI, 4, .inl (fun i9 => nI ((skN kd cn di k i) i9))))]) (w1 := []) hP hD [] [0, 1, 2] rfl rfl (by decide) (by decide) hk1 hFc hP1 hD1
      clear hP hD hP1 hD1 hK1 hPc hDc hKc hFc hk1 hz1 hvm ht
      generalize H1 = H at hPn hS ⊢
      have hP := hPn
      have hD := hDn
      clear hPn hDn
      replace hP : va_P (dC, dI) vwCl [(h0, .inr (0, [.ref aN, .ref aL, .ref aK, .ref aC, .int (nI ld), .ref aT, .int (nI tb), .ref aO, .int (nI ob), .int (bI off), .int wl, .long wd])), (aK, .inl (cI, 1056, .inl (fun i9 => nI ((skK kd di k i) i9)))), (aC, .inl (cI, 4, .inl (fun i9 => nI ((skN kd cn di k i) i9))))] H := hP
      replace hD : va_D A [(h0, .inr (0, [.ref aN, .ref aL, .ref aK, .ref aC, .int (nI ld), .ref aT, .int (nI tb), .ref aO, .int (nI ob), .int (bI off), .int wl, .long wd])), (aK, .inl (cI, 1056, .inl (fun i9 => nI ((skK kd di k i) i9)))), (aC, .inl (cI, 4, .inl (fun i9 => nI ((skN kd cn di k i) i9))))] := hD
      refine W.widen (k := cells) (n := slots) (Nat.le_refl _) (Nat.le_refl _) ?_
      obtain rfl := hw
      refine lv_iload_n hx hb dX0_setKindOfAll_14 rfl (lv_at hl 2 rfl) ?_
      have hPc := hP.sub (ws' := [(h0, .inr (0, [.ref aN, .ref aL, .ref aK, .ref aC, .int (nI ld), .ref aT, .int (nI tb), .ref aO, .int (nI ob), .int (bI off), .int wl, .long wd])), (aK, .inl (cI, 1056, .inl (fun i9 => nI ((skK kd di k i) i9)))), (aC, .inl (cI, 4, .inl (fun i9 => nI ((skN kd cn di k i) i9))))]) [0, 1, 2] rfl
      have hDc := hD.sub (ws' := [(h0, .inr (0, [.ref aN, .ref aL, .ref aK, .ref aC, .int (nI ld), .ref aT, .int (nI tb), .ref aO, .int (nI ob), .int (bI off), .int wl, .long wd])), (aK, .inl (cI, 1056, .inl (fun i9 => nI ((skK kd di k i) i9)))), (aC, .inl (cI, 4, .inl (fun i9 => nI ((skN kd cn di k i) i9))))]) [0, 1, 2] (by decide) rfl
      have hKc := hK.sub (tys' := [(cI, .int)]) [0] rfl
      have hFc := va_free (wc := [(h0, .inr (0, [.ref aN, .ref aL, .ref aK, .ref aC, .int (nI ld), .ref aT, .int (nI tb), .ref aO, .int (nI ob), .int (bI off), .int wl, .long wd])), (aK, .inl (cI, 1056, .inl (fun i9 => nI ((skK kd di k i) i9)))), (aC, .inl (cI, 4, .inl (fun i9 => nI ((skN kd cn di k i) i9))))]) hD hS hA [0, 1, 2] rfl
      refine va_callv (va_runV (As := [.int (nI (di * 66 + i)), .int (nI k)]) (rest := []) ⟨hx, hb, hml, hown, hts⟩ (c_X0_setKind l dC dI H.size h0 aN aL aK aC aT aO ld tb ob off wl wd cI (skK kd di k i) (skN kd cn di k i) (di * 66 + i) k (by omega) h4 (sk_ok hk hc hd h4 i (by omega)).1 (cnOK_pos (sk_ok hk hc hd h4 i (by omega)).2 (by omega) ((sk_ok hk hc hd h4 i (by omega)).1 _))) (cwV 2 hts gX0_setKindOfAll_X0_setKind rfl rfl rfl (by decide +kernel) ⟨Nat.le_trans (by decide) hRf, Nat.le_trans (by decide) hRl⟩) ⟨fun a U g mk q => by obtain ⟨q0, q1, qP, qK, qD⟩ := q; exact ⟨q0, q1, qP, va_K.moved (u := U) (U := U.calling g mk a) (Vm.Alike.refl U.vm) qK, qD⟩, va_recv hKc hPc (ci := 0) (q0 := 0) rfl rfl, fun U hU hW => ⟨rfl, by rw [hU], by rw [hU]; exact hPc, va_K.moved hW.alike hKc, hDc.weaken (fun _ _ _ _ => trivial)⟩⟩ rfl rfl hl.1 rfl (lv_room (Nat.le_of_ble_eq_true rfl)) dX0_setKindOfAll_15 ⟨hRc, hRs⟩) hS (fun q _ h => hFc q h) hFc (fun u t H1 locs ht hvm hw hB hz1 hk1 hS => ?_)
      obtain ⟨hP1, hK1, hD1⟩ := hB
      rw [ht] at hP1
      obtain ⟨hPn, hDn⟩ := va_join (wr := []) (w1 := [(h0, .inr (0, [.ref aN, .ref aL, .ref aK, .ref aC, .int (nI ld), .ref aT, .int (nI tb), .ref aO, .int (nI ob), .int (bI off), .int wl, .long wd])), (aK, .inl (cI, 1056, .inl (fun i9 => nI ((va_up (skK kd di k i) (di * 66 + i) k) i9)))), (aC, .inl (cI, 4, .inl (fun i9 => nI ((skC (skN kd cn di k i) (skK kd di k i) (di * 66 + i) k) i9))))]) hP hD [0, 1, 2] [] rfl rfl (by decide) (by decide) hk1 hFc hP1 hD1
      clear hP hD hP1 hD1 hK1 hPc hDc hKc hFc hk1 hz1 hvm ht
      generalize H1 = H at hPn hS ⊢
      have hP := hPn
      have hD := hDn
      clear hPn hDn
      replace hP : va_P (dC, dI) vwCl [(h0, .inr (0, [.ref aN, .ref aL, .ref aK, .ref aC, .int (nI ld), .ref aT, .int (nI tb), .ref aO, .int (nI ob), .int (bI off), .int wl, .long wd])), (aK, .inl (cI, 1056, .inl (fun i9 => nI ((va_up (skK kd di k i) (di * 66 + i) k) i9)))), (aC, .inl (cI, 4, .inl (fun i9 => nI ((skC (skN kd cn di k i) (skK kd di k i) (di * 66 + i) k) i9))))] H := hP
      replace hD : va_D A [(h0, .inr (0, [.ref aN, .ref aL, .ref aK, .ref aC, .int (nI ld), .ref aT, .int (nI tb), .ref aO, .int (nI ob), .int (bI off), .int wl, .long wd])), (aK, .inl (cI, 1056, .inl (fun i9 => nI ((va_up (skK kd di k i) (di * 66 + i) k) i9)))), (aC, .inl (cI, 4, .inl (fun i9 => nI ((skC (skN kd cn di k i) (skK kd di k i) (di * 66 + i) k) i9))))] := hD
      refine W.widen (k := cells) (n := slots) (Nat.le_refl _) (Nat.le_refl _) ?_
      refine lv_iinc (v := nI (i + 1)) (lv' := [(3, .int (nI (i + 1))), (0, .ref h0), (1, .int (nI di)), (2, .int (nI k))]) hx hb dX0_setKindOfAll_18 hl (k := 3) rfl (nI_add (i) 1) (by decide) rfl (fun ls hl => ?_)
      refine lv_goto (tgt := 2) hx hb dX0_setKindOfAll_21 (by decide) ?_
      exact ih (i + 1) (by omega) (by omega) H locs ls (hP.sub [0, 1, 2] rfl) (hD.sub [0, 1, 2] (by decide) rfl) hS (lv_sub hl [1, 2, 3, 0] rfl)
set_option maxHeartbeats 4000000 in
set_option maxRecDepth 100000 in
theorem c_X0_setKindOfAll (l : Launch) (dC : Nat → ClassId) (dI : Nat → Nat → Nat) (sz : Nat) (h0 aN aL aK aC aT aO : Nat) (ld tb ob : Nat) (off : Bool) (wl : Int32) (wd : Int64) (cI : ClassId) (kd cn : Nat → Nat) (di k : Nat) (hd : di < 16) (h4 : k < 4) (hk : kdOK kd) (hc : cnOK kd cn) : Met l yX0_setKindOfAll wsX0_setKindOfAll ({ frames := 1, cells := 0, slots := 0, locals := 22 }) (va_Pc [.ref h0, .int (nI di), .int (nI k)] (fun U => U.heap.size = sz ∧ va_P (dC, dI) vwCl [(h0, .inr (0, [.ref aN, .ref aL, .ref aK, .ref aC, .int (nI ld), .ref aT, .int (nI tb), .ref aO, .int (nI ob), .int (bI off), .int wl, .long wd])), (aK, .inl (cI, 1056, .inl (fun i9 => nI (kd i9)))), (aC, .inl (cI, 4, .inl (fun i9 => nI (cn i9))))] U.heap ∧ va_K (dC, dI) vwCl [(cI, .int)] U ∧ va_D (fun _ => True) [(h0, .inr (0, [.ref aN, .ref aL, .ref aK, .ref aC, .int (nI ld), .ref aT, .int (nI tb), .ref aO, .int (nI ob), .int (bI off), .int wl, .long wd])), (aK, .inl (cI, 1056, .inl (fun i9 => nI (kd i9)))), (aC, .inl (cI, 4, .inl (fun i9 => nI (cn i9))))])) (va_Qv (fun (_ : Unit) => True) (fun (_ : Unit) t => va_P (dC, dI) vwCl [(h0, .inr (0, [.ref aN, .ref aL, .ref aK, .ref aC, .int (nI ld), .ref aT, .int (nI tb), .ref aO, .int (nI ob), .int (bI off), .int wl, .long wd])), (aK, .inl (cI, 1056, .inl (fun i9 => nI ((skK kd di k 66) i9)))), (aC, .inl (cI, 4, .inl (fun i9 => nI ((skN kd cn di k 66) i9))))] t.heap ∧ va_K (dC, dI) vwCl [(cI, .int)] t ∧ va_D (va_A [(h0, .inr (0, [.ref aN, .ref aL, .ref aK, .ref aC, .int (nI ld), .ref aT, .int (nI tb), .ref aO, .int (nI ob), .int (bI off), .int wl, .long wd])), (aK, .inl (cI, 1056, .inl (fun i9 => nI (kd i9)))), (aC, .inl (cI, 4, .inl (fun i9 => nI (cn i9))))] sz) [(h0, .inr (0, [.ref aN, .ref aL, .ref aK, .ref aC, .int (nI ld), .ref aT, .int (nI tb), .ref aO, .int (nI ob), .int (bI off), .int wl, .long wd])), (aK, .inl (cI, 1056, .inl (fun i9 => nI ((skK kd di k 66) i9)))), (aC, .inl (cI, 4, .inl (fun i9 => nI ((skN kd cn di k 66) i9))))]) (va_A [(h0, .inr (0, [.ref aN, .ref aL, .ref aK, .ref aC, .int (nI ld), .ref aT, .int (nI tb), .ref aO, .int (nI ob), .int (bI off), .int wl, .long wd])), (aK, .inl (cI, 1056, .inl (fun i9 => nI (kd i9)))), (aC, .inl (cI, 4, .inl (fun i9 => nI (cn i9))))] sz)) 0 0 (va_A [(h0, .inr (0, [.ref aN, .ref aL, .ref aK, .ref aC, .int (nI ld), .ref aT, .int (nI tb), .ref aO, .int (nI ob), .int (bI off), .int wl, .long wd])), (aK, .inl (cI, 1056, .inl (fun i9 => nI (kd i9)))), (aC, .inl (cI, 4, .inl (fun i9 => nI (cn i9))))] sz) := by
  refine Met.ofW (cc := cX0_setKindOfAll) (maxL := 4) (ret := none) (by decide) rfl ?_
  intro p e s m args below meth c s₁ B hml hv
  obtain ⟨rfl, hsz, hP, hK, hD0⟩ := hv
  have hx := B.exec
  have hb := B.bytes
  have hr := B.returns
  have hts := atoms_spec (ws := wsX0_setKindOfAll) B.pre
  have hown : s.vm.findClass RX0 = some m.cls := findClass_of_methodNamed B.named
  have hlocks := B.notSynchronized
  subst hsz
  have hD := hD0.self (sz := s.heap.size)
  generalize hAe : va_A [(h0, .inr (0, [.ref aN, .ref aL, .ref aK, .ref aC, .int (nI ld), .ref aT, .int (nI tb), .ref aO, .int (nI ob), .int (bI off), .int wl, .long wd])), (aK, .inl (cI, 1056, .inl (fun i9 => nI (kd i9)))), (aC, .inl (cI, 4, .inl (fun i9 => nI (cn i9))))] s.heap.size = A at hD ⊢
  have hA : ∀ q : Nat, s.heap.size ≤ q → A q := fun q h => by rw [← hAe]; exact Or.inr h
  generalize hH : s.heap = H at hP ⊢
  have hS : va_S A s.heap H [] := by rw [hH]; exact va_S.rf
  replace hP : va_P (dC, dI) vwCl [(h0, .inr (0, [.ref aN, .ref aL, .ref aK, .ref aC, .int (nI ld), .ref aT, .int (nI tb), .ref aO, .int (nI ob), .int (bI off), .int wl, .long wd])), (aK, .inl (cI, 1056, .inl (fun i9 => nI (kd i9)))), (aC, .inl (cI, 4, .inl (fun i9 => nI (cn i9))))] H := hP
  have hl := lv_entry ([.ref h0, .int (nI di), .int (nI k)]) (n := 4) (Nat.le_of_ble_eq_true rfl)
  rw [lg_entry_eq]
  generalize (lg_sl ([.ref h0, .int (nI di), .int (nI k)]) ++ List.replicate (4 - (lg_sl ([.ref h0, .int (nI di), .int (nI k)])).length) Slot.unset).toArray = ls at hl ⊢
  have hl : lv_has ls 4 [(0, .ref h0), (1, .int (nI di)), (2, .int (nI k))] := hl
  refine lv_iconst (v := nI 0) hx hb dX0_setKindOfAll_0 (by decide) ?_
  refine lv_istore_n (lv' := [(3, .int (nI 0)), (0, .ref h0), (1, .int (nI di)), (2, .int (nI k))]) hx hb dX0_setKindOfAll_1 rfl hl (by decide) rfl (fun ls hl => ?_)
  refine lp_X0_setKindOfAll h0 aN aL aK aC aT aO ld tb ob off wl wd cI kd cn di k hd h4 hk hc hx hb hml hown hts hA hK (Nat.le_of_ble_eq_true rfl) (Nat.le_of_ble_eq_true rfl) (Nat.zero_le _) (Nat.zero_le _) (fun  H locs ls hP hD hS hl => ?_) 67 0 (by omega) (by omega) _ _ _ (hP.sub [0, 1, 2] rfl) (hD.sub [0, 1, 2] (by decide) rfl) hS (lv_sub hl [1, 2, 3, 0] rfl)
  have hP9 := hP.sub (ws' := [(h0, .inr (0, [.ref aN, .ref aL, .ref aK, .ref aC, .int (nI ld), .ref aT, .int (nI tb), .ref aO, .int (nI ob), .int (bI off), .int wl, .long wd])), (aK, .inl (cI, 1056, .inl (fun i9 => nI ((skK kd di k 66) i9)))), (aC, .inl (cI, 4, .inl (fun i9 => nI ((skN kd cn di k 66) i9))))]) [0, 1, 2] rfl
  have hD9 := hD.sub (ws' := [(h0, .inr (0, [.ref aN, .ref aL, .ref aK, .ref aC, .int (nI ld), .ref aT, .int (nI tb), .ref aO, .int (nI ob), .int (bI off), .int wl, .long wd])), (aK, .inl (cI, 1056, .inl (fun i9 => nI ((skK kd di k 66) i9)))), (aC, .inl (cI, 4, .inl (fun i9 => nI ((skN kd cn di k 66) i9))))]) [0, 1, 2] (by decide) rfl
  exact W.vret hx hb hr (fun t ht hW => ⟨⟨(), rfl, trivial, by rw [ht]; exact hP9, va_K.moved hW.alike hK, hD9⟩, hS.F ht⟩) hS.2.2 dX0_setKindOfAll_24
