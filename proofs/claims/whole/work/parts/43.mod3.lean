set_option maxHeartbeats 4000000 in
set_option maxRecDepth 100000 in
theorem lp_X1_isDamaged {p : Program} {l : Launch} {e : Env} {R : Room} {s : State} {m : MethodId} {args : Array Value} {below : List Frame} {meth : Method} {c : Code} {cells slots : Nat} {Q : State → Prop} {A : Nat → Prop} {H0 : Heap} {dC : Nat → ClassId} {dI : Nat → Nat → Nat} (g0 bT bO bL bW bB bD bX : Nat) (th tp os : Nat) (dn lf : Int64) (mf : Bool) (cB : ClassId) (dm : Nat → BitVec 8) (pl : Nat) (hp : pl < 1056) (hx : p.tables.exec = Jvm.exec) (hb : c.code = cX1_isDamaged) (hml : c.maxLocals = 4) (hown : s.vm.findClass RX1 = some m.cls) (hts : ∀ w ∈ wsX1_isDamaged, w.before args s = true) (hA : ∀ q : Nat, H0.size ≤ q → A q) (hK : va_K (dC, dI) vwCl [(cB, .byte)] s) (kk : ∀  (H : Heap) (locs : List Loc) (ls : Array Slot), va_P (dC, dI) vwCl [(g0, .inr (1, [.int (nI th), .ref bT, .int (nI tp), .ref bO, .int (nI os), .ref bL, .ref bW, .ref bB, .ref bD, .long dn, .long lf, .int (bI mf), .ref bX])), (bD, .inl (cB, 73920, .inl (fun i9 => sx (dm i9))))] H → va_D A [(g0, .inr (1, [.int (nI th), .ref bT, .int (nI tp), .ref bO, .int (nI os), .ref bL, .ref bW, .ref bB, .ref bD, .long dn, .long lf, .int (bI mf), .ref bX])), (bD, .inl (cB, 73920, .inl (fun i9 => sx (dm i9))))] → va_S A H0 H locs → lv_has ls 4 [(2, .int (bI (dgR dm pl 70)))] → W p l e R s m args below meth c H locs cells slots Q (F0 m 40 ls [])) : ∀ (n : Nat) (k : Nat), 70 + 1 ≤ k + n → k ≤ 70 → ∀ (H : Heap) (locs : List Loc) (ls : Array Slot), va_P (dC, dI) vwCl [(g0, .inr (1, [.int (nI th), .ref bT, .int (nI tp), .ref bO, .int (nI os), .ref bL, .ref bW, .ref bB, .ref bD, .long dn, .long lf, .int (bI mf), .ref bX])), (bD, .inl (cB, 73920, .inl (fun i9 => sx (dm i9))))] H → va_D A [(g0, .inr (1, [.int (nI th), .ref bT, .int (nI tp), .ref bO, .int (nI os), .ref bL, .ref bW, .ref bB, .ref bD, .long dn, .long lf, .int (bI mf), .ref bX])), (bD, .inl (cB, 73920, .inl (fun i9 => sx (dm i9))))] → va_S A H0 H locs → lv_has ls 4 [(0, .ref g0), (1, .int (nI pl)), (2, .int (bI (dgR dm pl k))), (3, .int (nI k))] → W p l e R s m args below meth c H locs cells slots Q (F0 m 4 ls []) := by
  have hi1 : ∀ w ∈ u_ws RX1 TX1 13, w ∈ wsX1_isDamaged := by decide +kernel
  intro n
  induction n with
  | zero => intro k  hm hi; exact absurd hm (by omega)
  | succ n ih =>
    intro k  hm hi H locs ls hP hD hS hl
    refine lv_iload_n hx hb dX1_isDamaged_4 rfl (lv_at hl 3 rfl) ?_
    refine lv_bipush (v := nI 70) hx hb dX1_isDamaged_5 (by decide) ?_
    refine zr_icmp_ge (tgt := 40) hx hb (by omega) (by omega) dX1_isDamaged_7 (by decide) (fun c7 => ?_) (fun c7 => ?_)
    · obtain rfl : 70 = k := by omega
      exact kk  H locs ls (hP.sub [0, 1] rfl) (hD.sub [0, 1] (by decide) rfl) hS (lv_sub hl [2] rfl)
    · refine lv_iload_n hx hb dX1_isDamaged_10 rfl (lv_at hl 2 rfl) ?_
      refine zr_ifb_ne (tgt := 28) hx hb dX1_isDamaged_11 (by decide) (fun c11 => ?_) (fun c11 => ?_)
      · refine lv_iconst (v := nI 1) hx hb dX1_isDamaged_28 (by decide) ?_
        refine lv_goto (tgt := 33) hx hb dX1_isDamaged_29 (by decide) ?_
        refine zr_topi (bI (dgR dm pl (k + 1))) (by first | (show nI 1 = bI (dgR dm pl k || _); rw [show dgR dm pl k = true from c11]; rfl) | (show nI 1 = bI (dgR dm pl k || !decide (dm (70 * pl + k) = 0)); rw [decide_eq_false (fun q => c25 (sx_0.mpr q))]; simp [bI]; rfl)) ?_
        refine lv_istore_n (lv' := [(2, .int (bI (dgR dm pl (k + 1)))), (0, .ref g0), (1, .int (nI pl)), (3, .int (nI k))]) hx hb dX1_isDamaged_33 rfl hl (by decide) rfl (fun ls hl => ?_)
        refine lv_iinc (v := nI (k + 1)) (lv' := [(3, .int (nI (k + 1))), (2, .int (bI (dgR dm pl (k + 1)))), (0, .ref g0), (1, .int (nI pl))]) hx hb dX1_isDamaged_34 hl (k := 3) rfl (nI_add (k) 1) (by decide) rfl (fun ls hl => ?_)
        refine lv_goto (tgt := 4) hx hb dX1_isDamaged_37 (by decide) ?_
        exact ih (k + 1) (by omega) (by omega) H locs ls (hP.sub [0, 1] rfl) (hD.sub [0, 1] (by decide) rfl) hS (lv_sub hl [2, 3, 1, 0] rfl)
      · refine lv_aload_n hx hb dX1_isDamaged_14 rfl (lv_at hl 0 rfl) ?_
        refine va_get (D := (dC, dI)) (ci := 1) (v := .ref bD) (C := RX1) (T := TX1) (N := 13) hx hb hts hi1 hown hK hP 0 rfl rfl 8 (by decide) (hts (.fieldLink RX1 28 "CellRackModel" "damage" "[B") (by decide +kernel)) (fun _ h9 => h9) rfl dX1_isDamaged_15 ?_
        refine lv_bipush (v := nI 70) hx hb dX1_isDamaged_18 (by decide) ?_
        refine lv_iload_n hx hb dX1_isDamaged_20 rfl (lv_at hl 1 rfl) ?_
        refine zr_imul hx hb dX1_isDamaged_21 ?_
        refine lv_iload_n hx hb dX1_isDamaged_22 rfl (lv_at hl 3 rfl) ?_
        refine zr_iadd hx hb dX1_isDamaged_23 ?_
        refine zr_xald hx hb hK hP 1 0 rfl rfl (by omega) (by omega) dX1_isDamaged_24 ?_
        refine lv_if_eq (tgt := 32) hx hb dX1_isDamaged_25 (by decide) (fun c25 => ?_) (fun c25 => ?_)
        · refine lv_iconst (v := nI 0) hx hb dX1_isDamaged_32 (by decide) ?_
          refine zr_topi (bI (dgR dm pl (k + 1))) (by show nI 0 = bI (dgR dm pl k || !decide (dm (70 * pl + k) = 0)); rw [show dgR dm pl k = false from c11, decide_eq_true (sx_0.mp c25)]; rfl) ?_
          refine lv_istore_n (lv' := [(2, .int (bI (dgR dm pl (k + 1)))), (0, .ref g0), (1, .int (nI pl)), (3, .int (nI k))]) hx hb dX1_isDamaged_33 rfl hl (by decide) rfl (fun ls hl => ?_)
          refine lv_iinc (v := nI (k + 1)) (lv' := [(3, .int (nI (k + 1))), (2, .int (bI (dgR dm pl (k + 1)))), (0, .ref g0), (1, .int (nI pl))]) hx hb dX1_isDamaged_34 hl (k := 3) rfl (nI_add (k) 1) (by decide) rfl (fun ls hl => ?_)
          refine lv_goto (tgt := 4) hx hb dX1_isDamaged_37 (by decide) ?_
          exact ih (k + 1) (by omega) (by omega) H locs ls (hP.sub [0, 1] rfl) (hD.sub [0, 1] (by decide) rfl) hS (lv_sub hl [2, 3, 1, 0] rfl)
        · refine lv_iconst (v := nI 1) hx hb dX1_isDamaged_28 (by decide) ?_
          refine lv_goto (tgt := 33) hx hb dX1_isDamaged_29 (by decide) ?_
          refine zr_topi (bI (dgR dm pl (k + 1))) (by first | (show nI 1 = bI (dgR dm pl k || _); rw [show dgR dm pl k = true from c11]; rfl) | (show nI 1 = bI (dgR dm pl k || !decide (dm (70 * pl + k) = 0)); rw [decide_eq_false (fun q => c25 (sx_0.mpr q))]; simp [bI]; rfl)) ?_
          refine lv_istore_n (lv' := [(2, .int (bI (dgR dm pl (k + 1)))), (0, .ref g0), (1, .int (nI pl)), (3, .int (nI k))]) hx hb dX1_isDamaged_33 rfl hl (by decide) rfl (fun ls hl => ?_)
          refine lv_iinc (v := nI (k + 1)) (lv' := [(3, .int (nI (k + 1))), (2, .int (bI (dgR dm pl (k + 1)))), (0, .ref g0), (1, .int (nI pl))]) hx hb dX1_isDamaged_34 hl (k := 3) rfl (nI_add (k) 1) (by decide) rfl (fun ls hl => ?_)
          refine lv_goto (tgt := 4) hx hb dX1_isDamaged_37 (by decide) ?_
          exact ih (k + 1) (by omega) (by omega) H locs ls (hP.sub [0, 1] rfl) (hD.sub [0, 1] (by decide) rfl) hS (lv_sub hl [2, 3, 1, 0] rfl)
set_option maxHeartbeats 4000000 in
set_option maxRecDepth 100000 in
theorem c_X1_isDamaged (l : Launch) (dC : Nat → ClassId) (dI : Nat → Nat → Nat) (sz : Nat) (g0 bT bO bL bW bB bD bX : Nat) (th tp os : Nat) (dn lf : Int64) (mf : Bool) (cB : ClassId) (dm : Nat → BitVec 8) (pl : Nat) (hp : pl < 1056) : Met l yX1_isDamaged wsX1_isDamaged ({ frames := 0, cells := 0, slots := 0, locals := 0 }) (va_Pc [.ref g0, .int (nI pl)] (fun U => U.heap.size = sz ∧ va_P (dC, dI) vwCl [(g0, .inr (1, [.int (nI th), .ref bT, .int (nI tp), .ref bO, .int (nI os), .ref bL, .ref bW, .ref bB, .ref bD, .long dn, .long lf, .int (bI mf), .ref bX])), (bD, .inl (cB, 73920, .inl (fun i9 => sx (dm i9))))] U.heap ∧ va_K (dC, dI) vwCl [(cB, .byte)] U ∧ va_D (fun _ => True) [(g0, .inr (1, [.int (nI th), .ref bT, .int (nI tp), .ref bO, .int (nI os), .ref bL, .ref bW, .ref bB, .ref bD, .long dn, .long lf, .int (bI mf), .ref bX])), (bD, .inl (cB, 73920, .inl (fun i9 => sx (dm i9))))])) (va_Qi (fun (r : Int32) (_ : Unit) => r = bI (dgR dm pl 70)) (fun (_ : Unit) t => va_P (dC, dI) vwCl [(g0, .inr (1, [.int (nI th), .ref bT, .int (nI tp), .ref bO, .int (nI os), .ref bL, .ref bW, .ref bB, .ref bD, .long dn, .long lf, .int (bI mf), .ref bX])), (bD, .inl (cB, 73920, .inl (fun i9 => sx (dm i9))))] t.heap ∧ va_K (dC, dI) vwCl [(cB, .byte)] t ∧ va_D (va_A [(g0, .inr (1, [.int (nI th), .ref bT, .int (nI tp), .ref bO, .int (nI os), .ref bL, .ref bW, .ref bB, .ref bD, .long dn, .long lf, .int (bI mf), .ref bX])), (bD, .inl (cB, 73920, .inl (fun i9 => sx (dm i9))))] sz) [(g0, .inr (1, [.int (nI th), .ref bT, .int (nI tp), .ref bO, .int (nI os), .ref bL, .ref bW, .ref bB, .ref bD, .long dn, .long lf, .int (bI mf), .ref bX])), (bD, .inl (cB, 73920, .inl (fun i9 => sx (dm i9))))]) (va_A [(g0, .inr (1, [.int (nI th), .ref bT, .int (nI tp), .ref bO, .int (nI os), .ref bL, .ref bW, .ref bB, .ref bD, .long dn, .long lf, .int (bI mf), .ref bX])), (bD, .inl (cB, 73920, .inl (fun i9 => sx (dm i9))))] sz)) 0 0 (va_A [(g0, .inr (1, [.int (nI th), .ref bT, .int (nI tp), .ref bO, .int (nI os), .ref bL, .ref bW, .ref bB, .ref bD, .long dn, .long lf, .int (bI mf), .ref bX])), (bD, .inl (cB, 73920, .inl (fun i9 => sx (dm i9))))] sz) := by
  refine Met.ofW (cc := cX1_isDamaged) (maxL := 4) (ret := some .boolean) (by decide) rfl ?_
  intro p e s m args below meth c s₁ B hml hv
  obtain ⟨rfl, hsz, hP, hK, hD0⟩ := hv
  have hx := B.exec
  have hb := B.bytes
  have hr := B.returns
  have hts := atoms_spec (ws := wsX1_isDamaged) B.pre
  have hown : s.vm.findClass RX1 = some m.cls := findClass_of_methodNamed B.named
  have hlocks := B.notSynchronized
  subst hsz
  have hD := hD0.self (sz := s.heap.size)
  generalize hAe : va_A [(g0, .inr (1, [.int (nI th), .ref bT, .int (nI tp), .ref bO, .int (nI os), .ref bL, .ref bW, .ref bB, .ref bD, .long dn, .long lf, .int (bI mf), .ref bX])), (bD, .inl (cB, 73920, .inl (fun i9 => sx (dm i9))))] s.heap.size = A at hD ⊢
  have hA : ∀ q : Nat, s.heap.size ≤ q → A q := fun q h => by rw [← hAe]; exact Or.inr h
  generalize hH : s.heap = H at hP ⊢
  have hS : va_S A s.heap H [] := by rw [hH]; exact va_S.rf
  replace hP : va_P (dC, dI) vwCl [(g0, .inr (1, [.int (nI th), .ref bT, .int (nI tp), .ref bO, .int (nI os), .ref bL, .ref bW, .ref bB, .ref bD, .long dn, .long lf, .int (bI mf), .ref bX])), (bD, .inl (cB, 73920, .inl (fun i9 => sx (dm i9))))] H := hP
  have hl := lv_entry ([.ref g0, .int (nI pl)]) (n := 4) (Nat.le_of_ble_eq_true rfl)
  rw [lg_entry_eq]
  generalize (lg_sl ([.ref g0, .int (nI pl)]) ++ List.replicate (4 - (lg_sl ([.ref g0, .int (nI pl)])).length) Slot.unset).toArray = ls at hl ⊢
  have hl : lv_has ls 4 [(0, .ref g0), (1, .int (nI pl))] := hl
  refine lv_iconst (v := nI 0) hx hb dX1_isDamaged_0 (by decide) ?_
  refine lv_istore_n (lv' := [(2, .int (nI 0)), (0, .ref g0), (1, .int (nI pl))]) hx hb dX1_isDamaged_1 rfl hl (by decide) rfl (fun ls hl => ?_)
  refine lv_iconst (v := nI 0) hx hb dX1_isDamaged_2 (by decide) ?_
  refine lv_istore_n (lv' := [(3, .int (nI 0)), (2, .int (nI 0)), (0, .ref g0), (1, .int (nI pl))]) hx hb dX1_isDamaged_3 rfl hl (by decide) rfl (fun ls hl => ?_)
  have hl : lv_has ls 4 [(3, .int (nI 0)), (2, .int (bI (dgR dm pl 0))), (0, .ref g0), (1, .int (nI pl))] := hl
  refine lp_X1_isDamaged g0 bT bO bL bW bB bD bX th tp os dn lf mf cB dm pl hp hx hb hml hown hts hA hK (fun  H locs ls hP hD hS hl => ?_) 71 0 (by omega) (by omega) _ _ _ (hP.sub [0, 1] rfl) (hD.sub [0, 1] (by decide) rfl) hS (lv_sub hl [2, 3, 1, 0] rfl)
  refine lv_iload_n hx hb dX1_isDamaged_40 rfl (lv_at hl 0 rfl) ?_
  have hP9 := hP.sub (ws' := [(g0, .inr (1, [.int (nI th), .ref bT, .int (nI tp), .ref bO, .int (nI os), .ref bL, .ref bW, .ref bB, .ref bD, .long dn, .long lf, .int (bI mf), .ref bX])), (bD, .inl (cB, 73920, .inl (fun i9 => sx (dm i9))))]) [0, 1] rfl
  have hD9 := hD.sub (ws' := [(g0, .inr (1, [.int (nI th), .ref bT, .int (nI tp), .ref bO, .int (nI os), .ref bL, .ref bW, .ref bB, .ref bD, .long dn, .long lf, .int (bI mf), .ref bX])), (bD, .inl (cB, 73920, .inl (fun i9 => sx (dm i9))))]) [0, 1] (by decide) rfl
  exact W.zret (v := bI (dgR dm pl 70)) hx hb hr (zr_nar_b _) (fun t ht hW => ⟨⟨bI (dgR dm pl 70), (), rfl, rfl, by rw [ht]; exact hP9, va_K.moved hW.alike hK, hD9⟩, hS.F ht⟩) hS.2.2 dX1_isDamaged_41
set_option maxHeartbeats 4000000 in
set_option maxRecDepth 100000 in
theorem lp_X1_isUnseen {p : Program} {l : Launch} {e : Env} {R : Room} {s : State} {m : MethodId} {args : Array Value} {below : List Frame} {meth : Method} {c : Code} {cells slots : Nat} {Q : State → Prop} {A : Nat → Prop} {H0 : Heap} {dC : Nat → ClassId} {dI : Nat → Nat → Nat} (g0 bT bO bL bW bB bD bX : Nat) (th tp os : Nat) (dn lf : Int64) (mf : Bool) (cZ cB : ClassId) (b : Nat → Bool) (dm : Nat → BitVec 8) (hx : p.tables.exec = Jvm.exec) (hb : c.code = cX1_isUnseen) (hml : c.maxLocals = 4) (hown : s.vm.findClass RX1 = some m.cls) (hts : ∀ w ∈ wsX1_isUnseen, w.before args s = true) (hA : ∀ q : Nat, H0.size ≤ q → A q) (hK : va_K (dC, dI) vwCl [(cZ, .boolean), (cB, .byte)] s) (kk : ∀  (H : Heap) (locs : List Loc) (ls : Array Slot), va_P (dC, dI) vwCl [(g0, .inr (1, [.int (nI th), .ref bT, .int (nI tp), .ref bO, .int (nI os), .ref bL, .ref bW, .ref bB, .ref bD, .long dn, .long lf, .int (bI mf), .ref bX])), (bX, .inl (cZ, 560, .inl (fun i9 => bI (b i9)))), (bD, .inl (cB, 73920, .inl (fun i9 => sx (dm i9))))] H → va_D A [(g0, .inr (1, [.int (nI th), .ref bT, .int (nI tp), .ref bO, .int (nI os), .ref bL, .ref bW, .ref bB, .ref bD, .long dn, .long lf, .int (bI mf), .ref bX])), (bX, .inl (cZ, 560, .inl (fun i9 => bI (b i9)))), (bD, .inl (cB, 73920, .inl (fun i9 => sx (dm i9))))] → va_S A H0 H locs → lv_has ls 4 [(2, .int (bI (unR b 32)))] → W p l e R s m args below meth c H locs cells slots Q (F0 m 59 ls [])) : ∀ (n : Nat) (i : Nat), 32 + 1 ≤ i + n → i ≤ 32 → ∀ (H : Heap) (locs : List Loc) (ls : Array Slot), va_P (dC, dI) vwCl [(g0, .inr (1, [.int (nI th), .ref bT, .int (nI tp), .ref bO, .int (nI os), .ref bL, .ref bW, .ref bB, .ref bD, .long dn, .long lf, .int (bI mf), .ref bX])), (bX, .inl (cZ, 560, .inl (fun i9 => bI (b i9)))), (bD, .inl (cB, 73920, .inl (fun i9 => sx (dm i9))))] H → va_D A [(g0, .inr (1, [.int (nI th), .ref bT, .int (nI tp), .ref bO, .int (nI os), .ref bL, .ref bW, .ref bB, .ref bD, .long dn, .long lf, .int (bI mf), .ref bX])), (bX, .inl (cZ, 560, .inl (fun i9 => bI (b i9)))), (bD, .inl (cB, 73920, .inl (fun i9 => sx (dm i9))))] → va_S A H0 H locs → lv_has ls 4 [(0, .ref g0), (2, .int (bI (unR b i))), (3, .int (nI (528 + i)))] → W p l e R s m args below meth c H locs cells slots Q (F0 m 27 ls []) := by
  have hi1 : ∀ w ∈ u_ws RX1 TX1 13, w ∈ wsX1_isUnseen := by decide +kernel
  intro n
  induction n with
  | zero => intro i  hm hi; exact absurd hm (by omega)
  | succ n ih =>
    intro i  hm hi H locs ls hP hD hS hl
    refine lv_iload_n hx hb dX1_isUnseen_27 rfl (lv_at hl 2 rfl) ?_
    refine lv_sipush (v := nI 560) hx hb dX1_isUnseen_28 (by decide) ?_
    refine zr_icmp_ge (tgt := 59) hx hb (by omega) (by omega) dX1_isUnseen_31 (by decide) (fun c31 => ?_) (fun c31 => ?_)
    · obtain rfl : 32 = i := by omega
      exact kk  H locs ls (hP.sub [0, 1, 2] rfl) (hD.sub [0, 1, 2] (by decide) rfl) hS (lv_sub hl [1] rfl)
    · refine lv_iload_n hx hb dX1_isUnseen_34 rfl (lv_at hl 1 rfl) ?_
      refine zr_ifb_eq (tgt := 51) hx hb dX1_isUnseen_35 (by decide) (fun c35 => ?_) (fun c35 => ?_)
      · refine lv_iconst (v := nI 0) hx hb dX1_isUnseen_51 (by decide) ?_
        refine zr_topi (bI (unR b (i + 1))) (by first | (show nI 0 = bI (unR b i && _); rw [show unR b i = false from c35]; rfl) | (show nI 0 = bI (unR b i && !b (528 + i)); rw [show b (528 + i) = true from c44]; simp [bI]; rfl)) ?_
        refine lv_istore_n (lv' := [(2, .int (bI (unR b (i + 1)))), (0, .ref g0), (3, .int (nI (528 + i)))]) hx hb dX1_isUnseen_52 rfl hl (by decide) rfl (fun ls hl => ?_)
        refine lv_iinc (v := nI (528 + i + 1)) (lv' := [(3, .int (nI (528 + i + 1))), (2, .int (bI (unR b (i + 1)))), (0, .ref g0)]) hx hb dX1_isUnseen_53 hl (k := 2) rfl (nI_add (528 + i) 1) (by decide) rfl (fun ls hl => ?_)
        refine lv_goto (tgt := 27) hx hb dX1_isUnseen_56 (by decide) ?_
        exact ih (i + 1) (by omega) (by omega) H locs ls (hP.sub [0, 1, 2] rfl) (hD.sub [0, 1, 2] (by decide) rfl) hS (lv_sub hl [2, 1, 0] rfl)
      · refine lv_aload_n hx hb dX1_isUnseen_38 rfl (lv_at hl 0 rfl) ?_
        refine va_get (D := (dC, dI)) (ci := 1) (v := .ref bX) (C := RX1) (T := TX1) (N := 13) hx hb hts hi1 hown hK hP 0 rfl rfl 12 (by decide) (hts (.fieldLink RX1 37 "CellRackModel" "bits" "[Z") (by decide +kernel)) (fun _ h9 => h9) rfl dX1_isUnseen_39 ?_
        refine lv_iload_n hx hb dX1_isUnseen_42 rfl (lv_at hl 2 rfl) ?_
        refine zr_zald hx hb hK hP 1 0 rfl rfl (by omega) (by omega) dX1_isUnseen_43 ?_
        refine zr_ifb_ne (tgt := 51) hx hb dX1_isUnseen_44 (by decide) (fun c44 => ?_) (fun c44 => ?_)
        · refine lv_iconst (v := nI 0) hx hb dX1_isUnseen_51 (by decide) ?_
          refine zr_topi (bI (unR b (i + 1))) (by first | (show nI 0 = bI (unR b i && _); rw [show unR b i = false from c35]; rfl) | (show nI 0 = bI (unR b i && !b (528 + i)); rw [show b (528 + i) = true from c44]; simp [bI]; rfl)) ?_
          refine lv_istore_n (lv' := [(2, .int (bI (unR b (i + 1)))), (0, .ref g0), (3, .int (nI (528 + i)))]) hx hb dX1_isUnseen_52 rfl hl (by decide) rfl (fun ls hl => ?_)
          refine lv_iinc (v := nI (528 + i + 1)) (lv' := [(3, .int (nI (528 + i + 1))), (2, .int (bI (unR b (i + 1)))), (0, .ref g0)]) hx hb dX1_isUnseen_53 hl (k := 2) rfl (nI_add (528 + i) 1) (by decide) rfl (fun ls hl => ?_)
          refine lv_goto (tgt := 27) hx hb dX1_isUnseen_56 (by decide) ?_
          exact ih (i + 1) (by omega) (by omega) H locs ls (hP.sub [0, 1, 2] rfl) (hD.sub [0, 1, 2] (by decide) rfl) hS (lv_sub hl [2, 1, 0] rfl)
        · refine lv_iconst (v := nI 1) hx hb dX1_isUnseen_47 (by decide) ?_
          refine lv_goto (tgt := 52) hx hb dX1_isUnseen_48 (by decide) ?_
          refine zr_topi (bI (unR b (i + 1))) (by show nI 1 = bI (unR b i && !b (528 + i)); rw [show unR b i = true from c35, show b (528 + i) = false from c44]; rfl) ?_
          refine lv_istore_n (lv' := [(2, .int (bI (unR b (i + 1)))), (0, .ref g0), (3, .int (nI (528 + i)))]) hx hb dX1_isUnseen_52 rfl hl (by decide) rfl (fun ls hl => ?_)
          refine lv_iinc (v := nI (528 + i + 1)) (lv' := [(3, .int (nI (528 + i + 1))), (2, .int (bI (unR b (i + 1)))), (0, .ref g0)]) hx hb dX1_isUnseen_53 hl (k := 2) rfl (nI_add (528 + i) 1) (by decide) rfl (fun ls hl => ?_)
          refine lv_goto (tgt := 27) hx hb dX1_isUnseen_56 (by decide) ?_
          exact ih (i + 1) (by omega) (by omega) H locs ls (hP.sub [0, 1, 2] rfl) (hD.sub [0, 1, 2] (by decide) rfl) hS (lv_sub hl [2, 1, 0] rfl)
set_option maxHeartbeats 4000000 in
set_option maxRecDepth 100000 in
theorem c_X1_isUnseen (l : Launch) (dC : Nat → ClassId) (dI : Nat → Nat → Nat) (sz : Nat) (g0 bT bO bL bW bB bD bX : Nat) (th tp os : Nat) (dn lf : Int64) (mf : Bool) (cZ cB : ClassId) (bt : Nat → Bool) (dm : Nat → BitVec 8) (pl : Nat) (hp : pl < 1056) : Met l yX1_isUnseen wsX1_isUnseen ({ frames := 1, cells := 0, slots := 0, locals := 24 }) (va_Pc [.ref g0, .int (nI pl)] (fun U => U.heap.size = sz ∧ va_P (dC, dI) vwCl [(g0, .inr (1, [.int (nI th), .ref bT, .int (nI tp), .ref bO, .int (nI os), .ref bL, .ref bW, .ref bB, .ref bD, .long dn, .long lf, .int (bI mf), .ref bX])), (bX, .inl (cZ, 560, .inl (fun i9 => bI (bt i9)))), (bD, .inl (cB, 73920, .inl (fun i9 => sx (dm i9))))] U.heap ∧ va_K (dC, dI) vwCl [(cZ, .boolean), (cB, .byte)] U ∧ va_D (fun _ => True) [(g0, .inr (1, [.int (nI th), .ref bT, .int (nI tp), .ref bO, .int (nI os), .ref bL, .ref bW, .ref bB, .ref bD, .long dn, .long lf, .int (bI mf), .ref bX])), (bX, .inl (cZ, 560, .inl (fun i9 => bI (bt i9)))), (bD, .inl (cB, 73920, .inl (fun i9 => sx (dm i9))))])) (va_Qi (fun (r : Int32) (_ : Unit) => r = bI (unR (dv (spF bt dm (70 * pl) (8 * 70)) 528) 32)) (fun (_ : Unit) t => va_P (dC, dI) vwCl [(g0, .inr (1, [.int (nI th), .ref bT, .int (nI tp), .ref bO, .int (nI os), .ref bL, .ref bW, .ref bB, .ref bD, .long dn, .long lf, .int (bI mf), .ref bX])), (bX, .inl (cZ, 560, .inl (fun i9 => bI ((dv (spF bt dm (70 * pl) (8 * 70)) 528) i9)))), (bD, .inl (cB, 73920, .inl (fun i9 => sx (dm i9))))] t.heap ∧ va_K (dC, dI) vwCl [(cZ, .boolean), (cB, .byte)] t ∧ va_D (va_A [(g0, .inr (1, [.int (nI th), .ref bT, .int (nI tp), .ref bO, .int (nI os), .ref bL, .ref bW, .ref bB, .ref bD, .long dn, .long lf, .int (bI mf), .ref bX])), (bX, .inl (cZ, 560, .inl (fun i9 => bI (bt i9)))), (bD, .inl (cB, 73920, .inl (fun i9 => sx (dm i9))))] sz) [(g0, .inr (1, [.int (nI th), .ref bT, .int (nI tp), .ref bO, .int (nI os), .ref bL, .ref bW, .ref bB, .ref bD, .long dn, .long lf, .int (bI mf), .ref bX])), (bX, .inl (cZ, 560, .inl (fun i9 => bI ((dv (spF bt dm (70 * pl) (8 * 70)) 528) i9)))), (bD, .inl (cB, 73920, .inl (fun i9 => sx (dm i9))))]) (va_A [(g0, .inr (1, [.int (nI th), .ref bT, .int (nI tp), .ref bO, .int (nI os), .ref bL, .ref bW, .ref bB, .ref bD, .long dn, .long lf, .int (bI mf), .ref bX])), (bX, .inl (cZ, 560, .inl (fun i9 => bI (bt i9)))), (bD, .inl (cB, 73920, .inl (fun i9 => sx (dm i9))))] sz)) 0 0 (va_A [(g0, .inr (1, [.int (nI th), .ref bT, .int (nI tp), .ref bO, .int (nI os), .ref bL, .ref bW, .ref bB, .ref bD, .long dn, .long lf, .int (bI mf), .ref bX])), (bX, .inl (cZ, 560, .inl (fun i9 => bI (bt i9)))), (bD, .inl (cB, 73920, .inl (fun i9 => sx (dm i9))))] sz) := by
  refine Met.ofW (cc := cX1_isUnseen) (maxL := 4) (ret := some .boolean) (by decide) rfl ?_
  intro p e s m args below meth c s₁ B hml hv
  obtain ⟨rfl, hsz, hP, hK, hD0⟩ := hv
  have hx := B.exec
  have hb := B.bytes
  have hr := B.returns
  have hts := atoms_spec (ws := wsX1_isUnseen) B.pre
  have hown : s.vm.findClass RX1 = some m.cls := findClass_of_methodNamed B.named
  have hlocks := B.notSynchronized
  subst hsz
  have hD := hD0.self (sz := s.heap.size)
  generalize hAe : va_A [(g0, .inr (1, [.int (nI th), .ref bT, .int (nI tp), .ref bO, .int (nI os), .ref bL, .ref bW, .ref bB, .ref bD, .long dn, .long lf, .int (bI mf), .ref bX])), (bX, .inl (cZ, 560, .inl (fun i9 => bI (bt i9)))), (bD, .inl (cB, 73920, .inl (fun i9 => sx (dm i9))))] s.heap.size = A at hD ⊢
  have hA : ∀ q : Nat, s.heap.size ≤ q → A q := fun q h => by rw [← hAe]; exact Or.inr h
  generalize hH : s.heap = H at hP ⊢
  have hS : va_S A s.heap H [] := by rw [hH]; exact va_S.rf
  replace hP : va_P (dC, dI) vwCl [(g0, .inr (1, [.int (nI th), .ref bT, .int (nI tp), .ref bO, .int (nI os), .ref bL, .ref bW, .ref bB, .ref bD, .long dn, .long lf, .int (bI mf), .ref bX])), (bX, .inl (cZ, 560, .inl (fun i9 => bI (bt i9)))), (bD, .inl (cB, 73920, .inl (fun i9 => sx (dm i9))))] H := hP
  have hl := lv_entry ([.ref g0, .int (nI pl)]) (n := 4) (Nat.le_of_ble_eq_true rfl)
  rw [lg_entry_eq]
  generalize (lg_sl ([.ref g0, .int (nI pl)]) ++ List.replicate (4 - (lg_sl ([.ref g0, .int (nI pl)])).length) Slot.unset).toArray = ls at hl ⊢
  have hl : lv_has ls 4 [(0, .ref g0), (1, .int (nI pl))] := hl
  have hi1 : ∀ w ∈ u_ws RX1 TX1 13, w ∈ wsX1_isUnseen := by decide +kernel
  refine lv_aload_n hx hb dX1_isUnseen_0 rfl (lv_at hl 0 rfl) ?_
  refine lv_aload_n hx hb dX1_isUnseen_1 rfl (lv_at hl 0 rfl) ?_
  refine va_get (D := (dC, dI)) (ci := 1) (v := .ref bD) (C := RX1) (T := TX1) (N := 13) hx hb hts hi1 hown hK hP 0 rfl rfl 8 (by decide) (hts (.fieldLink RX1 28 "CellRackModel" "damage" "[B") (by decide +kernel)) (fun _ h9 => h9) rfl dX1_isUnseen_2 ?_
  refine lv_bipush (v := nI 70) hx hb dX1_isUnseen_5 (by decide) ?_
  refine lv_iload_n hx hb dX1_isUnseen_7 rfl (lv_at hl 1 rfl) ?_
  refine zr_imul hx hb dX1_isUnseen_8 ?_
  refine lv_bipush (v := nI 70) hx hb dX1_isUnseen_9 (by decide) ?_
  have hPc := hP.sub (ws' := [(g0, .inr (1, [.int (nI th), .ref bT, .int (nI tp), .ref bO, .int (nI os), .ref bL, .ref bW, .ref bB, .ref bD, .long dn, .long lf, .int (bI mf), .ref bX])), (bX, .inl (cZ, 560, .inl (fun i9 => bI (bt i9)))), (bD, .inl (cB, 73920, .inl (fun i9 => sx (dm i9))))]) [0, 1, 2] rfl
  have hDc := hD.sub (ws' := [(g0, .inr (1, [.int (nI th), .ref bT, .int (nI tp), .ref bO, .int (nI os), .ref bL, .ref bW, .ref bB, .ref bD, .long dn, .long lf, .int (bI mf), .ref bX])), (bX, .inl (cZ, 560, .inl (fun i9 => bI (bt i9)))), (bD, .inl (cB, 73920, .inl (fun i9 => sx (dm i9))))]) [0, 1, 2] (by decide) rfl
  have hKc := hK.sub (tys' := [(cZ, .boolean), (cB, .byte)]) [0, 1] rfl
  have hFc := va_free (wc := [(g0, .inr (1, [.int (nI th), .ref bT, .int (nI tp), .ref bO, .int (nI os), .ref bL, .ref bW, .ref bB, .ref bD, .long dn, .long lf, .int (bI mf), .ref bX])), (bX, .inl (cZ, 560, .inl (fun i9 => bI (bt i9)))), (bD, .inl (cB, 73920, .inl (fun i9 => sx (dm i9))))]) hD hS hA [0, 1, 2] rfl
  refine va_callv (va_runV (As := [.ref bD, .int (nI (70 * pl)), .int (nI 70)]) (rest := []) ⟨hx, hb, hml, hown, hts⟩ (c_X1_spread l dC dI H.size g0 bT bO bL bW bB bD bX th tp os dn lf mf cZ cB bD dm bt (70 * pl) 70 (by decide) (by omega)) (cwV 3 hts gX1_isUnseen_X1_spread rfl rfl rfl (by decide +kernel) ⟨Nat.le_of_ble_eq_true rfl, Nat.le_of_ble_eq_true rfl⟩) ⟨fun a U g mk q => by obtain ⟨q0, q1, qP, qK, qD⟩ := q; exact ⟨q0, q1, qP, va_K.moved (u := U) (U := U.calling g mk a) (Vm.Alike.refl U.vm) qK, qD⟩, va_recv hKc hPc (ci := 1) (q0 := 0) rfl rfl, fun U hU hW => ⟨rfl, by rw [hU], by rw [hU]; exact hPc, va_K.moved hW.alike hKc, hDc.weaken (fun _ _ _ _ => trivial)⟩⟩ rfl rfl hl.1 rfl (lv_room (Nat.le_of_ble_eq_true rfl)) dX1_isUnseen_11 ⟨Nat.zero_le _, Nat.zero_le _⟩) hS (fun q _ h => hFc q h) hFc (fun u t H1 locs ht hvm hw hB hz1 hk1 hS => ?_)
  obtain ⟨hP1, hK1, hD1⟩ := hB
  rw [ht] at hP1
  obtain ⟨hPn, hDn⟩ := va_join (wr := []) (w1 := [(g0, .inr (1, [.int (nI th), .ref bT, .int (nI tp), .ref bO, .int (nI os), .ref bL, .ref bW, .ref bB, .ref bD, .long dn, .long lf, .int (bI mf), .ref bX])), (bX, .inl (cZ, 560, .inl (fun i9 => bI ((spF bt dm (70 * pl) (8 * 70)) i9)))), (bD, .inl (cB, 73920, .inl (fun i9 => sx (dm i9))))]) hP hD [0, 1, 2] [] rfl rfl (by decide) (by decide) hk1 hFc hP1 hD1
  clear hP hD hP1 hD1 hK1 hPc hDc hKc hFc hk1 hz1 hvm ht
  generalize H1 = H at hPn hS ⊢
  have hP := hPn
  have hD := hDn
  clear hPn hDn
  replace hP : va_P (dC, dI) vwCl [(g0, .inr (1, [.int (nI th), .ref bT, .int (nI tp), .ref bO, .int (nI os), .ref bL, .ref bW, .ref bB, .ref bD, .long dn, .long lf, .int (bI mf), .ref bX])), (bX, .inl (cZ, 560, .inl (fun i9 => bI ((spF bt dm (70 * pl) (8 * 70)) i9)))), (bD, .inl (cB, 73920, .inl (fun i9 => sx (dm i9))))] H := hP
  replace hD : va_D A [(g0, .inr (1, [.int (nI th), .ref bT, .int (nI tp), .ref bO, .int (nI os), .ref bL, .ref bW, .ref bB, .ref bD, .long dn, .long lf, .int (bI mf), .ref bX])), (bX, .inl (cZ, 560, .inl (fun i9 => bI ((spF bt dm (70 * pl) (8 * 70)) i9)))), (bD, .inl (cB, 73920, .inl (fun i9 => sx (dm i9))))] := hD
  refine W.widen (k := 0) (n := 0) (Nat.le_refl _) (Nat.le_refl _) ?_
  refine lv_aload_n hx hb dX1_isUnseen_14 rfl (lv_at hl 0 rfl) ?_
  refine lv_sipush (v := nI 560) hx hb dX1_isUnseen_15 (by decide) ?_
  have hPc := hP.sub (ws' := [(g0, .inr (1, [.int (nI th), .ref bT, .int (nI tp), .ref bO, .int (nI os), .ref bL, .ref bW, .ref bB, .ref bD, .long dn, .long lf, .int (bI mf), .ref bX])), (bX, .inl (cZ, 560, .inl (fun i9 => bI ((spF bt dm (70 * pl) (8 * 70)) i9))))]) [0, 1] rfl
  have hDc := hD.sub (ws' := [(g0, .inr (1, [.int (nI th), .ref bT, .int (nI tp), .ref bO, .int (nI os), .ref bL, .ref bW, .ref bB, .ref bD, .long dn, .long lf, .int (bI mf), .ref bX])), (bX, .inl (cZ, 560, .inl (fun i9 => bI ((spF bt dm (70 * pl) (8 * 70)) i9))))]) [0, 1] (by decide) rfl
  have hKc := hK.sub (tys' := [(cZ, .boolean)]) [0] rfl
  have hFc := va_free (wc := [(g0, .inr (1, [.int (nI th), .ref bT, .int (nI tp), .ref bO, .int (nI os), .ref bL, .ref bW, .ref bB, .ref bD, .long dn, .long lf, .int (bI mf), .ref bX])), (bX, .inl (cZ, 560, .inl (fun i9 => bI ((spF bt dm (70 * pl) (8 * 70)) i9))))]) hD hS hA [0, 1] rfl
  refine va_callv (va_runV (As := [.int (nI 560)]) (rest := []) ⟨hx, hb, hml, hown, hts⟩ (c_X1_divide l dC dI H.size g0 bT bO bL bW bB bD bX th tp os dn lf mf cZ (spF bt dm (70 * pl) (8 * 70))) (cwV 1 hts gX1_isUnseen_X1_divide rfl rfl rfl (by decide +kernel) ⟨Nat.le_of_ble_eq_true rfl, Nat.le_of_ble_eq_true rfl⟩) ⟨fun a U g mk q => by obtain ⟨q0, q1, qP, qK, qD⟩ := q; exact ⟨q0, q1, qP, va_K.moved (u := U) (U := U.calling g mk a) (Vm.Alike.refl U.vm) qK, qD⟩, va_recv hKc hPc (ci := 1) (q0 := 0) rfl rfl, fun U hU hW => ⟨rfl, by rw [hU], by rw [hU]; exact hPc, va_K.moved hW.alike hKc, hDc.weaken (fun _ _ _ _ => trivial)⟩⟩ rfl rfl hl.1 rfl (lv_room (Nat.le_of_ble_eq_true rfl)) dX1_isUnseen_18 ⟨Nat.zero_le _, Nat.zero_le _⟩) hS (fun q _ h => hFc q h) hFc (fun u t H1 locs ht hvm hw hB hz1 hk1 hS => ?_)
  obtain ⟨hP1, hK1, hD1⟩ := hB
  rw [ht] at hP1
  obtain ⟨hPn, hDn⟩ := va_join (wr := [(bD, .inl (cB, 73920, .inl (fun i9 => sx (dm i9))))]) (w1 := [(g0, .inr (1, [.int (nI th), .ref bT, .int (nI tp), .ref bO, .int (nI os), .ref bL, .ref bW, .ref bB, .ref bD, .long dn, .long lf, .int (bI mf), .ref bX])), (bX, .inl (cZ, 560, .inl (fun i9 => bI ((dv (spF bt dm (70 * pl) (8 * 70)) 528) i9))))]) hP hD [0, 1] [2] rfl rfl (by decide) (by decide) hk1 hFc hP1 hD1
  clear hP hD hP1 hD1 hK1 hPc hDc hKc hFc hk1 hz1 hvm ht
  generalize H1 = H at hPn hS ⊢
  have hP := hPn
  have hD := hDn
  clear hPn hDn
  replace hP : va_P (dC, dI) vwCl [(bD, .inl (cB, 73920, .inl (fun i9 => sx (dm i9)))), (g0, .inr (1, [.int (nI th), .ref bT, .int (nI tp), .ref bO, .int (nI os), .ref bL, .ref bW, .ref bB, .ref bD, .long dn, .long lf, .int (bI mf), .ref bX])), (bX, .inl (cZ, 560, .inl (fun i9 => bI ((dv (spF bt dm (70 * pl) (8 * 70)) 528) i9))))] H := hP
  replace hD : va_D A [(bD, .inl (cB, 73920, .inl (fun i9 => sx (dm i9)))), (g0, .inr (1, [.int (nI th), .ref bT, .int (nI tp), .ref bO, .int (nI os), .ref bL, .ref bW, .ref bB, .ref bD, .long dn, .long lf, .int (bI mf), .ref bX])), (bX, .inl (cZ, 560, .inl (fun i9 => bI ((dv (spF bt dm (70 * pl) (8 * 70)) 528) i9))))] := hD
  refine W.widen (k := 0) (n := 0) (Nat.le_refl _) (Nat.le_refl _) ?_
  refine lv_iconst (v := nI 1) hx hb dX1_isUnseen_21 (by decide) ?_
  refine lv_istore_n (lv' := [(2, .int (nI 1)), (0, .ref g0), (1, .int (nI pl))]) hx hb dX1_isUnseen_22 rfl hl (by decide) rfl (fun ls hl => ?_)
  refine lv_sipush (v := nI 528) hx hb dX1_isUnseen_23 (by decide) ?_
  refine lv_istore_n (lv' := [(3, .int (nI 528)), (2, .int (nI 1)), (0, .ref g0), (1, .int (nI pl))]) hx hb dX1_isUnseen_26 rfl hl (by decide) rfl (fun ls hl => ?_)
  have hl : lv_has ls 4 [(3, .int (nI (528 + 0))), (2, .int (bI (unR (dv (spF bt dm (70 * pl) (8 * 70)) 528) 0))), (0, .ref g0), (1, .int (nI pl))] := hl
  refine lp_X1_isUnseen g0 bT bO bL bW bB bD bX th tp os dn lf mf cZ cB (dv (spF bt dm (70 * pl) (8 * 70)) 528) dm hx hb hml hown hts hA hK (fun  H locs ls hP hD hS hl => ?_) 33 0 (by omega) (by omega) _ _ _ (hP.sub [1, 2, 0] rfl) (hD.sub [1, 2, 0] (by decide) rfl) hS (lv_sub hl [2, 1, 0] rfl)
  refine lv_iload_n hx hb dX1_isUnseen_59 rfl (lv_at hl 0 rfl) ?_
  have hP9 := hP.sub (ws' := [(g0, .inr (1, [.int (nI th), .ref bT, .int (nI tp), .ref bO, .int (nI os), .ref bL, .ref bW, .ref bB, .ref bD, .long dn, .long lf, .int (bI mf), .ref bX])), (bX, .inl (cZ, 560, .inl (fun i9 => bI ((dv (spF bt dm (70 * pl) (8 * 70)) 528) i9)))), (bD, .inl (cB, 73920, .inl (fun i9 => sx (dm i9))))]) [0, 1, 2] rfl
  have hD9 := hD.sub (ws' := [(g0, .inr (1, [.int (nI th), .ref bT, .int (nI tp), .ref bO, .int (nI os), .ref bL, .ref bW, .ref bB, .ref bD, .long dn, .long lf, .int (bI mf), .ref bX])), (bX, .inl (cZ, 560, .inl (fun i9 => bI ((dv (spF bt dm (70 * pl) (8 * 70)) 528) i9)))), (bD, .inl (cB, 73920, .inl (fun i9 => sx (dm i9))))]) [0, 1, 2] (by decide) rfl
  exact W.zret (v := bI (unR (dv (spF bt dm (70 * pl) (8 * 70)) 528) 32)) hx hb hr (zr_nar_b _) (fun t ht hW => ⟨⟨bI (unR (dv (spF bt dm (70 * pl) (8 * 70)) 528) 32), (), rfl, rfl, by rw [ht]; exact hP9, va_K.moved hW.alike hK, hD9⟩, hS.F ht⟩) hS.2.2 dX1_isUnseen_60
set_option maxHeartbeats 4000000 in
set_option maxRecDepth 100000 in
theorem c_X1_stateOf (l : Launch) (dC : Nat → ClassId) (dI : Nat → Nat → Nat) (sz : Nat) (g0 bT bO bL bW bB bD bX : Nat) (th tp os : Nat) (dn lf : Int64) (mf : Bool) (cZ cB : ClassId) (lv wr : Nat → Bool) (dm : Nat → BitVec 8) (di ce : Nat) (hd : di < 16) (hc : ce < 66) : Met l yX1_stateOf wsX1_stateOf ({ frames := 1, cells := 0, slots := 0, locals := 23 }) (va_Pc [.ref g0, .int (nI di), .int (nI ce)] (fun U => U.heap.size = sz ∧ va_P (dC, dI) vwCl [(g0, .inr (1, [.int (nI th), .ref bT, .int (nI tp), .ref bO, .int (nI os), .ref bL, .ref bW, .ref bB, .ref bD, .long dn, .long lf, .int (bI mf), .ref bX])), (bL, .inl (cZ, 16, .inl (fun i9 => bI (lv i9)))), (bW, .inl (cZ, 1056, .inl (fun i9 => bI (wr i9)))), (bD, .inl (cB, 73920, .inl (fun i9 => sx (dm i9))))] U.heap ∧ va_K (dC, dI) vwCl [(cZ, .boolean), (cB, .byte)] U ∧ va_D (fun _ => True) [(g0, .inr (1, [.int (nI th), .ref bT, .int (nI tp), .ref bO, .int (nI os), .ref bL, .ref bW, .ref bB, .ref bD, .long dn, .long lf, .int (bI mf), .ref bX])), (bL, .inl (cZ, 16, .inl (fun i9 => bI (lv i9)))), (bW, .inl (cZ, 1056, .inl (fun i9 => bI (wr i9)))), (bD, .inl (cB, 73920, .inl (fun i9 => sx (dm i9))))])) (va_Qi (fun (r : Int32) (_ : Unit) => r = nI (stN lv wr dm di ce)) (fun (_ : Unit) t => va_P (dC, dI) vwCl [(g0, .inr (1, [.int (nI th), .ref bT, .int (nI tp), .ref bO, .int (nI os), .ref bL, .ref bW, .ref bB, .ref bD, .long dn, .long lf, .int (bI mf), .ref bX])), (bL, .inl (cZ, 16, .inl (fun i9 => bI (lv i9)))), (bW, .inl (cZ, 1056, .inl (fun i9 => bI (wr i9)))), (bD, .inl (cB, 73920, .inl (fun i9 => sx (dm i9))))] t.heap ∧ va_K (dC, dI) vwCl [(cZ, .boolean), (cB, .byte)] t ∧ va_D (va_A [(g0, .inr (1, [.int (nI th), .ref bT, .int (nI tp), .ref bO, .int (nI os), .ref bL, .ref bW, .ref bB, .ref bD, .long dn, .long lf, .int (bI mf), .ref bX])), (bL, .inl (cZ, 16, .inl (fun i9 => bI (lv i9)))), (bW, .inl (cZ, 1056, .inl (fun i9 => bI (wr i9)))), (bD, .inl (cB, 73920, .inl (fun i9 => sx (dm i9))))] sz) [(g0, .inr (1, [.int (nI th), .ref bT, .int (nI tp), .ref bO, .int (nI os), .ref bL, .ref bW, .ref bB, .ref bD, .long dn, .long lf, .int (bI mf), .ref bX])), (bL, .inl (cZ, 16, .inl (fun i9 => bI (lv i9)))), (bW, .inl (cZ, 1056, .inl (fun i9 => bI (wr i9)))), (bD, .inl (cB, 73920, .inl (fun i9 => sx (dm i9))))]) (va_A [(g0, .inr (1, [.int (nI th), .ref bT, .int (nI tp), .ref bO, .int (nI os), .ref bL, .ref bW, .ref bB, .ref bD, .long dn, .long lf, .int (bI mf), .ref bX])), (bL, .inl (cZ, 16, .inl (fun i9 => bI (lv i9)))), (bW, .inl (cZ, 1056, .inl (fun i9 => bI (wr i9)))), (bD, .inl (cB, 73920, .inl (fun i9 => sx (dm i9))))] sz)) 0 0 (va_A [(g0, .inr (1, [.int (nI th), .ref bT, .int (nI tp), .ref bO, .int (nI os), .ref bL, .ref bW, .ref bB, .ref bD, .long dn, .long lf, .int (bI mf), .ref bX])), (bL, .inl (cZ, 16, .inl (fun i9 => bI (lv i9)))), (bW, .inl (cZ, 1056, .inl (fun i9 => bI (wr i9)))), (bD, .inl (cB, 73920, .inl (fun i9 => sx (dm i9))))] sz) := by
  refine Met.ofW (cc := cX1_stateOf) (maxL := 3) (ret := some .int) (by decide) rfl ?_
  intro p e s m args below meth c s₁ B hml hv
  obtain ⟨rfl, hsz, hP, hK, hD0⟩ := hv
  have hx := B.exec
  have hb := B.bytes
  have hr := B.returns
  have hts := atoms_spec (ws := wsX1_stateOf) B.pre
  have hown : s.vm.findClass RX1 = some m.cls := findClass_of_methodNamed B.named
  have hlocks := B.notSynchronized
  subst hsz
  have hD := hD0.self (sz := s.heap.size)
  generalize hAe : va_A [(g0, .inr (1, [.int (nI th), .ref bT, .int (nI tp), .ref bO, .int (nI os), .ref bL, .ref bW, .ref bB, .ref bD, .long dn, .long lf, .int (bI mf), .ref bX])), (bL, .inl (cZ, 16, .inl (fun i9 => bI (lv i9)))), (bW, .inl (cZ, 1056, .inl (fun i9 => bI (wr i9)))), (bD, .inl (cB, 73920, .inl (fun i9 => sx (dm i9))))] s.heap.size = A at hD ⊢
  have hA : ∀ q : Nat, s.heap.size ≤ q → A q := fun q h => by rw [← hAe]; exact Or.inr h
  generalize hH : s.heap = H at hP ⊢
  have hS : va_S A s.heap H [] := by rw [hH]; exact va_S.rf
  replace hP : va_P (dC, dI) vwCl [(g0, .inr (1, [.int (nI th), .ref bT, .int (nI tp), .ref bO, .int (nI os), .ref bL, .ref bW, .ref bB, .ref bD, .long dn, .long lf, .int (bI mf), .ref bX])), (bL, .inl (cZ, 16, .inl (fun i9 => bI (lv i9)))), (bW, .inl (cZ, 1056, .inl (fun i9 => bI (wr i9)))), (bD, .inl (cB, 73920, .inl (fun i9 => sx (dm i9))))] H := hP
  have hl := lv_entry ([.ref g0, .int (nI di), .int (nI ce)]) (n := 3) (Nat.le_of_ble_eq_true rfl)
  rw [lg_entry_eq]
  generalize (lg_sl ([.ref g0, .int (nI di), .int (nI ce)]) ++ List.replicate (3 - (lg_sl ([.ref g0, .int (nI di), .int (nI ce)])).length) Slot.unset).toArray = ls at hl ⊢
  have hl : lv_has ls 3 [(0, .ref g0), (1, .int (nI di)), (2, .int (nI ce))] := hl
  have hi1 : ∀ w ∈ u_ws RX1 TX1 13, w ∈ wsX1_stateOf := by decide +kernel
  refine lv_aload_n hx hb dX1_stateOf_0 rfl (lv_at hl 0 rfl) ?_
  refine va_get (D := (dC, dI)) (ci := 1) (v := .ref bL) (C := RX1) (T := TX1) (N := 13) hx hb hts hi1 hown hK hP 0 rfl rfl 5 (by decide) (hts (.fieldLink RX1 16 "CellRackModel" "live" "[Z") (by decide +kernel)) (fun _ h9 => h9) rfl dX1_stateOf_1 ?_
  refine lv_iload_n hx hb dX1_stateOf_4 rfl (lv_at hl 1 rfl) ?_
  refine zr_zald hx hb hK hP 1 0 rfl rfl (by omega) (by omega) dX1_stateOf_5 ?_
  refine zr_ifb_ne (tgt := 11) hx hb dX1_stateOf_6 (by decide) (fun c6 => ?_) (fun c6 => ?_)
  · refine lv_aload_n hx hb dX1_stateOf_11 rfl (lv_at hl 0 rfl) ?_
    refine va_get (D := (dC, dI)) (ci := 1) (v := .ref bW) (C := RX1) (T := TX1) (N := 13) hx hb hts hi1 hown hK hP 0 rfl rfl 6 (by decide) (hts (.fieldLink RX1 20 "CellRackModel" "written" "[Z") (by decide +kernel)) (fun _ h9 => h9) rfl dX1_stateOf_12 ?_
    refine lv_iload_n hx hb dX1_stateOf_15 rfl (lv_at hl 1 rfl) ?_
    refine lv_iload_n hx hb dX1_stateOf_16 rfl (lv_at hl 2 rfl) ?_
    have hPc := hP.sub (ws' := []) [] rfl
    have hDc := hD.sub (ws' := []) [] (by decide) rfl
    have hKc := hK.sub (tys' := []) [] rfl
    have hFc := va_free (wc := []) hD hS hA [] rfl
    refine va_calli (va_runS (As := [.int (nI di), .int (nI ce)]) (rest := [.ref bW]) ⟨hx, hb, hml, hown, hts⟩ (c_X1_spot l dC dI H.size di ce) (va_cwS 2 hts gX1_stateOf_X1_spot rfl rfl rfl (by decide +kernel) ⟨Nat.le_of_ble_eq_true rfl, Nat.le_of_ble_eq_true rfl⟩) ⟨fun a U g mk q => by obtain ⟨q0, q1, qP, qK, qD⟩ := q; exact ⟨q0, q1, qP, va_K.moved (u := U) (U := U.calling g mk a) (Vm.Alike.refl U.vm) qK, qD⟩, fun U hU hW => ⟨rfl, by rw [hU], by rw [hU]; exact hPc, va_K.moved hW.alike hKc, hDc.weaken (fun _ _ _ _ => trivial)⟩⟩ rfl rfl hl.1 rfl (lv_room (Nat.le_of_ble_eq_true rfl)) dX1_stateOf_17 ⟨Nat.zero_le _, Nat.zero_le _⟩) hS (fun q _ h => hFc q h) hFc (fun r_1 u t H1 locs ht hvm hw hB hz1 hk1 hS => ?_)
    obtain ⟨hP1, hK1, hD1⟩ := hB
    rw [ht] at hP1
    obtain ⟨hPn, hDn⟩ := va_join (wr := [(g0, .inr (1, [.int (nI th), .ref bT, .int (nI tp), .ref bO, .int (nI os), .ref bL, .ref bW, .ref bB, .ref bD, .long dn, .long lf, .int (bI mf), .ref bX])), (bL, .inl (cZ, 16, .inl (fun i9 => bI (lv i9)))), (bW, .inl (cZ, 1056, .inl (fun i9 => bI (wr i9)))), (bD, .inl (cB, 73920, .inl (fun i9 => sx (dm i9))))]) (w1 := []) hP hD [] [0, 1, 2, 3] rfl rfl (by decide) (by decide) hk1 hFc hP1 hD1
    clear hP hD hP1 hD1 hK1 hPc hDc hKc hFc hk1 hz1 hvm ht
    generalize H1 = H at hPn hS ⊢
    have hP := hPn
    have hD := hDn
    clear hPn hDn
    replace hP : va_P (dC, dI) vwCl [(g0, .inr (1, [.int (nI th), .ref bT, .int (nI tp), .ref bO, .int (nI os), .ref bL, .ref bW, .ref bB, .ref bD, .long dn, .long lf, .int (bI mf), .ref bX])), (bL, .inl (cZ, 16, .inl (fun i9 => bI (lv i9)))), (bW, .inl (cZ, 1056, .inl (fun i9 => bI (wr i9)))), (bD, .inl (cB, 73920, .inl (fun i9 => sx (dm i9))))] H := hP
    replace hD : va_D A [(g0, .inr (1, [.int (nI th), .ref bT, .int (nI tp), .ref bO, .int (nI os), .ref bL, .ref bW, .ref bB, .ref bD, .long dn, .long lf, .int (bI mf), .ref bX])), (bL, .inl (cZ, 16, .inl (fun i9 => bI (lv i9)))), (bW, .inl (cZ, 1056, .inl (fun i9 => bI (wr i9)))), (bD, .inl (cB, 73920, .inl (fun i9 => sx (dm i9))))] := hD
    refine W.widen (k := 0) (n := 0) (Nat.le_refl _) (Nat.le_refl _) ?_
    obtain rfl := hw
    refine zr_zald hx hb hK hP 2 0 rfl rfl (by omega) (by omega) dX1_stateOf_20 ?_
    refine zr_ifb_ne (tgt := 28) hx hb dX1_stateOf_21 (by decide) (fun c21 => ?_) (fun c21 => ?_)
    · refine lv_aload_n hx hb dX1_stateOf_28 rfl (lv_at hl 0 rfl) ?_
      refine lv_iload_n hx hb dX1_stateOf_29 rfl (lv_at hl 1 rfl) ?_
      refine lv_iload_n hx hb dX1_stateOf_30 rfl (lv_at hl 2 rfl) ?_
      have hPc := hP.sub (ws' := []) [] rfl
      have hDc := hD.sub (ws' := []) [] (by decide) rfl
      have hKc := hK.sub (tys' := []) [] rfl
      have hFc := va_free (wc := []) hD hS hA [] rfl
      refine va_calli (va_runS (As := [.int (nI di), .int (nI ce)]) (rest := [.ref g0]) ⟨hx, hb, hml, hown, hts⟩ (c_X1_spot l dC dI H.size di ce) (va_cwS 2 hts gX1_stateOf_X1_spot rfl rfl rfl (by decide +kernel) ⟨Nat.le_of_ble_eq_true rfl, Nat.le_of_ble_eq_true rfl⟩) ⟨fun a U g mk q => by obtain ⟨q0, q1, qP, qK, qD⟩ := q; exact ⟨q0, q1, qP, va_K.moved (u := U) (U := U.calling g mk a) (Vm.Alike.refl U.vm) qK, qD⟩, fun U hU hW => ⟨rfl, by rw [hU], by rw [hU]; exact hPc, va_K.moved hW.alike hKc, hDc.weaken (fun _ _ _ _ => trivial)⟩⟩ rfl rfl hl.1 rfl (lv_room (Nat.le_of_ble_eq_true rfl)) dX1_stateOf_31 ⟨Nat.zero_le _, Nat.zero_le _⟩) hS (fun q _ h => hFc q h) hFc (fun r_2 u t H1 locs ht hvm hw hB hz1 hk1 hS => ?_)
      obtain ⟨hP1, hK1, hD1⟩ := hB
      rw [ht] at hP1
      obtain ⟨hPn, hDn⟩ := va_join (wr := [(g0, .inr (1, [.int (nI th), .ref bT, .int (nI tp), .ref bO, .int (nI os), .ref bL, .ref bW, .ref bB, .ref bD, .long dn, .long lf, .int (bI mf), .ref bX])), (bL, .inl (cZ, 16, .inl (fun i9 => bI (lv i9)))), (bW, .inl (cZ, 1056, .inl (fun i9 => bI (wr i9)))), (bD, .inl (cB, 73920, .inl (fun i9 => sx (dm i9))))]) (w1 := []) hP hD [] [0, 1, 2, 3] rfl rfl (by decide) (by decide) hk1 hFc hP1 hD1
      clear hP hD hP1 hD1 hK1 hPc hDc hKc hFc hk1 hz1 hvm ht
      generalize H1 = H at hPn hS ⊢
      have hP := hPn
      have hD := hDn
      clear hPn hDn
      replace hP : va_P (dC, dI) vwCl [(g0, .inr (1, [.int (nI th), .ref bT, .int (nI tp), .ref bO, .int (nI os), .ref bL, .ref bW, .ref bB, .ref bD, .long dn, .long lf, .int (bI mf), .ref bX])), (bL, .inl (cZ, 16, .inl (fun i9 => bI (lv i9)))), (bW, .inl (cZ, 1056, .inl (fun i9 => bI (wr i9)))), (bD, .inl (cB, 73920, .inl (fun i9 => sx (dm i9))))] H := hP
      replace hD : va_D A [(g0, .inr (1, [.int (nI th), .ref bT, .int (nI tp), .ref bO, .int (nI os), .ref bL, .ref bW, .ref bB, .ref bD, .long dn, .long lf, .int (bI mf), .ref bX])), (bL, .inl (cZ, 16, .inl (fun i9 => bI (lv i9)))), (bW, .inl (cZ, 1056, .inl (fun i9 => bI (wr i9)))), (bD, .inl (cB, 73920, .inl (fun i9 => sx (dm i9))))] := hD
      refine W.widen (k := 0) (n := 0) (Nat.le_refl _) (Nat.le_refl _) ?_
      obtain rfl := hw
      have hPc := hP.sub (ws' := [(g0, .inr (1, [.int (nI th), .ref bT, .int (nI tp), .ref bO, .int (nI os), .ref bL, .ref bW, .ref bB, .ref bD, .long dn, .long lf, .int (bI mf), .ref bX])), (bD, .inl (cB, 73920, .inl (fun i9 => sx (dm i9))))]) [0, 3] rfl
      have hDc := hD.sub (ws' := [(g0, .inr (1, [.int (nI th), .ref bT, .int (nI tp), .ref bO, .int (nI os), .ref bL, .ref bW, .ref bB, .ref bD, .long dn, .long lf, .int (bI mf), .ref bX])), (bD, .inl (cB, 73920, .inl (fun i9 => sx (dm i9))))]) [0, 3] (by decide) rfl
      have hKc := hK.sub (tys' := [(cB, .byte)]) [1] rfl
      have hFc := va_free (wc := [(g0, .inr (1, [.int (nI th), .ref bT, .int (nI tp), .ref bO, .int (nI os), .ref bL, .ref bW, .ref bB, .ref bD, .long dn, .long lf, .int (bI mf), .ref bX])), (bD, .inl (cB, 73920, .inl (fun i9 => sx (dm i9))))]) hD hS hA [0, 3] rfl
      refine va_calli (va_runV (As := [.int (nI (66 * di + ce))]) (rest := []) ⟨hx, hb, hml, hown, hts⟩ (c_X1_isDamaged l dC dI H.size g0 bT bO bL bW bB bD bX th tp os dn lf mf cB dm (66 * di + ce) (by omega)) (cwV 1 hts gX1_stateOf_X1_isDamaged rfl rfl rfl (by decide +kernel) ⟨Nat.le_of_ble_eq_true rfl, Nat.le_of_ble_eq_true rfl⟩) ⟨fun a U g mk q => by obtain ⟨q0, q1, qP, qK, qD⟩ := q; exact ⟨q0, q1, qP, va_K.moved (u := U) (U := U.calling g mk a) (Vm.Alike.refl U.vm) qK, qD⟩, va_recv hKc hPc (ci := 1) (q0 := 0) rfl rfl, fun U hU hW => ⟨rfl, by rw [hU], by rw [hU]; exact hPc, va_K.moved hW.alike hKc, hDc.weaken (fun _ _ _ _ => trivial)⟩⟩ rfl rfl hl.1 rfl (lv_room (Nat.le_of_ble_eq_true rfl)) dX1_stateOf_34 ⟨Nat.zero_le _, Nat.zero_le _⟩) hS (fun q _ h => hFc q h) hFc (fun r_3 u t H1 locs ht hvm hw hB hz1 hk1 hS => ?_)
      obtain ⟨hP1, hK1, hD1⟩ := hB
      rw [ht] at hP1
      obtain ⟨hPn, hDn⟩ := va_join (wr := [(bL, .inl (cZ, 16, .inl (fun i9 => bI (lv i9)))), (bW, .inl (cZ, 1056, .inl (fun i9 => bI (wr i9))))]) (w1 := [(g0, .inr (1, [.int (nI th), .ref bT, .int (nI tp), .ref bO, .int (nI os), .ref bL, .ref bW, .ref bB, .ref bD, .long dn, .long lf, .int (bI mf), .ref bX])), (bD, .inl (cB, 73920, .inl (fun i9 => sx (dm i9))))]) hP hD [0, 3] [1, 2] rfl rfl (by decide) (by decide) hk1 hFc hP1 hD1
      clear hP hD hP1 hD1 hK1 hPc hDc hKc hFc hk1 hz1 hvm ht
      generalize H1 = H at hPn hS ⊢
      have hP := hPn
      have hD := hDn
      clear hPn hDn
      replace hP : va_P (dC, dI) vwCl [(bL, .inl (cZ, 16, .inl (fun i9 => bI (lv i9)))), (bW, .inl (cZ, 1056, .inl (fun i9 => bI (wr i9)))), (g0, .inr (1, [.int (nI th), .ref bT, .int (nI tp), .ref bO, .int (nI os), .ref bL, .ref bW, .ref bB, .ref bD, .long dn, .long lf, .int (bI mf), .ref bX])), (bD, .inl (cB, 73920, .inl (fun i9 => sx (dm i9))))] H := hP
      replace hD : va_D A [(bL, .inl (cZ, 16, .inl (fun i9 => bI (lv i9)))), (bW, .inl (cZ, 1056, .inl (fun i9 => bI (wr i9)))), (g0, .inr (1, [.int (nI th), .ref bT, .int (nI tp), .ref bO, .int (nI os), .ref bL, .ref bW, .ref bB, .ref bD, .long dn, .long lf, .int (bI mf), .ref bX])), (bD, .inl (cB, 73920, .inl (fun i9 => sx (dm i9))))] := hD
      refine W.widen (k := 0) (n := 0) (Nat.le_refl _) (Nat.le_refl _) ?_
      obtain rfl := hw
      refine zr_ifb_eq (tgt := 44) hx hb dX1_stateOf_37 (by decide) (fun c37 => ?_) (fun c37 => ?_)
      · refine lv_iconst (v := nI 2) hx hb dX1_stateOf_44 (by decide) ?_
        have hP9 := hP.sub (ws' := [(g0, .inr (1, [.int (nI th), .ref bT, .int (nI tp), .ref bO, .int (nI os), .ref bL, .ref bW, .ref bB, .ref bD, .long dn, .long lf, .int (bI mf), .ref bX])), (bL, .inl (cZ, 16, .inl (fun i9 => bI (lv i9)))), (bW, .inl (cZ, 1056, .inl (fun i9 => bI (wr i9)))), (bD, .inl (cB, 73920, .inl (fun i9 => sx (dm i9))))]) [2, 0, 1, 3] rfl
        have hD9 := hD.sub (ws' := [(g0, .inr (1, [.int (nI th), .ref bT, .int (nI tp), .ref bO, .int (nI os), .ref bL, .ref bW, .ref bB, .ref bD, .long dn, .long lf, .int (bI mf), .ref bX])), (bL, .inl (cZ, 16, .inl (fun i9 => bI (lv i9)))), (bW, .inl (cZ, 1056, .inl (fun i9 => bI (wr i9)))), (bD, .inl (cB, 73920, .inl (fun i9 => sx (dm i9))))]) [2, 0, 1, 3] (by decide) rfl
        exact W.iret (v := nI 2) hx hb hr (fun t ht hW => ⟨⟨nI 2, (), rfl, by unfold stN; first | (rw [show lv di = false from c6]; rfl) | (rw [show lv di = true from c6, show wr (66 * di + ce) = false from c21]; rfl) | (rw [show lv di = true from c6, show wr (66 * di + ce) = true from c21, show dgR dm (66 * di + ce) 70 = true from c37]; rfl) | (rw [show lv di = true from c6, show wr (66 * di + ce) = true from c21, show dgR dm (66 * di + ce) 70 = false from c37]; rfl), by rw [ht]; exact hP9, va_K.moved hW.alike hK, hD9⟩, hS.F ht⟩) hS.2.2 dX1_stateOf_45
      · refine lv_iconst (v := nI 3) hx hb dX1_stateOf_40 (by decide) ?_
        refine lv_goto (tgt := 45) hx hb dX1_stateOf_41 (by decide) ?_
        have hP9 := hP.sub (ws' := [(g0, .inr (1, [.int (nI th), .ref bT, .int (nI tp), .ref bO, .int (nI os), .ref bL, .ref bW, .ref bB, .ref bD, .long dn, .long lf, .int (bI mf), .ref bX])), (bL, .inl (cZ, 16, .inl (fun i9 => bI (lv i9)))), (bW, .inl (cZ, 1056, .inl (fun i9 => bI (wr i9)))), (bD, .inl (cB, 73920, .inl (fun i9 => sx (dm i9))))]) [2, 0, 1, 3] rfl
        have hD9 := hD.sub (ws' := [(g0, .inr (1, [.int (nI th), .ref bT, .int (nI tp), .ref bO, .int (nI os), .ref bL, .ref bW, .ref bB, .ref bD, .long dn, .long lf, .int (bI mf), .ref bX])), (bL, .inl (cZ, 16, .inl (fun i9 => bI (lv i9)))), (bW, .inl (cZ, 1056, .inl (fun i9 => bI (wr i9)))), (bD, .inl (cB, 73920, .inl (fun i9 => sx (dm i9))))]) [2, 0, 1, 3] (by decide) rfl
        exact W.iret (v := nI 3) hx hb hr (fun t ht hW => ⟨⟨nI 3, (), rfl, by unfold stN; first | (rw [show lv di = false from c6]; rfl) | (rw [show lv di = true from c6, show wr (66 * di + ce) = false from c21]; rfl) | (rw [show lv di = true from c6, show wr (66 * di + ce) = true from c21, show dgR dm (66 * di + ce) 70 = true from c37]; rfl) | (rw [show lv di = true from c6, show wr (66 * di + ce) = true from c21, show dgR dm (66 * di + ce) 70 = false from c37]; rfl), by rw [ht]; exact hP9, va_K.moved hW.alike hK, hD9⟩, hS.F ht⟩) hS.2.2 dX1_stateOf_45
    · refine lv_iconst (v := nI 1) hx hb dX1_stateOf_24 (by decide) ?_
      refine lv_goto (tgt := 45) hx hb dX1_stateOf_25 (by decide) ?_
      have hP9 := hP.sub (ws' := [(g0, .inr (1, [.int (nI th), .ref bT, .int (nI tp), .ref bO, .int (nI os), .ref bL, .ref bW, .ref bB, .ref bD, .long dn, .long lf, .int (bI mf), .ref bX])), (bL, .inl (cZ, 16, .inl (fun i9 => bI (lv i9)))), (bW, .inl (cZ, 1056, .inl (fun i9 => bI (wr i9)))), (bD, .inl (cB, 73920, .inl (fun i9 => sx (dm i9))))]) [0, 1, 2, 3] rfl
      have hD9 := hD.sub (ws' := [(g0, .inr (1, [.int (nI th), .ref bT, .int (nI tp), .ref bO, .int (nI os), .ref bL, .ref bW, .ref bB, .ref bD, .long dn, .long lf, .int (bI mf), .ref bX])), (bL, .inl (cZ, 16, .inl (fun i9 => bI (lv i9)))), (bW, .inl (cZ, 1056, .inl (fun i9 => bI (wr i9)))), (bD, .inl (cB, 73920, .inl (fun i9 => sx (dm i9))))]) [0, 1, 2, 3] (by decide) rfl
      exact W.iret (v := nI 1) hx hb hr (fun t ht hW => ⟨⟨nI 1, (), rfl, by unfold stN; first | (rw [show lv di = false from c6]; rfl) | (rw [show lv di = true from c6, show wr (66 * di + ce) = false from c21]; rfl) | (rw [show lv di = true from c6, show wr (66 * di + ce) = true from c21, show dgR dm (66 * di + ce) 70 = true from c37]; rfl) | (rw [show lv di = true from c6, show wr (66 * di + ce) = true from c21, show dgR dm (66 * di + ce) 70 = false from c37]; rfl), by rw [ht]; exact hP9, va_K.moved hW.alike hK, hD9⟩, hS.F ht⟩) hS.2.2 dX1_stateOf_45
  · refine lv_iconst (v := nI 0) hx hb dX1_stateOf_9 (by decide) ?_
    have hP9 := hP.sub (ws' := [(g0, .inr (1, [.int (nI th), .ref bT, .int (nI tp), .ref bO, .int (nI os), .ref bL, .ref bW, .ref bB, .ref bD, .long dn, .long lf, .int (bI mf), .ref bX])), (bL, .inl (cZ, 16, .inl (fun i9 => bI (lv i9)))), (bW, .inl (cZ, 1056, .inl (fun i9 => bI (wr i9)))), (bD, .inl (cB, 73920, .inl (fun i9 => sx (dm i9))))]) [0, 1, 2, 3] rfl
    have hD9 := hD.sub (ws' := [(g0, .inr (1, [.int (nI th), .ref bT, .int (nI tp), .ref bO, .int (nI os), .ref bL, .ref bW, .ref bB, .ref bD, .long dn, .long lf, .int (bI mf), .ref bX])), (bL, .inl (cZ, 16, .inl (fun i9 => bI (lv i9)))), (bW, .inl (cZ, 1056, .inl (fun i9 => bI (wr i9)))), (bD, .inl (cB, 73920, .inl (fun i9 => sx (dm i9))))]) [0, 1, 2, 3] (by decide) rfl
    exact W.iret (v := nI 0) hx hb hr (fun t ht hW => ⟨⟨nI 0, (), rfl, by unfold stN; first | (rw [show lv di = false from c6]; rfl) | (rw [show lv di = true from c6, show wr (66 * di + ce) = false from c21]; rfl) | (rw [show lv di = true from c6, show wr (66 * di + ce) = true from c21, show dgR dm (66 * di + ce) 70 = true from c37]; rfl) | (rw [show lv di = true from c6, show wr (66 * di + ce) = true from c21, show dgR dm (66 * di + ce) 70 = false from c37]; rfl), by rw [ht]; exact hP9, va_K.moved hW.alike hK, hD9⟩, hS.F ht⟩) hS.2.2 dX1_stateOf_10
set_option maxHeartbeats 4000000 in
set_option maxRecDepth 100000 in
theorem c_X1_byteAt (l : Launch) (dC : Nat → ClassId) (dI : Nat → Nat → Nat) (sz : Nat) (g0 bT bO bL bW bB bD bX : Nat) (th tp os : Nat) (dn lf : Int64) (mf : Bool) (cB : ClassId) (bs dm : Nat → BitVec 8) (pl k : Nat) (hp : pl < 1056) (hk : k < 70) : Met l yX1_byteAt wsX1_byteAt ({ frames := 0, cells := 0, slots := 0, locals := 0 }) (va_Pc [.ref g0, .int (nI pl), .int (nI k)] (fun U => U.heap.size = sz ∧ va_P (dC, dI) vwCl [(g0, .inr (1, [.int (nI th), .ref bT, .int (nI tp), .ref bO, .int (nI os), .ref bL, .ref bW, .ref bB, .ref bD, .long dn, .long lf, .int (bI mf), .ref bX])), (bB, .inl (cB, 73920, .inl (fun i9 => sx (bs i9)))), (bD, .inl (cB, 73920, .inl (fun i9 => sx (dm i9))))] U.heap ∧ va_K (dC, dI) vwCl [(cB, .byte)] U ∧ va_D (fun _ => True) [(g0, .inr (1, [.int (nI th), .ref bT, .int (nI tp), .ref bO, .int (nI os), .ref bL, .ref bW, .ref bB, .ref bD, .long dn, .long lf, .int (bI mf), .ref bX])), (bB, .inl (cB, 73920, .inl (fun i9 => sx (bs i9)))), (bD, .inl (cB, 73920, .inl (fun i9 => sx (dm i9))))])) (va_Qi (fun (r : Int32) (_ : Unit) => r = nI (bA bs dm pl k)) (fun (_ : Unit) t => va_P (dC, dI) vwCl [(g0, .inr (1, [.int (nI th), .ref bT, .int (nI tp), .ref bO, .int (nI os), .ref bL, .ref bW, .ref bB, .ref bD, .long dn, .long lf, .int (bI mf), .ref bX])), (bB, .inl (cB, 73920, .inl (fun i9 => sx (bs i9)))), (bD, .inl (cB, 73920, .inl (fun i9 => sx (dm i9))))] t.heap ∧ va_K (dC, dI) vwCl [(cB, .byte)] t ∧ va_D (va_A [(g0, .inr (1, [.int (nI th), .ref bT, .int (nI tp), .ref bO, .int (nI os), .ref bL, .ref bW, .ref bB, .ref bD, .long dn, .long lf, .int (bI mf), .ref bX])), (bB, .inl (cB, 73920, .inl (fun i9 => sx (bs i9)))), (bD, .inl (cB, 73920, .inl (fun i9 => sx (dm i9))))] sz) [(g0, .inr (1, [.int (nI th), .ref bT, .int (nI tp), .ref bO, .int (nI os), .ref bL, .ref bW, .ref bB, .ref bD, .long dn, .long lf, .int (bI mf), .ref bX])), (bB, .inl (cB, 73920, .inl (fun i9 => sx (bs i9)))), (bD, .inl (cB, 73920, .inl (fun i9 => sx (dm i9))))]) (va_A [(g0, .inr (1, [.int (nI th), .ref bT, .int (nI tp), .ref bO, .int (nI os), .ref bL, .ref bW, .ref bB, .ref bD, .long dn, .long lf, .int (bI mf), .ref bX])), (bB, .inl (cB, 73920, .inl (fun i9 => sx (bs i9)))), (bD, .inl (cB, 73920, .inl (fun i9 => sx (dm i9))))] sz)) 0 0 (va_A [(g0, .inr (1, [.int (nI th), .ref bT, .int (nI tp), .ref bO, .int (nI os), .ref bL, .ref bW, .ref bB, .ref bD, .long dn, .long lf, .int (bI mf), .ref bX])), (bB, .inl (cB, 73920, .inl (fun i9 => sx (bs i9)))), (bD, .inl (cB, 73920, .inl (fun i9 => sx (dm i9))))] sz) := by
  refine Met.ofW (cc := cX1_byteAt) (maxL := 3) (ret := some .int) (by decide) rfl ?_
  intro p e s m args below meth c s₁ B hml hv
  obtain ⟨rfl, hsz, hP, hK, hD0⟩ := hv
  have hx := B.exec
  have hb := B.bytes
  have hr := B.returns
  have hts := atoms_spec (ws := wsX1_byteAt) B.pre
  have hown : s.vm.findClass RX1 = some m.cls := findClass_of_methodNamed B.named
  have hlocks := B.notSynchronized
  subst hsz
  have hD := hD0.self (sz := s.heap.size)
  generalize hAe : va_A [(g0, .inr (1, [.int (nI th), .ref bT, .int (nI tp), .ref bO, .int (nI os), .ref bL, .ref bW, .ref bB, .ref bD, .long dn, .long lf, .int (bI mf), .ref bX])), (bB, .inl (cB, 73920, .inl (fun i9 => sx (bs i9)))), (bD, .inl (cB, 73920, .inl (fun i9 => sx (dm i9))))] s.heap.size = A at hD ⊢
  have hA : ∀ q : Nat, s.heap.size ≤ q → A q := fun q h => by rw [← hAe]; exact Or.inr h
  generalize hH : s.heap = H at hP ⊢
  have hS : va_S A s.heap H [] := by rw [hH]; exact va_S.rf
  replace hP : va_P (dC, dI) vwCl [(g0, .inr (1, [.int (nI th), .ref bT, .int (nI tp), .ref bO, .int (nI os), .ref bL, .ref bW, .ref bB, .ref bD, .long dn, .long lf, .int (bI mf), .ref bX])), (bB, .inl (cB, 73920, .inl (fun i9 => sx (bs i9)))), (bD, .inl (cB, 73920, .inl (fun i9 => sx (dm i9))))] H := hP
  have hl := lv_entry ([.ref g0, .int (nI pl), .int (nI k)]) (n := 3) (Nat.le_of_ble_eq_true rfl)
  rw [lg_entry_eq]
  generalize (lg_sl ([.ref g0, .int (nI pl), .int (nI k)]) ++ List.replicate (3 - (lg_sl ([.ref g0, .int (nI pl), .int (nI k)])).length) Slot.unset).toArray = ls at hl ⊢
  have hl : lv_has ls 3 [(0, .ref g0), (1, .int (nI pl)), (2, .int (nI k))] := hl
  have hi1 : ∀ w ∈ u_ws RX1 TX1 13, w ∈ wsX1_byteAt := by decide +kernel
  refine lv_aload_n hx hb dX1_byteAt_0 rfl (lv_at hl 0 rfl) ?_
  refine va_get (D := (dC, dI)) (ci := 1) (v := .ref bB) (C := RX1) (T := TX1) (N := 13) hx hb hts hi1 hown hK hP 0 rfl rfl 7 (by decide) (hts (.fieldLink RX1 24 "CellRackModel" "bytes" "[B") (by decide +kernel)) (fun _ h9 => h9) rfl dX1_byteAt_1 ?_
  refine lv_bipush (v := nI 70) hx hb dX1_byteAt_4 (by decide) ?_
  refine lv_iload_n hx hb dX1_byteAt_6 rfl (lv_at hl 1 rfl) ?_
  refine zr_imul hx hb dX1_byteAt_7 ?_
  refine lv_iload_n hx hb dX1_byteAt_8 rfl (lv_at hl 2 rfl) ?_
  refine zr_iadd hx hb dX1_byteAt_9 ?_
  refine zr_xald hx hb hK hP 1 0 rfl rfl (by omega) (by omega) dX1_byteAt_10 ?_
  refine lv_aload_n hx hb dX1_byteAt_11 rfl (lv_at hl 0 rfl) ?_
  refine va_get (D := (dC, dI)) (ci := 1) (v := .ref bD) (C := RX1) (T := TX1) (N := 13) hx hb hts hi1 hown hK hP 0 rfl rfl 8 (by decide) (hts (.fieldLink RX1 28 "CellRackModel" "damage" "[B") (by decide +kernel)) (fun _ h9 => h9) rfl dX1_byteAt_12 ?_
  refine lv_bipush (v := nI 70) hx hb dX1_byteAt_15 (by decide) ?_
  refine lv_iload_n hx hb dX1_byteAt_17 rfl (lv_at hl 1 rfl) ?_
  refine zr_imul hx hb dX1_byteAt_18 ?_
  refine lv_iload_n hx hb dX1_byteAt_19 rfl (lv_at hl 2 rfl) ?_
  refine zr_iadd hx hb dX1_byteAt_20 ?_
  refine zr_xald hx hb hK hP 2 0 rfl rfl (by omega) (by omega) dX1_byteAt_21 ?_
  refine lv_ixor hx hb dX1_byteAt_22 ?_
  refine lv_sipush (v := nI 255) hx hb dX1_byteAt_23 (by decide) ?_
  refine lv_iand hx hb dX1_byteAt_26 ?_
  refine zr_topi (nI (bA bs dm pl k)) (bA_eq _ _) ?_
  have hP9 := hP.sub (ws' := [(g0, .inr (1, [.int (nI th), .ref bT, .int (nI tp), .ref bO, .int (nI os), .ref bL, .ref bW, .ref bB, .ref bD, .long dn, .long lf, .int (bI mf), .ref bX])), (bB, .inl (cB, 73920, .inl (fun i9 => sx (bs i9)))), (bD, .inl (cB, 73920, .inl (fun i9 => sx (dm i9))))]) [0, 1, 2] rfl
  have hD9 := hD.sub (ws' := [(g0, .inr (1, [.int (nI th), .ref bT, .int (nI tp), .ref bO, .int (nI os), .ref bL, .ref bW, .ref bB, .ref bD, .long dn, .long lf, .int (bI mf), .ref bX])), (bB, .inl (cB, 73920, .inl (fun i9 => sx (bs i9)))), (bD, .inl (cB, 73920, .inl (fun i9 => sx (dm i9))))]) [0, 1, 2] (by decide) rfl
  exact W.iret (v := nI (bA bs dm pl k)) hx hb hr (fun t ht hW => ⟨⟨nI (bA bs dm pl k), (), rfl, rfl, by rw [ht]; exact hP9, va_K.moved hW.alike hK, hD9⟩, hS.F ht⟩) hS.2.2 dX1_byteAt_27
set_option maxHeartbeats 4000000 in
set_option maxRecDepth 100000 in
theorem lp_X1_strike {p : Program} {l : Launch} {e : Env} {R : Room} {s : State} {m : MethodId} {args : Array Value} {below : List Frame} {meth : Method} {c : Code} {cells slots : Nat} {Q : State → Prop} {A : Nat → Prop} {H0 : Heap} {dC : Nat → ClassId} {dI : Nat → Nat → Nat} (g0 bT bO bL bW bB bD bX : Nat) (th tp os : Nat) (dn lf : Int64) (mf : Bool) (cB : ClassId) (dm : Nat → BitVec 8) (c0 pl : Nat) (mk : Int64) (n0 : Nat) (hc : c0 < 1056) (h8 : n0 ≤ 8) (hp : pl + n0 ≤ 70) (hx : p.tables.exec = Jvm.exec) (hb : c.code = cX1_strike) (hml : c.maxLocals = 7) (hown : s.vm.findClass RX1 = some m.cls) (hts : ∀ w ∈ wsX1_strike, w.before args s = true) (hA : ∀ q : Nat, H0.size ≤ q → A q) (hK : va_K (dC, dI) vwCl [(cB, .byte)] s) (kk : ∀  (H : Heap) (locs : List Loc) (ls : Array Slot), va_P (dC, dI) vwCl [(g0, .inr (1, [.int (nI th), .ref bT, .int (nI tp), .ref bO, .int (nI os), .ref bL, .ref bW, .ref bB, .ref bD, .long dn, .long lf, .int (bI mf), .ref bX])), (bD, .inl (cB, 73920, .inl (fun i9 => sx ((sF dm c0 pl mk n0) i9))))] H → va_D A [(g0, .inr (1, [.int (nI th), .ref bT, .int (nI tp), .ref bO, .int (nI os), .ref bL, .ref bW, .ref bB, .ref bD, .long dn, .long lf, .int (bI mf), .ref bX])), (bD, .inl (cB, 73920, .inl (fun i9 => sx ((sF dm c0 pl mk n0) i9))))] → va_S A H0 H locs → lv_has ls 7 [(0, .ref g0), (1, .int (nI c0)), (2, .int (nI pl)), (3, .long mk), (5, .int (nI n0)), (6, .int (nI n0))] → W p l e R s m args below meth c H locs cells slots Q (F0 m 43 ls [])) : ∀ (n : Nat) (k : Nat), n0 + 1 ≤ k + n → k ≤ n0 → ∀ (H : Heap) (locs : List Loc) (ls : Array Slot), va_P (dC, dI) vwCl [(g0, .inr (1, [.int (nI th), .ref bT, .int (nI tp), .ref bO, .int (nI os), .ref bL, .ref bW, .ref bB, .ref bD, .long dn, .long lf, .int (bI mf), .ref bX])), (bD, .inl (cB, 73920, .inl (fun i9 => sx ((sF dm c0 pl mk k) i9))))] H → va_D A [(g0, .inr (1, [.int (nI th), .ref bT, .int (nI tp), .ref bO, .int (nI os), .ref bL, .ref bW, .ref bB, .ref bD, .long dn, .long lf, .int (bI mf), .ref bX])), (bD, .inl (cB, 73920, .inl (fun i9 => sx ((sF dm c0 pl mk k) i9))))] → va_S A H0 H locs → lv_has ls 7 [(0, .ref g0), (1, .int (nI c0)), (2, .int (nI pl)), (3, .long mk), (5, .int (nI n0)), (6, .int (nI k))] → W p l e R s m args below meth c H locs cells slots Q (F0 m 3 ls []) := by
  have hi1 : ∀ w ∈ u_ws RX1 TX1 13, w ∈ wsX1_strike := by decide +kernel
  intro n
  induction n with
  | zero => intro k  hm hi; exact absurd hm (by omega)
  | succ n ih =>
    intro k  hm hi H locs ls hP hD hS hl
    refine lv_iload hx hb dX1_strike_3 (lv_at hl 5 rfl) ?_
    refine lv_iload hx hb dX1_strike_5 (lv_at hl 4 rfl) ?_
    refine zr_icmp_ge (tgt := 43) hx hb (by omega) (by omega) dX1_strike_7 (by decide) (fun c7 => ?_) (fun c7 => ?_)
    · obtain rfl : n0 = k := by omega
      exact kk  H locs ls (hP.sub [0, 1] rfl) (hD.sub [0, 1] (by decide) rfl) hS (lv_sub hl [0, 1, 2, 3, 4, 5] rfl)
    · refine lv_aload_n hx hb dX1_strike_10 rfl (lv_at hl 0 rfl) ?_
      refine va_get (D := (dC, dI)) (ci := 1) (v := .ref bD) (C := RX1) (T := TX1) (N := 13) hx hb hts hi1 hown hK hP 0 rfl rfl 8 (by decide) (hts (.fieldLink RX1 28 "CellRackModel" "damage" "[B") (by decide +kernel)) (fun _ h9 => h9) rfl dX1_strike_11 ?_
      refine lv_bipush (v := nI 70) hx hb dX1_strike_14 (by decide) ?_
      refine lv_iload_n hx hb dX1_strike_16 rfl (lv_at hl 1 rfl) ?_
      refine zr_imul hx hb dX1_strike_17 ?_
      refine lv_iload_n hx hb dX1_strike_18 rfl (lv_at hl 2 rfl) ?_
      refine zr_iadd hx hb dX1_strike_19 ?_
      refine lv_iload hx hb dX1_strike_20 (lv_at hl 5 rfl) ?_
      refine zr_iadd hx hb dX1_strike_22 ?_
      refine lv_dup2_11 hx hb dX1_strike_23 rfl rfl ?_
      refine zr_xald hx hb hK hP 1 0 rfl rfl (by omega) (by omega) dX1_strike_24 ?_
      refine lv_lload_n hx hb dX1_strike_25 rfl (lv_at hl 3 rfl) ?_
      refine lv_bipush (v := nI 8) hx hb dX1_strike_26 (by decide) ?_
      refine lv_iload hx hb dX1_strike_28 (lv_at hl 5 rfl) ?_
      refine zr_imul hx hb dX1_strike_30 ?_
      refine lv_lshr hx hb dX1_strike_31 rfl ?_
      refine lv_l2i hx hb dX1_strike_32 rfl ?_
      refine lv_i2b hx hb dX1_strike_33 rfl ?_
      refine lv_ixor hx hb dX1_strike_34 ?_
      refine lv_i2b hx hb dX1_strike_35 rfl ?_
      refine zr_xast hx hb hK hP hD hS 1 0 rfl rfl (by omega) (by omega) dX1_strike_36 (fun H locs hP hD hS => ?_)
      replace hP : va_P (dC, dI) vwCl [(g0, .inr (1, [.int (nI th), .ref bT, .int (nI tp), .ref bO, .int (nI os), .ref bL, .ref bW, .ref bB, .ref bD, .long dn, .long lf, .int (bI mf), .ref bX])), (bD, .inl (cB, 73920, .inl (fun i9 => sx ((va_up (sF dm c0 pl mk k) (((70 * c0) + pl) + k) ((((sx ((sF dm c0 pl mk k) (((70 * c0) + pl) + k))) ^^^ (((mk >>> ((nI (8 * k)).toInt64 &&& 63)).toInt32).toInt8.toInt32)).toInt8.toInt32).toBitVec.setWidth 8)) i9))))] H := hP
      replace hD : va_D A [(g0, .inr (1, [.int (nI th), .ref bT, .int (nI tp), .ref bO, .int (nI os), .ref bL, .ref bW, .ref bB, .ref bD, .long dn, .long lf, .int (bI mf), .ref bX])), (bD, .inl (cB, 73920, .inl (fun i9 => sx ((va_up (sF dm c0 pl mk k) (((70 * c0) + pl) + k) ((((sx ((sF dm c0 pl mk k) (((70 * c0) + pl) + k))) ^^^ (((mk >>> ((nI (8 * k)).toInt64 &&& 63)).toInt32).toInt8.toInt32)).toInt8.toInt32).toBitVec.setWidth 8)) i9))))] := hD
      refine lv_iinc (v := nI (k + 1)) (lv' := [(6, .int (nI (k + 1))), (0, .ref g0), (1, .int (nI c0)), (2, .int (nI pl)), (3, .long mk), (5, .int (nI n0))]) hx hb dX1_strike_37 hl (k := 5) rfl (nI_add (k) 1) (by decide) rfl (fun ls hl => ?_)
      refine lv_goto (tgt := 3) hx hb dX1_strike_40 (by decide) ?_
      exact ih (k + 1) (by omega) (by omega) H locs ls (hP.sub [0, 1] rfl) (hD.sub [0, 1] (by decide) rfl) hS (lv_sub hl [1, 2, 3, 4, 5, 0] rfl)
set_option maxHeartbeats 4000000 in
set_option maxRecDepth 100000 in
theorem c_X1_strike (l : Launch) (dC : Nat → ClassId) (dI : Nat → Nat → Nat) (sz : Nat) (g0 bT bO bL bW bB bD bX : Nat) (th tp os : Nat) (dn lf : Int64) (mf : Bool) (cB : ClassId) (dm : Nat → BitVec 8) (c0 pl : Nat) (mk : Int64) (n0 : Nat) (hc : c0 < 1056) (h8 : n0 ≤ 8) (hp : pl + n0 ≤ 70) : Met l yX1_strike wsX1_strike ({ frames := 0, cells := 0, slots := 0, locals := 0 }) (va_Pc [.ref g0, .int (nI c0), .int (nI pl), .long mk, .int (nI n0)] (fun U => U.heap.size = sz ∧ va_P (dC, dI) vwCl [(g0, .inr (1, [.int (nI th), .ref bT, .int (nI tp), .ref bO, .int (nI os), .ref bL, .ref bW, .ref bB, .ref bD, .long dn, .long lf, .int (bI mf), .ref bX])), (bD, .inl (cB, 73920, .inl (fun i9 => sx (dm i9))))] U.heap ∧ va_K (dC, dI) vwCl [(cB, .byte)] U ∧ va_D (fun _ => True) [(g0, .inr (1, [.int (nI th), .ref bT, .int (nI tp), .ref bO, .int (nI os), .ref bL, .ref bW, .ref bB, .ref bD, .long dn, .long lf, .int (bI mf), .ref bX])), (bD, .inl (cB, 73920, .inl (fun i9 => sx (dm i9))))])) (va_Qv (fun (_ : Unit) => True) (fun (_ : Unit) t => va_P (dC, dI) vwCl [(g0, .inr (1, [.int (nI th), .ref bT, .int (nI tp), .ref bO, .int (nI os), .ref bL, .ref bW, .ref bB, .ref bD, .long dn, .long lf, .int (bI mf), .ref bX])), (bD, .inl (cB, 73920, .inl (fun i9 => sx ((sF dm c0 pl mk n0) i9))))] t.heap ∧ va_K (dC, dI) vwCl [(cB, .byte)] t ∧ va_D (va_A [(g0, .inr (1, [.int (nI th), .ref bT, .int (nI tp), .ref bO, .int (nI os), .ref bL, .ref bW, .ref bB, .ref bD, .long dn, .long lf, .int (bI mf), .ref bX])), (bD, .inl (cB, 73920, .inl (fun i9 => sx (dm i9))))] sz) [(g0, .inr (1, [.int (nI th), .ref bT, .int (nI tp), .ref bO, .int (nI os), .ref bL, .ref bW, .ref bB, .ref bD, .long dn, .long lf, .int (bI mf), .ref bX])), (bD, .inl (cB, 73920, .inl (fun i9 => sx ((sF dm c0 pl mk n0) i9))))]) (va_A [(g0, .inr (1, [.int (nI th), .ref bT, .int (nI tp), .ref bO, .int (nI os), .ref bL, .ref bW, .ref bB, .ref bD, .long dn, .long lf, .int (bI mf), .ref bX])), (bD, .inl (cB, 73920, .inl (fun i9 => sx (dm i9))))] sz)) 0 0 (va_A [(g0, .inr (1, [.int (nI th), .ref bT, .int (nI tp), .ref bO, .int (nI os), .ref bL, .ref bW, .ref bB, .ref bD, .long dn, .long lf, .int (bI mf), .ref bX])), (bD, .inl (cB, 73920, .inl (fun i9 => sx (dm i9))))] sz) := by
  refine Met.ofW (cc := cX1_strike) (maxL := 7) (ret := none) (by decide) rfl ?_
  intro p e s m args below meth c s₁ B hml hv
  obtain ⟨rfl, hsz, hP, hK, hD0⟩ := hv
  have hx := B.exec
  have hb := B.bytes
  have hr := B.returns
  have hts := atoms_spec (ws := wsX1_strike) B.pre
  have hown : s.vm.findClass RX1 = some m.cls := findClass_of_methodNamed B.named
  have hlocks := B.notSynchronized
  subst hsz
  have hD := hD0.self (sz := s.heap.size)
  generalize hAe : va_A [(g0, .inr (1, [.int (nI th), .ref bT, .int (nI tp), .ref bO, .int (nI os), .ref bL, .ref bW, .ref bB, .ref bD, .long dn, .long lf, .int (bI mf), .ref bX])), (bD, .inl (cB, 73920, .inl (fun i9 => sx (dm i9))))] s.heap.size = A at hD ⊢
  have hA : ∀ q : Nat, s.heap.size ≤ q → A q := fun q h => by rw [← hAe]; exact Or.inr h
  generalize hH : s.heap = H at hP ⊢
  have hS : va_S A s.heap H [] := by rw [hH]; exact va_S.rf
  replace hP : va_P (dC, dI) vwCl [(g0, .inr (1, [.int (nI th), .ref bT, .int (nI tp), .ref bO, .int (nI os), .ref bL, .ref bW, .ref bB, .ref bD, .long dn, .long lf, .int (bI mf), .ref bX])), (bD, .inl (cB, 73920, .inl (fun i9 => sx (dm i9))))] H := hP
  have hl := lv_entry ([.ref g0, .int (nI c0), .int (nI pl), .long mk, .int (nI n0)]) (n := 7) (Nat.le_of_ble_eq_true rfl)
  rw [lg_entry_eq]
  generalize (lg_sl ([.ref g0, .int (nI c0), .int (nI pl), .long mk, .int (nI n0)]) ++ List.replicate (7 - (lg_sl ([.ref g0, .int (nI c0), .int (nI pl), .long mk, .int (nI n0)])).length) Slot.unset).toArray = ls at hl ⊢
  have hl : lv_has ls 7 [(0, .ref g0), (1, .int (nI c0)), (2, .int (nI pl)), (3, .long mk), (5, .int (nI n0))] := hl
  refine lv_iconst (v := nI 0) hx hb dX1_strike_0 (by decide) ?_
  refine lv_istore (lv' := [(6, .int (nI 0)), (0, .ref g0), (1, .int (nI c0)), (2, .int (nI pl)), (3, .long mk), (5, .int (nI n0))]) hx hb dX1_strike_1 hl (by decide) rfl (fun ls hl => ?_)
  refine lp_X1_strike g0 bT bO bL bW bB bD bX th tp os dn lf mf cB dm c0 pl mk n0 hc h8 hp hx hb hml hown hts hA hK (fun  H locs ls hP hD hS hl => ?_) (n0 + 1) 0 (by omega) (by omega) _ _ _ (hP.sub [0, 1] rfl) (hD.sub [0, 1] (by decide) rfl) hS (lv_sub hl [1, 2, 3, 4, 5, 0] rfl)
  have hP9 := hP.sub (ws' := [(g0, .inr (1, [.int (nI th), .ref bT, .int (nI tp), .ref bO, .int (nI os), .ref bL, .ref bW, .ref bB, .ref bD, .long dn, .long lf, .int (bI mf), .ref bX])), (bD, .inl (cB, 73920, .inl (fun i9 => sx ((sF dm c0 pl mk n0) i9))))]) [0, 1] rfl
  have hD9 := hD.sub (ws' := [(g0, .inr (1, [.int (nI th), .ref bT, .int (nI tp), .ref bO, .int (nI os), .ref bL, .ref bW, .ref bB, .ref bD, .long dn, .long lf, .int (bI mf), .ref bX])), (bD, .inl (cB, 73920, .inl (fun i9 => sx ((sF dm c0 pl mk n0) i9))))]) [0, 1] (by decide) rfl
  exact W.vret hx hb hr (fun t ht hW => ⟨⟨(), rfl, trivial, by rw [ht]; exact hP9, va_K.moved hW.alike hK, hD9⟩, hS.F ht⟩) hS.2.2 dX1_strike_43
