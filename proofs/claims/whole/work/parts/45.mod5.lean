set_option maxHeartbeats 4000000 in
set_option maxRecDepth 100000 in
theorem lp_X1_check_1 {p : Program} {l : Launch} {e : Env} {R : Room} {s : State} {m : MethodId} {args : Array Value} {below : List Frame} {meth : Method} {c : Code} {cells slots : Nat} {Q : State → Prop} {A : Nat → Prop} {H0 : Heap} {dC : Nat → ClassId} {dI : Nat → Nat → Nat} (g0 bT bO bL bW bB bD bX : Nat) (th tp os : Nat) (dn lf : Int64) (mf : Bool) (cZ cB : ClassId) (b : Nat → Bool) (bs : Nat → BitVec 8) (fr : Nat) (hx : p.tables.exec = Jvm.exec) (hb : c.code = cX1_check) (hml : c.maxLocals = 5) (hown : s.vm.findClass RX1 = some m.cls) (hts : ∀ w ∈ wsX1_check, w.before args s = true) (hA : ∀ q : Nat, H0.size ≤ q → A q) (hK : va_K (dC, dI) vwCl [(cZ, .boolean), (cB, .byte)] s) (kk : ∀  (H : Heap) (locs : List Loc) (ls : Array Slot), va_P (dC, dI) vwCl [(g0, .inr (1, [.int (nI th), .ref bT, .int (nI tp), .ref bO, .int (nI os), .ref bL, .ref bW, .ref bB, .ref bD, .long dn, .long lf, .int (bI mf), .ref bX])), (bX, .inl (cZ, 560, .inl (fun i9 => bI ((fcF b 32) i9)))), (bB, .inl (cB, 73920, .inl (fun i9 => sx (bs i9))))] H → va_D A [(g0, .inr (1, [.int (nI th), .ref bT, .int (nI tp), .ref bO, .int (nI os), .ref bL, .ref bW, .ref bB, .ref bD, .long dn, .long lf, .int (bI mf), .ref bX])), (bX, .inl (cZ, 560, .inl (fun i9 => bI ((fcF b 32) i9)))), (bB, .inl (cB, 73920, .inl (fun i9 => sx (bs i9))))] → va_S A H0 H locs → lv_has ls 5 [(0, .ref g0), (1, .int (nI fr))] → W p l e R s m args below meth c H locs cells slots Q (F0 m 35 ls [])) : ∀ (n : Nat) (i : Nat), 32 + 1 ≤ i + n → i ≤ 32 → ∀ (H : Heap) (locs : List Loc) (ls : Array Slot), va_P (dC, dI) vwCl [(g0, .inr (1, [.int (nI th), .ref bT, .int (nI tp), .ref bO, .int (nI os), .ref bL, .ref bW, .ref bB, .ref bD, .long dn, .long lf, .int (bI mf), .ref bX])), (bX, .inl (cZ, 560, .inl (fun i9 => bI ((fcF b i) i9)))), (bB, .inl (cB, 73920, .inl (fun i9 => sx (bs i9))))] H → va_D A [(g0, .inr (1, [.int (nI th), .ref bT, .int (nI tp), .ref bO, .int (nI os), .ref bL, .ref bW, .ref bB, .ref bD, .long dn, .long lf, .int (bI mf), .ref bX])), (bX, .inl (cZ, 560, .inl (fun i9 => bI ((fcF b i) i9)))), (bB, .inl (cB, 73920, .inl (fun i9 => sx (bs i9))))] → va_S A H0 H locs → lv_has ls 5 [(0, .ref g0), (1, .int (nI fr)), (2, .int (nI (528 + i)))] → W p l e R s m args below meth c H locs cells slots Q (F0 m 15 ls []) := by
  have hi1 : ∀ w ∈ u_ws RX1 TX1 13, w ∈ wsX1_check := by decide +kernel
  intro n
  induction n with
  | zero => intro i  hm hi; exact absurd hm (by omega)
  | succ n ih =>
    intro i  hm hi H locs ls hP hD hS hl
    refine lv_iload_n hx hb dX1_check_15 rfl (lv_at hl 2 rfl) ?_
    refine lv_sipush (v := nI 560) hx hb dX1_check_16 (by decide) ?_
    refine zr_icmp_ge (tgt := 35) hx hb (by omega) (by omega) dX1_check_19 (by decide) (fun c19 => ?_) (fun c19 => ?_)
    · obtain rfl : 32 = i := by omega
      exact kk  H locs ls (hP.sub [0, 1, 2] rfl) (hD.sub [0, 1, 2] (by decide) rfl) hS (lv_sub hl [0, 1] rfl)
    · refine lv_aload_n hx hb dX1_check_22 rfl (lv_at hl 0 rfl) ?_
      refine va_get (D := (dC, dI)) (ci := 1) (v := .ref bX) (C := RX1) (T := TX1) (N := 13) hx hb hts hi1 hown hK hP 0 rfl rfl 12 (by decide) (hts (.fieldLink RX1 37 "CellRackModel" "bits" "[Z") (by decide +kernel)) (fun _ h9 => h9) rfl dX1_check_23 ?_
      refine lv_iload_n hx hb dX1_check_26 rfl (lv_at hl 2 rfl) ?_
      refine lv_iconst (v := nI 0) hx hb dX1_check_27 (by decide) ?_
      refine zr_topi (bI false) (rfl) ?_
      refine zr_zast hx hb hK hP hD hS 1 0 rfl rfl (by omega) (by omega) dX1_check_28 (fun H locs hP hD hS => ?_)
      replace hP : va_P (dC, dI) vwCl [(g0, .inr (1, [.int (nI th), .ref bT, .int (nI tp), .ref bO, .int (nI os), .ref bL, .ref bW, .ref bB, .ref bD, .long dn, .long lf, .int (bI mf), .ref bX])), (bX, .inl (cZ, 560, .inl (fun i9 => bI ((va_up (fcF b i) (528 + i) false) i9)))), (bB, .inl (cB, 73920, .inl (fun i9 => sx (bs i9))))] H := hP
      replace hD : va_D A [(g0, .inr (1, [.int (nI th), .ref bT, .int (nI tp), .ref bO, .int (nI os), .ref bL, .ref bW, .ref bB, .ref bD, .long dn, .long lf, .int (bI mf), .ref bX])), (bX, .inl (cZ, 560, .inl (fun i9 => bI ((va_up (fcF b i) (528 + i) false) i9)))), (bB, .inl (cB, 73920, .inl (fun i9 => sx (bs i9))))] := hD
      refine lv_iinc (v := nI (528 + i + 1)) (lv' := [(2, .int (nI (528 + i + 1))), (0, .ref g0), (1, .int (nI fr))]) hx hb dX1_check_29 hl (k := 2) rfl (nI_add (528 + i) 1) (by decide) rfl (fun ls hl => ?_)
      refine lv_goto (tgt := 15) hx hb dX1_check_32 (by decide) ?_
      exact ih (i + 1) (by omega) (by omega) H locs ls (hP.sub [0, 1, 2] rfl) (hD.sub [0, 1, 2] (by decide) rfl) hS (lv_sub hl [1, 2, 0] rfl)
set_option maxHeartbeats 4000000 in
set_option maxRecDepth 100000 in
theorem lp_X1_check_2 {p : Program} {l : Launch} {e : Env} {R : Room} {s : State} {m : MethodId} {args : Array Value} {below : List Frame} {meth : Method} {c : Code} {cells slots : Nat} {Q : State → Prop} {A : Nat → Prop} {H0 : Heap} {dC : Nat → ClassId} {dI : Nat → Nat → Nat} (g0 bT bO bL bW bB bD bX : Nat) (th tp os : Nat) (dn lf : Int64) (mf : Bool) (cZ cB : ClassId) (b : Nat → Bool) (bs : Nat → BitVec 8) (fr : Nat) (hx : p.tables.exec = Jvm.exec) (hb : c.code = cX1_check) (hml : c.maxLocals = 5) (hown : s.vm.findClass RX1 = some m.cls) (hts : ∀ w ∈ wsX1_check, w.before args s = true) (hA : ∀ q : Nat, H0.size ≤ q → A q) (hK : va_K (dC, dI) vwCl [(cZ, .boolean), (cB, .byte)] s) (kk : ∀  (H : Heap) (locs : List Loc) (ls : Array Slot), va_P (dC, dI) vwCl [(g0, .inr (1, [.int (nI th), .ref bT, .int (nI tp), .ref bO, .int (nI os), .ref bL, .ref bW, .ref bB, .ref bD, .long dn, .long lf, .int (bI mf), .ref bX])), (bX, .inl (cZ, 560, .inl (fun i9 => bI ((ngF b 32) i9)))), (bB, .inl (cB, 73920, .inl (fun i9 => sx (bs i9))))] H → va_D A [(g0, .inr (1, [.int (nI th), .ref bT, .int (nI tp), .ref bO, .int (nI os), .ref bL, .ref bW, .ref bB, .ref bD, .long dn, .long lf, .int (bI mf), .ref bX])), (bX, .inl (cZ, 560, .inl (fun i9 => bI ((ngF b 32) i9)))), (bB, .inl (cB, 73920, .inl (fun i9 => sx (bs i9))))] → va_S A H0 H locs → lv_has ls 5 [(0, .ref g0), (1, .int (nI fr))] → W p l e R s m args below meth c H locs cells slots Q (F0 m 69 ls [])) : ∀ (n : Nat) (i : Nat), 32 + 1 ≤ i + n → i ≤ 32 → ∀ (H : Heap) (locs : List Loc) (ls : Array Slot), va_P (dC, dI) vwCl [(g0, .inr (1, [.int (nI th), .ref bT, .int (nI tp), .ref bO, .int (nI os), .ref bL, .ref bW, .ref bB, .ref bD, .long dn, .long lf, .int (bI mf), .ref bX])), (bX, .inl (cZ, 560, .inl (fun i9 => bI ((ngF b i) i9)))), (bB, .inl (cB, 73920, .inl (fun i9 => sx (bs i9))))] H → va_D A [(g0, .inr (1, [.int (nI th), .ref bT, .int (nI tp), .ref bO, .int (nI os), .ref bL, .ref bW, .ref bB, .ref bD, .long dn, .long lf, .int (bI mf), .ref bX])), (bX, .inl (cZ, 560, .inl (fun i9 => bI ((ngF b i) i9)))), (bB, .inl (cB, 73920, .inl (fun i9 => sx (bs i9))))] → va_S A H0 H locs → lv_has ls 5 [(0, .ref g0), (1, .int (nI fr)), (2, .int (nI i))] → W p l e R s m args below meth c H locs cells slots Q (F0 m 37 ls []) := by
  have hi1 : ∀ w ∈ u_ws RX1 TX1 13, w ∈ wsX1_check := by decide +kernel
  intro n
  induction n with
  | zero => intro i  hm hi; exact absurd hm (by omega)
  | succ n ih =>
    intro i  hm hi H locs ls hP hD hS hl
    refine lv_iload_n hx hb dX1_check_37 rfl (lv_at hl 2 rfl) ?_
    refine lv_bipush (v := nI 32) hx hb dX1_check_38 (by decide) ?_
    refine zr_icmp_ge (tgt := 69) hx hb (by omega) (by omega) dX1_check_40 (by decide) (fun c40 => ?_) (fun c40 => ?_)
    · obtain rfl : 32 = i := by omega
      exact kk  H locs ls (hP.sub [0, 1, 2] rfl) (hD.sub [0, 1, 2] (by decide) rfl) hS (lv_sub hl [0, 1] rfl)
    · refine lv_aload_n hx hb dX1_check_43 rfl (lv_at hl 0 rfl) ?_
      refine va_get (D := (dC, dI)) (ci := 1) (v := .ref bX) (C := RX1) (T := TX1) (N := 13) hx hb hts hi1 hown hK hP 0 rfl rfl 12 (by decide) (hts (.fieldLink RX1 37 "CellRackModel" "bits" "[Z") (by decide +kernel)) (fun _ h9 => h9) rfl dX1_check_44 ?_
      refine lv_iload_n hx hb dX1_check_47 rfl (lv_at hl 2 rfl) ?_
      refine lv_aload_n hx hb dX1_check_48 rfl (lv_at hl 0 rfl) ?_
      refine va_get (D := (dC, dI)) (ci := 1) (v := .ref bX) (C := RX1) (T := TX1) (N := 13) hx hb hts hi1 hown hK hP 0 rfl rfl 12 (by decide) (hts (.fieldLink RX1 37 "CellRackModel" "bits" "[Z") (by decide +kernel)) (fun _ h9 => h9) rfl dX1_check_49 ?_
      refine lv_iload_n hx hb dX1_check_52 rfl (lv_at hl 2 rfl) ?_
      refine zr_zald hx hb hK hP 1 0 rfl rfl (by omega) (by omega) dX1_check_53 ?_
      refine zr_ifb_ne (tgt := 61) hx hb dX1_check_54 (by decide) (fun c54 => ?_) (fun c54 => ?_)
      · refine lv_iconst (v := nI 0) hx hb dX1_check_61 (by decide) ?_
        refine zr_topi (bI (!(ngF b i i))) (by rw [c54]; rfl) ?_
        refine zr_zast hx hb hK hP hD hS 1 0 rfl rfl (by omega) (by omega) dX1_check_62 (fun H locs hP hD hS => ?_)
        replace hP : va_P (dC, dI) vwCl [(g0, .inr (1, [.int (nI th), .ref bT, .int (nI tp), .ref bO, .int (nI os), .ref bL, .ref bW, .ref bB, .ref bD, .long dn, .long lf, .int (bI mf), .ref bX])), (bX, .inl (cZ, 560, .inl (fun i9 => bI ((va_up (ngF b i) i (!(ngF b i i))) i9)))), (bB, .inl (cB, 73920, .inl (fun i9 => sx (bs i9))))] H := hP
        replace hD : va_D A [(g0, .inr (1, [.int (nI th), .ref bT, .int (nI tp), .ref bO, .int (nI os), .ref bL, .ref bW, .ref bB, .ref bD, .long dn, .long lf, .int (bI mf), .ref bX])), (bX, .inl (cZ, 560, .inl (fun i9 => bI ((va_up (ngF b i) i (!(ngF b i i))) i9)))), (bB, .inl (cB, 73920, .inl (fun i9 => sx (bs i9))))] := hD
        refine lv_iinc (v := nI (i + 1)) (lv' := [(2, .int (nI (i + 1))), (0, .ref g0), (1, .int (nI fr))]) hx hb dX1_check_63 hl (k := 2) rfl (nI_add (i) 1) (by decide) rfl (fun ls hl => ?_)
        refine lv_goto (tgt := 37) hx hb dX1_check_66 (by decide) ?_
        exact ih (i + 1) (by omega) (by omega) H locs ls (hP.sub [0, 1, 2] rfl) (hD.sub [0, 1, 2] (by decide) rfl) hS (lv_sub hl [1, 2, 0] rfl)
      · refine lv_iconst (v := nI 1) hx hb dX1_check_57 (by decide) ?_
        refine lv_goto (tgt := 62) hx hb dX1_check_58 (by decide) ?_
        refine zr_topi (bI (!(ngF b i i))) (by rw [c54]; rfl) ?_
        refine zr_zast hx hb hK hP hD hS 1 0 rfl rfl (by omega) (by omega) dX1_check_62 (fun H locs hP hD hS => ?_)
        replace hP : va_P (dC, dI) vwCl [(g0, .inr (1, [.int (nI th), .ref bT, .int (nI tp), .ref bO, .int (nI os), .ref bL, .ref bW, .ref bB, .ref bD, .long dn, .long lf, .int (bI mf), .ref bX])), (bX, .inl (cZ, 560, .inl (fun i9 => bI ((va_up (ngF b i) i (!(ngF b i i))) i9)))), (bB, .inl (cB, 73920, .inl (fun i9 => sx (bs i9))))] H := hP
        replace hD : va_D A [(g0, .inr (1, [.int (nI th), .ref bT, .int (nI tp), .ref bO, .int (nI os), .ref bL, .ref bW, .ref bB, .ref bD, .long dn, .long lf, .int (bI mf), .ref bX])), (bX, .inl (cZ, 560, .inl (fun i9 => bI ((va_up (ngF b i) i (!(ngF b i i))) i9)))), (bB, .inl (cB, 73920, .inl (fun i9 => sx (bs i9))))] := hD
        refine lv_iinc (v := nI (i + 1)) (lv' := [(2, .int (nI (i + 1))), (0, .ref g0), (1, .int (nI fr))]) hx hb dX1_check_63 hl (k := 2) rfl (nI_add (i) 1) (by decide) rfl (fun ls hl => ?_)
        refine lv_goto (tgt := 37) hx hb dX1_check_66 (by decide) ?_
        exact ih (i + 1) (by omega) (by omega) H locs ls (hP.sub [0, 1, 2] rfl) (hD.sub [0, 1, 2] (by decide) rfl) hS (lv_sub hl [1, 2, 0] rfl)
set_option maxHeartbeats 4000000 in
set_option maxRecDepth 100000 in
theorem lp_X1_check_4 {p : Program} {l : Launch} {e : Env} {R : Room} {s : State} {m : MethodId} {args : Array Value} {below : List Frame} {meth : Method} {c : Code} {cells slots : Nat} {Q : State → Prop} {A : Nat → Prop} {H0 : Heap} {dC : Nat → ClassId} {dI : Nat → Nat → Nat} (g0 bT bO bL bW bB bD bX : Nat) (th tp os : Nat) (dn lf : Int64) (mf : Bool) (cZ cB : ClassId) (b : Nat → Bool) (bs : Nat → BitVec 8) (fr : Nat) (k : Nat) (hk : k < 70) (hx : p.tables.exec = Jvm.exec) (hb : c.code = cX1_check) (hml : c.maxLocals = 5) (hown : s.vm.findClass RX1 = some m.cls) (hts : ∀ w ∈ wsX1_check, w.before args s = true) (hA : ∀ q : Nat, H0.size ≤ q → A q) (hK : va_K (dC, dI) vwCl [(cZ, .boolean), (cB, .byte)] s) (kk : ∀  (H : Heap) (locs : List Loc) (ls : Array Slot), va_P (dC, dI) vwCl [(g0, .inr (1, [.int (nI th), .ref bT, .int (nI tp), .ref bO, .int (nI os), .ref bL, .ref bW, .ref bB, .ref bD, .long dn, .long lf, .int (bI mf), .ref bX])), (bX, .inl (cZ, 560, .inl (fun i9 => bI (b i9)))), (bB, .inl (cB, 73920, .inl (fun i9 => sx (bs i9))))] H → va_D A [(g0, .inr (1, [.int (nI th), .ref bT, .int (nI tp), .ref bO, .int (nI os), .ref bL, .ref bW, .ref bB, .ref bD, .long dn, .long lf, .int (bI mf), .ref bX])), (bX, .inl (cZ, 560, .inl (fun i9 => bI (b i9)))), (bB, .inl (cB, 73920, .inl (fun i9 => sx (bs i9))))] → va_S A H0 H locs → lv_has ls 5 [(0, .ref g0), (1, .int (nI fr)), (2, .int (nI k)), (3, .int (nI (vN b k 8)))] → W p l e R s m args below meth c H locs cells slots Q (F0 m 129 ls [])) : ∀ (n : Nat) (i : Nat), 8 + 1 ≤ i + n → i ≤ 8 → ∀ (H : Heap) (locs : List Loc) (ls : Array Slot), va_P (dC, dI) vwCl [(g0, .inr (1, [.int (nI th), .ref bT, .int (nI tp), .ref bO, .int (nI os), .ref bL, .ref bW, .ref bB, .ref bD, .long dn, .long lf, .int (bI mf), .ref bX])), (bX, .inl (cZ, 560, .inl (fun i9 => bI (b i9)))), (bB, .inl (cB, 73920, .inl (fun i9 => sx (bs i9))))] H → va_D A [(g0, .inr (1, [.int (nI th), .ref bT, .int (nI tp), .ref bO, .int (nI os), .ref bL, .ref bW, .ref bB, .ref bD, .long dn, .long lf, .int (bI mf), .ref bX])), (bX, .inl (cZ, 560, .inl (fun i9 => bI (b i9)))), (bB, .inl (cB, 73920, .inl (fun i9 => sx (bs i9))))] → va_S A H0 H locs → lv_has ls 5 [(0, .ref g0), (1, .int (nI fr)), (2, .int (nI k)), (3, .int (nI (vN b k i))), (4, .int (nI i))] → W p l e R s m args below meth c H locs cells slots Q (F0 m 90 ls []) := by
  have hi1 : ∀ w ∈ u_ws RX1 TX1 13, w ∈ wsX1_check := by decide +kernel
  intro n
  induction n with
  | zero => intro i  hm hi; exact absurd hm (by omega)
  | succ n ih =>
    intro i  hm hi H locs ls hP hD hS hl
    refine lv_iload hx hb dX1_check_90 (lv_at hl 4 rfl) ?_
    refine lv_bipush (v := nI 8) hx hb dX1_check_92 (by decide) ?_
    refine zr_icmp_ge (tgt := 129) hx hb (by omega) (by omega) dX1_check_94 (by decide) (fun c94 => ?_) (fun c94 => ?_)
    · obtain rfl : 8 = i := by omega
      exact kk  H locs ls (hP.sub [0, 1, 2] rfl) (hD.sub [0, 1, 2] (by decide) rfl) hS (lv_sub hl [0, 1, 2, 3] rfl)
    · refine lv_iload_n hx hb dX1_check_97 rfl (lv_at hl 3 rfl) ?_
      refine lv_aload_n hx hb dX1_check_98 rfl (lv_at hl 0 rfl) ?_
      refine va_get (D := (dC, dI)) (ci := 1) (v := .ref bX) (C := RX1) (T := TX1) (N := 13) hx hb hts hi1 hown hK hP 0 rfl rfl 12 (by decide) (hts (.fieldLink RX1 37 "CellRackModel" "bits" "[Z") (by decide +kernel)) (fun _ h9 => h9) rfl dX1_check_99 ?_
      refine lv_bipush (v := nI 8) hx hb dX1_check_102 (by decide) ?_
      refine lv_iload_n hx hb dX1_check_104 rfl (lv_at hl 2 rfl) ?_
      refine zr_imul hx hb dX1_check_105 ?_
      refine lv_iload hx hb dX1_check_106 (lv_at hl 4 rfl) ?_
      refine zr_iadd hx hb dX1_check_108 ?_
      refine zr_zald hx hb hK hP 1 0 rfl rfl (by omega) (by omega) dX1_check_109 ?_
      refine zr_ifb_eq (tgt := 117) hx hb dX1_check_110 (by decide) (fun c110 => ?_) (fun c110 => ?_)
      · refine lv_iconst (v := nI 1) hx hb dX1_check_117 (by decide) ?_
        refine lv_iload hx hb dX1_check_118 (lv_at hl 4 rfl) ?_
        refine lv_ishl hx hb dX1_check_120 ?_
        refine zr_topi (nI (2 ^ i)) (zr_shl1 i (by omega)) ?_
        refine zr_iadd hx hb dX1_check_121 ?_
        refine zr_topi (nI (vN b k (i + 1))) (by show _ = nI (vN b k i + (if b (8 * k + i) then 0 else 2 ^ i)); rw [c110]; rfl) ?_
        refine lv_istore_n (lv' := [(3, .int (nI (vN b k (i + 1)))), (0, .ref g0), (1, .int (nI fr)), (2, .int (nI k)), (4, .int (nI i))]) hx hb dX1_check_122 rfl hl (by decide) rfl (fun ls hl => ?_)
        refine lv_iinc (v := nI (i + 1)) (lv' := [(4, .int (nI (i + 1))), (3, .int (nI (vN b k (i + 1)))), (0, .ref g0), (1, .int (nI fr)), (2, .int (nI k))]) hx hb dX1_check_123 hl (k := 4) rfl (nI_add (i) 1) (by decide) rfl (fun ls hl => ?_)
        refine lv_goto (tgt := 90) hx hb dX1_check_126 (by decide) ?_
        exact ih (i + 1) (by omega) (by omega) H locs ls (hP.sub [0, 1, 2] rfl) (hD.sub [0, 1, 2] (by decide) rfl) hS (lv_sub hl [2, 3, 4, 1, 0] rfl)
      · refine lv_iconst (v := nI 0) hx hb dX1_check_113 (by decide) ?_
        refine lv_goto (tgt := 121) hx hb dX1_check_114 (by decide) ?_
        refine zr_iadd hx hb dX1_check_121 ?_
        refine zr_topi (nI (vN b k (i + 1))) (by show _ = nI (vN b k i + (if b (8 * k + i) then 0 else 2 ^ i)); rw [c110]; rfl) ?_
        refine lv_istore_n (lv' := [(3, .int (nI (vN b k (i + 1)))), (0, .ref g0), (1, .int (nI fr)), (2, .int (nI k)), (4, .int (nI i))]) hx hb dX1_check_122 rfl hl (by decide) rfl (fun ls hl => ?_)
        refine lv_iinc (v := nI (i + 1)) (lv' := [(4, .int (nI (i + 1))), (3, .int (nI (vN b k (i + 1)))), (0, .ref g0), (1, .int (nI fr)), (2, .int (nI k))]) hx hb dX1_check_123 hl (k := 4) rfl (nI_add (i) 1) (by decide) rfl (fun ls hl => ?_)
        refine lv_goto (tgt := 90) hx hb dX1_check_126 (by decide) ?_
        exact ih (i + 1) (by omega) (by omega) H locs ls (hP.sub [0, 1, 2] rfl) (hD.sub [0, 1, 2] (by decide) rfl) hS (lv_sub hl [2, 3, 4, 1, 0] rfl)
set_option maxHeartbeats 4000000 in
set_option maxRecDepth 100000 in
theorem lp_X1_check_3 {p : Program} {l : Launch} {e : Env} {R : Room} {s : State} {m : MethodId} {args : Array Value} {below : List Frame} {meth : Method} {c : Code} {cells slots : Nat} {Q : State → Prop} {A : Nat → Prop} {H0 : Heap} {dC : Nat → ClassId} {dI : Nat → Nat → Nat} (g0 bT bO bL bW bB bD bX : Nat) (th tp os : Nat) (dn lf : Int64) (mf : Bool) (cZ cB : ClassId) (b : Nat → Bool) (bs : Nat → BitVec 8) (fr : Nat) (hf : fr + 70 ≤ 73920) (hx : p.tables.exec = Jvm.exec) (hb : c.code = cX1_check) (hml : c.maxLocals = 5) (hown : s.vm.findClass RX1 = some m.cls) (hts : ∀ w ∈ wsX1_check, w.before args s = true) (hA : ∀ q : Nat, H0.size ≤ q → A q) (hK : va_K (dC, dI) vwCl [(cZ, .boolean), (cB, .byte)] s) (kk : ∀  (H : Heap) (locs : List Loc) (ls : Array Slot), va_P (dC, dI) vwCl [(g0, .inr (1, [.int (nI th), .ref bT, .int (nI tp), .ref bO, .int (nI os), .ref bL, .ref bW, .ref bB, .ref bD, .long dn, .long lf, .int (bI mf), .ref bX])), (bX, .inl (cZ, 560, .inl (fun i9 => bI (b i9)))), (bB, .inl (cB, 73920, .inl (fun i9 => sx ((chF bs fr b 4) i9))))] H → va_D A [(g0, .inr (1, [.int (nI th), .ref bT, .int (nI tp), .ref bO, .int (nI os), .ref bL, .ref bW, .ref bB, .ref bD, .long dn, .long lf, .int (bI mf), .ref bX])), (bX, .inl (cZ, 560, .inl (fun i9 => bI (b i9)))), (bB, .inl (cB, 73920, .inl (fun i9 => sx ((chF bs fr b 4) i9))))] → va_S A H0 H locs → lv_has ls 5 [(0, .ref g0)] → W p l e R s m args below meth c H locs cells slots Q (F0 m 145 ls [])) : ∀ (n : Nat) (j : Nat), 4 + 1 ≤ j + n → j ≤ 4 → ∀ (H : Heap) (locs : List Loc) (ls : Array Slot), va_P (dC, dI) vwCl [(g0, .inr (1, [.int (nI th), .ref bT, .int (nI tp), .ref bO, .int (nI os), .ref bL, .ref bW, .ref bB, .ref bD, .long dn, .long lf, .int (bI mf), .ref bX])), (bX, .inl (cZ, 560, .inl (fun i9 => bI (b i9)))), (bB, .inl (cB, 73920, .inl (fun i9 => sx ((chF bs fr b j) i9))))] H → va_D A [(g0, .inr (1, [.int (nI th), .ref bT, .int (nI tp), .ref bO, .int (nI os), .ref bL, .ref bW, .ref bB, .ref bD, .long dn, .long lf, .int (bI mf), .ref bX])), (bX, .inl (cZ, 560, .inl (fun i9 => bI (b i9)))), (bB, .inl (cB, 73920, .inl (fun i9 => sx ((chF bs fr b j) i9))))] → va_S A H0 H locs → lv_has ls 5 [(0, .ref g0), (1, .int (nI fr)), (2, .int (nI (66 + j)))] → W p l e R s m args below meth c H locs cells slots Q (F0 m 79 ls []) := by
  have hi1 : ∀ w ∈ u_ws RX1 TX1 13, w ∈ wsX1_check := by decide +kernel
  intro n
  induction n with
  | zero => intro j  hm hi; exact absurd hm (by omega)
  | succ n ih =>
    intro j  hm hi H locs ls hP hD hS hl
    refine lv_iload_n hx hb dX1_check_79 rfl (lv_at hl 2 rfl) ?_
    refine lv_bipush (v := nI 70) hx hb dX1_check_80 (by decide) ?_
    refine zr_icmp_ge (tgt := 145) hx hb (by omega) (by omega) dX1_check_82 (by decide) (fun c82 => ?_) (fun c82 => ?_)
    · obtain rfl : 4 = j := by omega
      exact kk  H locs ls (hP.sub [0, 1, 2] rfl) (hD.sub [0, 1, 2] (by decide) rfl) hS (lv_sub hl [0] rfl)
    · refine lv_iconst (v := nI 0) hx hb dX1_check_85 (by decide) ?_
      refine lv_istore_n (lv' := [(3, .int (nI 0)), (0, .ref g0), (1, .int (nI fr)), (2, .int (nI (66 + j)))]) hx hb dX1_check_86 rfl hl (by decide) rfl (fun ls hl => ?_)
      refine lv_iconst (v := nI 0) hx hb dX1_check_87 (by decide) ?_
      refine lv_istore (lv' := [(4, .int (nI 0)), (3, .int (nI 0)), (0, .ref g0), (1, .int (nI fr)), (2, .int (nI (66 + j)))]) hx hb dX1_check_88 hl (by decide) rfl (fun ls hl => ?_)
      refine lp_X1_check_4 g0 bT bO bL bW bB bD bX th tp os dn lf mf cZ cB b (chF bs fr b j) fr (66 + j) (by omega) hx hb hml hown hts hA hK (fun  H locs ls hP hD hS hl => ?_) 9 0 (by omega) (by omega) _ _ _ (hP.sub [0, 1, 2] rfl) (hD.sub [0, 1, 2] (by decide) rfl) hS (lv_sub hl [2, 3, 4, 1, 0] rfl)
      refine lv_aload_n hx hb dX1_check_129 rfl (lv_at hl 0 rfl) ?_
      refine va_get (D := (dC, dI)) (ci := 1) (v := .ref bB) (C := RX1) (T := TX1) (N := 13) hx hb hts hi1 hown hK hP 0 rfl rfl 7 (by decide) (hts (.fieldLink RX1 24 "CellRackModel" "bytes" "[B") (by decide +kernel)) (fun _ h9 => h9) rfl dX1_check_130 ?_
      refine lv_iload_n hx hb dX1_check_133 rfl (lv_at hl 1 rfl) ?_
      refine lv_iload_n hx hb dX1_check_134 rfl (lv_at hl 2 rfl) ?_
      refine zr_iadd hx hb dX1_check_135 ?_
      refine lv_iload_n hx hb dX1_check_136 rfl (lv_at hl 3 rfl) ?_
      refine lv_i2b hx hb dX1_check_137 rfl ?_
      refine zr_xast hx hb hK hP hD hS 2 1 rfl rfl (by omega) (by omega) dX1_check_138 (fun H locs hP hD hS => ?_)
      replace hP : va_P (dC, dI) vwCl [(g0, .inr (1, [.int (nI th), .ref bT, .int (nI tp), .ref bO, .int (nI os), .ref bL, .ref bW, .ref bB, .ref bD, .long dn, .long lf, .int (bI mf), .ref bX])), (bX, .inl (cZ, 560, .inl (fun i9 => bI (b i9)))), (bB, .inl (cB, 73920, .inl (fun i9 => sx ((va_up ((chF bs fr b j)) (fr + ((66 + j))) (((nI (vN b (66 + j) 8)).toInt8.toInt32).toBitVec.setWidth 8)) i9))))] H := hP
      replace hD : va_D A [(g0, .inr (1, [.int (nI th), .ref bT, .int (nI tp), .ref bO, .int (nI os), .ref bL, .ref bW, .ref bB, .ref bD, .long dn, .long lf, .int (bI mf), .ref bX])), (bX, .inl (cZ, 560, .inl (fun i9 => bI (b i9)))), (bB, .inl (cB, 73920, .inl (fun i9 => sx ((va_up ((chF bs fr b j)) (fr + ((66 + j))) (((nI (vN b (66 + j) 8)).toInt8.toInt32).toBitVec.setWidth 8)) i9))))] := hD
      refine lv_iinc (v := nI ((66 + j) + 1)) (lv' := [(2, .int (nI ((66 + j) + 1))), (0, .ref g0), (1, .int (nI fr)), (3, .int (nI (vN b (66 + j) 8)))]) hx hb dX1_check_139 hl (k := 2) rfl (nI_add ((66 + j)) 1) (by decide) rfl (fun ls hl => ?_)
      refine lv_goto (tgt := 79) hx hb dX1_check_142 (by decide) ?_
      exact ih (j + 1) (by omega) (by omega) H locs ls (hP.sub [0, 1, 2] rfl) (hD.sub [0, 1, 2] (by decide) rfl) hS (lv_sub hl [1, 2, 0] rfl)
set_option maxHeartbeats 4000000 in
set_option maxRecDepth 100000 in
theorem c_X1_check (l : Launch) (dC : Nat → ClassId) (dI : Nat → Nat → Nat) (sz : Nat) (g0 bT bO bL bW bB bD bX : Nat) (th tp os : Nat) (dn lf : Int64) (mf : Bool) (cZ cB : ClassId) (bt : Nat → Bool) (bs : Nat → BitVec 8) (fr : Nat) (hf : fr + 70 ≤ 73920) : Met l yX1_check wsX1_check ({ frames := 1, cells := 0, slots := 0, locals := 24 }) (va_Pc [.ref g0, .int (nI fr)] (fun U => U.heap.size = sz ∧ va_P (dC, dI) vwCl [(g0, .inr (1, [.int (nI th), .ref bT, .int (nI tp), .ref bO, .int (nI os), .ref bL, .ref bW, .ref bB, .ref bD, .long dn, .long lf, .int (bI mf), .ref bX])), (bX, .inl (cZ, 560, .inl (fun i9 => bI (bt i9)))), (bB, .inl (cB, 73920, .inl (fun i9 => sx (bs i9))))] U.heap ∧ va_K (dC, dI) vwCl [(cZ, .boolean), (cB, .byte)] U ∧ va_D (fun _ => True) [(g0, .inr (1, [.int (nI th), .ref bT, .int (nI tp), .ref bO, .int (nI os), .ref bL, .ref bW, .ref bB, .ref bD, .long dn, .long lf, .int (bI mf), .ref bX])), (bX, .inl (cZ, 560, .inl (fun i9 => bI (bt i9)))), (bB, .inl (cB, 73920, .inl (fun i9 => sx (bs i9))))])) (va_Qv (fun (_ : Unit) => True) (fun (_ : Unit) t => va_P (dC, dI) vwCl [(g0, .inr (1, [.int (nI th), .ref bT, .int (nI tp), .ref bO, .int (nI os), .ref bL, .ref bW, .ref bB, .ref bD, .long dn, .long lf, .int (bI mf), .ref bX])), (bX, .inl (cZ, 560, .inl (fun i9 => bI ((ckT bt bs fr) i9)))), (bB, .inl (cB, 73920, .inl (fun i9 => sx ((chF bs fr (ckT bt bs fr) 4) i9))))] t.heap ∧ va_K (dC, dI) vwCl [(cZ, .boolean), (cB, .byte)] t ∧ va_D (va_A [(g0, .inr (1, [.int (nI th), .ref bT, .int (nI tp), .ref bO, .int (nI os), .ref bL, .ref bW, .ref bB, .ref bD, .long dn, .long lf, .int (bI mf), .ref bX])), (bX, .inl (cZ, 560, .inl (fun i9 => bI (bt i9)))), (bB, .inl (cB, 73920, .inl (fun i9 => sx (bs i9))))] sz) [(g0, .inr (1, [.int (nI th), .ref bT, .int (nI tp), .ref bO, .int (nI os), .ref bL, .ref bW, .ref bB, .ref bD, .long dn, .long lf, .int (bI mf), .ref bX])), (bX, .inl (cZ, 560, .inl (fun i9 => bI ((ckT bt bs fr) i9)))), (bB, .inl (cB, 73920, .inl (fun i9 => sx ((chF bs fr (ckT bt bs fr) 4) i9))))]) (va_A [(g0, .inr (1, [.int (nI th), .ref bT, .int (nI tp), .ref bO, .int (nI os), .ref bL, .ref bW, .ref bB, .ref bD, .long dn, .long lf, .int (bI mf), .ref bX])), (bX, .inl (cZ, 560, .inl (fun i9 => bI (bt i9)))), (bB, .inl (cB, 73920, .inl (fun i9 => sx (bs i9))))] sz)) 0 0 (va_A [(g0, .inr (1, [.int (nI th), .ref bT, .int (nI tp), .ref bO, .int (nI os), .ref bL, .ref bW, .ref bB, .ref bD, .long dn, .long lf, .int (bI mf), .ref bX])), (bX, .inl (cZ, 560, .inl (fun i9 => bI (bt i9)))), (bB, .inl (cB, 73920, .inl (fun i9 => sx (bs i9))))] sz) := by
  refine Met.ofW (cc := cX1_check) (maxL := 5) (ret := none) (by decide) rfl ?_
  intro p e s m args below meth c s₁ B hml hv
  obtain ⟨rfl, hsz, hP, hK, hD0⟩ := hv
  have hx := B.exec
  have hb := B.bytes
  have hr := B.returns
  have hts := atoms_spec (ws := wsX1_check) B.pre
  have hown : s.vm.findClass RX1 = some m.cls := findClass_of_methodNamed B.named
  have hlocks := B.notSynchronized
  subst hsz
  have hD := hD0.self (sz := s.heap.size)
  generalize hAe : va_A [(g0, .inr (1, [.int (nI th), .ref bT, .int (nI tp), .ref bO, .int (nI os), .ref bL, .ref bW, .ref bB, .ref bD, .long dn, .long lf, .int (bI mf), .ref bX])), (bX, .inl (cZ, 560, .inl (fun i9 => bI (bt i9)))), (bB, .inl (cB, 73920, .inl (fun i9 => sx (bs i9))))] s.heap.size = A at hD ⊢
  have hA : ∀ q : Nat, s.heap.size ≤ q → A q := fun q h => by rw [← hAe]; exact Or.inr h
  generalize hH : s.heap = H at hP ⊢
  have hS : va_S A s.heap H [] := by rw [hH]; exact va_S.rf
  replace hP : va_P (dC, dI) vwCl [(g0, .inr (1, [.int (nI th), .ref bT, .int (nI tp), .ref bO, .int (nI os), .ref bL, .ref bW, .ref bB, .ref bD, .long dn, .long lf, .int (bI mf), .ref bX])), (bX, .inl (cZ, 560, .inl (fun i9 => bI (bt i9)))), (bB, .inl (cB, 73920, .inl (fun i9 => sx (bs i9))))] H := hP
  have hl := lv_entry ([.ref g0, .int (nI fr)]) (n := 5) (Nat.le_of_ble_eq_true rfl)
  rw [lg_entry_eq]
  generalize (lg_sl ([.ref g0, .int (nI fr)]) ++ List.replicate (5 - (lg_sl ([.ref g0, .int (nI fr)])).length) Slot.unset).toArray = ls at hl ⊢
  have hl : lv_has ls 5 [(0, .ref g0), (1, .int (nI fr))] := hl
  have hi1 : ∀ w ∈ u_ws RX1 TX1 13, w ∈ wsX1_check := by decide +kernel
  refine lv_aload_n hx hb dX1_check_0 rfl (lv_at hl 0 rfl) ?_
  refine lv_aload_n hx hb dX1_check_1 rfl (lv_at hl 0 rfl) ?_
  refine va_get (D := (dC, dI)) (ci := 1) (v := .ref bB) (C := RX1) (T := TX1) (N := 13) hx hb hts hi1 hown hK hP 0 rfl rfl 7 (by decide) (hts (.fieldLink RX1 24 "CellRackModel" "bytes" "[B") (by decide +kernel)) (fun _ h9 => h9) rfl dX1_check_2 ?_
  refine lv_iload_n hx hb dX1_check_5 rfl (lv_at hl 1 rfl) ?_
  refine lv_bipush (v := nI 66) hx hb dX1_check_6 (by decide) ?_
  have hPc := hP.sub (ws' := [(g0, .inr (1, [.int (nI th), .ref bT, .int (nI tp), .ref bO, .int (nI os), .ref bL, .ref bW, .ref bB, .ref bD, .long dn, .long lf, .int (bI mf), .ref bX])), (bX, .inl (cZ, 560, .inl (fun i9 => bI (bt i9)))), (bB, .inl (cB, 73920, .inl (fun i9 => sx (bs i9))))]) [0, 1, 2] rfl
  have hDc := hD.sub (ws' := [(g0, .inr (1, [.int (nI th), .ref bT, .int (nI tp), .ref bO, .int (nI os), .ref bL, .ref bW, .ref bB, .ref bD, .long dn, .long lf, .int (bI mf), .ref bX])), (bX, .inl (cZ, 560, .inl (fun i9 => bI (bt i9)))), (bB, .inl (cB, 73920, .inl (fun i9 => sx (bs i9))))]) [0, 1, 2] (by decide) rfl
  have hKc := hK.sub (tys' := [(cZ, .boolean), (cB, .byte)]) [0, 1] rfl
  have hFc := va_free (wc := [(g0, .inr (1, [.int (nI th), .ref bT, .int (nI tp), .ref bO, .int (nI os), .ref bL, .ref bW, .ref bB, .ref bD, .long dn, .long lf, .int (bI mf), .ref bX])), (bX, .inl (cZ, 560, .inl (fun i9 => bI (bt i9)))), (bB, .inl (cB, 73920, .inl (fun i9 => sx (bs i9))))]) hD hS hA [0, 1, 2] rfl
  refine va_callv (va_runV (As := [.ref bB, .int (nI fr), .int (nI 66)]) (rest := []) ⟨hx, hb, hml, hown, hts⟩ (c_X1_spread l dC dI H.size g0 bT bO bL bW bB bD bX th tp os dn lf mf cZ cB bB bs bt fr 66 (by decide) (by omega)) (cwV 3 hts gX1_check_X1_spread rfl rfl rfl (by decide +kernel) ⟨Nat.le_of_ble_eq_true rfl, Nat.le_of_ble_eq_true rfl⟩) ⟨fun a U g mk q => by obtain ⟨q0, q1, qP, qK, qD⟩ := q; exact ⟨q0, q1, qP, va_K.moved (u := U) (U := U.calling g mk a) (Vm.Alike.refl U.vm) qK, qD⟩, va_recv hKc hPc (ci := 1) (q0 := 0) rfl rfl, fun U hU hW => ⟨rfl, by rw [hU], by rw [hU]; exact hPc, va_K.moved hW.alike hKc, hDc.weaken (fun _ _ _ _ => trivial)⟩⟩ rfl rfl hl.1 rfl (lv_room (Nat.le_of_ble_eq_true rfl)) dX1_check_8 ⟨Nat.zero_le _, Nat.zero_le _⟩) hS (fun q _ h => hFc q h) hFc (fun u t H1 locs ht hvm hw hB hz1 hk1 hS => ?_)
  obtain ⟨hP1, hK1, hD1⟩ := hB
  rw [ht] at hP1
  obtain ⟨hPn, hDn⟩ := va_join (wr := []) (w1 := [(g0, .inr (1, [.int (nI th), .ref bT, .int (nI tp), .ref bO, .int (nI os), .ref bL, .ref bW, .ref bB, .ref bD, .long dn, .long lf, .int (bI mf), .ref bX])), (bX, .inl (cZ, 560, .inl (fun i9 => bI ((spF bt bs fr (8 * 66)) i9)))), (bB, .inl (cB, 73920, .inl (fun i9 => sx (bs i9))))]) hP hD [0, 1, 2] [] rfl rfl (by decide) (by decide) hk1 hFc hP1 hD1
  clear hP hD hP1 hD1 hK1 hPc hDc hKc hFc hk1 hz1 hvm ht
  generalize H1 = H at hPn hS ⊢
  have hP := hPn
  have hD := hDn
  clear hPn hDn
  replace hP : va_P (dC, dI) vwCl [(g0, .inr (1, [.int (nI th), .ref bT, .int (nI tp), .ref bO, .int (nI os), .ref bL, .ref bW, .ref bB, .ref bD, .long dn, .long lf, .int (bI mf), .ref bX])), (bX, .inl (cZ, 560, .inl (fun i9 => bI ((spF bt bs fr (8 * 66)) i9)))), (bB, .inl (cB, 73920, .inl (fun i9 => sx (bs i9))))] H := hP
  replace hD : va_D A [(g0, .inr (1, [.int (nI th), .ref bT, .int (nI tp), .ref bO, .int (nI os), .ref bL, .ref bW, .ref bB, .ref bD, .long dn, .long lf, .int (bI mf), .ref bX])), (bX, .inl (cZ, 560, .inl (fun i9 => bI ((spF bt bs fr (8 * 66)) i9)))), (bB, .inl (cB, 73920, .inl (fun i9 => sx (bs i9))))] := hD
  refine W.widen (k := 0) (n := 0) (Nat.le_refl _) (Nat.le_refl _) ?_
  refine lv_sipush (v := nI 528) hx hb dX1_check_11 (by decide) ?_
  refine lv_istore_n (lv' := [(2, .int (nI 528)), (0, .ref g0), (1, .int (nI fr))]) hx hb dX1_check_14 rfl hl (by decide) rfl (fun ls hl => ?_)
  refine lp_X1_check_1 g0 bT bO bL bW bB bD bX th tp os dn lf mf cZ cB (spF bt bs fr (8 * 66)) bs fr hx hb hml hown hts hA hK (fun  H locs ls hP hD hS hl => ?_) 33 0 (by omega) (by omega) _ _ _ (hP.sub [0, 1, 2] rfl) (hD.sub [0, 1, 2] (by decide) rfl) hS (lv_sub hl [1, 2, 0] rfl)
  refine lv_iconst (v := nI 0) hx hb dX1_check_35 (by decide) ?_
  refine lv_istore_n (lv' := [(2, .int (nI 0)), (0, .ref g0), (1, .int (nI fr))]) hx hb dX1_check_36 rfl hl (by decide) rfl (fun ls hl => ?_)
  refine lp_X1_check_2 g0 bT bO bL bW bB bD bX th tp os dn lf mf cZ cB (fcF (spF bt bs fr (8 * 66)) 32) bs fr hx hb hml hown hts hA hK (fun  H locs ls hP hD hS hl => ?_) 33 0 (by omega) (by omega) _ _ _ (hP.sub [0, 1, 2] rfl) (hD.sub [0, 1, 2] (by decide) rfl) hS (lv_sub hl [1, 2, 0] rfl)
  refine lv_aload_n hx hb dX1_check_69 rfl (lv_at hl 0 rfl) ?_
  refine lv_sipush (v := nI 560) hx hb dX1_check_70 (by decide) ?_
  have hPc := hP.sub (ws' := [(g0, .inr (1, [.int (nI th), .ref bT, .int (nI tp), .ref bO, .int (nI os), .ref bL, .ref bW, .ref bB, .ref bD, .long dn, .long lf, .int (bI mf), .ref bX])), (bX, .inl (cZ, 560, .inl (fun i9 => bI ((ngF (fcF (spF bt bs fr (8 * 66)) 32) 32) i9))))]) [0, 1] rfl
  have hDc := hD.sub (ws' := [(g0, .inr (1, [.int (nI th), .ref bT, .int (nI tp), .ref bO, .int (nI os), .ref bL, .ref bW, .ref bB, .ref bD, .long dn, .long lf, .int (bI mf), .ref bX])), (bX, .inl (cZ, 560, .inl (fun i9 => bI ((ngF (fcF (spF bt bs fr (8 * 66)) 32) 32) i9))))]) [0, 1] (by decide) rfl
  have hKc := hK.sub (tys' := [(cZ, .boolean)]) [0] rfl
  have hFc := va_free (wc := [(g0, .inr (1, [.int (nI th), .ref bT, .int (nI tp), .ref bO, .int (nI os), .ref bL, .ref bW, .ref bB, .ref bD, .long dn, .long lf, .int (bI mf), .ref bX])), (bX, .inl (cZ, 560, .inl (fun i9 => bI ((ngF (fcF (spF bt bs fr (8 * 66)) 32) 32) i9))))]) hD hS hA [0, 1] rfl
  refine va_callv (va_runV (As := [.int (nI 560)]) (rest := []) ⟨hx, hb, hml, hown, hts⟩ (c_X1_divide l dC dI H.size g0 bT bO bL bW bB bD bX th tp os dn lf mf cZ (ngF (fcF (spF bt bs fr (8 * 66)) 32) 32)) (cwV 1 hts gX1_check_X1_divide rfl rfl rfl (by decide +kernel) ⟨Nat.le_of_ble_eq_true rfl, Nat.le_of_ble_eq_true rfl⟩) ⟨fun a U g mk q => by obtain ⟨q0, q1, qP, qK, qD⟩ := q; exact ⟨q0, q1, qP, va_K.moved (u := U) (U := U.calling g mk a) (Vm.Alike.refl U.vm) qK, qD⟩, va_recv hKc hPc (ci := 1) (q0 := 0) rfl rfl, fun U hU hW => ⟨rfl, by rw [hU], by rw [hU]; exact hPc, va_K.moved hW.alike hKc, hDc.weaken (fun _ _ _ _ => trivial)⟩⟩ rfl rfl hl.1 rfl (lv_room (Nat.le_of_ble_eq_true rfl)) dX1_check_73 ⟨Nat.zero_le _, Nat.zero_le _⟩) hS (fun q _ h => hFc q h) hFc (fun u t H1 locs ht hvm hw hB hz1 hk1 hS => ?_)
  obtain ⟨hP1, hK1, hD1⟩ := hB
  rw [ht] at hP1
  obtain ⟨hPn, hDn⟩ := va_join (wr := [(bB, .inl (cB, 73920, .inl (fun i9 => sx (bs i9))))]) (w1 := [(g0, .inr (1, [.int (nI th), .ref bT, .int (nI tp), .ref bO, .int (nI os), .ref bL, .ref bW, .ref bB, .ref bD, .long dn, .long lf, .int (bI mf), .ref bX])), (bX, .inl (cZ, 560, .inl (fun i9 => bI ((dv (ngF (fcF (spF bt bs fr (8 * 66)) 32) 32) 528) i9))))]) hP hD [0, 1] [2] rfl rfl (by decide) (by decide) hk1 hFc hP1 hD1
  clear hP hD hP1 hD1 hK1 hPc hDc hKc hFc hk1 hz1 hvm ht
  generalize H1 = H at hPn hS ⊢
  have hP := hPn
  have hD := hDn
  clear hPn hDn
  replace hP : va_P (dC, dI) vwCl [(bB, .inl (cB, 73920, .inl (fun i9 => sx (bs i9)))), (g0, .inr (1, [.int (nI th), .ref bT, .int (nI tp), .ref bO, .int (nI os), .ref bL, .ref bW, .ref bB, .ref bD, .long dn, .long lf, .int (bI mf), .ref bX])), (bX, .inl (cZ, 560, .inl (fun i9 => bI ((dv (ngF (fcF (spF bt bs fr (8 * 66)) 32) 32) 528) i9))))] H := hP
  replace hD : va_D A [(bB, .inl (cB, 73920, .inl (fun i9 => sx (bs i9)))), (g0, .inr (1, [.int (nI th), .ref bT, .int (nI tp), .ref bO, .int (nI os), .ref bL, .ref bW, .ref bB, .ref bD, .long dn, .long lf, .int (bI mf), .ref bX])), (bX, .inl (cZ, 560, .inl (fun i9 => bI ((dv (ngF (fcF (spF bt bs fr (8 * 66)) 32) 32) 528) i9))))] := hD
  refine W.widen (k := 0) (n := 0) (Nat.le_refl _) (Nat.le_refl _) ?_
  refine lv_bipush (v := nI 66) hx hb dX1_check_76 (by decide) ?_
  refine lv_istore_n (lv' := [(2, .int (nI 66)), (0, .ref g0), (1, .int (nI fr))]) hx hb dX1_check_78 rfl hl (by decide) rfl (fun ls hl => ?_)
  refine lp_X1_check_3 g0 bT bO bL bW bB bD bX th tp os dn lf mf cZ cB (dv (ngF (fcF (spF bt bs fr (8 * 66)) 32) 32) 528) bs fr hf hx hb hml hown hts hA hK (fun  H locs ls hP hD hS hl => ?_) 5 0 (by omega) (by omega) _ _ _ (hP.sub [1, 2, 0] rfl) (hD.sub [1, 2, 0] (by decide) rfl) hS (lv_sub hl [1, 2, 0] rfl)
  have hP9 := hP.sub (ws' := [(g0, .inr (1, [.int (nI th), .ref bT, .int (nI tp), .ref bO, .int (nI os), .ref bL, .ref bW, .ref bB, .ref bD, .long dn, .long lf, .int (bI mf), .ref bX])), (bX, .inl (cZ, 560, .inl (fun i9 => bI ((ckT bt bs fr) i9)))), (bB, .inl (cB, 73920, .inl (fun i9 => sx ((chF bs fr (ckT bt bs fr) 4) i9))))]) [0, 1, 2] rfl
  have hD9 := hD.sub (ws' := [(g0, .inr (1, [.int (nI th), .ref bT, .int (nI tp), .ref bO, .int (nI os), .ref bL, .ref bW, .ref bB, .ref bD, .long dn, .long lf, .int (bI mf), .ref bX])), (bX, .inl (cZ, 560, .inl (fun i9 => bI ((ckT bt bs fr) i9)))), (bB, .inl (cB, 73920, .inl (fun i9 => sx ((chF bs fr (ckT bt bs fr) 4) i9))))]) [0, 1, 2] (by decide) rfl
  exact W.vret hx hb hr (fun t ht hW => ⟨⟨(), rfl, trivial, by rw [ht]; exact hP9, va_K.moved hW.alike hK, hD9⟩, hS.F ht⟩) hS.2.2 dX1_check_145
set_option maxHeartbeats 4000000 in
set_option maxRecDepth 100000 in
theorem lp_X1_feed {p : Program} {l : Launch} {e : Env} {R : Room} {s : State} {m : MethodId} {args : Array Value} {below : List Frame} {meth : Method} {c : Code} {cells slots : Nat} {Q : State → Prop} {A : Nat → Prop} {H0 : Heap} {dC : Nat → ClassId} {dI : Nat → Nat → Nat} (g0 bT bO bL bW bB bD bX : Nat) (th tp os : Nat) (dn lf : Int64) (mf : Bool) (cI : ClassId) (mt : Nat → Nat) (v : Int64) (k0 : Nat) (h8 : k0 ≤ 8) (hp : tp + k0 ≤ 64) (hx : p.tables.exec = Jvm.exec) (hb : c.code = cX1_feed) (hml : c.maxLocals = 5) (hown : s.vm.findClass RX1 = some m.cls) (hts : ∀ w ∈ wsX1_feed, w.before args s = true) (hA : ∀ q : Nat, H0.size ≤ q → A q) (hK : va_K (dC, dI) vwCl [(cI, .int)] s) (kk : ∀  (H : Heap) (locs : List Loc) (ls : Array Slot), va_P (dC, dI) vwCl [(g0, .inr (1, [.int (nI th), .ref bT, .int (nI tp), .ref bO, .int (nI os), .ref bL, .ref bW, .ref bB, .ref bD, .long dn, .long lf, .int (bI mf), .ref bX])), (bT, .inl (cI, 64, .inl (fun i9 => nI ((mfF mt tp v k0) i9))))] H → va_D A [(g0, .inr (1, [.int (nI th), .ref bT, .int (nI tp), .ref bO, .int (nI os), .ref bL, .ref bW, .ref bB, .ref bD, .long dn, .long lf, .int (bI mf), .ref bX])), (bT, .inl (cI, 64, .inl (fun i9 => nI ((mfF mt tp v k0) i9))))] → va_S A H0 H locs → lv_has ls 5 [(0, .ref g0), (1, .int (nI k0)), (2, .long v), (4, .int (nI k0))] → W p l e R s m args below meth c H locs cells slots Q (F0 m 88 ls [])) : ∀ (n : Nat) (i : Nat), k0 + 1 ≤ i + n → i ≤ k0 → ∀ (H : Heap) (locs : List Loc) (ls : Array Slot), va_P (dC, dI) vwCl [(g0, .inr (1, [.int (nI th), .ref bT, .int (nI tp), .ref bO, .int (nI os), .ref bL, .ref bW, .ref bB, .ref bD, .long dn, .long lf, .int (bI mf), .ref bX])), (bT, .inl (cI, 64, .inl (fun i9 => nI ((mfF mt tp v i) i9))))] H → va_D A [(g0, .inr (1, [.int (nI th), .ref bT, .int (nI tp), .ref bO, .int (nI os), .ref bL, .ref bW, .ref bB, .ref bD, .long dn, .long lf, .int (bI mf), .ref bX])), (bT, .inl (cI, 64, .inl (fun i9 => nI ((mfF mt tp v i) i9))))] → va_S A H0 H locs → lv_has ls 5 [(0, .ref g0), (1, .int (nI k0)), (2, .long v), (4, .int (nI i))] → W p l e R s m args below meth c H locs cells slots Q (F0 m 52 ls []) := by
  have hi1 : ∀ w ∈ u_ws RX1 TX1 13, w ∈ wsX1_feed := by decide +kernel
  intro n
  induction n with
  | zero => intro i  hm hi; exact absurd hm (by omega)
  | succ n ih =>
    intro i  hm hi H locs ls hP hD hS hl
    refine lv_iload hx hb dX1_feed_52 (lv_at hl 3 rfl) ?_
    refine lv_iload_n hx hb dX1_feed_54 rfl (lv_at hl 1 rfl) ?_
    refine zr_icmp_ge (tgt := 88) hx hb (by omega) (by omega) dX1_feed_55 (by decide) (fun c55 => ?_) (fun c55 => ?_)
    · obtain rfl : k0 = i := by omega
      exact kk  H locs ls (hP.sub [0, 1] rfl) (hD.sub [0, 1] (by decide) rfl) hS (lv_sub hl [0, 1, 2, 3] rfl)
    · refine lv_aload_n hx hb dX1_feed_58 rfl (lv_at hl 0 rfl) ?_
      refine va_get (D := (dC, dI)) (ci := 1) (v := .ref bT) (C := RX1) (T := TX1) (N := 13) hx hb hts hi1 hown hK hP 0 rfl rfl 1 (by decide) (hts (.fieldLink RX1 7 "CellRackModel" "tape" "[I") (by decide +kernel)) (fun _ h9 => h9) rfl dX1_feed_59 ?_
      refine lv_aload_n hx hb dX1_feed_62 rfl (lv_at hl 0 rfl) ?_
      refine va_get (D := (dC, dI)) (ci := 1) (v := .int (nI tp)) (C := RX1) (T := TX1) (N := 13) hx hb hts hi1 hown hK hP 0 rfl rfl 2 (by decide) (hts (.fieldLink RX1 70 "CellRackModel" "taped" "I") (by decide +kernel)) (fun _ h9 => h9) rfl dX1_feed_63 ?_
      refine lv_iload hx hb dX1_feed_66 (lv_at hl 3 rfl) ?_
      refine zr_iadd hx hb dX1_feed_68 ?_
      refine lv_lload_n hx hb dX1_feed_69 rfl (lv_at hl 2 rfl) ?_
      refine lv_bipush (v := nI 8) hx hb dX1_feed_70 (by decide) ?_
      refine lv_iload hx hb dX1_feed_72 (lv_at hl 3 rfl) ?_
      refine zr_imul hx hb dX1_feed_74 ?_
      refine lv_lshr hx hb dX1_feed_75 rfl ?_
      refine lv_ldc2 hx hb hown (hts (.constantLong RX1 73 (255)) (by decide +kernel)) dX1_feed_76 ?_
      refine lv_land hx hb dX1_feed_79 ?_
      refine lv_l2i hx hb dX1_feed_80 rfl ?_
      refine zr_topi (nI (vb v i)) (vb_eq v (by omega)) ?_
      refine zr_nast hx hb hK hP hD hS 1 0 rfl rfl (by omega) (by omega) dX1_feed_81 (fun H locs hP hD hS => ?_)
      replace hP : va_P (dC, dI) vwCl [(g0, .inr (1, [.int (nI th), .ref bT, .int (nI tp), .ref bO, .int (nI os), .ref bL, .ref bW, .ref bB, .ref bD, .long dn, .long lf, .int (bI mf), .ref bX])), (bT, .inl (cI, 64, .inl (fun i9 => nI ((va_up (mfF mt tp v i) (tp + i) (vb v i)) i9))))] H := hP
      replace hD : va_D A [(g0, .inr (1, [.int (nI th), .ref bT, .int (nI tp), .ref bO, .int (nI os), .ref bL, .ref bW, .ref bB, .ref bD, .long dn, .long lf, .int (bI mf), .ref bX])), (bT, .inl (cI, 64, .inl (fun i9 => nI ((va_up (mfF mt tp v i) (tp + i) (vb v i)) i9))))] := hD
      refine lv_iinc (v := nI (i + 1)) (lv' := [(4, .int (nI (i + 1))), (0, .ref g0), (1, .int (nI k0)), (2, .long v)]) hx hb dX1_feed_82 hl (k := 3) rfl (nI_add (i) 1) (by decide) rfl (fun ls hl => ?_)
      refine lv_goto (tgt := 52) hx hb dX1_feed_85 (by decide) ?_
      exact ih (i + 1) (by omega) (by omega) H locs ls (hP.sub [0, 1] rfl) (hD.sub [0, 1] (by decide) rfl) hS (lv_sub hl [1, 2, 3, 0] rfl)
set_option maxHeartbeats 4000000 in
set_option maxRecDepth 100000 in
theorem c_X1_feed (l : Launch) (dC : Nat → ClassId) (dI : Nat → Nat → Nat) (sz : Nat) (g0 bT bO bL bW bB bD bX : Nat) (th tp os : Nat) (dn lf : Int64) (mf : Bool) (cI : ClassId) (mt : Nat → Nat) (x : Int32) (v : Int64) (htp : tp ≤ 64) : Met l yX1_feed wsX1_feed ({ frames := 1, cells := 0, slots := 0, locals := 22 }) (va_Pc [.ref g0, .int x, .long v] (fun U => U.heap.size = sz ∧ va_P (dC, dI) vwCl [(g0, .inr (1, [.int (nI th), .ref bT, .int (nI tp), .ref bO, .int (nI os), .ref bL, .ref bW, .ref bB, .ref bD, .long dn, .long lf, .int (bI mf), .ref bX])), (bT, .inl (cI, 64, .inl (fun i9 => nI (mt i9))))] U.heap ∧ va_K (dC, dI) vwCl [(cI, .int)] U ∧ va_D (fun _ => True) [(g0, .inr (1, [.int (nI th), .ref bT, .int (nI tp), .ref bO, .int (nI os), .ref bL, .ref bW, .ref bB, .ref bD, .long dn, .long lf, .int (bI mf), .ref bX])), (bT, .inl (cI, 64, .inl (fun i9 => nI (mt i9))))])) (va_Qi (fun (r : Int32) (u : (Nat → Nat) × Nat × Nat) => match u with | (t2, p2, h2) => (okC x = false ∧ r = nI 0 ∧ t2 = mt ∧ p2 = tp ∧ h2 = 1) ∨ (∃ k : Nat, 1 ≤ k ∧ k ≤ 8 ∧ x = nI k ∧ 64 < tp + k ∧ r = nI 0 ∧ t2 = mt ∧ p2 = tp ∧ h2 = 2) ∨ (∃ k : Nat, 1 ≤ k ∧ k ≤ 8 ∧ x = nI k ∧ tp + k ≤ 64 ∧ r = nI (tp + k) ∧ t2 = mfF mt tp v k ∧ p2 = tp + k ∧ h2 = 0)) (fun (u : (Nat → Nat) × Nat × Nat) t => match u with | (t2, p2, h2) => va_P (dC, dI) vwCl [(g0, .inr (1, [.int (nI h2), .ref bT, .int (nI p2), .ref bO, .int (nI os), .ref bL, .ref bW, .ref bB, .ref bD, .long dn, .long lf, .int (bI mf), .ref bX])), (bT, .inl (cI, 64, .inl (fun i9 => nI (t2 i9))))] t.heap ∧ va_K (dC, dI) vwCl [(cI, .int)] t ∧ va_D (va_A [(g0, .inr (1, [.int (nI th), .ref bT, .int (nI tp), .ref bO, .int (nI os), .ref bL, .ref bW, .ref bB, .ref bD, .long dn, .long lf, .int (bI mf), .ref bX])), (bT, .inl (cI, 64, .inl (fun i9 => nI (mt i9))))] sz) [(g0, .inr (1, [.int (nI h2), .ref bT, .int (nI p2), .ref bO, .int (nI os), .ref bL, .ref bW, .ref bB, .ref bD, .long dn, .long lf, .int (bI mf), .ref bX])), (bT, .inl (cI, 64, .inl (fun i9 => nI (t2 i9))))]) (va_A [(g0, .inr (1, [.int (nI th), .ref bT, .int (nI tp), .ref bO, .int (nI os), .ref bL, .ref bW, .ref bB, .ref bD, .long dn, .long lf, .int (bI mf), .ref bX])), (bT, .inl (cI, 64, .inl (fun i9 => nI (mt i9))))] sz)) 0 0 (va_A [(g0, .inr (1, [.int (nI th), .ref bT, .int (nI tp), .ref bO, .int (nI os), .ref bL, .ref bW, .ref bB, .ref bD, .long dn, .long lf, .int (bI mf), .ref bX])), (bT, .inl (cI, 64, .inl (fun i9 => nI (mt i9))))] sz) := by
  refine Met.ofW (cc := cX1_feed) (maxL := 5) (ret := some .int) (by decide) rfl ?_
  intro p e s m args below meth c s₁ B hml hv
  obtain ⟨rfl, hsz, hP, hK, hD0⟩ := hv
  have hx := B.exec
  have hb := B.bytes
  have hr := B.returns
  have hts := atoms_spec (ws := wsX1_feed) B.pre
  have hown : s.vm.findClass RX1 = some m.cls := findClass_of_methodNamed B.named
  have hlocks := B.notSynchronized
  subst hsz
  have hD := hD0.self (sz := s.heap.size)
  generalize hAe : va_A [(g0, .inr (1, [.int (nI th), .ref bT, .int (nI tp), .ref bO, .int (nI os), .ref bL, .ref bW, .ref bB, .ref bD, .long dn, .long lf, .int (bI mf), .ref bX])), (bT, .inl (cI, 64, .inl (fun i9 => nI (mt i9))))] s.heap.size = A at hD ⊢
  have hA : ∀ q : Nat, s.heap.size ≤ q → A q := fun q h => by rw [← hAe]; exact Or.inr h
  generalize hH : s.heap = H at hP ⊢
  have hS : va_S A s.heap H [] := by rw [hH]; exact va_S.rf
  replace hP : va_P (dC, dI) vwCl [(g0, .inr (1, [.int (nI th), .ref bT, .int (nI tp), .ref bO, .int (nI os), .ref bL, .ref bW, .ref bB, .ref bD, .long dn, .long lf, .int (bI mf), .ref bX])), (bT, .inl (cI, 64, .inl (fun i9 => nI (mt i9))))] H := hP
  have hl := lv_entry ([.ref g0, .int x, .long v]) (n := 5) (Nat.le_of_ble_eq_true rfl)
  rw [lg_entry_eq]
  generalize (lg_sl ([.ref g0, .int x, .long v]) ++ List.replicate (5 - (lg_sl ([.ref g0, .int x, .long v])).length) Slot.unset).toArray = ls at hl ⊢
  have hl : lv_has ls 5 [(0, .ref g0), (1, .int x), (2, .long v)] := hl
  have hi1 : ∀ w ∈ u_ws RX1 TX1 13, w ∈ wsX1_feed := by decide +kernel
  refine lv_aload_n hx hb dX1_feed_0 rfl (lv_at hl 0 rfl) ?_
  refine lv_iload_n hx hb dX1_feed_1 rfl (lv_at hl 1 rfl) ?_
  refine lv_iconst (v := nI 1) hx hb dX1_feed_2 (by decide) ?_
  refine lv_bipush (v := nI 8) hx hb dX1_feed_3 (by decide) ?_
  have hPc := hP.sub (ws' := []) [] rfl
  have hDc := hD.sub (ws' := []) [] (by decide) rfl
  have hKc := hK.sub (tys' := []) [] rfl
  have hFc := va_free (wc := []) hD hS hA [] rfl
  refine va_calli (va_runS (As := [.int x, .int (nI 1), .int (nI 8)]) (rest := [.ref g0]) ⟨hx, hb, hml, hown, hts⟩ (c_X1_within l dC dI H.size x (nI 1) (nI 8)) (va_cwS 3 hts gX1_feed_X1_within rfl rfl rfl (by decide +kernel) ⟨Nat.le_of_ble_eq_true rfl, Nat.le_of_ble_eq_true rfl⟩) ⟨fun a U g mk q => by obtain ⟨q0, q1, qP, qK, qD⟩ := q; exact ⟨q0, q1, qP, va_K.moved (u := U) (U := U.calling g mk a) (Vm.Alike.refl U.vm) qK, qD⟩, fun U hU hW => ⟨rfl, by rw [hU], by rw [hU]; exact hPc, va_K.moved hW.alike hKc, hDc.weaken (fun _ _ _ _ => trivial)⟩⟩ rfl rfl hl.1 rfl (lv_room (Nat.le_of_ble_eq_true rfl)) dX1_feed_5 ⟨Nat.zero_le _, Nat.zero_le _⟩) hS (fun q _ h => hFc q h) hFc (fun r_1 u t H1 locs ht hvm hw hB hz1 hk1 hS => ?_)
  obtain ⟨hP1, hK1, hD1⟩ := hB
  rw [ht] at hP1
  obtain ⟨hPn, hDn⟩ := va_join (wr := [(g0, .inr (1, [.int (nI th), .ref bT, .int (nI tp), .ref bO, .int (nI os), .ref bL, .ref bW, .ref bB, .ref bD, .long dn, .long lf, .int (bI mf), .ref bX])), (bT, .inl (cI, 64, .inl (fun i9 => nI (mt i9))))]) (w1 := []) hP hD [] [0, 1] rfl rfl (by decide) (by decide) hk1 hFc hP1 hD1
  clear hP hD hP1 hD1 hK1 hPc hDc hKc hFc hk1 hz1 hvm ht
  generalize H1 = H at hPn hS ⊢
  have hP := hPn
  have hD := hDn
  clear hPn hDn
  replace hP : va_P (dC, dI) vwCl [(g0, .inr (1, [.int (nI th), .ref bT, .int (nI tp), .ref bO, .int (nI os), .ref bL, .ref bW, .ref bB, .ref bD, .long dn, .long lf, .int (bI mf), .ref bX])), (bT, .inl (cI, 64, .inl (fun i9 => nI (mt i9))))] H := hP
  replace hD : va_D A [(g0, .inr (1, [.int (nI th), .ref bT, .int (nI tp), .ref bO, .int (nI os), .ref bL, .ref bW, .ref bB, .ref bD, .long dn, .long lf, .int (bI mf), .ref bX])), (bT, .inl (cI, 64, .inl (fun i9 => nI (mt i9))))] := hD
  refine W.widen (k := 0) (n := 0) (Nat.le_refl _) (Nat.le_refl _) ?_
  obtain rfl := hw
  refine zr_topi (bI (okC x)) (by rw [inB_okC]) ?_
  refine zr_ifb_ne (tgt := 15) hx hb dX1_feed_8 (by decide) (fun c8 => ?_) (fun c8 => ?_)
  · obtain ⟨k, hk1, hk8, rfl⟩ := okC_get c8
    refine lv_iconst (v := nI 0) hx hb dX1_feed_15 (by decide) ?_
    refine zr_topi (bI false) (rfl) ?_
    refine lv_iconst (v := nI 1) hx hb dX1_feed_16 (by decide) ?_
    have hPc := hP.sub (ws' := [(g0, .inr (1, [.int (nI th), .ref bT, .int (nI tp), .ref bO, .int (nI os), .ref bL, .ref bW, .ref bB, .ref bD, .long dn, .long lf, .int (bI mf), .ref bX]))]) [0] rfl
    have hDc := hD.sub (ws' := [(g0, .inr (1, [.int (nI th), .ref bT, .int (nI tp), .ref bO, .int (nI os), .ref bL, .ref bW, .ref bB, .ref bD, .long dn, .long lf, .int (bI mf), .ref bX]))]) [0] (by decide) rfl
    have hKc := hK.sub (tys' := []) [] rfl
    have hFc := va_free (wc := [(g0, .inr (1, [.int (nI th), .ref bT, .int (nI tp), .ref bO, .int (nI os), .ref bL, .ref bW, .ref bB, .ref bD, .long dn, .long lf, .int (bI mf), .ref bX]))]) hD hS hA [0] rfl
    refine va_calli (va_runV (As := [.int (bI false), .int (nI 1)]) (rest := []) ⟨hx, hb, hml, hown, hts⟩ (c_X1_fails l dC dI H.size g0 bT bO bL bW bB bD bX th tp os dn lf mf false 1) (cwV 2 hts gX1_feed_X1_fails rfl rfl rfl (by decide +kernel) ⟨Nat.le_of_ble_eq_true rfl, Nat.le_of_ble_eq_true rfl⟩) ⟨fun a U g mk q => by obtain ⟨q0, q1, qP, qK, qD⟩ := q; exact ⟨q0, q1, qP, va_K.moved (u := U) (U := U.calling g mk a) (Vm.Alike.refl U.vm) qK, qD⟩, va_recv hKc hPc (ci := 1) (q0 := 0) rfl rfl, fun U hU hW => ⟨rfl, by rw [hU], by rw [hU]; exact hPc, va_K.moved hW.alike hKc, hDc.weaken (fun _ _ _ _ => trivial)⟩⟩ rfl rfl hl.1 rfl (lv_room (Nat.le_of_ble_eq_true rfl)) dX1_feed_17 ⟨Nat.zero_le _, Nat.zero_le _⟩) hS (fun q _ h => hFc q h) hFc (fun r_2 u t H1 locs ht hvm hw hB hz1 hk1 hS => ?_)
    obtain ⟨hP1, hK1, hD1⟩ := hB
    rw [ht] at hP1
    obtain ⟨hPn, hDn⟩ := va_join (wr := [(bT, .inl (cI, 64, .inl (fun i9 => nI (mt i9))))]) (w1 := [(g0, .inr (1, [.int (nI (cond false 1 0)), .ref bT, .int (nI tp), .ref bO, .int (nI os), .ref bL, .ref bW, .ref bB, .ref bD, .long dn, .long lf, .int (bI mf), .ref bX]))]) hP hD [0] [1] rfl rfl (by decide) (by decide) hk1 hFc hP1 hD1
    clear hP hD hP1 hD1 hK1 hPc hDc hKc hFc hk1 hz1 hvm ht
    generalize H1 = H at hPn hS ⊢
    have hP := hPn
    have hD := hDn
    clear hPn hDn
    replace hP : va_P (dC, dI) vwCl [(bT, .inl (cI, 64, .inl (fun i9 => nI (mt i9)))), (g0, .inr (1, [.int (nI (cond false 1 0)), .ref bT, .int (nI tp), .ref bO, .int (nI os), .ref bL, .ref bW, .ref bB, .ref bD, .long dn, .long lf, .int (bI mf), .ref bX]))] H := hP
    replace hD : va_D A [(bT, .inl (cI, 64, .inl (fun i9 => nI (mt i9)))), (g0, .inr (1, [.int (nI (cond false 1 0)), .ref bT, .int (nI tp), .ref bO, .int (nI os), .ref bL, .ref bW, .ref bB, .ref bD, .long dn, .long lf, .int (bI mf), .ref bX]))] := hD
    refine W.widen (k := 0) (n := 0) (Nat.le_refl _) (Nat.le_refl _) ?_
    obtain rfl := hw
    replace hP : va_P (dC, dI) vwCl [(bT, .inl (cI, 64, .inl (fun i9 => nI (mt i9)))), (g0, .inr (1, [.int (nI 0), .ref bT, .int (nI tp), .ref bO, .int (nI os), .ref bL, .ref bW, .ref bB, .ref bD, .long dn, .long lf, .int (bI mf), .ref bX]))] H := hP
    replace hD : va_D A [(bT, .inl (cI, 64, .inl (fun i9 => nI (mt i9)))), (g0, .inr (1, [.int (nI 0), .ref bT, .int (nI tp), .ref bO, .int (nI os), .ref bL, .ref bW, .ref bB, .ref bD, .long dn, .long lf, .int (bI mf), .ref bX]))] := hD
    refine zr_ifb_ne (tgt := 47) hx hb dX1_feed_20 (by decide) (fun c20 => absurd c20 (by decide)) (fun c20 => ?_)
    refine lv_aload_n hx hb dX1_feed_23 rfl (lv_at hl 0 rfl) ?_
    refine lv_aload_n hx hb dX1_feed_24 rfl (lv_at hl 0 rfl) ?_
    refine va_get (D := (dC, dI)) (ci := 1) (v := .int (nI tp)) (C := RX1) (T := TX1) (N := 13) hx hb hts hi1 hown hK hP 1 rfl rfl 2 (by decide) (hts (.fieldLink RX1 70 "CellRackModel" "taped" "I") (by decide +kernel)) (fun _ h9 => h9) rfl dX1_feed_25 ?_
    refine lv_iload_n hx hb dX1_feed_28 rfl (lv_at hl 1 rfl) ?_
    refine zr_iadd hx hb dX1_feed_29 ?_
    refine lv_bipush (v := nI 64) hx hb dX1_feed_30 (by decide) ?_
    refine zr_icmp_le (tgt := 39) hx hb (by omega) (by omega) dX1_feed_32 (by decide) (fun c32 => ?_) (fun c32 => ?_)
    · refine lv_iconst (v := nI 0) hx hb dX1_feed_39 (by decide) ?_
      refine zr_topi (bI false) (rfl) ?_
      refine lv_iconst (v := nI 2) hx hb dX1_feed_40 (by decide) ?_
      have hPc := hP.sub (ws' := [(g0, .inr (1, [.int (nI 0), .ref bT, .int (nI tp), .ref bO, .int (nI os), .ref bL, .ref bW, .ref bB, .ref bD, .long dn, .long lf, .int (bI mf), .ref bX]))]) [1] rfl
      have hDc := hD.sub (ws' := [(g0, .inr (1, [.int (nI 0), .ref bT, .int (nI tp), .ref bO, .int (nI os), .ref bL, .ref bW, .ref bB, .ref bD, .long dn, .long lf, .int (bI mf), .ref bX]))]) [1] (by decide) rfl
      have hKc := hK.sub (tys' := []) [] rfl
      have hFc := va_free (wc := [(g0, .inr (1, [.int (nI 0), .ref bT, .int (nI tp), .ref bO, .int (nI os), .ref bL, .ref bW, .ref bB, .ref bD, .long dn, .long lf, .int (bI mf), .ref bX]))]) hD hS hA [1] rfl
      refine va_calli (va_runV (As := [.int (bI false), .int (nI 2)]) (rest := []) ⟨hx, hb, hml, hown, hts⟩ (c_X1_fails l dC dI H.size g0 bT bO bL bW bB bD bX 0 tp os dn lf mf false 2) (cwV 2 hts gX1_feed_X1_fails rfl rfl rfl (by decide +kernel) ⟨Nat.le_of_ble_eq_true rfl, Nat.le_of_ble_eq_true rfl⟩) ⟨fun a U g mk q => by obtain ⟨q0, q1, qP, qK, qD⟩ := q; exact ⟨q0, q1, qP, va_K.moved (u := U) (U := U.calling g mk a) (Vm.Alike.refl U.vm) qK, qD⟩, va_recv hKc hPc (ci := 1) (q0 := 0) rfl rfl, fun U hU hW => ⟨rfl, by rw [hU], by rw [hU]; exact hPc, va_K.moved hW.alike hKc, hDc.weaken (fun _ _ _ _ => trivial)⟩⟩ rfl rfl hl.1 rfl (lv_room (Nat.le_of_ble_eq_true rfl)) dX1_feed_41 ⟨Nat.zero_le _, Nat.zero_le _⟩) hS (fun q _ h => hFc q h) hFc (fun r_3 u t H1 locs ht hvm hw hB hz1 hk1 hS => ?_)
      obtain ⟨hP1, hK1, hD1⟩ := hB
      rw [ht] at hP1
      obtain ⟨hPn, hDn⟩ := va_join (wr := [(bT, .inl (cI, 64, .inl (fun i9 => nI (mt i9))))]) (w1 := [(g0, .inr (1, [.int (nI (cond false 2 0)), .ref bT, .int (nI tp), .ref bO, .int (nI os), .ref bL, .ref bW, .ref bB, .ref bD, .long dn, .long lf, .int (bI mf), .ref bX]))]) hP hD [1] [0] rfl rfl (by decide) (by decide) hk1 hFc hP1 hD1
      clear hP hD hP1 hD1 hK1 hPc hDc hKc hFc hk1 hz1 hvm ht
      generalize H1 = H at hPn hS ⊢
      have hP := hPn
      have hD := hDn
      clear hPn hDn
      replace hP : va_P (dC, dI) vwCl [(bT, .inl (cI, 64, .inl (fun i9 => nI (mt i9)))), (g0, .inr (1, [.int (nI (cond false 2 0)), .ref bT, .int (nI tp), .ref bO, .int (nI os), .ref bL, .ref bW, .ref bB, .ref bD, .long dn, .long lf, .int (bI mf), .ref bX]))] H := hP
      replace hD : va_D A [(bT, .inl (cI, 64, .inl (fun i9 => nI (mt i9)))), (g0, .inr (1, [.int (nI (cond false 2 0)), .ref bT, .int (nI tp), .ref bO, .int (nI os), .ref bL, .ref bW, .ref bB, .ref bD, .long dn, .long lf, .int (bI mf), .ref bX]))] := hD
      refine W.widen (k := 0) (n := 0) (Nat.le_refl _) (Nat.le_refl _) ?_
      obtain rfl := hw
      replace hP : va_P (dC, dI) vwCl [(bT, .inl (cI, 64, .inl (fun i9 => nI (mt i9)))), (g0, .inr (1, [.int (nI 0), .ref bT, .int (nI tp), .ref bO, .int (nI os), .ref bL, .ref bW, .ref bB, .ref bD, .long dn, .long lf, .int (bI mf), .ref bX]))] H := hP
      replace hD : va_D A [(bT, .inl (cI, 64, .inl (fun i9 => nI (mt i9)))), (g0, .inr (1, [.int (nI 0), .ref bT, .int (nI tp), .ref bO, .int (nI os), .ref bL, .ref bW, .ref bB, .ref bD, .long dn, .long lf, .int (bI mf), .ref bX]))] := hD
      refine zr_ifb_eq (tgt := 49) hx hb dX1_feed_44 (by decide) (fun c44 => ?_) (fun c44 => absurd c44 (by decide))
      refine lv_iconst (v := nI 0) hx hb dX1_feed_49 (by decide) ?_
      refine lv_istore (lv' := [(4, .int (nI 0)), (0, .ref g0), (1, .int (nI k)), (2, .long v)]) hx hb dX1_feed_50 hl (by decide) rfl (fun ls hl => ?_)
      refine lp_X1_feed g0 bT bO bL bW bB bD bX 0 tp os dn lf mf cI mt v k hk8 (by omega) hx hb hml hown hts hA hK (fun  H locs ls hP hD hS hl => ?_) (k + 1) 0 (by omega) (by omega) _ _ _ (hP.sub [1, 0] rfl) (hD.sub [1, 0] (by decide) rfl) hS (lv_sub hl [1, 2, 3, 0] rfl)
      refine lv_aload_n hx hb dX1_feed_88 rfl (lv_at hl 0 rfl) ?_
      refine lv_dup hx hb dX1_feed_89 rfl ?_
      refine va_get (D := (dC, dI)) (ci := 1) (v := .int (nI tp)) (C := RX1) (T := TX1) (N := 13) hx hb hts hi1 hown hK hP 0 rfl rfl 2 (by decide) (hts (.fieldLink RX1 70 "CellRackModel" "taped" "I") (by decide +kernel)) (fun _ h9 => h9) rfl dX1_feed_90 ?_
      refine lv_iload_n hx hb dX1_feed_93 rfl (lv_at hl 1 rfl) ?_
      refine zr_iadd hx hb dX1_feed_94 ?_
      refine va_put (D := (dC, dI)) (ci := 1) (v := .int (nI (tp + k))) (ty := .int) (C := RX1) (T := TX1) (N := 13) hx hb hts hi1 tyX1 tyX1_ok nmX1 hown hK hP hD hS 0 rfl rfl 2 (by decide) (hts (.fieldLink RX1 70 "CellRackModel" "taped" "I") (by decide +kernel)) (fun _ h9 => h9) rfl (by decide +kernel) (rfl) (rfl) (Nat.le_of_ble_eq_true rfl) dX1_feed_95 (fun H locs hP hD hS => ?_)
      replace hP : va_P (dC, dI) vwCl [(g0, .inr (1, [.int (nI 0), .ref bT, .int (nI (tp + k)), .ref bO, .int (nI os), .ref bL, .ref bW, .ref bB, .ref bD, .long dn, .long lf, .int (bI mf), .ref bX])), (bT, .inl (cI, 64, .inl (fun i9 => nI ((mfF mt tp v k) i9))))] H := hP
      replace hD : va_D A [(g0, .inr (1, [.int (nI 0), .ref bT, .int (nI (tp + k)), .ref bO, .int (nI os), .ref bL, .ref bW, .ref bB, .ref bD, .long dn, .long lf, .int (bI mf), .ref bX])), (bT, .inl (cI, 64, .inl (fun i9 => nI ((mfF mt tp v k) i9))))] := hD
      refine lv_aload_n hx hb dX1_feed_98 rfl (lv_at hl 0 rfl) ?_
      refine va_get (D := (dC, dI)) (ci := 1) (v := .int (nI (tp + k))) (C := RX1) (T := TX1) (N := 13) hx hb hts hi1 hown hK hP 0 rfl rfl 2 (by decide) (hts (.fieldLink RX1 70 "CellRackModel" "taped" "I") (by decide +kernel)) (fun _ h9 => h9) rfl dX1_feed_99 ?_
      have hP9 := hP.sub (ws' := [(g0, .inr (1, [.int (nI 0), .ref bT, .int (nI (tp + k)), .ref bO, .int (nI os), .ref bL, .ref bW, .ref bB, .ref bD, .long dn, .long lf, .int (bI mf), .ref bX])), (bT, .inl (cI, 64, .inl (fun i9 => nI ((mfF mt tp v k) i9))))]) [0, 1] rfl
      have hD9 := hD.sub (ws' := [(g0, .inr (1, [.int (nI 0), .ref bT, .int (nI (tp + k)), .ref bO, .int (nI os), .ref bL, .ref bW, .ref bB, .ref bD, .long dn, .long lf, .int (bI mf), .ref bX])), (bT, .inl (cI, 64, .inl (fun i9 => nI ((mfF mt tp v k) i9))))]) [0, 1] (by decide) rfl
      exact W.iret (v := nI (tp + k)) hx hb hr (fun t ht hW => ⟨⟨nI (tp + k), (mfF mt tp v k, tp + k, 0), rfl, Or.inr (Or.inr ⟨k, hk1, hk8, rfl, by omega, rfl, rfl, rfl, rfl⟩), by rw [ht]; exact hP9, va_K.moved hW.alike hK, hD9⟩, hS.F ht⟩) hS.2.2 dX1_feed_102
    · refine lv_iconst (v := nI 1) hx hb dX1_feed_35 (by decide) ?_
      refine lv_goto (tgt := 40) hx hb dX1_feed_36 (by decide) ?_
      refine zr_topi (bI true) (rfl) ?_
      refine lv_iconst (v := nI 2) hx hb dX1_feed_40 (by decide) ?_
      have hPc := hP.sub (ws' := [(g0, .inr (1, [.int (nI 0), .ref bT, .int (nI tp), .ref bO, .int (nI os), .ref bL, .ref bW, .ref bB, .ref bD, .long dn, .long lf, .int (bI mf), .ref bX]))]) [1] rfl
      have hDc := hD.sub (ws' := [(g0, .inr (1, [.int (nI 0), .ref bT, .int (nI tp), .ref bO, .int (nI os), .ref bL, .ref bW, .ref bB, .ref bD, .long dn, .long lf, .int (bI mf), .ref bX]))]) [1] (by decide) rfl
      have hKc := hK.sub (tys' := []) [] rfl
      have hFc := va_free (wc := [(g0, .inr (1, [.int (nI 0), .ref bT, .int (nI tp), .ref bO, .int (nI os), .ref bL, .ref bW, .ref bB, .ref bD, .long dn, .long lf, .int (bI mf), .ref bX]))]) hD hS hA [1] rfl
      refine va_calli (va_runV (As := [.int (bI true), .int (nI 2)]) (rest := []) ⟨hx, hb, hml, hown, hts⟩ (c_X1_fails l dC dI H.size g0 bT bO bL bW bB bD bX 0 tp os dn lf mf true 2) (cwV 2 hts gX1_feed_X1_fails rfl rfl rfl (by decide +kernel) ⟨Nat.le_of_ble_eq_true rfl, Nat.le_of_ble_eq_true rfl⟩) ⟨fun a U g mk q => by obtain ⟨q0, q1, qP, qK, qD⟩ := q; exact ⟨q0, q1, qP, va_K.moved (u := U) (U := U.calling g mk a) (Vm.Alike.refl U.vm) qK, qD⟩, va_recv hKc hPc (ci := 1) (q0 := 0) rfl rfl, fun U hU hW => ⟨rfl, by rw [hU], by rw [hU]; exact hPc, va_K.moved hW.alike hKc, hDc.weaken (fun _ _ _ _ => trivial)⟩⟩ rfl rfl hl.1 rfl (lv_room (Nat.le_of_ble_eq_true rfl)) dX1_feed_41 ⟨Nat.zero_le _, Nat.zero_le _⟩) hS (fun q _ h => hFc q h) hFc (fun r_4 u t H1 locs ht hvm hw hB hz1 hk1 hS => ?_)
      obtain ⟨hP1, hK1, hD1⟩ := hB
      rw [ht] at hP1
      obtain ⟨hPn, hDn⟩ := va_join (wr := [(bT, .inl (cI, 64, .inl (fun i9 => nI (mt i9))))]) (w1 := [(g0, .inr (1, [.int (nI (cond true 2 0)), .ref bT, .int (nI tp), .ref bO, .int (nI os), .ref bL, .ref bW, .ref bB, .ref bD, .long dn, .long lf, .int (bI mf), .ref bX]))]) hP hD [1] [0] rfl rfl (by decide) (by decide) hk1 hFc hP1 hD1
      clear hP hD hP1 hD1 hK1 hPc hDc hKc hFc hk1 hz1 hvm ht
      generalize H1 = H at hPn hS ⊢
      have hP := hPn
      have hD := hDn
      clear hPn hDn
      replace hP : va_P (dC, dI) vwCl [(bT, .inl (cI, 64, .inl (fun i9 => nI (mt i9)))), (g0, .inr (1, [.int (nI (cond true 2 0)), .ref bT, .int (nI tp), .ref bO, .int (nI os), .ref bL, .ref bW, .ref bB, .ref bD, .long dn, .long lf, .int (bI mf), .ref bX]))] H := hP
      replace hD : va_D A [(bT, .inl (cI, 64, .inl (fun i9 => nI (mt i9)))), (g0, .inr (1, [.int (nI (cond true 2 0)), .ref bT, .int (nI tp), .ref bO, .int (nI os), .ref bL, .ref bW, .ref bB, .ref bD, .long dn, .long lf, .int (bI mf), .ref bX]))] := hD
      refine W.widen (k := 0) (n := 0) (Nat.le_refl _) (Nat.le_refl _) ?_
      obtain rfl := hw
      replace hP : va_P (dC, dI) vwCl [(bT, .inl (cI, 64, .inl (fun i9 => nI (mt i9)))), (g0, .inr (1, [.int (nI 2), .ref bT, .int (nI tp), .ref bO, .int (nI os), .ref bL, .ref bW, .ref bB, .ref bD, .long dn, .long lf, .int (bI mf), .ref bX]))] H := hP
      replace hD : va_D A [(bT, .inl (cI, 64, .inl (fun i9 => nI (mt i9)))), (g0, .inr (1, [.int (nI 2), .ref bT, .int (nI tp), .ref bO, .int (nI os), .ref bL, .ref bW, .ref bB, .ref bD, .long dn, .long lf, .int (bI mf), .ref bX]))] := hD
      refine zr_ifb_eq (tgt := 49) hx hb dX1_feed_44 (by decide) (fun c44 => absurd c44 (by decide)) (fun c44 => ?_)
      refine lv_iconst (v := nI 0) hx hb dX1_feed_47 (by decide) ?_
      have hP9 := hP.sub (ws' := [(g0, .inr (1, [.int (nI 2), .ref bT, .int (nI tp), .ref bO, .int (nI os), .ref bL, .ref bW, .ref bB, .ref bD, .long dn, .long lf, .int (bI mf), .ref bX])), (bT, .inl (cI, 64, .inl (fun i9 => nI (mt i9))))]) [1, 0] rfl
      have hD9 := hD.sub (ws' := [(g0, .inr (1, [.int (nI 2), .ref bT, .int (nI tp), .ref bO, .int (nI os), .ref bL, .ref bW, .ref bB, .ref bD, .long dn, .long lf, .int (bI mf), .ref bX])), (bT, .inl (cI, 64, .inl (fun i9 => nI (mt i9))))]) [1, 0] (by decide) rfl
      exact W.iret (v := nI 0) hx hb hr (fun t ht hW => ⟨⟨nI 0, (mt, tp, 2), rfl, Or.inr (Or.inl ⟨k, hk1, hk8, rfl, by omega, rfl, rfl, rfl, rfl⟩), by rw [ht]; exact hP9, va_K.moved hW.alike hK, hD9⟩, hS.F ht⟩) hS.2.2 dX1_feed_48
  · refine lv_iconst (v := nI 1) hx hb dX1_feed_11 (by decide) ?_
    refine lv_goto (tgt := 16) hx hb dX1_feed_12 (by decide) ?_
    refine zr_topi (bI true) (rfl) ?_
    refine lv_iconst (v := nI 1) hx hb dX1_feed_16 (by decide) ?_
    have hPc := hP.sub (ws' := [(g0, .inr (1, [.int (nI th), .ref bT, .int (nI tp), .ref bO, .int (nI os), .ref bL, .ref bW, .ref bB, .ref bD, .long dn, .long lf, .int (bI mf), .ref bX]))]) [0] rfl
    have hDc := hD.sub (ws' := [(g0, .inr (1, [.int (nI th), .ref bT, .int (nI tp), .ref bO, .int (nI os), .ref bL, .ref bW, .ref bB, .ref bD, .long dn, .long lf, .int (bI mf), .ref bX]))]) [0] (by decide) rfl
    have hKc := hK.sub (tys' := []) [] rfl
    have hFc := va_free (wc := [(g0, .inr (1, [.int (nI th), .ref bT, .int (nI tp), .ref bO, .int (nI os), .ref bL, .ref bW, .ref bB, .ref bD, .long dn, .long lf, .int (bI mf), .ref bX]))]) hD hS hA [0] rfl
    refine va_calli (va_runV (As := [.int (bI true), .int (nI 1)]) (rest := []) ⟨hx, hb, hml, hown, hts⟩ (c_X1_fails l dC dI H.size g0 bT bO bL bW bB bD bX th tp os dn lf mf true 1) (cwV 2 hts gX1_feed_X1_fails rfl rfl rfl (by decide +kernel) ⟨Nat.le_of_ble_eq_true rfl, Nat.le_of_ble_eq_true rfl⟩) ⟨fun a U g mk q => by obtain ⟨q0, q1, qP, qK, qD⟩ := q; exact ⟨q0, q1, qP, va_K.moved (u := U) (U := U.calling g mk a) (Vm.Alike.refl U.vm) qK, qD⟩, va_recv hKc hPc (ci := 1) (q0 := 0) rfl rfl, fun U hU hW => ⟨rfl, by rw [hU], by rw [hU]; exact hPc, va_K.moved hW.alike hKc, hDc.weaken (fun _ _ _ _ => trivial)⟩⟩ rfl rfl hl.1 rfl (lv_room (Nat.le_of_ble_eq_true rfl)) dX1_feed_17 ⟨Nat.zero_le _, Nat.zero_le _⟩) hS (fun q _ h => hFc q h) hFc (fun r_5 u t H1 locs ht hvm hw hB hz1 hk1 hS => ?_)
    obtain ⟨hP1, hK1, hD1⟩ := hB
    rw [ht] at hP1
    obtain ⟨hPn, hDn⟩ := va_join (wr := [(bT, .inl (cI, 64, .inl (fun i9 => nI (mt i9))))]) (w1 := [(g0, .inr (1, [.int (nI (cond true 1 0)), .ref bT, .int (nI tp), .ref bO, .int (nI os), .ref bL, .ref bW, .ref bB, .ref bD, .long dn, .long lf, .int (bI mf), .ref bX]))]) hP hD [0] [1] rfl rfl (by decide) (by decide) hk1 hFc hP1 hD1
    clear hP hD hP1 hD1 hK1 hPc hDc hKc hFc hk1 hz1 hvm ht
    generalize H1 = H at hPn hS ⊢
    have hP := hPn
    have hD := hDn
    clear hPn hDn
    replace hP : va_P (dC, dI) vwCl [(bT, .inl (cI, 64, .inl (fun i9 => nI (mt i9)))), (g0, .inr (1, [.int (nI (cond true 1 0)), .ref bT, .int (nI tp), .ref bO, .int (nI os), .ref bL, .ref bW, .ref bB, .ref bD, .long dn, .long lf, .int (bI mf), .ref bX]))] H := hP
    replace hD : va_D A [(bT, .inl (cI, 64, .inl (fun i9 => nI (mt i9)))), (g0, .inr (1, [.int (nI (cond true 1 0)), .ref bT, .int (nI tp), .ref bO, .int (nI os), .ref bL, .ref bW, .ref bB, .ref bD, .long dn, .long lf, .int (bI mf), .ref bX]))] := hD
    refine W.widen (k := 0) (n := 0) (Nat.le_refl _) (Nat.le_refl _) ?_
    obtain rfl := hw
    replace hP : va_P (dC, dI) vwCl [(bT, .inl (cI, 64, .inl (fun i9 => nI (mt i9)))), (g0, .inr (1, [.int (nI 1), .ref bT, .int (nI tp), .ref bO, .int (nI os), .ref bL, .ref bW, .ref bB, .ref bD, .long dn, .long lf, .int (bI mf), .ref bX]))] H := hP
    replace hD : va_D A [(bT, .inl (cI, 64, .inl (fun i9 => nI (mt i9)))), (g0, .inr (1, [.int (nI 1), .ref bT, .int (nI tp), .ref bO, .int (nI os), .ref bL, .ref bW, .ref bB, .ref bD, .long dn, .long lf, .int (bI mf), .ref bX]))] := hD
    refine zr_ifb_ne (tgt := 47) hx hb dX1_feed_20 (by decide) (fun c20 => ?_) (fun c20 => absurd c20 (by decide))
    refine lv_iconst (v := nI 0) hx hb dX1_feed_47 (by decide) ?_
    have hP9 := hP.sub (ws' := [(g0, .inr (1, [.int (nI 1), .ref bT, .int (nI tp), .ref bO, .int (nI os), .ref bL, .ref bW, .ref bB, .ref bD, .long dn, .long lf, .int (bI mf), .ref bX])), (bT, .inl (cI, 64, .inl (fun i9 => nI (mt i9))))]) [1, 0] rfl
    have hD9 := hD.sub (ws' := [(g0, .inr (1, [.int (nI 1), .ref bT, .int (nI tp), .ref bO, .int (nI os), .ref bL, .ref bW, .ref bB, .ref bD, .long dn, .long lf, .int (bI mf), .ref bX])), (bT, .inl (cI, 64, .inl (fun i9 => nI (mt i9))))]) [1, 0] (by decide) rfl
    exact W.iret (v := nI 0) hx hb hr (fun t ht hW => ⟨⟨nI 0, (mt, tp, 1), rfl, Or.inl ⟨c8, rfl, rfl, rfl, rfl⟩, by rw [ht]; exact hP9, va_K.moved hW.alike hK, hD9⟩, hS.F ht⟩) hS.2.2 dX1_feed_48
