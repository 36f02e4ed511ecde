theorem dpO_t {off : Bool} {wl : Int32} (h : dpO off wl = true) : off = true ∨ wl = 0 := by
  unfold dpO at h
  cases off
  · right; simpa using h
  · left; rfl
theorem dpO_f {off : Bool} {wl : Int32} (h : dpO off wl = false) : off = false ∧ ¬ wl = 0 := by
  unfold dpO at h
  cases off
  · exact ⟨rfl, by simpa using h⟩
  · simp at h
theorem dpW_l {off : Bool} {wl : Int32} (h : dpO off wl = false) (hwl : wl = -1 ∨ 0 ≤ wl.toInt) {l2 : Int64} (hl : (wl.toInt64 ≤ 0 ∧ l2 = wl.toInt64 - 0) ∨ (¬ wl.toInt64 ≤ 0 ∧ l2 = wl.toInt64 - 1)) : l2 = (dpW off wl).toInt64 ∧ (dpW off wl = -1 ∨ 0 ≤ (dpW off wl).toInt) := by
  obtain ⟨h1, h2⟩ := dpO_f h
  have hz : ∀ x : Int64, x - 0 = x := fun x => Int64.sub_zero x
  rcases hwl with rfl | hw
  · rw [dpW_2 h rfl]
    rcases hl with ⟨-, rfl⟩ | ⟨q, -⟩
    · exact ⟨by rw [hz], Or.inl rfl⟩
    · exact absurd (by decide) q
  · have h3 : 1 ≤ wl.toInt := by
      have : wl.toInt ≠ 0 := fun q => h2 (Int32.toInt_inj.mp q)
      omega
    have h4 : nI 1 ≤ wl := by
      apply Int32.le_iff_toInt_le.mpr
      rw [nI_toInt (by decide)]
      exact h3
    have h5 : ¬ wl = -1 := by
      intro q
      rw [q] at h3
      exact absurd h3 (by decide)
    obtain ⟨a1, a2, -⟩ := lose_eq h4
    rw [dpW_3 h h5]
    rcases hl with ⟨q, -⟩ | ⟨-, rfl⟩
    · have h6 := Int64.le_iff_toInt_le.mp q
      rw [Int32.toInt_toInt64, show (0 : Int64).toInt = 0 from rfl] at h6
      omega
    · exact ⟨a1.symm, Or.inr (by omega)⟩
theorem wd_dg (dm : Nat → BitVec 8) (sp : Nat) : dgR (wdF dm sp 70) sp 70 = false := by
  rw [dgR_f]
  intro k hk
  rw [wdF_at, if_pos (by omega)]

theorem rel_write {now latest : Nat → Int64} {kd cn : Nat → Nat} {ld : Nat} {tape : Nat → Int64} {tb : Nat} {outw : Nat → Int64} {ob : Nat} {off : Bool} {wl : Int32} {wd : Int64} {ov : Nat → Int64} {mt mo : Nat → Nat} {lv wr bt : Nat → Bool} {bs dm : Nat → BitVec 8} {th tp os : Nat} {dn lf : Int64} {mf : Bool} {n2 l2 : Nat → Int64} {k2 c2 : Nat → Nat} {d2 : Nat} {t2 : Nat → Int64} {b2 : Nat} {w2 : Nat → Int64} {e2 : Nat} {f2 : Bool} {g2 : Int32} {z2 : Int64} {y2 : Nat → Int64} {x y z : Int32} {r : Int32} {rm : Int32} {Mh2 : Nat} {Mp2 : Nat} {Mf2 : Bool} {Ml2 : Int64} {Md2 : Int64} {Mw2 : (Nat → Bool)} {Mb2 : (Nat → BitVec 8)} {Mm2 : (Nat → BitVec 8)} {Mt2 : (Nat → Bool)} (hR : Rel now latest kd cn ld tape tb outw ob off wl wd mt mo lv wr bs dm tp os dn lf mf) (hC : (r = nI 0 ∧ ∃ di ce tg : Nat, di < 16 ∧ ce < 66 ∧ tg < 65536 ∧ x = nI di ∧ y = nI ce ∧ z = nI tg ∧ ¬ kd (di * 66) = 0 ∧ dpO off wl = true ∧ (n2, l2, k2, c2, d2, t2, b2, w2, e2, f2, g2, z2) = (now, latest, kd, cn, ld, flF tape 0 8, 0, outw, ob, dpO off wl, dpW off wl, wd) ∧ y2 = va_up ov 0 0) ∨ (r = nI 0 ∧ ∃ di ce tg : Nat, di < 16 ∧ ce < 66 ∧ tg < 65536 ∧ x = nI di ∧ y = nI ce ∧ z = nI tg ∧ ¬ kd (di * 66) = 0 ∧ dpO off wl = false ∧ (n2, l2, k2, c2, d2, t2, b2, w2, e2, f2, g2, z2) = (ptN tape now (di * 66 + ce) tg, ptL tape now latest (di * 66 + ce) tg, va_up kd (di * 66 + ce) 2, skC cn kd (di * 66 + ce) 2, ld, flF tape 0 8, 0, outw, ob, dpO off wl, dpW off wl, wd + 1) ∧ y2 = va_up ov 0 1) ∨ (r = nI 1 ∧ ((okI x 16 && okI y 66) = false ∨ okI z 65536 = false) ∧ (n2, l2, k2, c2, d2, t2, b2, w2, e2, f2, g2, z2) = (now, latest, kd, cn, ld, tape, tb, outw, ob, off, wl, wd) ∧ y2 = ov) ∨ (r = nI 2 ∧ (∃ di ce tg : Nat, di < 16 ∧ ce < 66 ∧ tg < 65536 ∧ x = nI di ∧ y = nI ce ∧ z = nI tg ∧ kd (di * 66) = 0) ∧ (n2, l2, k2, c2, d2, t2, b2, w2, e2, f2, g2, z2) = (now, latest, kd, cn, ld, tape, tb, outw, ob, off, wl, wd) ∧ y2 = ov)) (hM : (((okI x 16 && okI y 66) = false ∨ okI z 65536 = false) ∧ rm = bI false ∧ Mh2 = 1 ∧ Mp2 = tp ∧ Mf2 = mf ∧ Ml2 = lf ∧ Md2 = dn ∧ Mw2 = wr ∧ Mb2 = bs ∧ Mm2 = dm) ∨ (∃ di ce tg : Nat, di < 16 ∧ ce < 66 ∧ tg < 65536 ∧ x = nI di ∧ y = nI ce ∧ z = nI tg ∧ ((lv di = false ∧ rm = bI false ∧ Mh2 = 2 ∧ Mp2 = tp ∧ Mf2 = mf ∧ Ml2 = lf ∧ Md2 = dn ∧ Mw2 = wr ∧ Mb2 = bs ∧ Mm2 = dm) ∨ (lv di = true ∧ (mf = true ∨ lf = 0) ∧ rm = bI false ∧ Mh2 = 0 ∧ Mp2 = 0 ∧ Mf2 = true ∧ Ml2 = lf ∧ Md2 = dn ∧ Mw2 = wr ∧ Mb2 = bs ∧ Mm2 = dm) ∨ (lv di = true ∧ mf = false ∧ ¬ lf = 0 ∧ rm = bI true ∧ Mh2 = 0 ∧ Mp2 = 0 ∧ Mf2 = false ∧ ((lf ≤ 0 ∧ Ml2 = lf - 0) ∨ (¬ lf ≤ 0 ∧ Ml2 = lf - 1)) ∧ Md2 = dn + 1 ∧ Mw2 = va_up wr (66 * di + ce) true ∧ Mb2 = chF (wbF bs mt (66 * di + ce) tp tg 70) (70 * (66 * di + ce)) (ckT bt (wbF bs mt (66 * di + ce) tp tg 70) (70 * (66 * di + ce))) 4 ∧ Mm2 = wdF dm (66 * di + ce) 70)))) : nI Mh2 = r ∧ (r = 0 → y2 0 = if rm = 0 then 0 else 1) ∧ Rel n2 l2 k2 c2 d2 t2 b2 w2 e2 f2 g2 z2 mt mo lv Mw2 Mb2 Mm2 Mp2 os Md2 Ml2 Mf2 := by
  obtain ⟨hk, hc, ⟨htb, rfl⟩, ⟨hob, rfl⟩, ⟨rfl, rfl, rfl⟩, ⟨hof, hwl⟩, hld, hst, hmt, htape, hmo, hout, hcel⟩ := hR
  rcases hC with ⟨rfl, di, ce, tg, hdi, hce, htg, rfl, rfl, rfl, hkd, hdp, hU, rfl⟩ | ⟨rfl, di, ce, tg, hdi, hce, htg, rfl, rfl, rfl, hkd, hdp, hU, rfl⟩ | ⟨rfl, hq, hU, rfl⟩ | ⟨rfl, ⟨di, ce, tg, hdi, hce, htg, rfl, rfl, rfl, hkd⟩, hU, rfl⟩
  · simp only [Prod.mk.injEq] at hU
    obtain ⟨rfl, rfl, rfl, rfl, rfl, rfl, rfl, rfl, rfl, rfl, rfl, rfl⟩ := hU
    have hlv := stN_lv (show ¬ stN _ _ _ di 0 = 0 by rw [← hst di 0 hdi (by decide)]; exact hkd)
    rcases hM with ⟨hq, -⟩ | ⟨dj, cj, tj, hdj, hcj, htj, he1, he2, he3, hw⟩
    · rw [okI_nI hdi (by decide), okI_nI hce (by decide), okI_nI htg (by decide)] at hq
      rcases hq with hq | hq <;> exact absurd hq (by decide)
    · obtain rfl := nI_inj (by omega) (by omega) he1
      obtain rfl := nI_inj (by omega) (by omega) he2
      obtain rfl := nI_inj (by omega) (by omega) he3
      rcases hw with ⟨q, -⟩ | ⟨-, -, rfl, rfl, rfl, rfl, rfl, rfl, rfl, rfl, rfl⟩ | ⟨-, q1, q2, -⟩
      · rw [hlv] at q; exact absurd q (by decide)
      · refine ⟨rfl, fun _ => by rw [va_up_self, if_pos (by decide)], hk, hc, ⟨by decide, rfl⟩, ⟨hob, rfl⟩, ⟨hdp.symm, by rw [dpW_1 hdp], rfl⟩, ⟨fun _ => ?_, by rw [dpW_1 hdp]; exact hwl⟩, hld, hst, hmt, fun x hx => ?_, hmo, hout, hcel⟩
        · rw [dpW_1 hdp]
          rcases dpO_t hdp with q | q
          · exact hof q
          · exact q
        · rw [cb_0 _ hx, decide_eq_false (by omega)]; rfl
      · rcases dpO_t hdp with q | q
        · rw [q] at q1; exact absurd q1 (by decide)
        · rw [q] at q2; exact absurd rfl q2
  · simp only [Prod.mk.injEq] at hU
    obtain ⟨rfl, rfl, rfl, rfl, rfl, rfl, rfl, rfl, rfl, rfl, rfl, rfl⟩ := hU
    have hlv := stN_lv (show ¬ stN _ _ _ di 0 = 0 by rw [← hst di 0 hdi (by decide)]; exact hkd)
    obtain ⟨ho1, ho2⟩ := dpO_f hdp
    rcases hM with ⟨hq, -⟩ | ⟨dj, cj, tj, hdj, hcj, htj, he1, he2, he3, hw⟩
    · rw [okI_nI hdi (by decide), okI_nI hce (by decide), okI_nI htg (by decide)] at hq
      rcases hq with hq | hq <;> exact absurd hq (by decide)
    · obtain rfl := nI_inj (by omega) (by omega) he1
      obtain rfl := nI_inj (by omega) (by omega) he2
      obtain rfl := nI_inj (by omega) (by omega) he3
      rcases hw with ⟨q, -⟩ | ⟨-, q, -⟩ | ⟨-, q1, q2, rfl, rfl, rfl, rfl, hl2, rfl, rfl, rfl, rfl⟩
      · rw [hlv] at q; exact absurd q (by decide)
      · rcases q with q | q
        · rw [ho1] at q; exact absurd q (by decide)
        · exfalso
          refine ho2 (Int32.toInt_inj.mp ?_)
          have h9 := congrArg Int64.toInt q
          rw [Int32.toInt_toInt64] at h9
          exact h9
      · obtain ⟨hl3, hl4⟩ := dpW_l hdp hwl hl2
        have hsp : di * 66 + ce < 1056 := by omega
        have hspe : 66 * di + ce = di * 66 + ce := by omega
        rw [hspe]
        refine ⟨rfl, fun _ => by rw [va_up_self, if_neg (by decide)], kdOK_up hk (by decide), cnOK_up hc hsp (hk _) (by decide), ⟨by decide, rfl⟩, ⟨hob, rfl⟩, ⟨hdp.symm, hl3, rfl⟩, ⟨fun q => ?_, hl4⟩, hld, ?_, hmt, fun x hx => ?_, hmo, hout, ?_⟩
        · rw [hdp] at q; exact absurd q (by decide)
        · intro d c0 hd hc0
          by_cases e : d * 66 + c0 = di * 66 + ce
          · have e1 : d = di := by omega
            have e2 : c0 = ce := by omega
            subst e1; subst e2
            rw [va_up_self]
            unfold stN
            rw [hlv, hspe, va_up_self, wd_dg]; rfl
          · rw [va_up_ne _ _ e, hst d c0 hd hc0]
            unfold stN
            rw [va_up_ne _ _ (show 66 * d + c0 ≠ di * 66 + ce by omega), dgR_congr (dm := dm) (dm' := wdF dm (di * 66 + ce) 70) 70 (fun k hk => by rw [wdF_at, if_neg (by omega)])]
        · rw [cb_0 _ hx, decide_eq_false (by omega)]; rfl
        · intro sp hs hw
          by_cases e : sp = di * 66 + ce
          · subst e
            exact wr_cel htape hmt htb htg
          · rw [va_up_ne _ _ e] at hw
            refine CelR_congr (fun w h9 => ?_) (fun w h9 => ?_) (fun k h9 => ?_) (fun k h9 => ?_) (hcel sp hs hw)
            · unfold ptN ptA va_cpy
              rw [va_up_ne _ _ (by omega), va_up_ne _ _ (by omega), if_neg (by omega)]
            · unfold ptL va_cpy
              rw [if_neg (by omega)]
            · rw [chF_at, if_neg (by omega), wbF_at, if_neg (by omega)]
            · rw [wdF_at, if_neg (by omega)]
  · simp only [Prod.mk.injEq] at hU
    obtain ⟨rfl, rfl, rfl, rfl, rfl, rfl, rfl, rfl, rfl, rfl, rfl, rfl⟩ := hU
    rcases hM with ⟨-, rfl, rfl, rfl, rfl, rfl, rfl, rfl, rfl, rfl⟩ | ⟨dj, cj, tj, hdj, hcj, htj, rfl, rfl, rfl, -⟩
    · exact ⟨rfl, (fun h => absurd h (by decide)), ⟨hk, hc, ⟨htb, rfl⟩, ⟨hob, rfl⟩, ⟨rfl, rfl, rfl⟩, ⟨hof, hwl⟩, hld, hst, hmt, htape, hmo, hout, hcel⟩⟩
    · rw [okI_nI hdj (by decide), okI_nI hcj (by decide), okI_nI htj (by decide)] at hq
      rcases hq with hq | hq <;> exact absurd hq (by decide)
  · simp only [Prod.mk.injEq] at hU
    obtain ⟨rfl, rfl, rfl, rfl, rfl, rfl, rfl, rfl, rfl, rfl, rfl, rfl⟩ := hU
    have hlv := stN_0 (show stN _ _ _ di 0 = 0 by rw [← hst di 0 hdi (by decide)]; exact hkd)
    rcases hM with ⟨hq, -⟩ | ⟨dj, cj, tj, hdj, hcj, htj, he1, he2, he3, hw⟩
    · rw [okI_nI hdi (by decide), okI_nI hce (by decide), okI_nI htg (by decide)] at hq
      rcases hq with hq | hq <;> exact absurd hq (by decide)
    · obtain rfl := nI_inj (by omega) (by omega) he1
      rcases hw with ⟨-, rfl, rfl, rfl, rfl, rfl, rfl, rfl, rfl, rfl⟩ | ⟨q, -⟩ | ⟨q, -⟩
      · exact ⟨rfl, (fun h => absurd h (by decide)), ⟨hk, hc, ⟨htb, rfl⟩, ⟨hob, rfl⟩, ⟨rfl, rfl, rfl⟩, ⟨hof, hwl⟩, hld, hst, hmt, htape, hmo, hout, hcel⟩⟩
      · rw [hlv] at q; exact absurd q (by decide)
      · rw [hlv] at q; exact absurd q (by decide)

theorem rel_corrupt {now latest : Nat → Int64} {kd cn : Nat → Nat} {ld : Nat} {tape : Nat → Int64} {tb : Nat} {outw : Nat → Int64} {ob : Nat} {off : Bool} {wl : Int32} {wd : Int64} {ov : Nat → Int64} {mt mo : Nat → Nat} {lv wr bt : Nat → Bool} {bs dm : Nat → BitVec 8} {th tp os : Nat} {dn lf : Int64} {mf : Bool} {n2 l2 : Nat → Int64} {k2 c2 : Nat → Nat} {d2 : Nat} {t2 : Nat → Int64} {b2 : Nat} {w2 : Nat → Int64} {e2 : Nat} {f2 : Bool} {g2 : Int32} {z2 : Int64} {y2 : Nat → Int64} {x y z : Int32} {mk : Int64} {v : Int32} {r : Int32} {rm : Int32} {Mh2 : Nat} {Mm2 : (Nat → BitVec 8)} {Mt2 : (Nat → Bool)} (hR : Rel now latest kd cn ld tape tb outw ob off wl wd mt mo lv wr bs dm tp os dn lf mf) (hC : (r = nI 0 ∧ ∃ di ce pl k : Nat, di < 16 ∧ ce < 66 ∧ 1 ≤ k ∧ k ≤ 8 ∧ pl + k ≤ 70 ∧ x = nI di ∧ y = nI ce ∧ z = nI pl ∧ v = nI k ∧ (decide (kd (di * 66 + ce) = 2) || decide (kd (di * 66 + ce) = 3)) = false ∧ (n2, l2, k2, c2, d2, t2, b2, w2, e2, f2, g2, z2) = (now, latest, kd, cn, ld, tape, tb, outw, ob, off, wl, wd) ∧ y2 = va_up ov 0 0) ∨ (r = nI 0 ∧ ∃ di ce pl k : Nat, di < 16 ∧ ce < 66 ∧ 1 ≤ k ∧ k ≤ 8 ∧ pl + k ≤ 70 ∧ x = nI di ∧ y = nI ce ∧ z = nI pl ∧ v = nI k ∧ (decide (kd (di * 66 + ce) = 2) || decide (kd (di * 66 + ce) = 3)) = true ∧ swOK (tF now ((di * 66 + ce) * 9) pl mk k) latest ((di * 66 + ce) * 9) = true ∧ (n2, l2, k2, c2, d2, t2, b2, w2, e2, f2, g2, z2) = (tF now ((di * 66 + ce) * 9) pl mk k, latest, va_up kd (di * 66 + ce) 2, skC cn kd (di * 66 + ce) 2, ld, tape, tb, outw, ob, off, wl, wd) ∧ y2 = va_up ov 0 1) ∨ (r = nI 0 ∧ ∃ di ce pl k : Nat, di < 16 ∧ ce < 66 ∧ 1 ≤ k ∧ k ≤ 8 ∧ pl + k ≤ 70 ∧ x = nI di ∧ y = nI ce ∧ z = nI pl ∧ v = nI k ∧ (decide (kd (di * 66 + ce) = 2) || decide (kd (di * 66 + ce) = 3)) = true ∧ swOK (tF now ((di * 66 + ce) * 9) pl mk k) latest ((di * 66 + ce) * 9) = false ∧ icOK (tF now ((di * 66 + ce) * 9) pl mk k) ((di * 66 + ce) * 9) = true ∧ (n2, l2, k2, c2, d2, t2, b2, w2, e2, f2, g2, z2) = (tF (tF now ((di * 66 + ce) * 9) pl mk k) ((di * 66 + ce) * 9) pl mk k, latest, kd, cn, ld, tape, tb, outw, ob, off, wl, wd) ∧ y2 = va_up ov 0 0) ∨ (r = nI 0 ∧ ∃ di ce pl k : Nat, di < 16 ∧ ce < 66 ∧ 1 ≤ k ∧ k ≤ 8 ∧ pl + k ≤ 70 ∧ x = nI di ∧ y = nI ce ∧ z = nI pl ∧ v = nI k ∧ (decide (kd (di * 66 + ce) = 2) || decide (kd (di * 66 + ce) = 3)) = true ∧ swOK (tF now ((di * 66 + ce) * 9) pl mk k) latest ((di * 66 + ce) * 9) = false ∧ icOK (tF now ((di * 66 + ce) * 9) pl mk k) ((di * 66 + ce) * 9) = false ∧ (n2, l2, k2, c2, d2, t2, b2, w2, e2, f2, g2, z2) = (tF now ((di * 66 + ce) * 9) pl mk k, latest, va_up kd (di * 66 + ce) 3, skC cn kd (di * 66 + ce) 3, ld, tape, tb, outw, ob, off, wl, wd) ∧ y2 = va_up ov 0 1) ∨ (r = nI 1 ∧ ((okI x 16 && okI y 66) = false ∨ okC v = false ∨ ∃ k : Nat, 1 ≤ k ∧ k ≤ 8 ∧ v = nI k ∧ okI z (71 - k) = false) ∧ (n2, l2, k2, c2, d2, t2, b2, w2, e2, f2, g2, z2) = (now, latest, kd, cn, ld, tape, tb, outw, ob, off, wl, wd) ∧ y2 = ov)) (hM : (((okI x 16 && okI y 66) = false ∨ okC v = false ∨ ∃ k : Nat, 1 ≤ k ∧ k ≤ 8 ∧ v = nI k ∧ okI z (70 - k + 1) = false) ∧ rm = bI false ∧ Mh2 = 1 ∧ Mm2 = dm) ∨ (∃ di ce pl k : Nat, di < 16 ∧ ce < 66 ∧ 1 ≤ k ∧ k ≤ 8 ∧ pl + k ≤ 70 ∧ x = nI di ∧ y = nI ce ∧ z = nI pl ∧ v = nI k ∧ Mh2 = 0 ∧ ((stN lv wr dm di ce < 2 ∧ rm = bI false ∧ Mm2 = dm) ∨ (2 ≤ stN lv wr dm di ce ∧ (dgR (sF dm (66 * di + ce) pl mk k) (66 * di + ce) 70 = false ∨ unR (dv (spF bt (sF dm (66 * di + ce) pl mk k) (70 * (66 * di + ce)) (8 * 70)) 528) 32 = false) ∧ rm = bI true ∧ Mm2 = sF dm (66 * di + ce) pl mk k) ∨ (2 ≤ stN lv wr dm di ce ∧ dgR (sF dm (66 * di + ce) pl mk k) (66 * di + ce) 70 = true ∧ unR (dv (spF bt (sF dm (66 * di + ce) pl mk k) (70 * (66 * di + ce)) (8 * 70)) 528) 32 = true ∧ rm = bI false ∧ Mm2 = sF (sF dm (66 * di + ce) pl mk k) (66 * di + ce) pl mk k)))) : nI Mh2 = r ∧ (r = 0 → y2 0 = if rm = 0 then 0 else 1) ∧ Rel n2 l2 k2 c2 d2 t2 b2 w2 e2 f2 g2 z2 mt mo lv wr bs Mm2 tp os dn lf mf := by
  obtain ⟨hk, hc, ⟨htb, rfl⟩, ⟨hob, rfl⟩, ⟨rfl, rfl, rfl⟩, ⟨hof, hwl⟩, hld, hst, hmt, htape, hmo, hout, hcel⟩ := hR
  rcases hC with ⟨rfl, di, ce, pl, k, hdi, hce, hk1, hk8, hpk, rfl, rfl, rfl, rfl, hb9, hU, rfl⟩ | ⟨rfl, di, ce, pl, k, hdi, hce, hk1, hk8, hpk, rfl, rfl, rfl, rfl, hb9, hsw, hU, rfl⟩ | ⟨rfl, di, ce, pl, k, hdi, hce, hk1, hk8, hpk, rfl, rfl, rfl, rfl, hb9, hsw, hic, hU, rfl⟩ | ⟨rfl, di, ce, pl, k, hdi, hce, hk1, hk8, hpk, rfl, rfl, rfl, rfl, hb9, hsw, hic, hU, rfl⟩ | ⟨rfl, hq, hU, rfl⟩
  · simp only [Prod.mk.injEq] at hU
    obtain ⟨rfl, rfl, rfl, rfl, rfl, rfl, rfl, rfl, rfl, rfl, rfl, rfl⟩ := hU
    have hb2 : stN lv wr dm di ce < 2 := by
      rw [hst _ _ hdi hce] at hb9
      have h4 := stN_lt lv wr dm di ce
      obtain ⟨q1, q2⟩ := Bool.or_eq_false_iff.mp hb9
      have q3 := of_decide_eq_false q1
      have q4 := of_decide_eq_false q2
      omega
    rcases hM with ⟨hq, -⟩ | ⟨dj, cj, pj, kj, hdj, hcj, hj1, hj8, hpj, he1, he2, he3, he4, rfl, hw⟩
    · rw [okI_nI hdi (by decide), okI_nI hce (by decide)] at hq
      rcases hq with hq | hq | ⟨j, hj1, hj8, hj, hq⟩
      · exact absurd hq (by decide)
      · rw [okC_nI hk1 hk8] at hq; exact absurd hq (by decide)
      · obtain rfl := nI_inj (by omega) (by omega) hj
        rw [okI_nI (show pl < 70 - k + 1 by omega) (by omega)] at hq; exact absurd hq (by decide)
    · obtain rfl := nI_inj (by omega) (by omega) he1
      obtain rfl := nI_inj (by omega) (by omega) he2
      obtain rfl := nI_inj (by omega) (by omega) he3
      obtain rfl := nI_inj (by omega) (by omega) he4
      rcases hw with ⟨-, rfl, rfl⟩ | ⟨q, -⟩ | ⟨q, -⟩
      · exact ⟨rfl, fun _ => by rw [va_up_self, if_pos (by decide)], ⟨hk, hc, ⟨htb, rfl⟩, ⟨hob, rfl⟩, ⟨rfl, rfl, rfl⟩, ⟨hof, hwl⟩, hld, hst, hmt, htape, hmo, hout, hcel⟩⟩
      · omega
      · omega
  · simp only [Prod.mk.injEq] at hU
    obtain ⟨rfl, rfl, rfl, rfl, rfl, rfl, rfl, rfl, rfl, rfl, rfl, rfl⟩ := hU
    have hb2 : 2 ≤ stN lv wr dm di ce := by
      rw [hst _ _ hdi hce] at hb9
      rcases Bool.or_eq_true_iff.mp hb9 with q | q
      · rw [of_decide_eq_true q]; exact Nat.le_refl 2
      · rw [of_decide_eq_true q]; decide
    have hspe : di * 66 + ce = 66 * di + ce := by omega
    have hsp : 66 * di + ce < 1056 := by omega
    have hcl := co_cel mk hk8 hpk (hcel _ hsp (stN_wr hb2).2)
    have hlvw := stN_wr hb2
    rw [hspe] at hsw ⊢
    rcases hM with ⟨hq, -⟩ | ⟨dj, cj, pj, kj, hdj, hcj, hj1, hj8, hpj, he1, he2, he3, he4, rfl, hw⟩
    · rw [okI_nI hdi (by decide), okI_nI hce (by decide)] at hq
      rcases hq with hq | hq | ⟨j, hj1, hj8, hj, hq⟩
      · exact absurd hq (by decide)
      · rw [okC_nI hk1 hk8] at hq; exact absurd hq (by decide)
      · obtain rfl := nI_inj (by omega) (by omega) hj
        rw [okI_nI (show pl < 70 - k + 1 by omega) (by omega)] at hq; exact absurd hq (by decide)
    · obtain rfl := nI_inj (by omega) (by omega) he1
      obtain rfl := nI_inj (by omega) (by omega) he2
      obtain rfl := nI_inj (by omega) (by omega) he3
      obtain rfl := nI_inj (by omega) (by omega) he4
      have hdg := (co_sw hcl).mp hsw
      rcases hw with ⟨q, -⟩ | ⟨-, -, rfl, rfl⟩ | ⟨-, q, -⟩
      · omega
      · skip
        refine ⟨rfl, fun _ => by rw [va_up_self, if_neg (by decide)], kdOK_up hk (by decide), cnOK_up hc hsp (hk _) (by decide), ⟨htb, rfl⟩, ⟨hob, rfl⟩, ⟨rfl, rfl, rfl⟩, ⟨hof, hwl⟩, hld, ?_, hmt, htape, hmo, hout, ?_⟩
        · intro d c0 hd hc0
          by_cases e : 66 * d + c0 = 66 * di + ce
          · have e1 : d = di := by omega
            have e2 : c0 = ce := by omega
            subst e1; subst e2
            rw [show d * 66 + c0 = 66 * d + c0 by omega, va_up_self]
            unfold stN
            rw [hlvw.1, hlvw.2, hdg]; rfl
          · rw [va_up_ne _ _ (show d * 66 + c0 ≠ 66 * di + ce by omega), hst d c0 hd hc0]
            unfold stN
            rw [dgR_congr (dm := dm) (dm' := sF dm (66 * di + ce) pl mk k) 70 (fun k9 h9 => by rw [sF_at, if_neg (by omega)])]
        · intro sp hs hw
          by_cases e : sp = 66 * di + ce
          · subst e; exact hcl
          · refine CelR_congr (fun w h9 => ?_) (fun w h9 => rfl) (fun k h9 => rfl) (fun k h9 => ?_) (hcel sp hs hw)
            · exact tF_out _ _ _ _ _ (fun i hi => by omega)
            · rw [sF_at, if_neg (by omega)]
      · rw [hdg] at q; exact absurd q (by decide)
  · simp only [Prod.mk.injEq] at hU
    obtain ⟨rfl, rfl, rfl, rfl, rfl, rfl, rfl, rfl, rfl, rfl, rfl, rfl⟩ := hU
    have hb2 : 2 ≤ stN lv wr dm di ce := by
      rw [hst _ _ hdi hce] at hb9
      rcases Bool.or_eq_true_iff.mp hb9 with q | q
      · rw [of_decide_eq_true q]; exact Nat.le_refl 2
      · rw [of_decide_eq_true q]; decide
    have hspe : di * 66 + ce = 66 * di + ce := by omega
    have hsp : 66 * di + ce < 1056 := by omega
    have hcl := co_cel mk hk8 hpk (hcel _ hsp (stN_wr hb2).2)
    have hlvw := stN_wr hb2
    rw [hspe] at hsw hic ⊢
    rcases hM with ⟨hq, -⟩ | ⟨dj, cj, pj, kj, hdj, hcj, hj1, hj8, hpj, he1, he2, he3, he4, rfl, hw⟩
    · rw [okI_nI hdi (by decide), okI_nI hce (by decide)] at hq
      rcases hq with hq | hq | ⟨j, hj1, hj8, hj, hq⟩
      · exact absurd hq (by decide)
      · rw [okC_nI hk1 hk8] at hq; exact absurd hq (by decide)
      · obtain rfl := nI_inj (by omega) (by omega) hj
        rw [okI_nI (show pl < 70 - k + 1 by omega) (by omega)] at hq; exact absurd hq (by decide)
    · obtain rfl := nI_inj (by omega) (by omega) he1
      obtain rfl := nI_inj (by omega) (by omega) he2
      obtain rfl := nI_inj (by omega) (by omega) he3
      obtain rfl := nI_inj (by omega) (by omega) he4
      have hdg : dgR (sF dm (66 * di + ce) pl mk k) (66 * di + ce) 70 = true := Bool.of_not_eq_false (fun q => by rw [(co_sw hcl).mpr q] at hsw; exact absurd hsw (by decide))
      have hun := (co_ic bt hcl).mp hic
      rcases hw with ⟨q, -⟩ | ⟨-, q, -⟩ | ⟨-, -, -, rfl, rfl⟩
      · omega
      · rcases q with q | q
        · rw [hdg] at q; exact absurd q (by decide)
        · rw [hun] at q; exact absurd q (by decide)
      · have hcl2 := co_cel mk hk8 hpk hcl
        rw [sF_sF _ _ _ _ hk8] at hcl2 ⊢
        refine ⟨rfl, fun _ => by rw [va_up_self, if_pos (by decide)], hk, hc, ⟨htb, rfl⟩, ⟨hob, rfl⟩, ⟨rfl, rfl, rfl⟩, ⟨hof, hwl⟩, hld, hst, hmt, htape, hmo, hout, ?_⟩
        intro sp hs hw
        by_cases e : sp = 66 * di + ce
        · subst e; exact hcl2
        · refine CelR_congr (fun w h9 => ?_) (fun w h9 => rfl) (fun k h9 => rfl) (fun k h9 => rfl) (hcel sp hs hw)
          rw [tF_out _ _ _ _ _ (fun i hi => by omega)]
          exact tF_out _ _ _ _ _ (fun i hi => by omega)
  · simp only [Prod.mk.injEq] at hU
    obtain ⟨rfl, rfl, rfl, rfl, rfl, rfl, rfl, rfl, rfl, rfl, rfl, rfl⟩ := hU
    have hb2 : 2 ≤ stN lv wr dm di ce := by
      rw [hst _ _ hdi hce] at hb9
      rcases Bool.or_eq_true_iff.mp hb9 with q | q
      · rw [of_decide_eq_true q]; exact Nat.le_refl 2
      · rw [of_decide_eq_true q]; decide
    have hspe : di * 66 + ce = 66 * di + ce := by omega
    have hsp : 66 * di + ce < 1056 := by omega
    have hcl := co_cel mk hk8 hpk (hcel _ hsp (stN_wr hb2).2)
    have hlvw := stN_wr hb2
    rw [hspe] at hsw hic ⊢
    rcases hM with ⟨hq, -⟩ | ⟨dj, cj, pj, kj, hdj, hcj, hj1, hj8, hpj, he1, he2, he3, he4, rfl, hw⟩
    · rw [okI_nI hdi (by decide), okI_nI hce (by decide)] at hq
      rcases hq with hq | hq | ⟨j, hj1, hj8, hj, hq⟩
      · exact absurd hq (by decide)
      · rw [okC_nI hk1 hk8] at hq; exact absurd hq (by decide)
      · obtain rfl := nI_inj (by omega) (by omega) hj
        rw [okI_nI (show pl < 70 - k + 1 by omega) (by omega)] at hq; exact absurd hq (by decide)
    · obtain rfl := nI_inj (by omega) (by omega) he1
      obtain rfl := nI_inj (by omega) (by omega) he2
      obtain rfl := nI_inj (by omega) (by omega) he3
      obtain rfl := nI_inj (by omega) (by omega) he4
      have hdg : dgR (sF dm (66 * di + ce) pl mk k) (66 * di + ce) 70 = true := Bool.of_not_eq_false (fun q => by rw [(co_sw hcl).mpr q] at hsw; exact absurd hsw (by decide))
      rcases hw with ⟨q, -⟩ | ⟨-, -, rfl, rfl⟩ | ⟨-, -, q, -⟩
      · omega
      · skip
        refine ⟨rfl, fun _ => by rw [va_up_self, if_neg (by decide)], kdOK_up hk (by decide), cnOK_up hc hsp (hk _) (by decide), ⟨htb, rfl⟩, ⟨hob, rfl⟩, ⟨rfl, rfl, rfl⟩, ⟨hof, hwl⟩, hld, ?_, hmt, htape, hmo, hout, ?_⟩
        · intro d c0 hd hc0
          by_cases e : 66 * d + c0 = 66 * di + ce
          · have e1 : d = di := by omega
            have e2 : c0 = ce := by omega
            subst e1; subst e2
            rw [show d * 66 + c0 = 66 * d + c0 by omega, va_up_self]
            unfold stN
            rw [hlvw.1, hlvw.2, hdg]; rfl
          · rw [va_up_ne _ _ (show d * 66 + c0 ≠ 66 * di + ce by omega), hst d c0 hd hc0]
            unfold stN
            rw [dgR_congr (dm := dm) (dm' := sF dm (66 * di + ce) pl mk k) 70 (fun k9 h9 => by rw [sF_at, if_neg (by omega)])]
        · intro sp hs hw
          by_cases e : sp = 66 * di + ce
          · subst e; exact hcl
          · refine CelR_congr (fun w h9 => ?_) (fun w h9 => rfl) (fun k h9 => rfl) (fun k h9 => ?_) (hcel sp hs hw)
            · exact tF_out _ _ _ _ _ (fun i hi => by omega)
            · rw [sF_at, if_neg (by omega)]
      · rw [(co_ic bt hcl).mpr q] at hic; exact absurd hic (by decide)
  · simp only [Prod.mk.injEq] at hU
    obtain ⟨rfl, rfl, rfl, rfl, rfl, rfl, rfl, rfl, rfl, rfl, rfl, rfl⟩ := hU
    rcases hM with ⟨-, rfl, rfl, rfl⟩ | ⟨dj, cj, pj, kj, hdj, hcj, hj1, hj8, hpj, rfl, rfl, rfl, rfl, -⟩
    · exact ⟨rfl, (fun h => absurd h (by decide)), ⟨hk, hc, ⟨htb, rfl⟩, ⟨hob, rfl⟩, ⟨rfl, rfl, rfl⟩, ⟨hof, hwl⟩, hld, hst, hmt, htape, hmo, hout, hcel⟩⟩
    · rw [okI_nI hdj (by decide), okI_nI hcj (by decide)] at hq
      rcases hq with hq | hq | ⟨j, h1, h8, hj, hq⟩
      · exact absurd hq (by decide)
      · rw [okC_nI hj1 hj8] at hq; exact absurd hq (by decide)
      · obtain rfl := nI_inj (by omega) (by omega) hj
        rw [okI_nI (show pj < 71 - kj by omega) (by omega)] at hq; exact absurd hq (by decide)

theorem rel_power {now latest : Nat → Int64} {kd cn : Nat → Nat} {ld : Nat} {tape : Nat → Int64} {tb : Nat} {outw : Nat → Int64} {ob : Nat} {off : Bool} {wl : Int32} {wd : Int64} {ov : Nat → Int64} {mt mo : Nat → Nat} {lv wr bt : Nat → Bool} {bs dm : Nat → BitVec 8} {th tp os : Nat} {dn lf : Int64} {mf : Bool} {n2 l2 : Nat → Int64} {k2 c2 : Nat → Nat} {d2 : Nat} {t2 : Nat → Int64} {b2 : Nat} {w2 : Nat → Int64} {e2 : Nat} {f2 : Bool} {g2 : Int32} {z2 : Int64} {y2 : Nat → Int64} (hR : Rel now latest kd cn ld tape tb outw ob off wl wd mt mo lv wr bs dm tp os dn lf mf) : Rel now latest kd cn ld tape tb outw ob false (-1) wd mt mo lv wr bs dm tp os dn (-1) false ∧ mf = off := by
  obtain ⟨hk, hc, ⟨htb, rfl⟩, ⟨hob, rfl⟩, ⟨rfl, rfl, rfl⟩, ⟨hof, hwl⟩, hld, hst, hmt, htape, hmo, hout, hcel⟩ := hR
  exact ⟨⟨hk, hc, ⟨htb, rfl⟩, ⟨hob, rfl⟩, ⟨rfl, rfl, rfl⟩, ⟨fun h => absurd h (by decide), Or.inl rfl⟩, hld, hst, hmt, htape, hmo, hout, hcel⟩, rfl⟩

theorem ctK_1 (v : Nat) : ∀ n, n ≤ 1056 → ctK (flF zN 1 1056) v n = if v = 1 then n else 0 := by
  intro n
  induction n with
  | zero => intro _; show 0 = _; split <;> rfl
  | succ n ih =>
    intro h
    show ctK (flF zN 1 1056) v n + (if flF zN 1 1056 n = v then 1 else 0) = _
    have e0 : flF zN 1 1056 n = 1 := by rw [flF_at, if_pos (by omega)]
    rw [ih (by omega), e0]
    by_cases e : v = 1
    · rw [if_pos e, if_pos e, if_pos e.symm]
    · rw [if_neg e, if_neg e, if_neg (fun q => e q.symm)]
theorem rel_init : Rel zL zL (flF zN 1 1056) (va_up zN 1 1056) 16 zL 0 zL 0 false (-1) 0 zN zN (flF zZ true 16) zZ zX zX 0 0 0 (-1) false := by
  refine ⟨fun j => ?_, fun v hv => ?_, ⟨by decide, rfl⟩, ⟨by decide, rfl⟩, ⟨rfl, rfl, rfl⟩, ⟨fun h => absurd h (by decide), Or.inl rfl⟩, by decide, fun di ce hd hc => ?_, fun j => (show (0 : Nat) < 256 by decide), fun x hx => ?_, fun j => (show (0 : Nat) < 256 by decide), fun x hx => absurd hx (by omega), fun sp hs hw => absurd (show false = true from hw) (by decide)⟩
  · rw [flF_at]
    split
    · decide
    · exact (show (0 : Nat) < 4 by decide)
  · rw [ctK_1 v 1056 (Nat.le_refl _)]
    by_cases e : v = 1
    · rw [if_pos e, e, va_up_self]
    · rw [if_neg e, va_up_ne _ _ e]; rfl
  · rw [flF_at, if_pos (by omega)]
    unfold stN
    rw [flF_at, if_pos hd]; rfl
  · rw [decide_eq_false (by omega)]
    show lb (zL _) _ = _
    exact lb_0 _

