theorem rel_feed {now latest : Nat → Int64} {kd cn : Nat → Nat} {ld : Nat} {tape : Nat → Int64} {tb : Nat} {outw : Nat → Int64} {ob : Nat} {off : Bool} {wl : Int32} {wd : Int64} {ov : Nat → Int64} {mt mo : Nat → Nat} {lv wr bt : Nat → Bool} {bs dm : Nat → BitVec 8} {th tp os : Nat} {dn lf : Int64} {mf : Bool} {n2 l2 : Nat → Int64} {k2 c2 : Nat → Nat} {d2 : Nat} {t2 : Nat → Int64} {b2 : Nat} {w2 : Nat → Int64} {e2 : Nat} {f2 : Bool} {g2 : Int32} {z2 : Int64} {y2 : Nat → Int64} {x : Int32} {v : Int64} {r : Int32} {rm : Int32} {Mt2 : (Nat → Nat)} {Mp2 : Nat} {Mh2 : Nat} (hR : Rel now latest kd cn ld tape tb outw ob off wl wd mt mo lv wr bs dm tp os dn lf mf) (hC : (r = nI 0 ∧ ∃ k : Nat, 1 ≤ k ∧ k ≤ 8 ∧ x = nI k ∧ tb + k ≤ 64 ∧ (n2, l2, k2, c2, d2, t2, b2, w2, e2, f2, g2, z2) = (now, latest, kd, cn, ld, tF tape 0 tb v k, tb + k, outw, ob, off, wl, wd) ∧ y2 = va_up ov 0 (nI (tb + k)).toInt64) ∨ (r = nI 1 ∧ okC x = false ∧ (n2, l2, k2, c2, d2, t2, b2, w2, e2, f2, g2, z2) = (now, latest, kd, cn, ld, tape, tb, outw, ob, off, wl, wd) ∧ y2 = ov) ∨ (r = nI 2 ∧ (∃ k : Nat, 1 ≤ k ∧ k ≤ 8 ∧ x = nI k ∧ 64 < tb + k) ∧ (n2, l2, k2, c2, d2, t2, b2, w2, e2, f2, g2, z2) = (now, latest, kd, cn, ld, tape, tb, outw, ob, off, wl, wd) ∧ y2 = ov)) (hM : (okC x = false ∧ rm = nI 0 ∧ Mt2 = mt ∧ Mp2 = tp ∧ Mh2 = 1) ∨ (∃ k : Nat, 1 ≤ k ∧ k ≤ 8 ∧ x = nI k ∧ 64 < tp + k ∧ rm = nI 0 ∧ Mt2 = mt ∧ Mp2 = tp ∧ Mh2 = 2) ∨ (∃ k : Nat, 1 ≤ k ∧ k ≤ 8 ∧ x = nI k ∧ tp + k ≤ 64 ∧ rm = nI (tp + k) ∧ Mt2 = mfF mt tp v k ∧ Mp2 = tp + k ∧ Mh2 = 0)) : nI Mh2 = r ∧ (r = 0 → y2 0 = rm.toInt64) ∧ Rel n2 l2 k2 c2 d2 t2 b2 w2 e2 f2 g2 z2 Mt2 mo lv wr bs dm Mp2 os dn lf mf := by
  obtain ⟨hk, hc, ⟨htb, rfl⟩, ⟨hob, rfl⟩, ⟨rfl, rfl, rfl⟩, ⟨hof, hwl⟩, hld, hst, hmt, htape, hmo, hout, hcel⟩ := hR
  rcases hC with ⟨rfl, k, hk1, hk8, rfl, htk, hU, rfl⟩ | ⟨rfl, hq, hU, rfl⟩ | ⟨rfl, ⟨k, hk1, hk8, rfl, htk⟩, hU, rfl⟩
  · simp only [Prod.mk.injEq] at hU
    obtain ⟨rfl, rfl, rfl, rfl, rfl, rfl, rfl, rfl, rfl, rfl, rfl, rfl⟩ := hU
    rcases hM with ⟨hq, -⟩ | ⟨j, hj1, hj8, hj, hjk, -⟩ | ⟨j, hj1, hj8, hj, hjk, rfl, rfl, rfl, rfl⟩
    · rw [okC_nI hk1 hk8] at hq; exact absurd hq (by decide)
    · have := nI_inj (by omega) (by omega) hj; omega
    · obtain rfl := nI_inj (by omega) (by omega) hj
      refine ⟨rfl, fun _ => va_up_self _ _ _, hk, hc, ⟨htk, rfl⟩, ⟨hob, rfl⟩, ⟨rfl, rfl, rfl⟩, ⟨hof, hwl⟩, hld, hst, ?_, ?_, hmo, hout, hcel⟩
      · intro q; rw [mfF_at]; split
        · exact vb_lt _ _
        · exact hmt q
      · intro q hq
        rw [tF_bit _ _ _ _ _ hk8, htape q hq, mfF_at]
        exact feed_bits _ _ _ _ _
  · simp only [Prod.mk.injEq] at hU
    obtain ⟨rfl, rfl, rfl, rfl, rfl, rfl, rfl, rfl, rfl, rfl, rfl, rfl⟩ := hU
    rcases hM with ⟨-, rfl, rfl, rfl, rfl⟩ | ⟨j, hj1, hj8, rfl, hjk, -⟩ | ⟨j, hj1, hj8, rfl, hjk, -⟩
    · exact ⟨rfl, (fun h => absurd h (by decide)), ⟨hk, hc, ⟨htb, rfl⟩, ⟨hob, rfl⟩, ⟨rfl, rfl, rfl⟩, ⟨hof, hwl⟩, hld, hst, hmt, htape, hmo, hout, hcel⟩⟩
    · rw [okC_nI hj1 hj8] at hq; exact absurd hq (by decide)
    · rw [okC_nI hj1 hj8] at hq; exact absurd hq (by decide)
  · simp only [Prod.mk.injEq] at hU
    obtain ⟨rfl, rfl, rfl, rfl, rfl, rfl, rfl, rfl, rfl, rfl, rfl, rfl⟩ := hU
    rcases hM with ⟨hq, -⟩ | ⟨j, hj1, hj8, hj, hjk, rfl, rfl, rfl, rfl⟩ | ⟨j, hj1, hj8, hj, hjk, -⟩
    · rw [okC_nI hk1 hk8] at hq; exact absurd hq (by decide)
    · exact ⟨rfl, (fun h => absurd h (by decide)), ⟨hk, hc, ⟨htb, rfl⟩, ⟨hob, rfl⟩, ⟨rfl, rfl, rfl⟩, ⟨hof, hwl⟩, hld, hst, hmt, htape, hmo, hout, hcel⟩⟩
    · have := nI_inj (by omega) (by omega) hj; omega

theorem rel_outs {now latest : Nat → Int64} {kd cn : Nat → Nat} {ld : Nat} {tape : Nat → Int64} {tb : Nat} {outw : Nat → Int64} {ob : Nat} {off : Bool} {wl : Int32} {wd : Int64} {ov : Nat → Int64} {mt mo : Nat → Nat} {lv wr bt : Nat → Bool} {bs dm : Nat → BitVec 8} {th tp os : Nat} {dn lf : Int64} {mf : Bool} {n2 l2 : Nat → Int64} {k2 c2 : Nat → Nat} {d2 : Nat} {t2 : Nat → Int64} {b2 : Nat} {w2 : Nat → Int64} {e2 : Nat} {f2 : Bool} {g2 : Int32} {z2 : Int64} {y2 : Nat → Int64} {x : Int32} {r : Int32} {rm : Int64} {Mh2 : Nat} (hR : Rel now latest kd cn ld tape tb outw ob off wl wd mt mo lv wr bs dm tp os dn lf mf) (hC : (r = nI 0 ∧ ∃ k : Nat, k < ob ∧ x = nI k ∧ (n2, l2, k2, c2, d2, t2, b2, w2, e2, f2, g2, z2) = (now, latest, kd, cn, ld, tape, tb, outw, ob, off, wl, wd) ∧ y2 = va_up ov 0 (oV outw (min (k + 8) ob) (min (k + 8) ob - k))) ∨ (r = nI 1 ∧ okI x ob = false ∧ (n2, l2, k2, c2, d2, t2, b2, w2, e2, f2, g2, z2) = (now, latest, kd, cn, ld, tape, tb, outw, ob, off, wl, wd) ∧ y2 = ov)) (hM : (okI x os = false ∧ Mh2 = 1) ∨ (∃ k : Nat, k < os ∧ x = nI k ∧ Mh2 = 0 ∧ rm = oM mo k (min 8 (os - k)))) : nI Mh2 = r ∧ (r = 0 → y2 0 = rm) ∧ Rel n2 l2 k2 c2 d2 t2 b2 w2 e2 f2 g2 z2 mt mo lv wr bs dm tp os dn lf mf := by
  obtain ⟨hk, hc, ⟨htb, rfl⟩, ⟨hob, rfl⟩, ⟨rfl, rfl, rfl⟩, ⟨hof, hwl⟩, hld, hst, hmt, htape, hmo, hout, hcel⟩ := hR
  rcases hC with ⟨rfl, k, hkob, rfl, hU, rfl⟩ | ⟨rfl, hq, hU, rfl⟩
  · simp only [Prod.mk.injEq] at hU
    obtain ⟨rfl, rfl, rfl, rfl, rfl, rfl, rfl, rfl, rfl, rfl, rfl, rfl⟩ := hU
    rcases hM with ⟨hq, -⟩ | ⟨j, hj, he, rfl, rfl⟩
    · rw [okI_nI hkob (by omega)] at hq; exact absurd hq (by decide)
    · obtain rfl := nI_inj (by omega) (by omega) he
      refine ⟨rfl, fun _ => ?_, ⟨hk, hc, ⟨htb, rfl⟩, ⟨hob, rfl⟩, ⟨rfl, rfl, rfl⟩, ⟨hof, hwl⟩, hld, hst, hmt, htape, hmo, hout, hcel⟩⟩
      rw [va_up_self]
      exact outs_eq hkob hob hmo hout
  · simp only [Prod.mk.injEq] at hU
    obtain ⟨rfl, rfl, rfl, rfl, rfl, rfl, rfl, rfl, rfl, rfl, rfl, rfl⟩ := hU
    rcases hM with ⟨-, rfl⟩ | ⟨j, hj, rfl, rfl, rfl⟩
    · exact ⟨rfl, (fun h => absurd h (by decide)), ⟨hk, hc, ⟨htb, rfl⟩, ⟨hob, rfl⟩, ⟨rfl, rfl, rfl⟩, ⟨hof, hwl⟩, hld, hst, hmt, htape, hmo, hout, hcel⟩⟩
    · rw [okI_nI hj (by omega)] at hq; exact absurd hq (by decide)

theorem rel_cell {now latest : Nat → Int64} {kd cn : Nat → Nat} {ld : Nat} {tape : Nat → Int64} {tb : Nat} {outw : Nat → Int64} {ob : Nat} {off : Bool} {wl : Int32} {wd : Int64} {ov : Nat → Int64} {mt mo : Nat → Nat} {lv wr bt : Nat → Bool} {bs dm : Nat → BitVec 8} {th tp os : Nat} {dn lf : Int64} {mf : Bool} {n2 l2 : Nat → Int64} {k2 c2 : Nat → Nat} {d2 : Nat} {t2 : Nat → Int64} {b2 : Nat} {w2 : Nat → Int64} {e2 : Nat} {f2 : Bool} {g2 : Int32} {z2 : Int64} {y2 : Nat → Int64} {x y : Int32} {r : Int32} {rm : Int32} {Mh2 : Nat} (hR : Rel now latest kd cn ld tape tb outw ob off wl wd mt mo lv wr bs dm tp os dn lf mf) (hC : (r = nI 0 ∧ ∃ di ce : Nat, di < 16 ∧ ce < 66 ∧ x = nI di ∧ y = nI ce ∧ (n2, l2, k2, c2, d2, t2, b2, w2, e2, f2, g2, z2) = (now, latest, kd, cn, ld, tape, tb, outw, ob, off, wl, wd) ∧ y2 = va_up ov 0 (nI (kd (di * 66 + ce))).toInt64) ∨ (r = nI 1 ∧ (okI x 16 && okI y 66) = false ∧ (n2, l2, k2, c2, d2, t2, b2, w2, e2, f2, g2, z2) = (now, latest, kd, cn, ld, tape, tb, outw, ob, off, wl, wd) ∧ y2 = ov)) (hM : ((okI x 16 && okI y 66) = false ∧ Mh2 = 1) ∨ (∃ di ce : Nat, di < 16 ∧ ce < 66 ∧ x = nI di ∧ y = nI ce ∧ Mh2 = 0 ∧ rm = nI (stN lv wr dm di ce))) : nI Mh2 = r ∧ (r = 0 → y2 0 = rm.toInt64) ∧ Rel n2 l2 k2 c2 d2 t2 b2 w2 e2 f2 g2 z2 mt mo lv wr bs dm tp os dn lf mf := by
  obtain ⟨hk, hc, ⟨htb, rfl⟩, ⟨hob, rfl⟩, ⟨rfl, rfl, rfl⟩, ⟨hof, hwl⟩, hld, hst, hmt, htape, hmo, hout, hcel⟩ := hR
  rcases hC with ⟨rfl, di, ce, hdi, hce, rfl, rfl, hU, rfl⟩ | ⟨rfl, hq, hU, rfl⟩
  · simp only [Prod.mk.injEq] at hU
    obtain ⟨rfl, rfl, rfl, rfl, rfl, rfl, rfl, rfl, rfl, rfl, rfl, rfl⟩ := hU
    rcases hM with ⟨hq, -⟩ | ⟨dj, cj, hdj, hcj, he1, he2, rfl, rfl⟩
    · rw [okI_nI hdi (by decide), okI_nI hce (by decide)] at hq; exact absurd hq (by decide)
    · obtain rfl := nI_inj (by omega) (by omega) he1
      obtain rfl := nI_inj (by omega) (by omega) he2
      refine ⟨rfl, fun _ => ?_, ⟨hk, hc, ⟨htb, rfl⟩, ⟨hob, rfl⟩, ⟨rfl, rfl, rfl⟩, ⟨hof, hwl⟩, hld, hst, hmt, htape, hmo, hout, hcel⟩⟩
      rw [va_up_self, hst _ _ hdi hce]
  · simp only [Prod.mk.injEq] at hU
    obtain ⟨rfl, rfl, rfl, rfl, rfl, rfl, rfl, rfl, rfl, rfl, rfl, rfl⟩ := hU
    rcases hM with ⟨-, rfl⟩ | ⟨dj, cj, hdj, hcj, rfl, rfl, -⟩
    · exact ⟨rfl, (fun h => absurd h (by decide)), ⟨hk, hc, ⟨htb, rfl⟩, ⟨hob, rfl⟩, ⟨rfl, rfl, rfl⟩, ⟨hof, hwl⟩, hld, hst, hmt, htape, hmo, hout, hcel⟩⟩
    · rw [okI_nI hdj (by decide), okI_nI hcj (by decide)] at hq; exact absurd hq (by decide)

theorem rel_tagv {now latest : Nat → Int64} {bs dm : Nat → BitVec 8} {sp : Nat} (h : CelR now latest bs dm sp) : (now (sp * 9 + 8) &&& 65535).toInt32 = nI (bA bs dm sp 64 + 256 * bA bs dm sp 65) := by
  apply Int32.toBitVec_inj.mp
  apply BitVec.eq_of_getLsbD_eq
  intro i hi
  have ha := bA_lt bs dm sp 64
  have hb := bA_lt bs dm sp 65
  rw [l2i_bit _ hi, nI_bit (by omega), lb_and, lb_65535, Nat.add_comm (bA bs dm sp 64), show (256 : Nat) = 2 ^ 8 from rfl, Nat.testBit_two_pow_mul_add _ (show bA bs dm sp 64 < 2 ^ 8 by omega)]
  have e : ∀ i, i < 64 → lb (now (sp * 9 + 8)) i = cb now (sp * 9) (512 + i) := fun i hi => by
    unfold cb
    rw [show (512 + i) / 64 = 8 by omega, show (512 + i) % 64 = i by omega]
  by_cases h8 : i < 8
  · rw [if_pos h8, bA_bit _ _ _ _ h8, e i (by omega), h.2.1 _ (by omega), decide_eq_true (show i < 16 by omega)]; simp
  · rw [if_neg h8]
    by_cases h16 : i < 16
    · rw [bA_bit _ _ _ _ (show i - 8 < 8 by omega), e i (by omega), h.2.1 _ (by omega), decide_eq_true h16, show 8 * 65 + (i - 8) = 512 + i by omega]; simp
    · rw [decide_eq_false h16, Nat.testBit_lt_two_pow (Nat.lt_of_lt_of_le hb (Nat.pow_le_pow_right (n := 2) (by decide) (show 8 ≤ i - 8 by omega)))]; simp

theorem rel_tag {now latest : Nat → Int64} {kd cn : Nat → Nat} {ld : Nat} {tape : Nat → Int64} {tb : Nat} {outw : Nat → Int64} {ob : Nat} {off : Bool} {wl : Int32} {wd : Int64} {ov : Nat → Int64} {mt mo : Nat → Nat} {lv wr bt : Nat → Bool} {bs dm : Nat → BitVec 8} {th tp os : Nat} {dn lf : Int64} {mf : Bool} {n2 l2 : Nat → Int64} {k2 c2 : Nat → Nat} {d2 : Nat} {t2 : Nat → Int64} {b2 : Nat} {w2 : Nat → Int64} {e2 : Nat} {f2 : Bool} {g2 : Int32} {z2 : Int64} {y2 : Nat → Int64} {x y : Int32} {r : Int32} {rm : Int32} {Mh2 : Nat} (hR : Rel now latest kd cn ld tape tb outw ob off wl wd mt mo lv wr bs dm tp os dn lf mf) (hC : (r = nI 0 ∧ ∃ di ce : Nat, di < 16 ∧ ce < 66 ∧ x = nI di ∧ y = nI ce ∧ (n2, l2, k2, c2, d2, t2, b2, w2, e2, f2, g2, z2) = (now, latest, kd, cn, ld, tape, tb, outw, ob, off, wl, wd) ∧ y2 = va_up ov 0 (if kd (di * 66 + ce) = 2 then (now ((di * 66 + ce) * 9 + 8) &&& 65535).toInt32 else -1).toInt64) ∨ (r = nI 1 ∧ (okI x 16 && okI y 66) = false ∧ (n2, l2, k2, c2, d2, t2, b2, w2, e2, f2, g2, z2) = (now, latest, kd, cn, ld, tape, tb, outw, ob, off, wl, wd) ∧ y2 = ov)) (hM : ((okI x 16 && okI y 66) = false ∧ Mh2 = 1) ∨ (∃ di ce : Nat, di < 16 ∧ ce < 66 ∧ x = nI di ∧ y = nI ce ∧ Mh2 = 0 ∧ ((stN lv wr dm di ce = 2 ∧ rm = nI (bA bs dm (66 * di + ce) 64 + 256 * bA bs dm (66 * di + ce) 65)) ∨ (¬ stN lv wr dm di ce = 2 ∧ rm = -1)))) : nI Mh2 = r ∧ (r = 0 → y2 0 = rm.toInt64) ∧ Rel n2 l2 k2 c2 d2 t2 b2 w2 e2 f2 g2 z2 mt mo lv wr bs dm tp os dn lf mf := by
  obtain ⟨hk, hc, ⟨htb, rfl⟩, ⟨hob, rfl⟩, ⟨rfl, rfl, rfl⟩, ⟨hof, hwl⟩, hld, hst, hmt, htape, hmo, hout, hcel⟩ := hR
  rcases hC with ⟨rfl, di, ce, hdi, hce, rfl, rfl, hU, rfl⟩ | ⟨rfl, hq, hU, rfl⟩
  · simp only [Prod.mk.injEq] at hU
    obtain ⟨rfl, rfl, rfl, rfl, rfl, rfl, rfl, rfl, rfl, rfl, rfl, rfl⟩ := hU
    rcases hM with ⟨hq, -⟩ | ⟨dj, cj, hdj, hcj, he1, he2, rfl, hw⟩
    · rw [okI_nI hdi (by decide), okI_nI hce (by decide)] at hq; exact absurd hq (by decide)
    · obtain rfl := nI_inj (by omega) (by omega) he1
      obtain rfl := nI_inj (by omega) (by omega) he2
      refine ⟨rfl, fun _ => ?_, ⟨hk, hc, ⟨htb, rfl⟩, ⟨hob, rfl⟩, ⟨rfl, rfl, rfl⟩, ⟨hof, hwl⟩, hld, hst, hmt, htape, hmo, hout, hcel⟩⟩
      rw [va_up_self, hst _ _ hdi hce]
      rcases hw with ⟨h2, rfl⟩ | ⟨h2, rfl⟩
      · rw [if_pos h2, show di * 66 + ce = 66 * di + ce by omega, rel_tagv (hcel _ (by omega) (stN_wr2 h2).2)]
      · rw [if_neg h2]
  · simp only [Prod.mk.injEq] at hU
    obtain ⟨rfl, rfl, rfl, rfl, rfl, rfl, rfl, rfl, rfl, rfl, rfl, rfl⟩ := hU
    rcases hM with ⟨-, rfl⟩ | ⟨dj, cj, hdj, hcj, rfl, rfl, -⟩
    · exact ⟨rfl, (fun h => absurd h (by decide)), ⟨hk, hc, ⟨htb, rfl⟩, ⟨hob, rfl⟩, ⟨rfl, rfl, rfl⟩, ⟨hof, hwl⟩, hld, hst, hmt, htape, hmo, hout, hcel⟩⟩
    · rw [okI_nI hdj (by decide), okI_nI hcj (by decide)] at hq; exact absurd hq (by decide)

theorem rel_at {now latest : Nat → Int64} {kd cn : Nat → Nat} {ld : Nat} {tape : Nat → Int64} {tb : Nat} {outw : Nat → Int64} {ob : Nat} {off : Bool} {wl : Int32} {wd : Int64} {ov : Nat → Int64} {mt mo : Nat → Nat} {lv wr bt : Nat → Bool} {bs dm : Nat → BitVec 8} {th tp os : Nat} {dn lf : Int64} {mf : Bool} {n2 l2 : Nat → Int64} {k2 c2 : Nat → Nat} {d2 : Nat} {t2 : Nat → Int64} {b2 : Nat} {w2 : Nat → Int64} {e2 : Nat} {f2 : Bool} {g2 : Int32} {z2 : Int64} {y2 : Nat → Int64} {x y z : Int32} {r : Int32} {rm : Int32} {Mh2 : Nat} (hR : Rel now latest kd cn ld tape tb outw ob off wl wd mt mo lv wr bs dm tp os dn lf mf) (hC : (r = nI 0 ∧ ∃ di ce k : Nat, di < 16 ∧ ce < 66 ∧ k < 70 ∧ x = nI di ∧ y = nI ce ∧ z = nI k ∧ (kd (di * 66 + ce) = 2 ∨ kd (di * 66 + ce) = 3) ∧ (n2, l2, k2, c2, d2, t2, b2, w2, e2, f2, g2, z2) = (now, latest, kd, cn, ld, tape, tb, outw, ob, off, wl, wd) ∧ y2 = va_up ov 0 (nI (byF now ((di * 66 + ce) * 9) k)).toInt64) ∨ (r = nI 1 ∧ (okI x 16 && okI y 66) = false ∧ (n2, l2, k2, c2, d2, t2, b2, w2, e2, f2, g2, z2) = (now, latest, kd, cn, ld, tape, tb, outw, ob, off, wl, wd) ∧ y2 = ov) ∨ (r = nI 2 ∧ (∃ di ce : Nat, di < 16 ∧ ce < 66 ∧ x = nI di ∧ y = nI ce ∧ ((decide (kd (di * 66 + ce) = 2) || decide (kd (di * 66 + ce) = 3)) = false ∨ okI z 70 = false)) ∧ (n2, l2, k2, c2, d2, t2, b2, w2, e2, f2, g2, z2) = (now, latest, kd, cn, ld, tape, tb, outw, ob, off, wl, wd) ∧ y2 = ov)) (hM : ((okI x 16 && okI y 66) = false ∧ Mh2 = 1) ∨ (∃ di ce : Nat, di < 16 ∧ ce < 66 ∧ x = nI di ∧ y = nI ce ∧ ((stN lv wr dm di ce < 2 ∨ okI z 70 = false) ∧ Mh2 = 2)) ∨ (∃ di ce k : Nat, di < 16 ∧ ce < 66 ∧ k < 70 ∧ x = nI di ∧ y = nI ce ∧ z = nI k ∧ 2 ≤ stN lv wr dm di ce ∧ Mh2 = 0 ∧ rm = nI (bA bs dm (66 * di + ce) k))) : nI Mh2 = r ∧ (r = 0 → y2 0 = rm.toInt64) ∧ Rel n2 l2 k2 c2 d2 t2 b2 w2 e2 f2 g2 z2 mt mo lv wr bs dm tp os dn lf mf := by
  obtain ⟨hk, hc, ⟨htb, rfl⟩, ⟨hob, rfl⟩, ⟨rfl, rfl, rfl⟩, ⟨hof, hwl⟩, hld, hst, hmt, htape, hmo, hout, hcel⟩ := hR
  rcases hC with ⟨rfl, di, ce, k, hdi, hce, hk7, rfl, rfl, rfl, hkd, hU, rfl⟩ | ⟨rfl, hq, hU, rfl⟩ | ⟨rfl, ⟨di, ce, hdi, hce, rfl, rfl, hq⟩, hU, rfl⟩
  · simp only [Prod.mk.injEq] at hU
    obtain ⟨rfl, rfl, rfl, rfl, rfl, rfl, rfl, rfl, rfl, rfl, rfl, rfl⟩ := hU
    rw [hst _ _ hdi hce] at hkd
    rcases hM with ⟨hq, -⟩ | ⟨dj, cj, hdj, hcj, he1, he2, hq, -⟩ | ⟨dj, cj, j, hdj, hcj, hj7, he1, he2, he3, h2, rfl, rfl⟩
    · rw [okI_nI hdi (by decide), okI_nI hce (by decide)] at hq; exact absurd hq (by decide)
    · obtain rfl := nI_inj (by omega) (by omega) he1
      obtain rfl := nI_inj (by omega) (by omega) he2
      rcases hq with hq | hq
      · omega
      · rw [okI_nI hk7 (by decide)] at hq; exact absurd hq (by decide)
    · obtain rfl := nI_inj (by omega) (by omega) he1
      obtain rfl := nI_inj (by omega) (by omega) he2
      obtain rfl := nI_inj (by omega) (by omega) he3
      refine ⟨rfl, fun _ => ?_, ⟨hk, hc, ⟨htb, rfl⟩, ⟨hob, rfl⟩, ⟨rfl, rfl, rfl⟩, ⟨hof, hwl⟩, hld, hst, hmt, htape, hmo, hout, hcel⟩⟩
      rw [va_up_self, show di * 66 + ce = 66 * di + ce by omega, byF_bA (hcel _ (by omega) (stN_wr h2).2) hk7]
  · simp only [Prod.mk.injEq] at hU
    obtain ⟨rfl, rfl, rfl, rfl, rfl, rfl, rfl, rfl, rfl, rfl, rfl, rfl⟩ := hU
    rcases hM with ⟨-, rfl⟩ | ⟨dj, cj, hdj, hcj, rfl, rfl, -⟩ | ⟨dj, cj, j, hdj, hcj, hj7, rfl, rfl, -⟩
    · exact ⟨rfl, (fun h => absurd h (by decide)), ⟨hk, hc, ⟨htb, rfl⟩, ⟨hob, rfl⟩, ⟨rfl, rfl, rfl⟩, ⟨hof, hwl⟩, hld, hst, hmt, htape, hmo, hout, hcel⟩⟩
    · rw [okI_nI hdj (by decide), okI_nI hcj (by decide)] at hq; exact absurd hq (by decide)
    · rw [okI_nI hdj (by decide), okI_nI hcj (by decide)] at hq; exact absurd hq (by decide)
  · simp only [Prod.mk.injEq] at hU
    obtain ⟨rfl, rfl, rfl, rfl, rfl, rfl, rfl, rfl, rfl, rfl, rfl, rfl⟩ := hU
    rw [hst _ _ hdi hce] at hq
    rcases hM with ⟨hq, -⟩ | ⟨dj, cj, hdj, hcj, he1, he2, -, rfl⟩ | ⟨dj, cj, j, hdj, hcj, hj7, he1, he2, rfl, h2, -⟩
    · rw [okI_nI hdi (by decide), okI_nI hce (by decide)] at hq; exact absurd hq (by decide)
    · exact ⟨rfl, (fun h => absurd h (by decide)), ⟨hk, hc, ⟨htb, rfl⟩, ⟨hob, rfl⟩, ⟨rfl, rfl, rfl⟩, ⟨hof, hwl⟩, hld, hst, hmt, htape, hmo, hout, hcel⟩⟩
    · obtain rfl := nI_inj (by omega) (by omega) he1
      obtain rfl := nI_inj (by omega) (by omega) he2
      rcases hq with hq | hq
      · rcases stN_23 h2 with e | e
        · rw [e] at hq; exact absurd hq (by decide)
        · rw [e] at hq; exact absurd hq (by decide)
      · rw [okI_nI hj7 (by decide)] at hq; exact absurd hq (by decide)

theorem rel_read {now latest : Nat → Int64} {kd cn : Nat → Nat} {ld : Nat} {tape : Nat → Int64} {tb : Nat} {outw : Nat → Int64} {ob : Nat} {off : Bool} {wl : Int32} {wd : Int64} {ov : Nat → Int64} {mt mo : Nat → Nat} {lv wr bt : Nat → Bool} {bs dm : Nat → BitVec 8} {th tp os : Nat} {dn lf : Int64} {mf : Bool} {n2 l2 : Nat → Int64} {k2 c2 : Nat → Nat} {d2 : Nat} {t2 : Nat → Int64} {b2 : Nat} {w2 : Nat → Int64} {e2 : Nat} {f2 : Bool} {g2 : Int32} {z2 : Int64} {y2 : Nat → Int64} {x y : Int32} {r : Int32} {rm : Int32} {Mh2 : Nat} {Ms2 : Nat} {Mo2 : (Nat → Nat)} (hR : Rel now latest kd cn ld tape tb outw ob off wl wd mt mo lv wr bs dm tp os dn lf mf) (hC : (r = nI 0 ∧ ∃ di ce : Nat, di < 16 ∧ ce < 66 ∧ x = nI di ∧ y = nI ce ∧ kd (di * 66 + ce) = 2 ∧ (n2, l2, k2, c2, d2, t2, b2, w2, e2, f2, g2, z2) = (now, latest, kd, cn, ld, tape, tb, va_cpy now outw ((di * 66 + ce) * 9) 0 8, 64, off, wl, wd) ∧ y2 = va_up ov 0 1) ∨ (r = nI 0 ∧ ∃ di ce : Nat, di < 16 ∧ ce < 66 ∧ x = nI di ∧ y = nI ce ∧ ¬ kd (di * 66 + ce) = 2 ∧ (n2, l2, k2, c2, d2, t2, b2, w2, e2, f2, g2, z2) = (now, latest, kd, cn, ld, tape, tb, outw, 0, off, wl, wd) ∧ y2 = va_up ov 0 0) ∨ (r = nI 1 ∧ (okI x 16 && okI y 66) = false ∧ (n2, l2, k2, c2, d2, t2, b2, w2, e2, f2, g2, z2) = (now, latest, kd, cn, ld, tape, tb, outw, ob, off, wl, wd) ∧ y2 = ov)) (hM : ((okI x 16 && okI y 66) = false ∧ rm = bI false ∧ Mh2 = 1 ∧ Mo2 = mo ∧ Ms2 = os) ∨ (∃ di ce : Nat, di < 16 ∧ ce < 66 ∧ x = nI di ∧ y = nI ce ∧ Mh2 = 0 ∧ ((stN lv wr dm di ce = 2 ∧ rm = bI true ∧ Mo2 = rdF mo bs dm (66 * di + ce) 64 ∧ Ms2 = 64) ∨ (¬ stN lv wr dm di ce = 2 ∧ rm = bI false ∧ Mo2 = mo ∧ Ms2 = 0)))) : nI Mh2 = r ∧ (r = 0 → y2 0 = if rm = 0 then 0 else 1) ∧ Rel n2 l2 k2 c2 d2 t2 b2 w2 e2 f2 g2 z2 mt Mo2 lv wr bs dm tp Ms2 dn lf mf := by
  obtain ⟨hk, hc, ⟨htb, rfl⟩, ⟨hob, rfl⟩, ⟨rfl, rfl, rfl⟩, ⟨hof, hwl⟩, hld, hst, hmt, htape, hmo, hout, hcel⟩ := hR
  rcases hC with ⟨rfl, di, ce, hdi, hce, rfl, rfl, hkd, hU, rfl⟩ | ⟨rfl, di, ce, hdi, hce, rfl, rfl, hkd, hU, rfl⟩ | ⟨rfl, hq, hU, rfl⟩
  · simp only [Prod.mk.injEq] at hU
    obtain ⟨rfl, rfl, rfl, rfl, rfl, rfl, rfl, rfl, rfl, rfl, rfl, rfl⟩ := hU
    rw [hst _ _ hdi hce] at hkd
    rcases hM with ⟨hq, -⟩ | ⟨dj, cj, hdj, hcj, he1, he2, rfl, hw⟩
    · rw [okI_nI hdi (by decide), okI_nI hce (by decide)] at hq; exact absurd hq (by decide)
    · obtain rfl := nI_inj (by omega) (by omega) he1
      obtain rfl := nI_inj (by omega) (by omega) he2
      rcases hw with ⟨h2, rfl, rfl, rfl⟩ | ⟨h2, -⟩
      · have hcl := hcel _ (show 66 * di + ce < 1056 by omega) (stN_wr2 h2).2
        refine ⟨rfl, fun _ => ?_, hk, hc, ⟨htb, rfl⟩, ⟨by decide, rfl⟩, ⟨rfl, rfl, rfl⟩, ⟨hof, hwl⟩, hld, hst, hmt, htape, ?_, ?_, hcel⟩
        · rw [va_up_self, if_neg (by decide)]
        · intro j; rw [rdF_at]; split
          · exact bA_lt _ _ _ _
          · exact hmo j
        · intro q hq
          rw [rdF_at, if_pos (by omega), bA_bit _ _ _ _ (Nat.mod_lt _ (by decide)), show 8 * (q / 8) + q % 8 = q by omega, ← hcl.2.1 q (by omega), show di * 66 + ce = 66 * di + ce by omega]
          unfold cb va_cpy
          rw [if_pos (by omega), show (66 * di + ce) * 9 + (0 + q / 64 - 0) = (66 * di + ce) * 9 + q / 64 by omega]
      · exact absurd hkd h2
  · simp only [Prod.mk.injEq] at hU
    obtain ⟨rfl, rfl, rfl, rfl, rfl, rfl, rfl, rfl, rfl, rfl, rfl, rfl⟩ := hU
    rw [hst _ _ hdi hce] at hkd
    rcases hM with ⟨hq, -⟩ | ⟨dj, cj, hdj, hcj, he1, he2, rfl, hw⟩
    · rw [okI_nI hdi (by decide), okI_nI hce (by decide)] at hq; exact absurd hq (by decide)
    · obtain rfl := nI_inj (by omega) (by omega) he1
      obtain rfl := nI_inj (by omega) (by omega) he2
      rcases hw with ⟨h2, -⟩ | ⟨h2, rfl, rfl, rfl⟩
      · exact absurd h2 hkd
      · refine ⟨rfl, fun _ => ?_, hk, hc, ⟨htb, rfl⟩, ⟨by decide, rfl⟩, ⟨rfl, rfl, rfl⟩, ⟨hof, hwl⟩, hld, hst, hmt, htape, hmo, fun q hq => absurd hq (by omega), hcel⟩
        rw [va_up_self, if_pos (by decide)]
  · simp only [Prod.mk.injEq] at hU
    obtain ⟨rfl, rfl, rfl, rfl, rfl, rfl, rfl, rfl, rfl, rfl, rfl, rfl⟩ := hU
    rcases hM with ⟨-, rfl, rfl, rfl, rfl⟩ | ⟨dj, cj, hdj, hcj, rfl, rfl, -⟩
    · exact ⟨rfl, (fun h => absurd h (by decide)), ⟨hk, hc, ⟨htb, rfl⟩, ⟨hob, rfl⟩, ⟨rfl, rfl, rfl⟩, ⟨hof, hwl⟩, hld, hst, hmt, htape, hmo, hout, hcel⟩⟩
    · rw [okI_nI hdj (by decide), okI_nI hcj (by decide)] at hq; exact absurd hq (by decide)

