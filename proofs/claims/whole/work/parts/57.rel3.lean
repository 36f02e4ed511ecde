theorem stN_up_ne {lv wr : Nat → Bool} {dm : Nat → BitVec 8} {di d c0 : Nat} {b : Bool} (h : d ≠ di) : stN (va_up lv di b) wr dm d c0 = stN lv wr dm d c0 := by
  unfold stN
  rw [va_up_ne _ _ h]
theorem lvC_le (lv : Nat → Bool) : ∀ n, lvC lv n ≤ n := by
  intro n
  induction n with
  | zero => exact Nat.le_refl 0
  | succ n ih =>
    show lvC lv n + (if lv n then 1 else 0) ≤ n + 1
    split <;> omega
theorem ctK_congr {kd kd' : Nat → Nat} (v : Nat) : ∀ n, (∀ j, j < n → kd j = kd' j) → ctK kd v n = ctK kd' v n := by
  intro n
  induction n with
  | zero => intro _; rfl
  | succ n ih =>
    intro h
    show ctK kd v n + (if kd n = v then 1 else 0) = ctK kd' v n + (if kd' n = v then 1 else 0)
    rw [ih (fun j hj => h j (by omega)), h n (by omega)]
theorem lose_eq {x : Int32} (h : nI 1 ≤ x) : (x - nI 1).toInt64 = x.toInt64 - 1 ∧ (x - nI 1).toInt = x.toInt - 1 ∧ 1 ≤ x.toInt := by
  have h1 := Int32.le_iff_toInt_le.mp h
  rw [nI_toInt (by decide)] at h1
  have h2 : x.toInt < 2 ^ 31 := Int32.toInt_lt x
  have h3 : (x - nI 1).toInt = x.toInt - 1 := by
    rw [Int32.toInt_sub, nI_toInt (by decide)]
    exact Int.bmod_eq_of_le (by omega) (by omega)
  refine ⟨?_, h3, h1⟩
  apply Int64.toInt_inj.mp
  rw [Int32.toInt_toInt64, h3, Int64.toInt_sub, Int32.toInt_toInt64, show (1 : Int64).toInt = 1 from rfl]
  exact (Int.bmod_eq_of_le (by omega) (by omega)).symm

theorem rel_fail {now latest : Nat → Int64} {kd cn : Nat → Nat} {ld : Nat} {tape : Nat → Int64} {tb : Nat} {outw : Nat → Int64} {ob : Nat} {off : Bool} {wl : Int32} {wd : Int64} {ov : Nat → Int64} {mt mo : Nat → Nat} {lv wr bt : Nat → Bool} {bs dm : Nat → BitVec 8} {th tp os : Nat} {dn lf : Int64} {mf : Bool} {n2 l2 : Nat → Int64} {k2 c2 : Nat → Nat} {d2 : Nat} {t2 : Nat → Int64} {b2 : Nat} {w2 : Nat → Int64} {e2 : Nat} {f2 : Bool} {g2 : Int32} {z2 : Int64} {y2 : Nat → Int64} {x : Int32} {r : Int32} {rm : Int32} {Mh2 : Nat} {Ml2 : (Nat → Bool)} (hR : Rel now latest kd cn ld tape tb outw ob off wl wd mt mo lv wr bs dm tp os dn lf mf) (hC : (r = nI 0 ∧ ∃ di : Nat, di < 16 ∧ x = nI di ∧ ¬ kd (di * 66) = 0 ∧ (n2, l2, k2, c2, d2, t2, b2, w2, e2, f2, g2, z2) = (now, latest, skK kd di 0 66, skN kd cn di 0 66, ld - 1, tape, tb, outw, ob, off, wl, wd) ∧ y2 = va_up ov 0 1) ∨ (r = nI 0 ∧ ∃ di : Nat, di < 16 ∧ x = nI di ∧ kd (di * 66) = 0 ∧ (n2, l2, k2, c2, d2, t2, b2, w2, e2, f2, g2, z2) = (now, latest, kd, cn, ld, tape, tb, outw, ob, off, wl, wd) ∧ y2 = va_up ov 0 0) ∨ (r = nI 1 ∧ okI x 16 = false ∧ (n2, l2, k2, c2, d2, t2, b2, w2, e2, f2, g2, z2) = (now, latest, kd, cn, ld, tape, tb, outw, ob, off, wl, wd) ∧ y2 = ov)) (hM : (okI x 16 = false ∧ rm = bI false ∧ Mh2 = 1 ∧ Ml2 = lv) ∨ (∃ di : Nat, di < 16 ∧ x = nI di ∧ Mh2 = 0 ∧ ((lv di = true ∧ rm = bI true ∧ Ml2 = va_up lv di false) ∨ (lv di = false ∧ rm = bI false ∧ Ml2 = lv)))) : nI Mh2 = r ∧ (r = 0 → y2 0 = if rm = 0 then 0 else 1) ∧ Rel n2 l2 k2 c2 d2 t2 b2 w2 e2 f2 g2 z2 mt mo Ml2 wr bs dm tp os dn lf mf := by
  obtain ⟨hk, hc, ⟨htb, rfl⟩, ⟨hob, rfl⟩, ⟨rfl, rfl, rfl⟩, ⟨hof, hwl⟩, hld, hst, hmt, htape, hmo, hout, hcel⟩ := hR
  rcases hC with ⟨rfl, di, hdi, rfl, hkd, hU, rfl⟩ | ⟨rfl, di, hdi, rfl, hkd, hU, rfl⟩ | ⟨rfl, hq, hU, rfl⟩
  · simp only [Prod.mk.injEq] at hU
    obtain ⟨rfl, rfl, rfl, rfl, rfl, rfl, rfl, rfl, rfl, rfl, rfl, rfl⟩ := hU
    have h0 := hst di 0 hdi (by decide)
    have hkd' := hkd
    rw [show di * 66 = di * 66 + 0 from rfl, h0] at hkd'
    rcases hM with ⟨hq, -⟩ | ⟨dj, hdj, he1, rfl, hw⟩
    · rw [okI_nI hdi (by decide)] at hq; exact absurd hq (by decide)
    · obtain rfl := nI_inj (by omega) (by omega) he1
      rcases hw with ⟨hlv, rfl, rfl⟩ | ⟨hlv, rfl, rfl⟩
      · obtain ⟨k1, k2⟩ := sk_ok hk hc hdi (show 0 < 4 by decide) 66 (Nat.le_refl _)
        refine ⟨rfl, fun _ => by rw [va_up_self, if_neg (by decide)], k1, k2, ⟨htb, rfl⟩, ⟨hob, rfl⟩, ⟨rfl, rfl, rfl⟩, ⟨hof, hwl⟩, ?_, ?_, hmt, htape, hmo, hout, hcel⟩
        · have e := lvC_up lv di false 16 hdi
          rw [hlv] at e
          simp at e
          omega
        · intro d c0 hd hc0
          rw [skK_at]
          by_cases e : d = di
          · subst e
            rw [if_pos (by omega)]
            unfold stN
            rw [va_up_self]
            rfl
          · rw [if_neg (by omega), hst d c0 hd hc0]
            exact (stN_up_ne e).symm
      · exact absurd (by unfold stN; rw [hlv]; rfl) hkd'
  · simp only [Prod.mk.injEq] at hU
    obtain ⟨rfl, rfl, rfl, rfl, rfl, rfl, rfl, rfl, rfl, rfl, rfl, rfl⟩ := hU
    have h0 := hst di 0 hdi (by decide)
    have hkd' := hkd
    rw [show di * 66 = di * 66 + 0 from rfl, h0] at hkd'
    rcases hM with ⟨hq, -⟩ | ⟨dj, hdj, he1, rfl, hw⟩
    · rw [okI_nI hdi (by decide)] at hq; exact absurd hq (by decide)
    · obtain rfl := nI_inj (by omega) (by omega) he1
      rcases hw with ⟨hlv, rfl, rfl⟩ | ⟨hlv, rfl, rfl⟩
      · rw [stN_0 hkd'] at hlv; exact absurd hlv (by decide)
      · exact ⟨rfl, fun _ => by rw [va_up_self, if_pos (by decide)], ⟨hk, hc, ⟨htb, rfl⟩, ⟨hob, rfl⟩, ⟨rfl, rfl, rfl⟩, ⟨hof, hwl⟩, hld, hst, hmt, htape, hmo, hout, hcel⟩⟩
  · simp only [Prod.mk.injEq] at hU
    obtain ⟨rfl, rfl, rfl, rfl, rfl, rfl, rfl, rfl, rfl, rfl, rfl, rfl⟩ := hU
    rcases hM with ⟨-, rfl, rfl, rfl⟩ | ⟨dj, hdj, rfl, -⟩
    · exact ⟨rfl, (fun h => absurd h (by decide)), ⟨hk, hc, ⟨htb, rfl⟩, ⟨hob, rfl⟩, ⟨rfl, rfl, rfl⟩, ⟨hof, hwl⟩, hld, hst, hmt, htape, hmo, hout, hcel⟩⟩
    · rw [okI_nI hdj (by decide)] at hq; exact absurd hq (by decide)

theorem rel_replace {now latest : Nat → Int64} {kd cn : Nat → Nat} {ld : Nat} {tape : Nat → Int64} {tb : Nat} {outw : Nat → Int64} {ob : Nat} {off : Bool} {wl : Int32} {wd : Int64} {ov : Nat → Int64} {mt mo : Nat → Nat} {lv wr bt : Nat → Bool} {bs dm : Nat → BitVec 8} {th tp os : Nat} {dn lf : Int64} {mf : Bool} {n2 l2 : Nat → Int64} {k2 c2 : Nat → Nat} {d2 : Nat} {t2 : Nat → Int64} {b2 : Nat} {w2 : Nat → Int64} {e2 : Nat} {f2 : Bool} {g2 : Int32} {z2 : Int64} {y2 : Nat → Int64} {x : Int32} {r : Int32} {rm : Int32} {Mh2 : Nat} {Ml2 : (Nat → Bool)} {Mw2 : (Nat → Bool)} (hR : Rel now latest kd cn ld tape tb outw ob off wl wd mt mo lv wr bs dm tp os dn lf mf) (hC : (r = nI 0 ∧ ∃ di : Nat, di < 16 ∧ x = nI di ∧ kd (di * 66) = 0 ∧ (n2, l2, k2, c2, d2, t2, b2, w2, e2, f2, g2, z2) = (now, latest, skK kd di 1 66, skN kd cn di 1 66, ld + 1, tape, tb, outw, ob, off, wl, wd) ∧ y2 = va_up ov 0 1) ∨ (r = nI 0 ∧ ∃ di : Nat, di < 16 ∧ x = nI di ∧ ¬ kd (di * 66) = 0 ∧ (n2, l2, k2, c2, d2, t2, b2, w2, e2, f2, g2, z2) = (now, latest, kd, cn, ld, tape, tb, outw, ob, off, wl, wd) ∧ y2 = va_up ov 0 0) ∨ (r = nI 1 ∧ okI x 16 = false ∧ (n2, l2, k2, c2, d2, t2, b2, w2, e2, f2, g2, z2) = (now, latest, kd, cn, ld, tape, tb, outw, ob, off, wl, wd) ∧ y2 = ov)) (hM : (okI x 16 = false ∧ rm = bI false ∧ Mh2 = 1 ∧ Ml2 = lv ∧ Mw2 = wr) ∨ (∃ di : Nat, di < 16 ∧ x = nI di ∧ Mh2 = 0 ∧ ((lv di = false ∧ rm = bI true ∧ Ml2 = va_up lv di true ∧ Mw2 = rpF wr di 66) ∨ (lv di = true ∧ rm = bI false ∧ Ml2 = lv ∧ Mw2 = wr)))) : nI Mh2 = r ∧ (r = 0 → y2 0 = if rm = 0 then 0 else 1) ∧ Rel n2 l2 k2 c2 d2 t2 b2 w2 e2 f2 g2 z2 mt mo Ml2 Mw2 bs dm tp os dn lf mf := by
  obtain ⟨hk, hc, ⟨htb, rfl⟩, ⟨hob, rfl⟩, ⟨rfl, rfl, rfl⟩, ⟨hof, hwl⟩, hld, hst, hmt, htape, hmo, hout, hcel⟩ := hR
  rcases hC with ⟨rfl, di, hdi, rfl, hkd, hU, rfl⟩ | ⟨rfl, di, hdi, rfl, hkd, hU, rfl⟩ | ⟨rfl, hq, hU, rfl⟩
  · simp only [Prod.mk.injEq] at hU
    obtain ⟨rfl, rfl, rfl, rfl, rfl, rfl, rfl, rfl, rfl, rfl, rfl, rfl⟩ := hU
    have h0 := hst di 0 hdi (by decide)
    have hkd' := hkd
    rw [show di * 66 = di * 66 + 0 from rfl, h0] at hkd'
    rcases hM with ⟨hq, -⟩ | ⟨dj, hdj, he1, rfl, hw⟩
    · rw [okI_nI hdi (by decide)] at hq; exact absurd hq (by decide)
    · obtain rfl := nI_inj (by omega) (by omega) he1
      rcases hw with ⟨hlv, rfl, rfl, rfl⟩ | ⟨hlv, rfl, rfl, rfl⟩
      · obtain ⟨k1, k2⟩ := sk_ok hk hc hdi (show 1 < 4 by decide) 66 (Nat.le_refl _)
        refine ⟨rfl, fun _ => by rw [va_up_self, if_neg (by decide)], k1, k2, ⟨htb, rfl⟩, ⟨hob, rfl⟩, ⟨rfl, rfl, rfl⟩, ⟨hof, hwl⟩, ?_, ?_, hmt, htape, hmo, hout, ?_⟩
        · have e := lvC_up lv di true 16 hdi
          rw [hlv] at e
          simp at e
          omega
        · intro d c0 hd hc0
          rw [skK_at]
          by_cases e : d = di
          · subst e
            rw [if_pos (by omega)]
            unfold stN
            rw [va_up_self]
            have e9 : rpF wr d 66 (66 * d + c0) = false := by rw [rpF_at, if_pos (by omega)]
            rw [e9]; rfl
          · rw [if_neg (by omega), hst d c0 hd hc0]
            have e9 : rpF wr di 66 (66 * d + c0) = wr (66 * d + c0) := by rw [rpF_at, if_neg (by omega)]
            unfold stN
            rw [va_up_ne _ _ e, e9]
        · intro sp hs hw
          refine hcel sp hs ?_
          rw [rpF_at] at hw
          split at hw
          · exact absurd hw (by decide)
          · exact hw
      · rw [stN_0 hkd'] at hlv; exact absurd hlv (by decide)
  · simp only [Prod.mk.injEq] at hU
    obtain ⟨rfl, rfl, rfl, rfl, rfl, rfl, rfl, rfl, rfl, rfl, rfl, rfl⟩ := hU
    have h0 := hst di 0 hdi (by decide)
    have hkd' := hkd
    rw [show di * 66 = di * 66 + 0 from rfl, h0] at hkd'
    rcases hM with ⟨hq, -⟩ | ⟨dj, hdj, he1, rfl, hw⟩
    · rw [okI_nI hdi (by decide)] at hq; exact absurd hq (by decide)
    · obtain rfl := nI_inj (by omega) (by omega) he1
      rcases hw with ⟨hlv, rfl, rfl, rfl⟩ | ⟨hlv, rfl, rfl, rfl⟩
      · exact absurd (by unfold stN; rw [hlv]; rfl) hkd'
      · exact ⟨rfl, fun _ => by rw [va_up_self, if_pos (by decide)], ⟨hk, hc, ⟨htb, rfl⟩, ⟨hob, rfl⟩, ⟨rfl, rfl, rfl⟩, ⟨hof, hwl⟩, hld, hst, hmt, htape, hmo, hout, hcel⟩⟩
  · simp only [Prod.mk.injEq] at hU
    obtain ⟨rfl, rfl, rfl, rfl, rfl, rfl, rfl, rfl, rfl, rfl, rfl, rfl⟩ := hU
    rcases hM with ⟨-, rfl, rfl, rfl, rfl⟩ | ⟨dj, hdj, rfl, -⟩
    · exact ⟨rfl, (fun h => absurd h (by decide)), ⟨hk, hc, ⟨htb, rfl⟩, ⟨hob, rfl⟩, ⟨rfl, rfl, rfl⟩, ⟨hof, hwl⟩, hld, hst, hmt, htape, hmo, hout, hcel⟩⟩
    · rw [okI_nI hdj (by decide)] at hq; exact absurd hq (by decide)

theorem rel_lose {now latest : Nat → Int64} {kd cn : Nat → Nat} {ld : Nat} {tape : Nat → Int64} {tb : Nat} {outw : Nat → Int64} {ob : Nat} {off : Bool} {wl : Int32} {wd : Int64} {ov : Nat → Int64} {mt mo : Nat → Nat} {lv wr bt : Nat → Bool} {bs dm : Nat → BitVec 8} {th tp os : Nat} {dn lf : Int64} {mf : Bool} {n2 l2 : Nat → Int64} {k2 c2 : Nat → Nat} {d2 : Nat} {t2 : Nat → Int64} {b2 : Nat} {w2 : Nat → Int64} {e2 : Nat} {f2 : Bool} {g2 : Int32} {z2 : Int64} {y2 : Nat → Int64} {x : Int32} {r : Int32}  {Mh2 : Nat} {Ml2 : Int64} (hR : Rel now latest kd cn ld tape tb outw ob off wl wd mt mo lv wr bs dm tp os dn lf mf) (hC : (r = nI 0 ∧ nI 1 ≤ x ∧ off = false ∧ (n2, l2, k2, c2, d2, t2, b2, w2, e2, f2, g2, z2) = (now, latest, kd, cn, ld, tape, tb, outw, ob, off, x - nI 1, wd) ∧ y2 = ov) ∨ (r = nI 1 ∧ (¬ nI 1 ≤ x) ∧ (n2, l2, k2, c2, d2, t2, b2, w2, e2, f2, g2, z2) = (now, latest, kd, cn, ld, tape, tb, outw, ob, off, wl, wd) ∧ y2 = ov) ∨ (r = nI 2 ∧ (nI 1 ≤ x ∧ off = true) ∧ (n2, l2, k2, c2, d2, t2, b2, w2, e2, f2, g2, z2) = (now, latest, kd, cn, ld, tape, tb, outw, ob, off, wl, wd) ∧ y2 = ov)) (hM : (¬ nI 1 ≤ x ∧ Mh2 = 1 ∧ Ml2 = lf) ∨ (nI 1 ≤ x ∧ mf = true ∧ Mh2 = 2 ∧ Ml2 = lf) ∨ (nI 1 ≤ x ∧ mf = false ∧ Mh2 = 0 ∧ Ml2 = x.toInt64 - 1)) : nI Mh2 = r ∧ (r = 0 → True) ∧ Rel n2 l2 k2 c2 d2 t2 b2 w2 e2 f2 g2 z2 mt mo lv wr bs dm tp os dn Ml2 mf := by
  obtain ⟨hk, hc, ⟨htb, rfl⟩, ⟨hob, rfl⟩, ⟨rfl, rfl, rfl⟩, ⟨hof, hwl⟩, hld, hst, hmt, htape, hmo, hout, hcel⟩ := hR
  rcases hC with ⟨rfl, h1x, hoff, hU, rfl⟩ | ⟨rfl, h1x, hU, rfl⟩ | ⟨rfl, ⟨h1x, hoff⟩, hU, rfl⟩
  · simp only [Prod.mk.injEq] at hU
    obtain ⟨rfl, rfl, rfl, rfl, rfl, rfl, rfl, rfl, rfl, rfl, rfl, rfl⟩ := hU
    rcases hM with ⟨hq, -⟩ | ⟨-, hq, -⟩ | ⟨-, hq, rfl, rfl⟩
    · exact absurd h1x hq
    · rw [hq] at hoff; exact absurd hoff (by decide)
    · obtain ⟨a1, a2, a3⟩ := lose_eq h1x
      refine ⟨rfl, fun _ => trivial, hk, hc, ⟨htb, rfl⟩, ⟨hob, rfl⟩, ⟨rfl, a1.symm, rfl⟩, ⟨fun q => ?_, Or.inr (by omega)⟩, hld, hst, hmt, htape, hmo, hout, hcel⟩
      rw [hoff] at q; exact absurd q (by decide)
  · simp only [Prod.mk.injEq] at hU
    obtain ⟨rfl, rfl, rfl, rfl, rfl, rfl, rfl, rfl, rfl, rfl, rfl, rfl⟩ := hU
    rcases hM with ⟨-, rfl, rfl⟩ | ⟨hq, -⟩ | ⟨hq, -⟩
    · exact ⟨rfl, (fun h => absurd h (by decide)), ⟨hk, hc, ⟨htb, rfl⟩, ⟨hob, rfl⟩, ⟨rfl, rfl, rfl⟩, ⟨hof, hwl⟩, hld, hst, hmt, htape, hmo, hout, hcel⟩⟩
    · exact absurd hq h1x
    · exact absurd hq h1x
  · simp only [Prod.mk.injEq] at hU
    obtain ⟨rfl, rfl, rfl, rfl, rfl, rfl, rfl, rfl, rfl, rfl, rfl, rfl⟩ := hU
    rcases hM with ⟨hq, -⟩ | ⟨-, -, rfl, rfl⟩ | ⟨-, hq, -⟩
    · exact absurd h1x hq
    · exact ⟨rfl, (fun h => absurd h (by decide)), ⟨hk, hc, ⟨htb, rfl⟩, ⟨hob, rfl⟩, ⟨rfl, rfl, rfl⟩, ⟨hof, hwl⟩, hld, hst, hmt, htape, hmo, hout, hcel⟩⟩
    · rw [hq] at hoff; exact absurd hoff (by decide)

theorem look_eq {wd : Int64} {off : Bool} {wl : Int32} {ld : Nat} {kd cn : Nat → Nat} {lv wr : Nat → Bool} {dm : Nat → BitVec 8} (hc : cnOK kd cn) (hof : off = true → wl = 0) (hld : ld = lvC lv 16) (hst : ∀ di ce, di < 16 → ce < 66 → kd (di * 66 + ce) = stN lv wr dm di ce) {k : Nat} (hk : k < 6) : lkV wd off wl ld cn k = mlV wd off wl.toInt64 lv wr dm k := by
  have hkk : ∀ j, j < 1056 → kd j = smK lv wr dm j := fun j hj => by
    have e := hst (j / 66) (j % 66) (by omega) (Nat.mod_lt _ (by decide))
    rw [show j / 66 * 66 + j % 66 = j by omega] at e
    exact e
  have hn : ∀ v, v < 4 → (nI (cn v)).toInt64 = lN (ctK (smK lv wr dm) v 1056) := fun v hv => by
    rw [hc v hv, ctK_congr v 1056 hkk, nI_l (Nat.lt_of_le_of_lt (ctK_le _ _ _) (by decide))]
  unfold lkV mlV
  rcases (show k = 0 ∨ k = 1 ∨ k = 2 ∨ k = 3 ∨ k = 4 ∨ k = 5 by omega) with rfl | rfl | rfl | rfl | rfl | rfl
  · rfl
  · rfl
  · show wl.toInt64 = (if off then (0 : Int64) else wl.toInt64)
    cases h : off
    · rfl
    · rw [hof h]; rfl
  · show (nI ld).toInt64 = lN (lvC lv 16)
    rw [hld, nI_l (Nat.lt_of_le_of_lt (lvC_le lv 16) (by decide))]
  · exact hn 2 (by decide)
  · exact hn 3 (by decide)

theorem rel_look {now latest : Nat → Int64} {kd cn : Nat → Nat} {ld : Nat} {tape : Nat → Int64} {tb : Nat} {outw : Nat → Int64} {ob : Nat} {off : Bool} {wl : Int32} {wd : Int64} {ov : Nat → Int64} {mt mo : Nat → Nat} {lv wr bt : Nat → Bool} {bs dm : Nat → BitVec 8} {th tp os : Nat} {dn lf : Int64} {mf : Bool} {n2 l2 : Nat → Int64} {k2 c2 : Nat → Nat} {d2 : Nat} {t2 : Nat → Int64} {b2 : Nat} {w2 : Nat → Int64} {e2 : Nat} {f2 : Bool} {g2 : Int32} {z2 : Int64} {y2 : Nat → Int64} {x : Int32} {r : Int32} {rm : Int64} {Mh2 : Nat} (hR : Rel now latest kd cn ld tape tb outw ob off wl wd mt mo lv wr bs dm tp os dn lf mf) (hC : (r = nI 0 ∧ ∃ k : Nat, k < 6 ∧ x = nI k ∧ (n2, l2, k2, c2, d2, t2, b2, w2, e2, f2, g2, z2) = (now, latest, kd, cn, ld, tape, tb, outw, ob, off, wl, wd) ∧ y2 = va_up ov 0 (lkV wd off wl ld cn k)) ∨ (r = nI 1 ∧ okI x 6 = false ∧ (n2, l2, k2, c2, d2, t2, b2, w2, e2, f2, g2, z2) = (now, latest, kd, cn, ld, tape, tb, outw, ob, off, wl, wd) ∧ y2 = ov)) (hM : (okI x 6 = false ∧ Mh2 = 1) ∨ (∃ k : Nat, k < 6 ∧ x = nI k ∧ Mh2 = 0 ∧ rm = mlV dn mf lf lv wr dm k)) : nI Mh2 = r ∧ (r = 0 → y2 0 = rm) ∧ Rel n2 l2 k2 c2 d2 t2 b2 w2 e2 f2 g2 z2 mt mo lv wr bs dm tp os dn lf mf := by
  obtain ⟨hk, hc, ⟨htb, rfl⟩, ⟨hob, rfl⟩, ⟨rfl, rfl, rfl⟩, ⟨hof, hwl⟩, hld, hst, hmt, htape, hmo, hout, hcel⟩ := hR
  rcases hC with ⟨rfl, k, hk6, rfl, hU, rfl⟩ | ⟨rfl, hq, hU, rfl⟩
  · simp only [Prod.mk.injEq] at hU
    obtain ⟨rfl, rfl, rfl, rfl, rfl, rfl, rfl, rfl, rfl, rfl, rfl, rfl⟩ := hU
    rcases hM with ⟨hq, -⟩ | ⟨j, hj6, he, rfl, rfl⟩
    · rw [okI_nI hk6 (by decide)] at hq; exact absurd hq (by decide)
    · obtain rfl := nI_inj (by omega) (by omega) he
      refine ⟨rfl, fun _ => ?_, ⟨hk, hc, ⟨htb, rfl⟩, ⟨hob, rfl⟩, ⟨rfl, rfl, rfl⟩, ⟨hof, hwl⟩, hld, hst, hmt, htape, hmo, hout, hcel⟩⟩
      rw [va_up_self]
      exact look_eq hc hof hld hst hk6
  · simp only [Prod.mk.injEq] at hU
    obtain ⟨rfl, rfl, rfl, rfl, rfl, rfl, rfl, rfl, rfl, rfl, rfl, rfl⟩ := hU
    rcases hM with ⟨-, rfl⟩ | ⟨j, hj, rfl, rfl, rfl⟩
    · exact ⟨rfl, (fun h => absurd h (by decide)), ⟨hk, hc, ⟨htb, rfl⟩, ⟨hob, rfl⟩, ⟨rfl, rfl, rfl⟩, ⟨hof, hwl⟩, hld, hst, hmt, htape, hmo, hout, hcel⟩⟩
    · rw [okI_nI hj (by decide)] at hq; exact absurd hq (by decide)

