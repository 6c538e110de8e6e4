section T
variable (Γ : cG) {σ : cAS}
theorem CL_text (hN : (gX Γ).2.1 ≤ 260) : Ctr Γ (20, 600, 80, 32000) ML_text [.ref (gX Γ).1] σ (rS (fun w τ => ∃ a, w = some (.ref a) ∧ strB τ (aN σ) a (txt Γ) ∧ kpB σ τ (aN σ))) := by
  have hc0 := clN_lt Γ 0
  have hk : kpB σ σ (aN σ) := kpB.rf
  refine Ctr.go rfl (by decide) rfl rfl ?_
  refine WP.less (mc2 := 0 + 80) (ms2 := 0 + 32000) (Nat.le_refl _) (Nat.le_refl _) ?_
  obtain ⟨mc, hmc⟩ : ∃ mc : Nat, mc = 2 := ⟨2, rfl⟩
  obtain ⟨ms, hms⟩ : ∃ ms : Nat, ms = 410 := ⟨410, rfl⟩
  refine WP.aload_n (pc := 0) dL_text_0 rfl ?_
  refine WP.iconst (pc := 1) (v := 0) dL_text_1 (by decide) ?_
  refine WP.cS1 (pc := 2) (mc2 := 0 + 80) (ms2 := 0 + 32000) kL_39 (CL_cell Γ hN (k := 0) (by omega)) rfl ⟨Nat.le_of_ble_eq_true rfl, Nat.le_of_ble_eq_true rfl⟩ (by omega) (by omega) (Nat.le_of_ble_eq_true rfl) rfl dL_text_2 ?_
  refine WP.istore_n (pc := 5) dL_text_5 (by decide) rfl ?_
  generalize hx : clN Γ 0 = x at hc0 ⊢
  refine WP.less (mc2 := 79 + 1) (ms2 := 31996 + 4) (by omega) (by omega) ?_
  refine WP.new (pc := 6) (mc := 79) (ms := 31996) (ci := 15) uX15 (by decide) nL_45 nI15 nJ15 nD15 dL_text_6 ?_
  refine WP.dup (pc := 9) dL_text_9 rfl ?_
  refine WP.ldcS (pc := 10) (j := 15) (List.mem_of_getElem? (i := 15) rfl) dL_text_10 ?_
  refine WP.cIs (pc := 12) (mc2 := mc + 75) (ms2 := ms + 30782) kL_49 (CJ4_initS Γ (B0 := aN σ) (b := aN σ) (j := 15) (by decide) (show aT (sA σ 16 4) (aN σ) = (16, 4) from by rw [aT_sA, if_pos rfl]) (by rw [aN_sA]; omega) (fun i => by rw [aI_sA, if_pos rfl]) (Nat.le_refl _) (by decide)) rfl ⟨Nat.le_of_ble_eq_true rfl, Nat.le_of_ble_eq_true rfl⟩ (by omega) (by omega) (Nat.le_of_ble_eq_true rfl) rfl dL_text_12 (fun w τ ⟨hw, ⟨v', hs0⟩, hk2⟩ => ?_)
  subst hw
  replace hk : kpB σ τ (aN σ) := (kpB.sA (Nat.le_refl _)).trans hk2
  have hs : SB τ (aN σ) (aN σ) (cTx 15) 7 := ⟨by decide, v', _, hs0, Or.inl rfl⟩
  generalize hb : aN σ = b at hs hk ⊢
  clear hs0 hk2
  refine WP.less (mc2 := mc + 73) (ms2 := ms + 29346) (by omega) (by omega) ?_
  refine WP.iconst (pc := 15) (v := 1) dL_text_15 (by decide) ?_
  refine WP.iload_n (pc := 16) dL_text_16 rfl ?_
  refine WP.bipush (pc := 17) (v := 40) dL_text_17 (by decide) ?_
  refine WP.irN (pc := 19) (a := x) (b := 40) rfl (by omega) (by omega) (by omega) dL_text_19 ?_
  refine WP.iaN (pc := 20) (a := 1) (b := x % 40) rfl rfl dL_text_20 ?_
  refine WP.cVs (pc := 21) (mc2 := mc + 72) (ms2 := ms + 28944) (ci := 15) kL_52 (AI Γ hs (x := 1 + x % 40) (by omega) (by omega)) (by decide) rfl hs.t rfl ⟨Nat.le_of_ble_eq_true rfl, Nat.le_of_ble_eq_true rfl⟩ (by omega) (by omega) (Nat.le_of_ble_eq_true rfl) rfl dL_text_21 (fun w τ ⟨hw, hs2, hk2⟩ => ?_)
  subst hw
  replace hk := hk.trans hk2
  clear hk2
  replace hs := hs2
  clear hs2
  refine WP.bipush (pc := 24) (v := 32) dL_text_24 (by decide) ?_
  refine WP.cVs (pc := 26) (mc2 := mc + 71) (ms2 := ms + 28542) (ci := 15) kL_56 (AC Γ hs (c := 32) (by omega) (by omega)) (by decide) rfl hs.t rfl ⟨Nat.le_of_ble_eq_true rfl, Nat.le_of_ble_eq_true rfl⟩ (by omega) (by omega) (Nat.le_of_ble_eq_true rfl) rfl dL_text_26 (fun w τ ⟨hw, hs2, hk2⟩ => ?_)
  subst hw
  replace hk := hk.trans hk2
  clear hk2
  replace hs := hs2
  clear hs2
  refine WP.iconst (pc := 29) (v := 1) dL_text_29 (by decide) ?_
  refine WP.iload_n (pc := 30) dL_text_30 rfl ?_
  refine WP.bipush (pc := 31) (v := 64) dL_text_31 (by decide) ?_
  refine WP.idN (pc := 33) (a := x) (b := 64) rfl (by omega) (by omega) (by omega) dL_text_33 ?_
  refine WP.bipush (pc := 34) (v := 30) dL_text_34 (by decide) ?_
  refine WP.irN (pc := 36) (a := x / 64) (b := 30) rfl (by omega) (by omega) (by omega) dL_text_36 ?_
  refine WP.iaN (pc := 37) (a := 1) (b := x / 64 % 30) rfl rfl dL_text_37 ?_
  refine WP.cVs (pc := 38) (mc2 := mc + 70) (ms2 := ms + 28140) (ci := 15) kL_52 (AI Γ hs (x := 1 + x / 64 % 30) (by omega) (by omega)) (by decide) rfl hs.t rfl ⟨Nat.le_of_ble_eq_true rfl, Nat.le_of_ble_eq_true rfl⟩ (by omega) (by omega) (Nat.le_of_ble_eq_true rfl) rfl dL_text_38 (fun w τ ⟨hw, hs2, hk2⟩ => ?_)
  subst hw
  replace hk := hk.trans hk2
  clear hk2
  replace hs := hs2
  clear hs2
  refine WP.bipush (pc := 41) (v := 32) dL_text_41 (by decide) ?_
  refine WP.cVs (pc := 43) (mc2 := mc + 69) (ms2 := ms + 27738) (ci := 15) kL_56 (AC Γ hs (c := 32) (by omega) (by omega)) (by decide) rfl hs.t rfl ⟨Nat.le_of_ble_eq_true rfl, Nat.le_of_ble_eq_true rfl⟩ (by omega) (by omega) (Nat.le_of_ble_eq_true rfl) rfl dL_text_43 (fun w τ ⟨hw, hs2, hk2⟩ => ?_)
  subst hw
  replace hk := hk.trans hk2
  clear hk2
  replace hs := hs2
  clear hs2
  refine WP.iconst (pc := 46) (v := 1) dL_text_46 (by decide) ?_
  refine WP.iload_n (pc := 47) dL_text_47 rfl ?_
  refine WP.sipush (pc := 48) (v := 4096) dL_text_48 (by decide) ?_
  refine WP.idN (pc := 51) (a := x) (b := 4096) rfl (by omega) (by omega) (by omega) dL_text_51 ?_
  refine WP.bipush (pc := 52) (v := 30) dL_text_52 (by decide) ?_
  refine WP.irN (pc := 54) (a := x / 4096) (b := 30) rfl (by omega) (by omega) (by omega) dL_text_54 ?_
  refine WP.iaN (pc := 55) (a := 1) (b := x / 4096 % 30) rfl rfl dL_text_55 ?_
  refine WP.cVs (pc := 56) (mc2 := mc + 68) (ms2 := ms + 27336) (ci := 15) kL_52 (AI Γ hs (x := 1 + x / 4096 % 30) (by omega) (by omega)) (by decide) rfl hs.t rfl ⟨Nat.le_of_ble_eq_true rfl, Nat.le_of_ble_eq_true rfl⟩ (by omega) (by omega) (Nat.le_of_ble_eq_true rfl) rfl dL_text_56 (fun w τ ⟨hw, hs2, hk2⟩ => ?_)
  subst hw
  replace hk := hk.trans hk2
  clear hk2
  replace hs := hs2
  clear hs2
  refine WP.bipush (pc := 59) (v := 59) dL_text_59 (by decide) ?_
  refine WP.cVs (pc := 61) (mc2 := mc + 67) (ms2 := ms + 26934) (ci := 15) kL_56 (AC Γ hs (c := 59) (by omega) (by omega)) (by decide) rfl hs.t rfl ⟨Nat.le_of_ble_eq_true rfl, Nat.le_of_ble_eq_true rfl⟩ (by omega) (by omega) (Nat.le_of_ble_eq_true rfl) rfl dL_text_61 (fun w τ ⟨hw, hs2, hk2⟩ => ?_)
  subst hw
  replace hk := hk.trans hk2
  clear hk2
  replace hs := hs2
  clear hs2
  refine WP.astore_n (pc := 64) dL_text_64 (by decide) rfl ?_
  refine WP.iconst (pc := 65) (v := 0) dL_text_65 (by decide) ?_
  refine WP.istore_n (pc := 66) dL_text_66 (by decide) rfl ?_
  have hH : cTx 15 ++ dgs (1 + x % 40) ++ [32] ++ dgs (1 + x / 64 % 30) ++ [32] ++ dgs (1 + x / 4096 % 30) ++ [59] = tqH x := rfl
  rw [hH] at hs
  refine WP.less (mc2 := mc + 67) (ms2 := ms + 26934) (by omega) (by omega) ?_
  -- the bakers
  refine WP.iload_n (pc := 67) dL_text_67 rfl ?_
  refine WP.iconst (pc := 68) (v := 3) dL_text_68 (by decide) ?_
  refine WP.icmp_ge (pc := 69) (tgt := 193) dL_text_69 (by decide) (fun h => absurd h (by decide)) (fun _ => ?_)
  refine LL_bk Γ (mc := mc + 55) (ms := ms + 22110) hN (k := 0) (by omega) hs (by omega) rfl (fun τ1 hs1 hk1 l4 hl4 => ?_)
  replace hk := hk.trans hk1
  clear hs hk1
  refine WP.iinc (pc := 187) dL_text_187 rfl (nI_1 0) (by decide) hl4 ?_
  refine WP.goto (pc := 190) (tgt := 67) dL_text_190 (by decide) ?_
  refine WP.iload_n (pc := 67) dL_text_67 rfl ?_
  refine WP.iconst (pc := 68) (v := 3) dL_text_68 (by decide) ?_
  refine WP.icmp_ge (pc := 69) (tgt := 193) dL_text_69 (by decide) (fun h => absurd h (by decide)) (fun _ => ?_)
  refine LL_bk Γ (mc := mc + 43) (ms := ms + 17286) hN (k := 1) (by omega) hs1 (by omega) hl4 (fun τ2 hs2 hk2 l4b hl4b => ?_)
  replace hk := hk.trans hk2
  clear hs1 hk2
  refine WP.iinc (pc := 187) dL_text_187 rfl (nI_1 1) (by decide) hl4b ?_
  refine WP.goto (pc := 190) (tgt := 67) dL_text_190 (by decide) ?_
  refine WP.iload_n (pc := 67) dL_text_67 rfl ?_
  refine WP.iconst (pc := 68) (v := 3) dL_text_68 (by decide) ?_
  refine WP.icmp_ge (pc := 69) (tgt := 193) dL_text_69 (by decide) (fun h => absurd h (by decide)) (fun _ => ?_)
  refine LL_bk Γ (mc := mc + 31) (ms := ms + 12462) hN (k := 2) (by omega) hs2 (by omega) hl4b (fun τ3 hs3 hk3 l4c hl4c => ?_)
  replace hk := hk.trans hk3
  clear hs2 hk3
  refine WP.iinc (pc := 187) dL_text_187 rfl (nI_1 2) (by decide) hl4c ?_
  refine WP.goto (pc := 190) (tgt := 67) dL_text_190 (by decide) ?_
  refine WP.iload_n (pc := 67) dL_text_67 rfl ?_
  refine WP.iconst (pc := 68) (v := 3) dL_text_68 (by decide) ?_
  refine WP.icmp_ge (pc := 69) (tgt := 193) dL_text_69 (by decide) (fun _ => ?_) (fun h => absurd (by decide) h)
  -- the customers
  refine WP.iconst (pc := 193) (v := 0) dL_text_193 (by decide) ?_
  refine WP.istore_n (pc := 194) dL_text_194 (by decide) hl4c ?_
  refine WP.iload_n (pc := 195) dL_text_195 rfl ?_
  refine WP.iconst (pc := 196) (v := 2) dL_text_196 (by decide) ?_
  refine WP.icmp_ge (pc := 197) (tgt := 324) dL_text_197 (by decide) (fun h => absurd h (by decide)) (fun _ => ?_)
  refine LL_cu Γ (mc := mc + 18) (ms := ms + 7236) hN (k := 0) (by omega) hs3 (by omega) hl4c (fun τ4 hs4 hk4 l4d hl4d => ?_)
  replace hk := hk.trans hk4
  clear hs3 hk4
  refine WP.iinc (pc := 318) dL_text_318 rfl (nI_1 0) (by decide) hl4d ?_
  refine WP.goto (pc := 321) (tgt := 195) dL_text_321 (by decide) ?_
  refine WP.iload_n (pc := 195) dL_text_195 rfl ?_
  refine WP.iconst (pc := 196) (v := 2) dL_text_196 (by decide) ?_
  refine WP.icmp_ge (pc := 197) (tgt := 324) dL_text_197 (by decide) (fun h => absurd h (by decide)) (fun _ => ?_)
  refine LL_cu Γ (mc := mc + 5) (ms := ms + 2010) hN (k := 1) (by omega) hs4 (by omega) hl4d (fun τ5 hs hk5 l4e hl4e => ?_)
  replace hk := hk.trans hk5
  clear hs4 hk5
  refine WP.iinc (pc := 318) dL_text_318 rfl (nI_1 1) (by decide) hl4e ?_
  refine WP.goto (pc := 321) (tgt := 195) dL_text_321 (by decide) ?_
  refine WP.iload_n (pc := 195) dL_text_195 rfl ?_
  refine WP.iconst (pc := 196) (v := 2) dL_text_196 (by decide) ?_
  refine WP.icmp_ge (pc := 197) (tgt := 324) dL_text_197 (by decide) (fun _ => ?_) (fun h => absurd (by decide) h)
  refine WP.aload_n (pc := 324) dL_text_324 rfl ?_
  refine WP.ldcS (pc := 325) (j := 24) (List.mem_of_getElem? (i := 24) rfl) dL_text_325 ?_
  refine WP.cVs (pc := 327) (mc2 := mc + 4) (ms2 := ms + 1608) (ci := 15) kL_61 (AS Γ (N := 9) hs (j := 24) (by decide) (by decide) (by decide) (by omega)) (by decide) rfl hs.t rfl ⟨Nat.le_of_ble_eq_true rfl, Nat.le_of_ble_eq_true rfl⟩ (by omega) (by omega) (Nat.le_of_ble_eq_true rfl) rfl dL_text_327 (fun w τ ⟨hw, hs2, hk2⟩ => ?_)
  subst hw
  replace hk := hk.trans hk2
  clear hk2
  replace hs := hs2
  clear hs2
  refine WP.iload_n (pc := 330) dL_text_330 rfl ?_
  refine WP.ldc (pc := 331) qL_79 dL_text_331 ?_
  refine WP.idN (pc := 333) (a := x) (b := 131072) rfl (by omega) (by omega) (by omega) dL_text_333 ?_
  refine WP.bipush (pc := 334) (v := 10) dL_text_334 (by decide) ?_
  refine WP.irN (pc := 336) (a := x / 131072) (b := 10) rfl (by omega) (by omega) (by omega) dL_text_336 ?_
  refine WP.cVs (pc := 337) (mc2 := mc + 3) (ms2 := ms + 1206) (ci := 15) kL_52 (AI Γ hs (x := x / 131072 % 10) (by omega) (by omega)) (by decide) rfl hs.t rfl ⟨Nat.le_of_ble_eq_true rfl, Nat.le_of_ble_eq_true rfl⟩ (by omega) (by omega) (Nat.le_of_ble_eq_true rfl) rfl dL_text_337 (fun w τ ⟨hw, hs2, hk2⟩ => ?_)
  subst hw
  replace hk := hk.trans hk2
  clear hk2
  replace hs := hs2
  clear hs2
  refine WP.bipush (pc := 340) (v := 32) dL_text_340 (by decide) ?_
  refine WP.cVs (pc := 342) (mc2 := mc + 2) (ms2 := ms + 804) (ci := 15) kL_56 (AC Γ hs (c := 32) (by omega) (by omega)) (by decide) rfl hs.t rfl ⟨Nat.le_of_ble_eq_true rfl, Nat.le_of_ble_eq_true rfl⟩ (by omega) (by omega) (Nat.le_of_ble_eq_true rfl) rfl dL_text_342 (fun w τ ⟨hw, hs2, hk2⟩ => ?_)
  subst hw
  replace hk := hk.trans hk2
  clear hk2
  replace hs := hs2
  clear hs2
  refine WP.iload_n (pc := 345) dL_text_345 rfl ?_
  refine WP.ldc (pc := 346) qL_80 dL_text_346 ?_
  refine WP.idN (pc := 348) (a := x) (b := 2097152) rfl (by omega) (by omega) (by omega) dL_text_348 ?_
  refine WP.bipush (pc := 349) (v := 60) dL_text_349 (by decide) ?_
  refine WP.irN (pc := 351) (a := x / 2097152) (b := 60) rfl (by omega) (by omega) (by omega) dL_text_351 ?_
  refine WP.cVs (pc := 352) (mc2 := mc + 1) (ms2 := ms + 402) (ci := 15) kL_52 (AI Γ hs (x := x / 2097152 % 60) (by omega) (by omega)) (by decide) rfl hs.t rfl ⟨Nat.le_of_ble_eq_true rfl, Nat.le_of_ble_eq_true rfl⟩ (by omega) (by omega) (Nat.le_of_ble_eq_true rfl) rfl dL_text_352 (fun w τ ⟨hw, hs2, hk2⟩ => ?_)
  subst hw
  replace hk := hk.trans hk2
  clear hk2
  replace hs := hs2
  clear hs2
  refine WP.bipush (pc := 355) (v := 59) dL_text_355 (by decide) ?_
  refine WP.cVs (pc := 357) (mc2 := mc + 0) (ms2 := ms + 0) (ci := 15) kL_56 (AC Γ hs (c := 59) (by omega) (by omega)) (by decide) rfl hs.t rfl ⟨Nat.le_of_ble_eq_true rfl, Nat.le_of_ble_eq_true rfl⟩ (by omega) (by omega) (Nat.le_of_ble_eq_true rfl) rfl dL_text_357 (fun w τ ⟨hw, hs2, hk2⟩ => ?_)
  subst hw
  replace hk := hk.trans hk2
  clear hk2
  replace hs := hs2
  clear hs2
  have hT : tqC (tqC (tqKB Γ (tqKB Γ (tqKB Γ (tqH x) 0) 1) 2) 0 (yC Γ 0)) 1 (yC Γ 1) ++ cTx 24 ++ dgs (x / 131072 % 10) ++ [32] ++ dgs (x / 2097152 % 60) ++ [59] = txt Γ := by
    unfold txt tqS
    rw [hx]
  rw [hT] at hs
  obtain ⟨hle, v, m, hs, hm⟩ := hs
  have hlen := txt_len Γ
  have hlm : (txt Γ).length < m := by
    have := hs.2.2.2.2.2.2.2.2.2.1
    unfold capO at hm
    omega
  refine WP.cVs (pc := 360) (mc2 := 0) (ms2 := 0) (ci := 15) kL_81 (CJ4_toString Γ hs hlm (by unfold capO at hm; omega)) (by decide) rfl hs.2.2.2.2.1 rfl ⟨Nat.le_of_ble_eq_true rfl, Nat.le_of_ble_eq_true rfl⟩ (by omega) (by omega) (Nat.le_of_ble_eq_true rfl) rfl dL_text_360 (fun w τ ⟨a, hw, hs2, hk2⟩ => ?_)
  subst hw
  exact WP.aret (pc := 363) rfl (Or.inl ⟨_, rfl⟩) dL_text_363 ⟨_, rfl, a, rfl, hs2, hk.trans hk2⟩
end T
