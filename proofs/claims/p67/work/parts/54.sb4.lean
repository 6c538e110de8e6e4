-- append of a String constant; beginnings; toString
abbrev cTx (j : Nat) : List Nat := cTC.getD j []
theorem cTx_ok : ∀ j, j < 30 → ∀ c ∈ cTx j, c < 128 := by decide +kernel
theorem cTB_nI (j i : Nat) : cTB j i = nI ((cTx j).getD i 0) := rfl
section T
variable (Γ : cG) {σ : cAS} {B0 b v m j : Nat} {l : List Nat}
theorem CJ5_inflateIf (hj : j < 30) (hb : aT σ b = (16, 4)) (hc : aI σ b 1 = 0) : Ctr Γ (1, 30, 0, 0) MJ5_inflateIfNeededFor_a7421 [.ref b, .ref (gK Γ j)] σ (rV none σ) := by
  refine Ctr.go rfl (by decide) rfl rfl ?_
  refine WP.gstC (pc := 0) sJ5_18 dJ5_inflateIfNeededFor_a7421_0 ?_
  refine WP.if_eq (pc := 3) (tgt := 21) dJ5_inflateIfNeededFor_a7421_3 (by decide) (fun h => absurd h (by decide)) (fun _ => ?_)
  refine WP.aload_n (pc := 6) dJ5_inflateIfNeededFor_a7421_6 rfl ?_
  refine WP.gIs (pc := 7) uX15 fJ5_22 hb hc dJ5_inflateIfNeededFor_a7421_7 ?_
  refine WP.aload_n (pc := 10) dJ5_inflateIfNeededFor_a7421_10 rfl ?_
  refine WP.cVS (pc := 11) (mc2 := 0) (ms2 := 0) hj kJ5_40 (CJ_coder Γ σ hj) rfl rfl ⟨Nat.le_of_ble_eq_true rfl, Nat.le_of_ble_eq_true rfl⟩ (Nat.le_of_ble_eq_true rfl) (Nat.le_of_ble_eq_true rfl) (Nat.le_of_ble_eq_true rfl) rfl dJ5_inflateIfNeededFor_a7421_11 ?_
  refine WP.icmp_eq (pc := 14) (tgt := 21) dJ5_inflateIfNeededFor_a7421_14 (by decide) (fun _ => ?_) (fun h => absurd rfl h)
  refine WP.vret (pc := 21) rfl dJ5_inflateIfNeededFor_a7421_21 ?_
  exact ⟨rfl, rfl⟩
theorem CJ0_getBytes {n : Nat} (hj : j < 30) (hv : aT σ v = (12, m)) (hm : m ≤ 1000) (hn : n + cTL j ≤ m) : Ctr Γ (1, 60, 0, 0) MJ0_getBytes_840e7 [.ref (gK Γ j), .ref v, .int (nI n), .int 0] σ (rS (fun w τ => w = none ∧ wrS σ τ v n (cTx j))) := by
  refine Ctr.go rfl (by decide) rfl rfl ?_
  refine WP.aload_n (pc := 0) dJ0_getBytes_840e7_0 rfl ?_
  refine WP.cVS (pc := 1) (mc2 := 0) (ms2 := 0) hj kJ0_335 (CJ_coder Γ σ hj) rfl rfl ⟨Nat.le_of_ble_eq_true rfl, Nat.le_of_ble_eq_true rfl⟩ (Nat.le_of_ble_eq_true rfl) (Nat.le_of_ble_eq_true rfl) (Nat.le_of_ble_eq_true rfl) rfl dJ0_getBytes_840e7_1 ?_
  refine WP.iload_n (pc := 4) dJ0_getBytes_840e7_4 rfl ?_
  refine WP.icmp_ne (pc := 5) (tgt := 28) dJ0_getBytes_840e7_5 (by decide) (fun h => absurd rfl h) (fun _ => ?_)
  refine WP.aload_n (pc := 8) dJ0_getBytes_840e7_8 rfl ?_
  refine WP.strV (pc := 9) hj sJ0_9 dJ0_getBytes_840e7_9 ?_
  refine WP.iconst (pc := 12) (v := 0) dJ0_getBytes_840e7_12 (by decide) ?_
  refine WP.aload_n (pc := 13) dJ0_getBytes_840e7_13 rfl ?_
  refine WP.iload_n (pc := 14) dJ0_getBytes_840e7_14 rfl ?_
  refine WP.iload_n (pc := 15) dJ0_getBytes_840e7_15 rfl ?_
  refine WP.ishl (pc := 16) dJ0_getBytes_840e7_16 ?_
  rw [show nI n <<< ((0 : Int32) &&& 31) = nI n from by simp]
  refine WP.aload_n (pc := 17) dJ0_getBytes_840e7_17 rfl ?_
  refine WP.strV (pc := 18) hj sJ0_9 dJ0_getBytes_840e7_18 ?_
  refine WP.strN (pc := 21) hj dJ0_getBytes_840e7_21 ?_
  have en : (nI n).toNatClampNeg = n := nI_clamp (by omega)
  refine WP.copyS (pc := 22) hj aJ0_212 aN1 aN2 aN3 (by have := cTL_le j hj; omega) hv (nI_pos (by omega)) (by rw [en]; exact hn) (fun i hi => ?_) (Nat.le_of_ble_eq_true rfl) (Nat.le_of_ble_eq_true rfl) dJ0_getBytes_840e7_22 (fun τ t1 t2 t3 t4 t5 t6 => ?_)
  · rw [cTB_nI]
    have hlt : i < (cTx j).length := hi
    refine (by_fact _ ?_).1
    rw [List.getD_eq_getElem?_getD, List.getElem?_eq_getElem hlt]
    exact cTx_ok j hj _ (List.getElem_mem hlt)
  refine WP.goto (pc := 25) (tgt := 43) dJ0_getBytes_840e7_25 (by decide) ?_
  refine WP.vret (pc := 43) rfl dJ0_getBytes_840e7_43 ?_
  refine ⟨none, rfl, rfl, t1, t2, t3, t4, t5, fun i => ?_⟩
  rw [t6, en]
  rfl
theorem CJ5_putStringAt {n : Nat} (hj : j < 30) (h : sbC σ B0 b l v m) (hm : m ≤ 1000) (hn : n + cTL j ≤ m) : Ctr Γ (2, 90, 0, 0) MJ5_putStringAt_47b60 [.ref b, .int (nI n), .ref (gK Γ j)] σ (rS (fun w τ => w = none ∧ wrS σ τ v n (cTx j))) := by
  obtain ⟨a1, a2, a3, a4, a5, a6, a7, a8, a9, a10, a11, a12⟩ := id h
  refine Ctr.go rfl (by decide) rfl rfl ?_
  refine WP.aload_n (pc := 0) dJ5_putStringAt_47b60_0 rfl ?_
  refine WP.aload_n (pc := 1) dJ5_putStringAt_47b60_1 rfl ?_
  refine WP.cU0 (pc := 2) (mc2 := 0) (ms2 := 0) (ci := 15) kJ5_397 (CJ5_inflateIf Γ hj a5 a8) (by decide) rfl a5 rfl ⟨Nat.le_of_ble_eq_true rfl, Nat.le_of_ble_eq_true rfl⟩ (Nat.le_of_ble_eq_true rfl) (Nat.le_of_ble_eq_true rfl) (Nat.le_of_ble_eq_true rfl) rfl dJ5_putStringAt_47b60_2 ?_
  refine WP.aload_n (pc := 5) dJ5_putStringAt_47b60_5 rfl ?_
  refine WP.aload_n (pc := 6) dJ5_putStringAt_47b60_6 rfl ?_
  refine WP.gRs (pc := 7) uX15 fJ5_15 a5 a7 dJ5_putStringAt_47b60_7 ?_
  refine WP.iload_n (pc := 10) dJ5_putStringAt_47b60_10 rfl ?_
  refine WP.aload_n (pc := 11) dJ5_putStringAt_47b60_11 rfl ?_
  refine WP.gIs (pc := 12) uX15 fJ5_22 a5 a8 dJ5_putStringAt_47b60_12 ?_
  refine WP.cVSs (pc := 15) (mc2 := 0) (ms2 := 0) hj kJ5_399 (CJ0_getBytes Γ hj a6 hm hn) rfl rfl ⟨Nat.le_of_ble_eq_true rfl, Nat.le_of_ble_eq_true rfl⟩ (Nat.le_of_ble_eq_true rfl) (Nat.le_of_ble_eq_true rfl) (Nat.le_of_ble_eq_true rfl) rfl dJ5_putStringAt_47b60_15 (fun w τ ⟨hw, hw2⟩ => ?_)
  subst hw
  refine WP.vret (pc := 18) rfl dJ5_putStringAt_47b60_18 ?_
  exact ⟨none, rfl, rfl, hw2⟩
theorem CJ5_appendS (hj : j < 30) (h : sbC σ B0 b l v m) (hm : m ≤ 200) (hjm : cTL j ≤ m) : Ctr Γ (5, 150, 1, 402) MJ5_append_cf1ce [.ref b, .ref (gK Γ j)] σ (rS (sbO σ B0 b (l ++ cTx j) (gwN (l.length + cTL j) m))) := by
  obtain ⟨a1, a2, a3, a4, a5, a6, a7, a8, a9, a10, a11, a12⟩ := id h
  refine Ctr.go rfl (by decide) rfl rfl ?_
  refine WP.aload_n (pc := 0) dJ5_append_cf1ce_0 rfl ?_
  refine WP.ifnonnull (pc := 1) (tgt := 9) dJ5_append_cf1ce_1 (by decide) ?_
  refine WP.aload_n (pc := 9) dJ5_append_cf1ce_9 rfl ?_
  refine WP.cVS (pc := 10) (mc2 := 1) (ms2 := 402) hj kJ5_32 (CJ_length Γ σ hj) rfl rfl ⟨Nat.le_of_ble_eq_true rfl, Nat.le_of_ble_eq_true rfl⟩ (Nat.le_of_ble_eq_true rfl) (Nat.le_of_ble_eq_true rfl) (Nat.le_of_ble_eq_true rfl) rfl dJ5_append_cf1ce_10 ?_
  refine WP.istore_n (pc := 13) dJ5_append_cf1ce_13 (by decide) rfl ?_
  refine WP.aload_n (pc := 14) dJ5_append_cf1ce_14 rfl ?_
  refine WP.aload_n (pc := 15) dJ5_append_cf1ce_15 rfl ?_
  refine WP.gIs (pc := 16) uX15 fJ5_79 a5 a9 dJ5_append_cf1ce_16 ?_
  refine WP.iload_n (pc := 19) dJ5_append_cf1ce_19 rfl ?_
  refine WP.iadd (pc := 20) dJ5_append_cf1ce_20 ?_
  rw [nI_add]
  refine WP.cUs (pc := 21) (mc2 := 0) (ms2 := 0) (ci := 15) kJ5_100 (CJ5_ensure Γ h hm (by omega)) (by decide) rfl a5 rfl ⟨Nat.le_of_ble_eq_true rfl, Nat.le_of_ble_eq_true rfl⟩ (Nat.le_of_ble_eq_true rfl) (Nat.le_of_ble_eq_true rfl) (Nat.le_of_ble_eq_true rfl) rfl dJ5_append_cf1ce_21 (fun w τ ⟨hw, ⟨v', hs⟩, hk⟩ => ?_)
  subst hw
  have hs0 := hs
  obtain ⟨b1, b2, b3, b4, b5, b6, b7, b8, b9, b10, b11, b12⟩ := hs
  have hg : l.length + cTL j ≤ gwN (l.length + cTL j) m := by unfold gwN; split <;> omega
  have hg2 : gwN (l.length + cTL j) m ≤ 1000 := by unfold gwN; split <;> omega
  refine WP.aload_n (pc := 24) dJ5_append_cf1ce_24 rfl ?_
  refine WP.aload_n (pc := 25) dJ5_append_cf1ce_25 rfl ?_
  refine WP.gIs (pc := 26) uX15 fJ5_79 b5 b9 dJ5_append_cf1ce_26 ?_
  refine WP.aload_n (pc := 29) dJ5_append_cf1ce_29 rfl ?_
  refine WP.cUs (pc := 30) (mc2 := 0) (ms2 := 0) (ci := 15) kJ5_208 (CJ5_putStringAt Γ hj hs0 hg2 hg) (by decide) rfl b5 rfl ⟨Nat.le_of_ble_eq_true rfl, Nat.le_of_ble_eq_true rfl⟩ (Nat.le_of_ble_eq_true rfl) (Nat.le_of_ble_eq_true rfl) (Nat.le_of_ble_eq_true rfl) rfl dJ5_append_cf1ce_30 (fun w υ ⟨hw, hw2⟩ => ?_)
  subst hw
  have hbv : b ≠ v' := fun q => by rw [q, b6] at b5; cases b5
  have c5 : aT υ b = (16, 4) := by rw [hw2.1]; exact b5
  refine WP.aload_n (pc := 33) dJ5_append_cf1ce_33 rfl ?_
  refine WP.dup (pc := 34) dJ5_append_cf1ce_34 rfl ?_
  refine WP.gIs (pc := 35) uX15 fJ5_79 c5 (show aI υ b 3 = nI l.length from by rw [hw2.2.2.2.2.1 b hbv]; exact b9) dJ5_append_cf1ce_35 ?_
  refine WP.iload_n (pc := 38) dJ5_append_cf1ce_38 rfl ?_
  refine WP.iadd (pc := 39) dJ5_append_cf1ce_39 ?_
  rw [nI_add]
  refine WP.putI (pc := 40) uX15 fJ5_79 rfl rfl c5 dJ5_append_cf1ce_40 ?_
  refine WP.aload_n (pc := 43) dJ5_append_cf1ce_43 rfl ?_
  refine WP.aret (pc := 44) rfl (Or.inl ⟨_, rfl⟩) dJ5_append_cf1ce_44 ?_
  obtain ⟨g1, g2⟩ := hs0.app (cTx_ok j hj) hg hw2
  exact ⟨_, rfl, rfl, ⟨v', g1⟩, hk.trans g2⟩
theorem CJ4_appendS (hj : j < 30) (h : sbC σ B0 b l v m) (hm : m ≤ 200) (hjm : cTL j ≤ m) : Ctr Γ (6, 180, 1, 402) MJ4_append_15ec4 [.ref b, .ref (gK Γ j)] σ (rS (sbO σ B0 b (l ++ cTx j) (gwN (l.length + cTL j) m))) := by
  refine Ctr.go rfl (by decide) rfl rfl ?_
  refine WP.aload_n (pc := 0) dJ4_append_15ec4_0 rfl ?_
  refine WP.aload_n (pc := 1) dJ4_append_15ec4_1 rfl ?_
  refine WP.cPs (pc := 2) (mc2 := 0) (ms2 := 0) (ci := 15) kJ4_29 (CJ5_appendS Γ hj h hm hjm) (by decide) h.2.2.2.2.1 rfl ⟨Nat.le_of_ble_eq_true rfl, Nat.le_of_ble_eq_true rfl⟩ (Nat.le_of_ble_eq_true rfl) (Nat.le_of_ble_eq_true rfl) (Nat.le_of_ble_eq_true rfl) rfl dJ4_append_15ec4_2 (fun w τ ⟨hw, hs⟩ => ?_)
  subst hw
  refine WP.pop (pc := 5) dJ4_append_15ec4_5 rfl ?_
  refine WP.aload_n (pc := 6) dJ4_append_15ec4_6 rfl ?_
  exact WP.aret (pc := 7) rfl (Or.inl ⟨_, rfl⟩) dJ4_append_15ec4_7 ⟨_, rfl, rfl, hs⟩
theorem CJ4_appendSb (hj : j < 30) (h : sbC σ B0 b l v m) (hm : m ≤ 200) (hjm : cTL j ≤ m) : Ctr Γ (7, 210, 1, 402) MJ4_append_cf1ce [.ref b, .ref (gK Γ j)] σ (rS (sbO σ B0 b (l ++ cTx j) (gwN (l.length + cTL j) m))) := by
  refine Ctr.go rfl (by decide) rfl rfl ?_
  refine WP.aload_n (pc := 0) dJ4_append_cf1ce_0 rfl ?_
  refine WP.aload_n (pc := 1) dJ4_append_cf1ce_1 rfl ?_
  refine WP.cVs (pc := 2) (mc2 := 0) (ms2 := 0) (ci := 15) kJ4_23 (CJ4_appendS Γ hj h hm hjm) (by decide) rfl h.2.2.2.2.1 rfl ⟨Nat.le_of_ble_eq_true rfl, Nat.le_of_ble_eq_true rfl⟩ (Nat.le_of_ble_eq_true rfl) (Nat.le_of_ble_eq_true rfl) (Nat.le_of_ble_eq_true rfl) rfl dJ4_append_cf1ce_2 (fun w τ ⟨hw, hs⟩ => ?_)
  subst hw
  exact WP.aret (pc := 5) rfl (Or.inl ⟨_, rfl⟩) dJ4_append_cf1ce_5 ⟨_, rfl, rfl, hs⟩
/-- a builder that was made just now, its row of bytes not yet -/
theorem sbC.new {q : Nat} (hb : aT σ b = (16, 4)) (hbn : b < aN σ) (h0 : ∀ i, aI σ b i = 0) (hB : B0 ≤ b) : sbC (sR (sA σ 12 q) b 0 (some (aN σ))) B0 b [] (aN σ) q ∧ kpB σ (sR (sA σ 12 q) b 0 (some (aN σ))) B0 := by
  have hI : ∀ i, aI (sR (sA σ 12 q) b 0 (some (aN σ))) (aN σ) i = 0 := fun i => by rw [aI_sR, aI_sA, if_pos rfl]
  refine ⟨⟨hB, by omega, by show b < aN σ + 1; omega, by show aN σ < aN σ + 1; omega, by rw [aT_sR, aT_sA, if_neg (by omega)]; exact hb, by rw [aT_sR, aT_sA, if_pos rfl], by rw [aR_sR, if_pos ⟨rfl, rfl⟩], by rw [aI_sR, aI_sA, if_neg (by omega), h0], by rw [aI_sR, aI_sA, if_neg (by omega), h0]; rfl, Nat.zero_le _, fun i c hc => by simp at hc, fun i _ => ⟨0, by omega, by rw [hI]; rfl⟩⟩, (kpB.sA (by omega)).trans (kpB.sR hB)⟩
theorem CJ5_initI (hb : aT σ b = (16, 4)) (hbn : b < aN σ) (h0 : ∀ i, aI σ b i = 0) (hB : B0 ≤ b) : Ctr Γ (1, 40, 1, 402) MJ5_init_d00df [.ref b, .int 16] σ (rS (fun w τ => w = none ∧ (∃ v', sbC τ B0 b [] v' 16) ∧ kpB σ τ B0)) := by
  refine Ctr.go rfl (by decide) rfl rfl ?_
  refine WP.aload_n (pc := 0) dJ5_init_d00df_0 rfl ?_
  refine WP.objInit (pc := 1) oJ5_3 oI oC (Nat.le_of_ble_eq_true rfl) (Nat.le_of_ble_eq_true rfl) dJ5_init_d00df_1 ?_
  refine WP.gstC (pc := 4) sJ5_18 dJ5_init_d00df_4 ?_
  refine WP.if_eq (pc := 7) (tgt := 25) dJ5_init_d00df_7 (by decide) (fun h => absurd h (by decide)) (fun _ => ?_)
  refine WP.aload_n (pc := 10) dJ5_init_d00df_10 rfl ?_
  refine WP.iload_n (pc := 11) dJ5_init_d00df_11 rfl ?_
  refine WP.less (mc2 := 0 + 1) (ms2 := 0 + 16) (Nat.le_refl _) (by omega) ?_
  refine WP.newarr (pc := 12) (kd := 12) (mc := 0) (ms := 0) (n := 16) (by decide) (by decide) rfl nA12 (by decide) (by decide) (by omega) dJ5_init_d00df_12 ?_
  have hbT : aT (sA σ 12 16) b = (16, 4) := by rw [aT_sA, if_neg (by omega)]; exact hb
  refine WP.putRn (pc := 14) uX15 fJ5_15 rfl rfl rfl hbT dJ5_init_d00df_14 ?_
  refine WP.aload_n (pc := 17) dJ5_init_d00df_17 rfl ?_
  refine WP.iconst (pc := 18) (v := 0) dJ5_init_d00df_18 (by decide) ?_
  obtain ⟨g1, g2⟩ := sbC.new (q := 16) hb hbn h0 hB
  refine WP.putB (pc := 19) uX15 fJ5_22 rfl rfl rfl rfl g1.2.2.2.2.1 dJ5_init_d00df_19 ?_
  refine WP.goto (pc := 22) (tgt := 38) dJ5_init_d00df_22 (by decide) ?_
  refine WP.vret (pc := 38) rfl dJ5_init_d00df_38 ?_
  have e : sI (sR (sA σ 12 16) b 0 (some (aN σ))) b 1 (0 : Int32) = sR (sA σ 12 16) b 0 (some (aN σ)) := by
    have hz : aI (sR (sA σ 12 16) b 0 (some (aN σ))) b 1 = 0 := g1.2.2.2.2.2.2.2.1
    generalize sR (sA σ 12 16) b 0 (some (aN σ)) = υ at hz ⊢
    obtain ⟨T, I, R⟩ := υ
    unfold sI
    congr 2
    funext d i
    dsimp only
    by_cases h1 : d = b ∧ i = 1
    · rw [if_pos h1, h1.1, h1.2]
      exact hz.symm
    · rw [if_neg h1]
  rw [e]
  exact ⟨none, rfl, rfl, ⟨_, g1⟩, g2⟩
theorem CJ4_init0 (hb : aT σ b = (16, 4)) (hbn : b < aN σ) (h0 : ∀ i, aI σ b i = 0) (hB : B0 ≤ b) : Ctr Γ (2, 70, 1, 402) MJ4_init_da8c8 [.ref b] σ (rS (fun w τ => w = none ∧ (∃ v', sbC τ B0 b [] v' 16) ∧ kpB σ τ B0)) := by
  refine Ctr.go rfl (by decide) rfl rfl ?_
  refine WP.aload_n (pc := 0) dJ4_init_da8c8_0 rfl ?_
  refine WP.bipush (pc := 1) (v := 16) dJ4_init_da8c8_1 (by decide) ?_
  refine WP.cIs (pc := 3) (mc2 := 0) (ms2 := 0) kJ4_1 (CJ5_initI Γ hb hbn h0 hB) rfl ⟨Nat.le_of_ble_eq_true rfl, Nat.le_of_ble_eq_true rfl⟩ (Nat.le_of_ble_eq_true rfl) (Nat.le_of_ble_eq_true rfl) (Nat.le_of_ble_eq_true rfl) rfl dJ4_init_da8c8_3 (fun w τ ⟨hw, hs⟩ => ?_)
  subst hw
  refine WP.vret (pc := 6) rfl dJ4_init_da8c8_6 ?_
  exact ⟨none, rfl, rfl, hs⟩
theorem CJ5_initS (hj : j < 30) (hb : aT σ b = (16, 4)) (hbn : b < aN σ) (h0 : ∀ i, aI σ b i = 0) (hB : B0 ≤ b) (hj2 : cTL j ≤ 180) : Ctr Γ (8, 250, 2, 804) MJ5_init_a7421 [.ref b, .ref (gK Γ j)] σ (rS (fun w τ => w = none ∧ (∃ v', sbC τ B0 b (cTx j) v' (cTL j + 16)) ∧ kpB σ τ B0)) := by
  refine Ctr.go rfl (by decide) rfl rfl ?_
  refine WP.aload_n (pc := 0) dJ5_init_a7421_0 rfl ?_
  refine WP.objInit (pc := 1) oJ5_3 oI oC (Nat.le_of_ble_eq_true rfl) (Nat.le_of_ble_eq_true rfl) dJ5_init_a7421_1 ?_
  refine WP.aload_n (pc := 4) dJ5_init_a7421_4 rfl ?_
  refine WP.cVS (pc := 5) (mc2 := 2) (ms2 := 804) hj kJ5_32 (CJ_length Γ σ hj) rfl rfl ⟨Nat.le_of_ble_eq_true rfl, Nat.le_of_ble_eq_true rfl⟩ (Nat.le_of_ble_eq_true rfl) (Nat.le_of_ble_eq_true rfl) (Nat.le_of_ble_eq_true rfl) rfl dJ5_init_a7421_5 ?_
  refine WP.istore_n (pc := 8) dJ5_init_a7421_8 (by decide) rfl ?_
  refine WP.iload_n (pc := 9) dJ5_init_a7421_9 rfl ?_
  refine WP.ldc (pc := 10) qJ5_38 dJ5_init_a7421_10 ?_
  refine WP.icmp_ge (pc := 12) (tgt := 22) dJ5_init_a7421_12 (by decide) (fun h => absurd h (show ¬ nI 2147483631 ≤ nI (cTL j) from nI_ge (by omega) (by decide))) (fun _ => ?_)
  refine WP.iload_n (pc := 15) dJ5_init_a7421_15 rfl ?_
  refine WP.bipush (pc := 16) (v := 16) dJ5_init_a7421_16 (by decide) ?_
  refine WP.iadd (pc := 18) dJ5_init_a7421_18 ?_
  rw [show nI (cTL j) + 16 = nI (cTL j + 16) from nI_add _ 16]
  refine WP.goto (pc := 19) (tgt := 24) dJ5_init_a7421_19 (by decide) ?_
  refine WP.istore_n (pc := 24) dJ5_init_a7421_24 (by decide) rfl ?_
  refine WP.aload_n (pc := 25) dJ5_init_a7421_25 rfl ?_
  refine WP.cVS (pc := 26) (mc2 := 2) (ms2 := 804) hj kJ5_40 (CJ_coder Γ σ hj) rfl rfl ⟨Nat.le_of_ble_eq_true rfl, Nat.le_of_ble_eq_true rfl⟩ (Nat.le_of_ble_eq_true rfl) (Nat.le_of_ble_eq_true rfl) (Nat.le_of_ble_eq_true rfl) rfl dJ5_init_a7421_26 ?_
  refine WP.istore (pc := 29) dJ5_init_a7421_29 (by decide) rfl ?_
  refine WP.aload_n (pc := 31) dJ5_init_a7421_31 rfl ?_
  refine WP.iload (pc := 32) dJ5_init_a7421_32 rfl ?_
  refine WP.putB (pc := 34) uX15 fJ5_22 rfl rfl rfl rfl hb dJ5_init_a7421_34 ?_
  have e : sI σ b 1 0 = σ := by
    have hz : aI σ b 1 = 0 := h0 1
    obtain ⟨T, I, R⟩ := σ
    unfold sI
    congr 2
    funext d i
    dsimp only
    by_cases h1 : d = b ∧ i = 1
    · rw [if_pos h1, h1.1, h1.2]
      exact hz.symm
    · rw [if_neg h1]
  rw [e]
  refine WP.aload_n (pc := 37) dJ5_init_a7421_37 rfl ?_
  refine WP.iload (pc := 38) dJ5_init_a7421_38 rfl ?_
  refine WP.if_ne (pc := 40) (tgt := 49) dJ5_init_a7421_40 (by decide) (fun h => absurd rfl h) (fun _ => ?_)
  refine WP.iload_n (pc := 43) dJ5_init_a7421_43 rfl ?_
  refine WP.less (mc2 := 1 + 1) (ms2 := 402 + (cTL j + 16)) (Nat.le_refl _) (by omega) ?_
  refine WP.newarr (pc := 44) (kd := 12) (mc := 1) (ms := 402) (n := cTL j + 16) (by decide) (by decide) rfl nA12 (nI_pos (by omega)) (nI_clamp (by omega)) (by omega) dJ5_init_a7421_44 ?_
  refine WP.goto (pc := 46) (tgt := 53) dJ5_init_a7421_46 (by decide) ?_
  have hbT : aT (sA σ 12 (cTL j + 16)) b = (16, 4) := by rw [aT_sA, if_neg (by omega)]; exact hb
  refine WP.putRn (pc := 53) uX15 fJ5_15 rfl rfl rfl hbT dJ5_init_a7421_53 ?_
  refine WP.aload_n (pc := 56) dJ5_init_a7421_56 rfl ?_
  refine WP.aload_n (pc := 57) dJ5_init_a7421_57 rfl ?_
  obtain ⟨g1, g2⟩ := sbC.new (q := cTL j + 16) hb hbn h0 hB
  refine WP.cUs (pc := 58) (mc2 := 0) (ms2 := 0) (ci := 15) kJ5_43 (CJ4_appendSb Γ hj g1 (by omega) (by omega)) (by decide) rfl g1.2.2.2.2.1 rfl ⟨Nat.le_of_ble_eq_true rfl, Nat.le_of_ble_eq_true rfl⟩ (Nat.le_of_ble_eq_true rfl) (Nat.le_of_ble_eq_true rfl) (Nat.le_of_ble_eq_true rfl) rfl dJ5_init_a7421_58 (fun w τ ⟨hw, ⟨v', hs⟩, hk⟩ => ?_)
  subst hw
  refine WP.pop (pc := 61) dJ5_init_a7421_61 rfl ?_
  refine WP.vret (pc := 62) rfl dJ5_init_a7421_62 ?_
  have eg : gwN (([] : List Nat).length + cTL j) (cTL j + 16) = cTL j + 16 := by
    unfold gwN
    rw [if_pos (by show 0 + cTL j ≤ _; omega)]
  rw [eg] at hs
  exact ⟨none, rfl, rfl, ⟨v', hs⟩, g2.trans hk⟩
theorem CJ4_initS (hj : j < 30) (hb : aT σ b = (16, 4)) (hbn : b < aN σ) (h0 : ∀ i, aI σ b i = 0) (hB : B0 ≤ b) (hj2 : cTL j ≤ 180) : Ctr Γ (9, 280, 2, 804) MJ4_init_a7421 [.ref b, .ref (gK Γ j)] σ (rS (fun w τ => w = none ∧ (∃ v', sbC τ B0 b (cTx j) v' (cTL j + 16)) ∧ kpB σ τ B0)) := by
  refine Ctr.go rfl (by decide) rfl rfl ?_
  refine WP.aload_n (pc := 0) dJ4_init_a7421_0 rfl ?_
  refine WP.aload_n (pc := 1) dJ4_init_a7421_1 rfl ?_
  refine WP.cIs (pc := 2) (mc2 := 0) (ms2 := 0) kJ4_7 (CJ5_initS Γ hj hb hbn h0 hB hj2) rfl ⟨Nat.le_of_ble_eq_true rfl, Nat.le_of_ble_eq_true rfl⟩ (Nat.le_of_ble_eq_true rfl) (Nat.le_of_ble_eq_true rfl) (Nat.le_of_ble_eq_true rfl) rfl dJ4_init_a7421_2 (fun w τ ⟨hw, hs⟩ => ?_)
  subst hw
  refine WP.vret (pc := 5) rfl dJ4_init_a7421_5 ?_
  exact ⟨none, rfl, rfl, hs⟩
end T
