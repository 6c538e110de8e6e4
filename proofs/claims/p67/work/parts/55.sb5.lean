-- toString, and a String that was made
def strB (σ : cAS) (B0 a : Nat) (l : List Nat) : Prop := (B0 ≤ a ∧ a < aN σ) ∧ aT σ a = (17, 4) ∧ aI σ a 1 = 0 ∧ ∃ u, (B0 ≤ u ∧ u < aN σ) ∧ aR σ a 0 = some u ∧ aT σ u = (12, l.length) ∧ ∀ i c, l[i]? = some c → c < 128 ∧ aI σ u i = nI c
section T
variable (Γ : cG) {σ : cAS} {B0 a b v m j : Nat} {l : List Nat}
theorem CJ5_getValue (h : sbC σ B0 b l v m) : Ctr Γ (0, 0, 0, 0) MJ5_getValue_6d5f1 [.ref b] σ (rV (some (.ref v)) σ) := by
  refine Ctr.go rfl (by decide) rfl rfl ?_
  refine WP.aload_n (pc := 0) dJ5_getValue_6d5f1_0 rfl ?_
  refine WP.gRs (pc := 1) uX15 fJ5_15 h.2.2.2.2.1 h.2.2.2.2.2.2.1 dJ5_getValue_6d5f1_1 ?_
  exact WP.aret (pc := 4) rfl (Or.inr ⟨_, rfl⟩) dJ5_getValue_6d5f1_4 ⟨rfl, rfl⟩
theorem CJ5_length (h : sbC σ B0 b l v m) : Ctr Γ (0, 0, 0, 0) MJ5_length_8abf5 [.ref b] σ (rV (some (.int (nI l.length))) σ) := by
  refine Ctr.go rfl (by decide) rfl rfl ?_
  refine WP.aload_n (pc := 0) dJ5_length_8abf5_0 rfl ?_
  refine WP.gIs (pc := 1) uX15 fJ5_79 h.2.2.2.2.1 h.2.2.2.2.2.2.2.2.1 dJ5_length_8abf5_1 ?_
  refine WP.iret (pc := 4) rfl dJ5_length_8abf5_4 ?_
  exact ⟨rfl, rfl⟩
theorem CJ4_length (h : sbC σ B0 b l v m) : Ctr Γ (1, 30, 0, 0) MJ4_length_8abf5 [.ref b] σ (rV (some (.int (nI l.length))) σ) := by
  refine Ctr.go rfl (by decide) rfl rfl ?_
  refine WP.aload_n (pc := 0) dJ4_length_8abf5_0 rfl ?_
  refine WP.cP1 (pc := 1) (mc2 := 0) (ms2 := 0) (ci := 15) kJ4_343 (CJ5_length Γ h) (by decide) h.2.2.2.2.1 rfl ⟨Nat.le_of_ble_eq_true rfl, Nat.le_of_ble_eq_true rfl⟩ (Nat.le_of_ble_eq_true rfl) (Nat.le_of_ble_eq_true rfl) (Nat.le_of_ble_eq_true rfl) rfl dJ4_length_8abf5_1 ?_
  refine WP.iret (pc := 4) rfl dJ4_length_8abf5_4 ?_
  exact ⟨rfl, rfl⟩
theorem CJ7_checkLength {n : Nat} (hn : n ≤ 1000) : Ctr Γ (0, 0, 0, 0) MJ7_checkLength_df160 [.int 0, .int (nI n)] σ (rV none σ) := by
  refine Ctr.go rfl (by decide) rfl rfl ?_
  refine WP.iload_n (pc := 0) dJ7_checkLength_df160_0 rfl ?_
  refine WP.iload_n (pc := 1) dJ7_checkLength_df160_1 rfl ?_
  refine WP.icmp_ge (pc := 2) (tgt := 37) dJ7_checkLength_df160_2 (by decide) (fun h => ?_) (fun h => ?_)
  · refine WP.vret (pc := 37) rfl dJ7_checkLength_df160_37 ?_
    exact ⟨rfl, rfl⟩
  · exact absurd (nI_pos' (by omega)) h
abbrev cpR (σ : cAS) (v n : Nat) : cAS := sC (sA σ 12 n) v (aN σ) 0 0 n
theorem CJ7_copyOfRangeByte {n : Nat} (hv : aT σ v = (12, m)) (hvn : v < aN σ) (hy : byO σ v m) (hmn : n ≤ m) (hm : m ≤ 1000) (hn : n ≤ 402) : Ctr Γ (2, 60, 1, 402) MJ7_copyOfRangeByte_39247 [.ref v, .int 0, .int (nI n)] σ (rV (some (.ref (aN σ))) (cpR σ v n)) := by
  have hv2 : aT (sA σ 12 n) v = (12, m) := by rw [aT_sA, if_neg (by omega)]; exact hv
  refine Ctr.go rfl (by decide) rfl rfl ?_
  refine WP.iload_n (pc := 0) dJ7_copyOfRangeByte_39247_0 rfl ?_
  refine WP.iload_n (pc := 1) dJ7_copyOfRangeByte_39247_1 rfl ?_
  refine WP.cS0 (pc := 2) (mc2 := 1) (ms2 := 402) kJ7_343 (CJ7_checkLength Γ (by omega)) rfl ⟨Nat.le_of_ble_eq_true rfl, Nat.le_of_ble_eq_true rfl⟩ (Nat.le_of_ble_eq_true rfl) (Nat.le_of_ble_eq_true rfl) (Nat.le_of_ble_eq_true rfl) rfl dJ7_copyOfRangeByte_39247_2 ?_
  refine WP.iload_n (pc := 5) dJ7_copyOfRangeByte_39247_5 rfl ?_
  refine WP.iload_n (pc := 6) dJ7_copyOfRangeByte_39247_6 rfl ?_
  refine WP.isub (pc := 7) dJ7_copyOfRangeByte_39247_7 ?_
  rw [show nI n - 0 = nI n from by simp]
  refine WP.istore_n (pc := 8) dJ7_copyOfRangeByte_39247_8 (by decide) rfl ?_
  refine WP.iload_n (pc := 9) dJ7_copyOfRangeByte_39247_9 rfl ?_
  refine WP.less (mc2 := 0 + 1) (ms2 := 0 + n) (Nat.le_refl _) (by omega) ?_
  refine WP.newarr (pc := 10) (kd := 12) (mc := 0) (ms := 0) (n := n) (by decide) (by decide) rfl nA12 (nI_pos (by omega)) (nI_clamp (by omega)) (by omega) dJ7_copyOfRangeByte_39247_10 ?_
  refine WP.astore (pc := 12) dJ7_copyOfRangeByte_39247_12 (by decide) rfl ?_
  refine WP.aload_n (pc := 14) dJ7_copyOfRangeByte_39247_14 rfl ?_
  refine WP.iload_n (pc := 15) dJ7_copyOfRangeByte_39247_15 rfl ?_
  refine WP.aload (pc := 16) dJ7_copyOfRangeByte_39247_16 rfl ?_
  refine WP.iconst (pc := 18) (v := 0) dJ7_copyOfRangeByte_39247_18 (by decide) ?_
  refine WP.aload_n (pc := 19) dJ7_copyOfRangeByte_39247_19 rfl ?_
  refine WP.alen (pc := 20) (kd := 12) (by decide) (by decide) hv2 dJ7_copyOfRangeByte_39247_20 ?_
  refine WP.iload_n (pc := 21) dJ7_copyOfRangeByte_39247_21 rfl ?_
  refine WP.isub (pc := 22) dJ7_copyOfRangeByte_39247_22 ?_
  rw [show nI m - 0 = nI m from by simp]
  refine WP.iload_n (pc := 23) dJ7_copyOfRangeByte_39247_23 rfl ?_
  refine WP.mmin (pc := 24) kJ7_304 (Nat.le_of_ble_eq_true rfl) (Nat.le_of_ble_eq_true rfl) dJ7_copyOfRangeByte_39247_24 ?_
  rw [show (if nI n < nI m then nI n else nI m) = nI n from by
    by_cases e : n = m
    · rw [e]; exact ite_self _
    · rw [if_pos (nI_lt (by omega) (by omega))]]
  have en : (nI n).toNatClampNeg = n := nI_clamp (by omega)
  refine WP.copyB (pc := 27) aJ7_150 aN1 aN2 aN3 hv2 (show aT (sA σ 12 n) (aN σ) = (12, n) from by rw [aT_sA, if_pos rfl]) (by decide) (by decide) (nI_pos (by omega)) (by rw [en]; show 0 + n ≤ m; omega) (by rw [en]; show 0 + n ≤ n; omega) (fun i hi => ?_) (Nat.le_of_ble_eq_true rfl) (Nat.le_of_ble_eq_true rfl) dJ7_copyOfRangeByte_39247_27 ?_
  · rw [en] at hi
    obtain ⟨c, hc, e⟩ := hy i (by omega)
    rw [show (0 : Int32).toNatClampNeg + i = i from Nat.zero_add i, aI_sA, if_neg (by omega), e]
    exact (by_fact c hc).1
  rw [en]
  refine WP.aload (pc := 30) dJ7_copyOfRangeByte_39247_30 rfl ?_
  exact WP.aret (pc := 32) rfl (Or.inr ⟨_, rfl⟩) dJ7_copyOfRangeByte_39247_32 ⟨rfl, rfl⟩
theorem CJ7_copyOfRange {n : Nat} (hv : aT σ v = (12, m)) (hvn : v < aN σ) (hy : byO σ v m) (hmn : n < m) (hm : m ≤ 1000) (hn : n ≤ 402) : Ctr Γ (3, 90, 1, 402) MJ7_copyOfRange_39247 [.ref v, .int 0, .int (nI n)] σ (rV (some (.ref (aN σ))) (cpR σ v n)) := by
  refine Ctr.go rfl (by decide) rfl rfl ?_
  refine WP.iload_n (pc := 0) dJ7_copyOfRange_39247_0 rfl ?_
  refine WP.if_ne (pc := 1) (tgt := 10) dJ7_copyOfRange_39247_1 (by decide) (fun h => absurd rfl h) (fun _ => ?_)
  refine WP.iload_n (pc := 4) dJ7_copyOfRange_39247_4 rfl ?_
  refine WP.aload_n (pc := 5) dJ7_copyOfRange_39247_5 rfl ?_
  refine WP.alen (pc := 6) (kd := 12) (by decide) (by decide) hv dJ7_copyOfRange_39247_6 ?_
  refine WP.icmp_eq (pc := 7) (tgt := 17) dJ7_copyOfRange_39247_7 (by decide) (fun h => absurd ((nI_eq (by omega) (by omega)).mp h) (by omega)) (fun _ => ?_)
  refine WP.aload_n (pc := 10) dJ7_copyOfRange_39247_10 rfl ?_
  refine WP.iload_n (pc := 11) dJ7_copyOfRange_39247_11 rfl ?_
  refine WP.iload_n (pc := 12) dJ7_copyOfRange_39247_12 rfl ?_
  refine WP.cS1 (pc := 13) (mc2 := 0) (ms2 := 0) kJ7_339 (CJ7_copyOfRangeByte Γ hv hvn hy (by omega) hm hn) rfl ⟨Nat.le_of_ble_eq_true rfl, Nat.le_of_ble_eq_true rfl⟩ (Nat.le_of_ble_eq_true rfl) (Nat.le_of_ble_eq_true rfl) (Nat.le_of_ble_eq_true rfl) rfl dJ7_copyOfRange_39247_13 ?_
  exact WP.aret (pc := 16) rfl (Or.inr ⟨_, rfl⟩) dJ7_copyOfRange_39247_16 ⟨rfl, rfl⟩
theorem sI_zero {k : Nat} (h : aI σ a k = 0) : sI σ a k (0 : Int32) = σ := by
  obtain ⟨T, I, R⟩ := σ
  unfold sI
  congr 2
  funext d i
  dsimp only
  by_cases h1 : d = a ∧ i = k
  · rw [if_pos h1, h1.1, h1.2]
    exact h.symm
  · rw [if_neg h1]
theorem CJ0_init3 (h : sbC σ B0 b l v m) (ha : aT σ a = (17, 4)) (han : a < aN σ) (h0 : ∀ i, aI σ a i = 0) (hB : B0 ≤ a) (hlm : l.length < m) (hm : m ≤ 402) : Ctr Γ (4, 130, 1, 402) MJ0_init_db425 [.ref a, .ref b, .null] σ (rS (fun w τ => w = none ∧ strB τ B0 a l ∧ kpB σ τ B0)) := by
  obtain ⟨a1, a2, a3, a4, a5, a6, a7, a8, a9, a10, a11, a12⟩ := id h
  refine Ctr.go rfl (by decide) rfl rfl ?_
  refine WP.aload_n (pc := 0) dJ0_init_db425_0 rfl ?_
  refine WP.objInit (pc := 1) oJ0_1 oI oC (Nat.le_of_ble_eq_true rfl) (Nat.le_of_ble_eq_true rfl) dJ0_init_db425_1 ?_
  refine WP.aload_n (pc := 4) dJ0_init_db425_4 rfl ?_
  refine WP.cU1 (pc := 5) (mc2 := 1) (ms2 := 402) (ci := 15) kJ0_552 (CJ5_getValue Γ h) (by decide) rfl a5 rfl ⟨Nat.le_of_ble_eq_true rfl, Nat.le_of_ble_eq_true rfl⟩ (Nat.le_of_ble_eq_true rfl) (Nat.le_of_ble_eq_true rfl) (Nat.le_of_ble_eq_true rfl) rfl dJ0_init_db425_5 ?_
  refine WP.astore_n (pc := 8) dJ0_init_db425_8 (by decide) rfl ?_
  refine WP.aload_n (pc := 9) dJ0_init_db425_9 rfl ?_
  refine WP.cU1 (pc := 10) (mc2 := 1) (ms2 := 402) (ci := 15) kJ0_549 (CJ4_length Γ h) (by decide) rfl a5 rfl ⟨Nat.le_of_ble_eq_true rfl, Nat.le_of_ble_eq_true rfl⟩ (Nat.le_of_ble_eq_true rfl) (Nat.le_of_ble_eq_true rfl) (Nat.le_of_ble_eq_true rfl) rfl dJ0_init_db425_10 ?_
  refine WP.istore (pc := 13) dJ0_init_db425_13 (by decide) rfl ?_
  refine WP.aload_n (pc := 15) dJ0_init_db425_15 rfl ?_
  refine WP.cU1 (pc := 16) (mc2 := 1) (ms2 := 402) (ci := 15) kJ0_1047 (CJ5_isLatin1 Γ a5 a8) (by decide) rfl a5 rfl ⟨Nat.le_of_ble_eq_true rfl, Nat.le_of_ble_eq_true rfl⟩ (Nat.le_of_ble_eq_true rfl) (Nat.le_of_ble_eq_true rfl) (Nat.le_of_ble_eq_true rfl) rfl dJ0_init_db425_16 ?_
  refine WP.if_eq (pc := 19) (tgt := 41) dJ0_init_db425_19 (by decide) (fun h => absurd h (by decide)) (fun _ => ?_)
  refine WP.aload_n (pc := 22) dJ0_init_db425_22 rfl ?_
  refine WP.iconst (pc := 23) (v := 0) dJ0_init_db425_23 (by decide) ?_
  refine WP.putFB (pc := 24) uX16 fJ0_15 rfl rfl rfl rfl rfl ha dJ0_init_db425_24 ?_
  rw [show sI σ a 1 (0 : Int32) = σ from sI_zero (h0 1)]
  refine WP.aload_n (pc := 27) dJ0_init_db425_27 rfl ?_
  refine WP.aload_n (pc := 28) dJ0_init_db425_28 rfl ?_
  refine WP.iconst (pc := 29) (v := 0) dJ0_init_db425_29 (by decide) ?_
  refine WP.iload (pc := 30) dJ0_init_db425_30 rfl ?_
  refine WP.cS1 (pc := 32) (mc2 := 0) (ms2 := 0) kJ0_54 (CJ7_copyOfRange Γ a6 a4 a12 hlm (by omega) (by omega)) rfl ⟨Nat.le_of_ble_eq_true rfl, Nat.le_of_ble_eq_true rfl⟩ (Nat.le_of_ble_eq_true rfl) (Nat.le_of_ble_eq_true rfl) (Nat.le_of_ble_eq_true rfl) rfl dJ0_init_db425_32 ?_
  have haT : aT (cpR σ v l.length) a = (17, 4) := by
    show aT (sA σ 12 l.length) a = _
    rw [aT_sA, if_neg (by omega)]
    exact ha
  refine WP.putR (pc := 35) uX16 fJ0_9 rfl rfl rfl rfl rfl haT dJ0_init_db425_35 ?_
  refine WP.goto (pc := 38) (tgt := 97) dJ0_init_db425_38 (by decide) ?_
  refine WP.vret (pc := 97) rfl dJ0_init_db425_97 ?_
  refine ⟨none, rfl, rfl, ⟨⟨hB, by show a < aN σ + 1; omega⟩, by rw [aT_sR]; exact haT, ?_, aN σ, ⟨by omega, by show aN σ < aN σ + 1; omega⟩, by rw [aR_sR, if_pos ⟨rfl, rfl⟩], ?_, fun i c hc => ?_⟩, (kpB.sA (by omega)).trans ((kpB.sC (by omega)).trans (kpB.sR hB))⟩
  · rw [aI_sR]
    show aI (sC (sA σ 12 l.length) v (aN σ) 0 0 l.length) a 1 = 0
    rw [aI_sC, if_neg (by omega), aI_sA, if_neg (by omega)]
    exact h0 1
  · rw [aT_sR]
    show aT (sA σ 12 l.length) (aN σ) = _
    rw [aT_sA, if_pos rfl]
  · have hi := (List.getElem?_eq_some_iff.mp hc).1
    obtain ⟨c1, c2⟩ := a11 i c hc
    refine ⟨c1, ?_⟩
    rw [aI_sR]
    show aI (sC (sA σ 12 l.length) v (aN σ) 0 0 l.length) (aN σ) i = nI c
    rw [aI_sC, if_pos rfl, pk_cpy_in (by omega) (by omega), aI_sA, if_neg (by omega), show 0 + (i - 0) = i by omega]
    exact c2
theorem CJ0_init2 (h : sbC σ B0 b l v m) (ha : aT σ a = (17, 4)) (han : a < aN σ) (h0 : ∀ i, aI σ a i = 0) (hB : B0 ≤ a) (hlm : l.length < m) (hm : m ≤ 402) : Ctr Γ (5, 160, 1, 402) MJ0_init_81219 [.ref a, .ref b] σ (rS (fun w τ => w = none ∧ strB τ B0 a l ∧ kpB σ τ B0)) := by
  refine Ctr.go rfl (by decide) rfl rfl ?_
  refine WP.aload_n (pc := 0) dJ0_init_81219_0 rfl ?_
  refine WP.aload_n (pc := 1) dJ0_init_81219_1 rfl ?_
  refine WP.null (pc := 2) dJ0_init_81219_2 ?_
  refine WP.cIs (pc := 3) (mc2 := 0) (ms2 := 0) kJ0_489 (CJ0_init3 Γ h ha han h0 hB hlm hm) rfl ⟨Nat.le_of_ble_eq_true rfl, Nat.le_of_ble_eq_true rfl⟩ (Nat.le_of_ble_eq_true rfl) (Nat.le_of_ble_eq_true rfl) (Nat.le_of_ble_eq_true rfl) rfl dJ0_init_81219_3 (fun w τ ⟨hw, hs⟩ => ?_)
  subst hw
  refine WP.vret (pc := 6) rfl dJ0_init_81219_6 ?_
  exact ⟨none, rfl, rfl, hs⟩
theorem sbC.al {kd n : Nat} (h : sbC σ B0 b l v m) : sbC (sA σ kd n) B0 b l v m := by
  obtain ⟨a1, a2, a3, a4, a5, a6, a7, a8, a9, a10, a11, a12⟩ := h
  have hI : ∀ d, d < aN σ → ∀ i, aI (sA σ kd n) d i = aI σ d i := fun d hd i => by rw [aI_sA, if_neg (by omega)]
  refine ⟨a1, a2, by rw [aN_sA]; omega, by rw [aN_sA]; omega, by rw [aT_sA, if_neg (by omega)]; exact a5, by rw [aT_sA, if_neg (by omega)]; exact a6, by rw [aR_sA, if_neg (by omega)]; exact a7, by rw [hI b a3]; exact a8, by rw [hI b a3]; exact a9, a10, fun i c hc => ?_, fun i hi => ?_⟩
  · rw [hI v a4]
    exact a11 i c hc
  · rw [hI v a4]
    exact a12 i hi
theorem CJ4_toString (h : sbC σ B0 b l v m) (hlm : l.length < m) (hm : m ≤ 402) : Ctr Γ (6, 190, 2, 410) MJ4_toString_0e30d [.ref b] σ (rS (fun w τ => ∃ a, w = some (.ref a) ∧ strB τ B0 a l ∧ kpB σ τ B0)) := by
  have hB : B0 ≤ aN σ := by have := h.1; have := h.2.2.1; omega
  refine Ctr.go rfl (by decide) rfl rfl ?_
  refine WP.less (mc2 := 1 + 1) (ms2 := 402 + 4) (Nat.le_refl _) (by omega) ?_
  refine WP.new (pc := 0) (mc := 1) (ms := 402) (ci := 16) uX16 (by decide) nJ4_18 nI16 nJ16 nD16 dJ4_toString_0e30d_0 ?_
  refine WP.dup (pc := 3) dJ4_toString_0e30d_3 rfl ?_
  refine WP.aload_n (pc := 4) dJ4_toString_0e30d_4 rfl ?_
  refine WP.cIs (pc := 5) (mc2 := 0) (ms2 := 0) kJ4_137 (CJ0_init2 Γ (a := aN σ) h.al (show aT (sA σ 17 4) (aN σ) = (17, 4) from by rw [aT_sA, if_pos rfl]) (by rw [aN_sA]; omega) (fun i => by rw [aI_sA, if_pos rfl]) hB hlm hm) rfl ⟨Nat.le_of_ble_eq_true rfl, Nat.le_of_ble_eq_true rfl⟩ (Nat.le_of_ble_eq_true rfl) (Nat.le_of_ble_eq_true rfl) (Nat.le_of_ble_eq_true rfl) rfl dJ4_toString_0e30d_5 (fun w τ ⟨hw, hs, hk⟩ => ?_)
  subst hw
  exact WP.aret (pc := 8) rfl (Or.inl ⟨_, rfl⟩) dJ4_toString_0e30d_8 ⟨_, rfl, _, rfl, hs, (kpB.sA hB).trans hk⟩
-- a made String's length and letters
theorem CS_coder (h : strB σ B0 a l) : Ctr Γ (0, 0, 0, 0) MJ0_coder_7d493 [.ref a] σ (rV (some (.int 0)) σ) := by
  refine Ctr.go rfl (by decide) rfl rfl ?_
  refine WP.gstC (pc := 0) sJ0_38 dJ0_coder_7d493_0 ?_
  refine WP.if_eq (pc := 3) (tgt := 13) dJ0_coder_7d493_3 (by decide) (fun h => absurd h (by decide)) (fun _ => ?_)
  refine WP.aload_n (pc := 6) dJ0_coder_7d493_6 rfl ?_
  refine WP.gIs (pc := 7) uX16 fJ0_15 h.2.1 h.2.2.1 dJ0_coder_7d493_7 ?_
  refine WP.goto (pc := 10) (tgt := 14) dJ0_coder_7d493_10 (by decide) ?_
  exact WP.zret (pc := 14) rfl (by decide) dJ0_coder_7d493_14 ⟨rfl, rfl⟩
theorem CS_length (h : strB σ B0 a l) : Ctr Γ (1, 20, 0, 0) MJ0_length_8abf5 [.ref a] σ (rV (some (.int (nI l.length))) σ) := by
  obtain ⟨h1, h2, h3, u, hu, h4, h5, h6⟩ := id h
  refine Ctr.go rfl (by decide) rfl rfl ?_
  refine WP.aload_n (pc := 0) dJ0_length_8abf5_0 rfl ?_
  refine WP.gRs (pc := 1) uX16 fJ0_9 h2 h4 dJ0_length_8abf5_1 ?_
  refine WP.alen (pc := 4) (kd := 12) (by decide) (by decide) h5 dJ0_length_8abf5_4 ?_
  refine WP.aload_n (pc := 5) dJ0_length_8abf5_5 rfl ?_
  refine WP.cV1 (pc := 6) (mc2 := 0) (ms2 := 0) (ci := 16) kJ0_335 (CS_coder Γ h) (by decide) rfl h2 rfl ⟨Nat.le_of_ble_eq_true rfl, Nat.le_of_ble_eq_true rfl⟩ (Nat.le_of_ble_eq_true rfl) (Nat.le_of_ble_eq_true rfl) (Nat.le_of_ble_eq_true rfl) rfl dJ0_length_8abf5_6 ?_
  refine WP.ishr (pc := 9) dJ0_length_8abf5_9 ?_
  rw [show nI l.length >>> ((0 : Int32) &&& 31) = nI l.length from by simp]
  exact WP.iret (pc := 10) rfl dJ0_length_8abf5_10 ⟨rfl, rfl⟩
theorem CS_isLatin1 (h : strB σ B0 a l) : Ctr Γ (0, 0, 0, 0) MJ0_isLatin1_aae02 [.ref a] σ (rV (some (.int 1)) σ) := by
  refine Ctr.go rfl (by decide) rfl rfl ?_
  refine WP.gstC (pc := 0) sJ0_38 dJ0_isLatin1_aae02_0 ?_
  refine WP.if_eq (pc := 3) (tgt := 17) dJ0_isLatin1_aae02_3 (by decide) (fun h => absurd h (by decide)) (fun _ => ?_)
  refine WP.aload_n (pc := 6) dJ0_isLatin1_aae02_6 rfl ?_
  refine WP.gIs (pc := 7) uX16 fJ0_15 h.2.1 h.2.2.1 dJ0_isLatin1_aae02_7 ?_
  refine WP.if_ne (pc := 10) (tgt := 17) dJ0_isLatin1_aae02_10 (by decide) (fun h => absurd rfl h) (fun _ => ?_)
  refine WP.iconst (pc := 13) (v := 1) dJ0_isLatin1_aae02_13 (by decide) ?_
  refine WP.goto (pc := 14) (tgt := 18) dJ0_isLatin1_aae02_14 (by decide) ?_
  exact WP.zret (pc := 18) rfl (by decide) dJ0_isLatin1_aae02_18 ⟨rfl, rfl⟩
theorem by_char : ∀ c, c < 128 → ((nI c &&& 255).toUInt32 % 65536).toInt32 = nI c := by decide +kernel
theorem CS_charAt {i c : Nat} (h : strB σ B0 a l) (hl : l.length ≤ 1000) (hc : l[i]? = some c) : Ctr Γ (4, 85, 0, 0) MJ0_charAt_5068e [.ref a, .int (nI i)] σ (rV (some (.int (nI c))) σ) := by
  obtain ⟨h1, h2, h3, u, hu, h4, h5, h6⟩ := id h
  have hi := (List.getElem?_eq_some_iff.mp hc).1
  obtain ⟨c1, c2⟩ := h6 i c hc
  have hC : Ctr Γ (2, 43, 0, 0) MJ1_charAt_3b067 [.ref u, .int (nI i)] σ (rV (some (.int (nI c))) σ) := by
    refine Ctr.go rfl (by decide) rfl rfl ?_
    refine WP.iload_n (pc := 0) dJ1_charAt_3b067_0 rfl ?_
    refine WP.aload_n (pc := 1) dJ1_charAt_3b067_1 rfl ?_
    refine WP.alen (pc := 2) (kd := 12) (by decide) (by decide) h5 dJ1_charAt_3b067_2 ?_
    refine WP.cS0 (pc := 3) (mc2 := 0) (ms2 := 0) kJ1_9 (CJ_check0 Γ σ hi (by omega)) rfl ⟨Nat.le_of_ble_eq_true rfl, Nat.le_of_ble_eq_true rfl⟩ (Nat.le_of_ble_eq_true rfl) (Nat.le_of_ble_eq_true rfl) (Nat.le_of_ble_eq_true rfl) rfl dJ1_charAt_3b067_3 ?_
    refine WP.aload_n (pc := 6) dJ1_charAt_3b067_6 rfl ?_
    refine WP.iload_n (pc := 7) dJ1_charAt_3b067_7 rfl ?_
    refine WP.baload (pc := 8) h5 (cVin hi (by omega)) dJ1_charAt_3b067_8 ?_
    rw [cClamp hi (by omega), c2]
    refine WP.sipush (pc := 9) (v := 255) dJ1_charAt_3b067_9 (by decide) ?_
    refine WP.iand (pc := 12) dJ1_charAt_3b067_12 ?_
    refine WP.i2c (pc := 13) dJ1_charAt_3b067_13 ?_
    rw [show ((nI c &&& 255).toUInt32 % 65536).toInt32 = nI c from by_char c c1]
    exact WP.zret (pc := 14) rfl (by_fact c c1).2.2.2 dJ1_charAt_3b067_14 ⟨rfl, rfl⟩
  refine Ctr.go rfl (by decide) rfl rfl ?_
  refine WP.aload_n (pc := 0) dJ0_charAt_5068e_0 rfl ?_
  refine WP.cV1 (pc := 1) (mc2 := 0) (ms2 := 0) (ci := 16) kJ0_492 (CS_isLatin1 Γ h) (by decide) rfl h2 rfl ⟨Nat.le_of_ble_eq_true rfl, Nat.le_of_ble_eq_true rfl⟩ (Nat.le_of_ble_eq_true rfl) (Nat.le_of_ble_eq_true rfl) (Nat.le_of_ble_eq_true rfl) rfl dJ0_charAt_5068e_1 ?_
  refine WP.if_eq (pc := 4) (tgt := 16) dJ0_charAt_5068e_4 (by decide) (fun h => absurd h (by decide)) (fun _ => ?_)
  refine WP.aload_n (pc := 7) dJ0_charAt_5068e_7 rfl ?_
  refine WP.gRs (pc := 8) uX16 fJ0_9 h2 h4 dJ0_charAt_5068e_8 ?_
  refine WP.iload_n (pc := 11) dJ0_charAt_5068e_11 rfl ?_
  refine WP.cS1 (pc := 12) (mc2 := 0) (ms2 := 0) kJ0_495 hC rfl ⟨Nat.le_of_ble_eq_true rfl, Nat.le_of_ble_eq_true rfl⟩ (Nat.le_of_ble_eq_true rfl) (Nat.le_of_ble_eq_true rfl) (Nat.le_of_ble_eq_true rfl) rfl dJ0_charAt_5068e_12 ?_
  exact WP.zret (pc := 15) rfl (by_fact c c1).2.2.2 dJ0_charAt_5068e_15 ⟨rfl, rfl⟩
end T
