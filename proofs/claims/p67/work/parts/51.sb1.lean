-- java.lang.StringBuilder over Latin-1 letters below 128
theorem by_fact : ∀ c, c < 128 → fits .byte (.int (nI c)) = true ∧ (nI c).toInt8.toInt32 = nI c ∧ ¬ (255 : Int32) < nI c ∧ narrow .char (.int (nI c)) = .int (nI c) := by decide +kernel
def byO (σ : cAS) (v m : Nat) : Prop := ∀ i, i < m → ∃ c, c < 128 ∧ aI σ v i = nI c
def sbC (σ : cAS) (B0 b : Nat) (l : List Nat) (v m : Nat) : Prop := B0 ≤ b ∧ B0 ≤ v ∧ b < aN σ ∧ v < aN σ ∧ aT σ b = (16, 4) ∧ aT σ v = (12, m) ∧ aR σ b 0 = some v ∧ aI σ b 1 = 0 ∧ aI σ b 3 = nI l.length ∧ l.length ≤ m ∧ (∀ i c, l[i]? = some c → c < 128 ∧ aI σ v i = nI c) ∧ byO σ v m
def kpB (σ τ : cAS) (B0 : Nat) : Prop := aN σ ≤ aN τ ∧ ∀ d, d < B0 → aT τ d = aT σ d ∧ aI τ d = aI σ d ∧ aR τ d = aR σ d ∧ aL τ d = aL σ d
theorem kpB.rf {σ : cAS} {B0 : Nat} : kpB σ σ B0 := ⟨Nat.le_refl _, fun _ _ => ⟨rfl, rfl, rfl, rfl⟩⟩
theorem kpB.trans {σ τ υ : cAS} {B0 : Nat} (h : kpB σ τ B0) (h' : kpB τ υ B0) : kpB σ υ B0 := ⟨Nat.le_trans h.1 h'.1, fun d hd => by
  obtain ⟨a1, a2, a3, a4⟩ := h.2 d hd
  obtain ⟨b1, b2, b3, b4⟩ := h'.2 d hd
  exact ⟨b1.trans a1, b2.trans a2, b3.trans a3, b4.trans a4⟩⟩
theorem kpB.sI {σ : cAS} {B0 a k : Nat} {x : Int32} (h : B0 ≤ a) : kpB σ (sI σ a k x) B0 := ⟨Nat.le_refl _, fun d hd => ⟨rfl, funext fun j => by rw [aI_sI, if_neg (fun q => by have := q.1; omega)], rfl, rfl⟩⟩
theorem kpB.sR {σ : cAS} {B0 a k : Nat} {x : Option Nat} (h : B0 ≤ a) : kpB σ (sR σ a k x) B0 := ⟨Nat.le_refl _, fun d hd => ⟨rfl, rfl, funext fun j => by rw [aR_sR, if_neg (fun q => by have := q.1; omega)], rfl⟩⟩
theorem kpB.sC {σ : cAS} {B0 a0 a sp dp n : Nat} (h : B0 ≤ a) : kpB σ (sC σ a0 a sp dp n) B0 := ⟨Nat.le_refl _, fun d hd => ⟨rfl, funext fun j => by rw [aI_sC, if_neg (by omega)], rfl, rfl⟩⟩
theorem kpB.sA {σ : cAS} {B0 kd n : Nat} (h : B0 ≤ aN σ) : kpB σ (sA σ kd n) B0 := ⟨by rw [aN_sA]; omega, fun d hd => ⟨by rw [aT_sA, if_neg (by omega)], funext fun j => by rw [aI_sA, if_neg (by omega)], funext fun j => by rw [aR_sA, if_neg (by omega)], funext fun j => by show (if d = aN σ then _ else _) = _; rw [if_neg (by omega)]; rfl⟩⟩
section T
variable (Γ : cG) {σ : cAS} {B0 b v m : Nat} {l : List Nat}
theorem CJ5_isLatin1 (hb : aT σ b = (16, 4)) (hc : aI σ b 1 = 0) : Ctr Γ (0, 0, 0, 0) MJ5_isLatin1_aae02 [.ref b] σ (rV (some (.int 1)) σ) := by
  refine Ctr.go rfl (by decide) rfl rfl ?_
  refine WP.gstC (pc := 0) sJ5_18 dJ5_isLatin1_aae02_0 ?_
  refine WP.if_eq (pc := 3) (tgt := 17) dJ5_isLatin1_aae02_3 (by decide) (fun h => absurd h (by decide)) (fun _ => ?_)
  refine WP.aload_n (pc := 6) dJ5_isLatin1_aae02_6 rfl ?_
  refine WP.gIs (pc := 7) uX15 fJ5_22 hb hc dJ5_isLatin1_aae02_7 ?_
  refine WP.if_ne (pc := 10) (tgt := 17) dJ5_isLatin1_aae02_10 (by decide) (fun h => absurd rfl h) (fun _ => ?_)
  refine WP.iconst (pc := 13) (v := 1) dJ5_isLatin1_aae02_13 (by decide) ?_
  refine WP.goto (pc := 14) (tgt := 18) dJ5_isLatin1_aae02_14 (by decide) ?_
  exact WP.zret (pc := 18) rfl (by decide) dJ5_isLatin1_aae02_18 ⟨rfl, rfl⟩
theorem CJ8_newLength {a g p : Nat} (ha : a ≤ 1000) (hg : g ≤ 1000) (hp : p ≤ 2000) (hgp : g ≤ p) (h0 : 0 < p) : Ctr Γ (1, 30, 0, 0) MJ8_newLength_cabcc [.int (nI a), .int (nI g), .int (nI p)] σ (rV (some (.int (nI (a + p)))) σ) := by
  refine Ctr.go rfl (by decide) rfl rfl ?_
  refine WP.iload_n (pc := 0) dJ8_newLength_cabcc_0 rfl ?_
  refine WP.iload_n (pc := 1) dJ8_newLength_cabcc_1 rfl ?_
  refine WP.iload_n (pc := 2) dJ8_newLength_cabcc_2 rfl ?_
  refine WP.mmax (pc := 3) kJ8_194 (Nat.le_of_ble_eq_true rfl) (Nat.le_of_ble_eq_true rfl) dJ8_newLength_cabcc_3 ?_
  rw [show (if nI g < nI p then nI p else nI g) = nI p from by
    by_cases e : g = p
    · rw [e]; exact ite_self _
    · rw [if_pos (nI_lt (by omega) (by omega))]]
  refine WP.iadd (pc := 6) dJ8_newLength_cabcc_6 ?_
  rw [nI_add]
  refine WP.istore_n (pc := 7) dJ8_newLength_cabcc_7 (by decide) rfl ?_
  refine WP.iconst (pc := 8) (v := 0) dJ8_newLength_cabcc_8 (by decide) ?_
  refine WP.iload_n (pc := 9) dJ8_newLength_cabcc_9 rfl ?_
  refine WP.icmp_ge (pc := 10) (tgt := 21) dJ8_newLength_cabcc_10 (by decide) (fun h => ?_) (fun h => ?_)
  · exact absurd h (nI_nle (by omega) (by omega))
  · refine WP.iload_n (pc := 13) dJ8_newLength_cabcc_13 rfl ?_
    refine WP.ldc (pc := 14) qJ8_200 dJ8_newLength_cabcc_14 ?_
    refine WP.icmp_gt (pc := 16) (tgt := 21) dJ8_newLength_cabcc_16 (by decide) (fun h2 => ?_) (fun h2 => ?_)
    · exact absurd h2 (show ¬ nI 2147483639 < nI (a + p) from nI_nlt (by omega) (by decide))
    · refine WP.iload_n (pc := 19) dJ8_newLength_cabcc_19 rfl ?_
      refine WP.iret (pc := 20) rfl dJ8_newLength_cabcc_20 ?_
      exact ⟨rfl, rfl⟩
theorem CJ5_newCapacity {q : Nat} (h : sbC σ B0 b l v m) (hm : m ≤ 200) (hq : q ≤ 2 * m + 2) (hmq : m < q) : Ctr Γ (3, 80, 0, 0) MJ5_newCapacity_0f7a4 [.ref b, .int (nI q)] σ (rV (some (.int (nI (2 * m + 2)))) σ) := by
  obtain ⟨a1, a2, a3, a4, a5, a6, a7, a8, a9, a10, a11, a12⟩ := h
  refine Ctr.go rfl (by decide) rfl rfl ?_
  refine WP.aload_n (pc := 0) dJ5_newCapacity_0f7a4_0 rfl ?_
  refine WP.gRs (pc := 1) uX15 fJ5_15 a5 a7 dJ5_newCapacity_0f7a4_1 ?_
  refine WP.alen (pc := 4) (kd := 12) (by decide) (by decide) a6 dJ5_newCapacity_0f7a4_4 ?_
  refine WP.istore_n (pc := 5) dJ5_newCapacity_0f7a4_5 (by decide) rfl ?_
  refine WP.iload_n (pc := 6) dJ5_newCapacity_0f7a4_6 rfl ?_
  refine WP.aload_n (pc := 7) dJ5_newCapacity_0f7a4_7 rfl ?_
  refine WP.gIs (pc := 8) uX15 fJ5_22 a5 a8 dJ5_newCapacity_0f7a4_8 ?_
  refine WP.ishl (pc := 11) dJ5_newCapacity_0f7a4_11 ?_
  rw [show nI q <<< ((0 : Int32) &&& 31) = nI q from by simp]
  refine WP.istore_n (pc := 12) dJ5_newCapacity_0f7a4_12 (by decide) rfl ?_
  refine WP.iload_n (pc := 13) dJ5_newCapacity_0f7a4_13 rfl ?_
  refine WP.iload_n (pc := 14) dJ5_newCapacity_0f7a4_14 rfl ?_
  refine WP.isub (pc := 15) dJ5_newCapacity_0f7a4_15 ?_
  rw [pk_sub (by omega : m ≤ q)]
  refine WP.istore (pc := 16) dJ5_newCapacity_0f7a4_16 (by decide) rfl ?_
  refine WP.iload_n (pc := 18) dJ5_newCapacity_0f7a4_18 rfl ?_
  refine WP.iload (pc := 19) dJ5_newCapacity_0f7a4_19 rfl ?_
  refine WP.iload_n (pc := 21) dJ5_newCapacity_0f7a4_21 rfl ?_
  refine WP.iconst (pc := 22) (v := 2) dJ5_newCapacity_0f7a4_22 (by decide) ?_
  refine WP.aload_n (pc := 23) dJ5_newCapacity_0f7a4_23 rfl ?_
  refine WP.gIs (pc := 24) uX15 fJ5_22 a5 a8 dJ5_newCapacity_0f7a4_24 ?_
  refine WP.ishl (pc := 27) dJ5_newCapacity_0f7a4_27 ?_
  rw [show (2 : Int32) <<< ((0 : Int32) &&& 31) = nI 2 from by decide]
  refine WP.iadd (pc := 28) dJ5_newCapacity_0f7a4_28 ?_
  rw [nI_add]
  refine WP.cS1 (pc := 29) (mc2 := 0) (ms2 := 0) kJ5_114 (CJ8_newLength Γ (by omega) (by omega) (by omega) (by omega) (by omega)) rfl ⟨Nat.le_of_ble_eq_true rfl, Nat.le_of_ble_eq_true rfl⟩ (Nat.le_of_ble_eq_true rfl) (Nat.le_of_ble_eq_true rfl) (Nat.le_of_ble_eq_true rfl) rfl dJ5_newCapacity_0f7a4_29 ?_
  rw [show m + (m + 2) = 2 * m + 2 by omega]
  refine WP.istore (pc := 32) dJ5_newCapacity_0f7a4_32 (by decide) rfl ?_
  refine WP.iload (pc := 34) dJ5_newCapacity_0f7a4_34 rfl ?_
  refine WP.ldc (pc := 36) qJ5_39 dJ5_newCapacity_0f7a4_36 ?_
  refine WP.icmp_ne (pc := 38) (tgt := 51) dJ5_newCapacity_0f7a4_38 (by decide) (fun h2 => ?_) (fun h2 => ?_)
  · refine WP.iload (pc := 51) dJ5_newCapacity_0f7a4_51 rfl ?_
    refine WP.aload_n (pc := 53) dJ5_newCapacity_0f7a4_53 rfl ?_
    refine WP.gIs (pc := 54) uX15 fJ5_22 a5 a8 dJ5_newCapacity_0f7a4_54 ?_
    refine WP.ishr (pc := 57) dJ5_newCapacity_0f7a4_57 ?_
    rw [show nI (2 * m + 2) >>> ((0 : Int32) &&& 31) = nI (2 * m + 2) from by simp]
    refine WP.iret (pc := 58) rfl dJ5_newCapacity_0f7a4_58 ?_
    exact ⟨rfl, rfl⟩
  · exact absurd ((nI_eq (by omega) (by decide)).mp (show nI (2 * m + 2) = nI 2147483647 from h2)) (by omega)
/-- a row of bytes copied into a new one -/
abbrev cpN (σ : cAS) (v m q : Nat) : cAS := sC (sA σ 12 q) v (aN σ) 0 0 m
theorem CJ7_copyOf {q : Nat} (hv : aT σ v = (12, m)) (hvn : v < aN σ) (hy : byO σ v m) (hmq : m < q) (hq : q ≤ 402) : Ctr Γ (2, 60, 1, 402) MJ7_copyOf_9075b [.ref v, .int (nI q)] σ (rV (some (.ref (aN σ))) (cpN σ v m q)) := by
  have hv2 : aT (sA σ 12 q) v = (12, m) := by rw [aT_sA, if_neg (by omega)]; exact hv
  refine Ctr.go rfl (by decide) rfl rfl ?_
  refine WP.iload_n (pc := 0) dJ7_copyOf_9075b_0 rfl ?_
  refine WP.aload_n (pc := 1) dJ7_copyOf_9075b_1 rfl ?_
  refine WP.alen (pc := 2) (kd := 12) (by decide) (by decide) hv dJ7_copyOf_9075b_2 ?_
  refine WP.icmp_ne (pc := 3) (tgt := 14) dJ7_copyOf_9075b_3 (by decide) (fun _ => ?_) (fun h => absurd ((nI_eq (by omega) (by omega)).mp h) (by omega))
  refine WP.iload_n (pc := 14) dJ7_copyOf_9075b_14 rfl ?_
  refine WP.less (mc2 := 0 + 1) (ms2 := 0 + q) (Nat.le_refl _) (by omega) ?_
  refine WP.newarr (pc := 15) (kd := 12) (mc := 0) (ms := 0) (n := q) (by decide) (by decide) rfl nA12 (nI_pos (by omega)) (nI_clamp (by omega)) (by omega) dJ7_copyOf_9075b_15 ?_
  refine WP.astore_n (pc := 17) dJ7_copyOf_9075b_17 (by decide) rfl ?_
  refine WP.aload_n (pc := 18) dJ7_copyOf_9075b_18 rfl ?_
  refine WP.iconst (pc := 19) (v := 0) dJ7_copyOf_9075b_19 (by decide) ?_
  refine WP.aload_n (pc := 20) dJ7_copyOf_9075b_20 rfl ?_
  refine WP.iconst (pc := 21) (v := 0) dJ7_copyOf_9075b_21 (by decide) ?_
  refine WP.aload_n (pc := 22) dJ7_copyOf_9075b_22 rfl ?_
  refine WP.alen (pc := 23) (kd := 12) (by decide) (by decide) hv2 dJ7_copyOf_9075b_23 ?_
  refine WP.iload_n (pc := 24) dJ7_copyOf_9075b_24 rfl ?_
  refine WP.mmin (pc := 25) kJ7_304 (Nat.le_of_ble_eq_true rfl) (Nat.le_of_ble_eq_true rfl) dJ7_copyOf_9075b_25 ?_
  rw [if_neg (nI_nlt (by omega) (by omega))]
  have en : (nI m).toNatClampNeg = m := nI_clamp (by omega)
  refine WP.copyB (pc := 28) aJ7_150 aN1 aN2 aN3 hv2 (show aT (sA σ 12 q) (aN σ) = (12, q) from by rw [aT_sA, if_pos rfl]) (by decide) (by decide) (nI_pos (by omega)) (by rw [en]; exact Nat.le_of_eq (Nat.zero_add m)) (by rw [en]; show 0 + m ≤ q; omega) (fun i hi => ?_) (Nat.le_of_ble_eq_true rfl) (Nat.le_of_ble_eq_true rfl) dJ7_copyOf_9075b_28 ?_
  · rw [en] at hi
    obtain ⟨c, hc, e⟩ := hy i hi
    rw [show (0 : Int32).toNatClampNeg + i = i from Nat.zero_add i, aI_sA, if_neg (by omega), e]
    exact (by_fact c hc).1
  rw [en]
  refine WP.aload_n (pc := 31) dJ7_copyOf_9075b_31 rfl ?_
  exact WP.aret (pc := 32) rfl (Or.inr ⟨_, rfl⟩) dJ7_copyOf_9075b_32 ⟨rfl, rfl⟩
theorem sbC.grow {q : Nat} (h : sbC σ B0 b l v m) (hq : m ≤ q) : sbC (sR (cpN σ v m q) b 0 (some (aN σ))) B0 b l (aN σ) q ∧ kpB σ (sR (cpN σ v m q) b 0 (some (aN σ))) B0 := by
  obtain ⟨a1, a2, a3, a4, a5, a6, a7, a8, a9, a10, a11, a12⟩ := h
  have hI : ∀ i, aI (sR (cpN σ v m q) b 0 (some (aN σ))) (aN σ) i = if i < m then aI σ v i else 0 := fun i => by
    rw [aI_sR]
    show aI (sC (sA σ 12 q) v (aN σ) 0 0 m) (aN σ) i = _
    rw [aI_sC, if_pos rfl]
    by_cases e : i < m
    · rw [pk_cpy_in (by omega) (by omega), aI_sA, if_neg (by omega), if_pos e, show 0 + (i - 0) = i by omega]
    · rw [pk_cpy_out (by omega), aI_sA, if_pos rfl, if_neg e]
  have ho : ∀ d, d < aN σ → aI (sR (cpN σ v m q) b 0 (some (aN σ))) d = aI σ d := fun d hd => funext fun i => by
    rw [aI_sR]
    show aI (sC (sA σ 12 q) v (aN σ) 0 0 m) d i = _
    rw [aI_sC, if_neg (by omega), aI_sA, if_neg (by omega)]
  have hT : ∀ d, aT (sR (cpN σ v m q) b 0 (some (aN σ))) d = if d = aN σ then (12, q) else aT σ d := fun d => by
    rw [aT_sR]
    show aT (sC (sA σ 12 q) v (aN σ) 0 0 m) d = _
    rw [aT_sC, aT_sA]
  refine ⟨⟨a1, by omega, by show b < aN σ + 1; omega, by show aN σ < aN σ + 1; omega, by rw [hT, if_neg (by omega)]; exact a5, by rw [hT, if_pos rfl], by rw [aR_sR, if_pos ⟨rfl, rfl⟩], by rw [ho b a3]; exact a8, by rw [ho b a3]; exact a9, by omega, fun i c hc => ?_, fun i hi => ?_⟩, (kpB.sA (by omega)).trans ((kpB.sC (by omega)).trans (kpB.sR a1))⟩
  · have hi := (List.getElem?_eq_some_iff.mp hc).1
    obtain ⟨c1, c2⟩ := a11 i c hc
    exact ⟨c1, by rw [hI, if_pos (by omega)]; exact c2⟩
  · by_cases e : i < m
    · obtain ⟨c, c1, c2⟩ := a12 i e
      exact ⟨c, c1, by rw [hI, if_pos e]; exact c2⟩
    · exact ⟨0, by omega, by rw [hI, if_neg e]; rfl⟩
abbrev gwN (q m : Nat) : Nat := if q ≤ m then m else 2 * m + 2
theorem CJ5_ensure {q : Nat} (h : sbC σ B0 b l v m) (hm : m ≤ 200) (hq : q ≤ 2 * m + 2) : Ctr Γ (4, 110, 1, 402) MJ5_ensureCapacityInternal_d00df [.ref b, .int (nI q)] σ (rS (fun w τ => w = none ∧ (∃ v', sbC τ B0 b l v' (gwN q m)) ∧ kpB σ τ B0)) := by
  have h0 := h
  obtain ⟨a1, a2, a3, a4, a5, a6, a7, a8, a9, a10, a11, a12⟩ := h
  refine Ctr.go rfl (by decide) rfl rfl ?_
  refine WP.aload_n (pc := 0) dJ5_ensureCapacityInternal_d00df_0 rfl ?_
  refine WP.gRs (pc := 1) uX15 fJ5_15 a5 a7 dJ5_ensureCapacityInternal_d00df_1 ?_
  refine WP.alen (pc := 4) (kd := 12) (by decide) (by decide) a6 dJ5_ensureCapacityInternal_d00df_4 ?_
  refine WP.aload_n (pc := 5) dJ5_ensureCapacityInternal_d00df_5 rfl ?_
  refine WP.gIs (pc := 6) uX15 fJ5_22 a5 a8 dJ5_ensureCapacityInternal_d00df_6 ?_
  refine WP.ishr (pc := 9) dJ5_ensureCapacityInternal_d00df_9 ?_
  rw [show nI m >>> ((0 : Int32) &&& 31) = nI m from by simp]
  refine WP.istore_n (pc := 10) dJ5_ensureCapacityInternal_d00df_10 (by decide) rfl ?_
  refine WP.iload_n (pc := 11) dJ5_ensureCapacityInternal_d00df_11 rfl ?_
  refine WP.iload_n (pc := 12) dJ5_ensureCapacityInternal_d00df_12 rfl ?_
  refine WP.isub (pc := 13) dJ5_ensureCapacityInternal_d00df_13 ?_
  by_cases hqm : q ≤ m
  · refine WP.if_le (pc := 14) (tgt := 38) dJ5_ensureCapacityInternal_d00df_14 (by decide) (fun _ => ?_) (fun h2 => ?_)
    · refine WP.vret (pc := 38) rfl dJ5_ensureCapacityInternal_d00df_38 ?_
      exact ⟨none, rfl, rfl, ⟨v, by rw [gwN, if_pos hqm]; exact h0⟩, kpB.rf⟩
    · refine absurd ?_ h2
      rw [Int32.le_iff_toInt_le, pk_sub_toInt (by omega) (by omega), Int32.toInt_zero]
      omega
  · rw [pk_sub (by omega : m ≤ q)]
    refine WP.if_le (pc := 14) (tgt := 38) dJ5_ensureCapacityInternal_d00df_14 (by decide) (fun h2 => absurd h2 (nI_nle (by omega) (by omega))) (fun _ => ?_)
    refine WP.aload_n (pc := 17) dJ5_ensureCapacityInternal_d00df_17 rfl ?_
    refine WP.aload_n (pc := 18) dJ5_ensureCapacityInternal_d00df_18 rfl ?_
    refine WP.gRs (pc := 19) uX15 fJ5_15 a5 a7 dJ5_ensureCapacityInternal_d00df_19 ?_
    refine WP.aload_n (pc := 22) dJ5_ensureCapacityInternal_d00df_22 rfl ?_
    refine WP.iload_n (pc := 23) dJ5_ensureCapacityInternal_d00df_23 rfl ?_
    refine WP.cU1 (pc := 24) (mc2 := 1) (ms2 := 402) (ci := 15) kJ5_104 (CJ5_newCapacity Γ h0 hm hq (by omega)) (by decide) rfl a5 rfl ⟨Nat.le_of_ble_eq_true rfl, Nat.le_of_ble_eq_true rfl⟩ (Nat.le_of_ble_eq_true rfl) (Nat.le_of_ble_eq_true rfl) (Nat.le_of_ble_eq_true rfl) rfl dJ5_ensureCapacityInternal_d00df_24 ?_
    refine WP.aload_n (pc := 27) dJ5_ensureCapacityInternal_d00df_27 rfl ?_
    refine WP.gIs (pc := 28) uX15 fJ5_22 a5 a8 dJ5_ensureCapacityInternal_d00df_28 ?_
    refine WP.ishl (pc := 31) dJ5_ensureCapacityInternal_d00df_31 ?_
    rw [show nI (2 * m + 2) <<< ((0 : Int32) &&& 31) = nI (2 * m + 2) from by simp]
    refine WP.cS1 (pc := 32) (mc2 := 0) (ms2 := 0) kJ5_108 (CJ7_copyOf Γ a6 a4 a12 (by omega) (by omega)) rfl ⟨Nat.le_of_ble_eq_true rfl, Nat.le_of_ble_eq_true rfl⟩ (Nat.le_of_ble_eq_true rfl) (Nat.le_of_ble_eq_true rfl) (Nat.le_of_ble_eq_true rfl) rfl dJ5_ensureCapacityInternal_d00df_32 ?_
    have hbT : aT (cpN σ v m (2 * m + 2)) b = (16, 4) := by
      show aT (sA σ 12 (2 * m + 2)) b = _
      rw [aT_sA, if_neg (by omega)]
      exact a5
    refine WP.putRn (pc := 35) uX15 fJ5_15 rfl rfl rfl hbT dJ5_ensureCapacityInternal_d00df_35 ?_
    refine WP.vret (pc := 38) rfl dJ5_ensureCapacityInternal_d00df_38 ?_
    obtain ⟨g1, g2⟩ := h0.grow (q := 2 * m + 2) (by omega)
    exact ⟨none, rfl, rfl, ⟨_, by rw [gwN, if_neg hqm]; exact g1⟩, g2⟩
end T
