-- behind: 69.xj 59 60 63 66
-- the constructor of the model
def mkM (σ τ : cAS) (m j : Nat) (z : Nat → Int32) : Prop := aN τ = m + j ∧ keepB σ τ m ∧ (∀ d, m < d → d < aN τ → aI τ d = fun _ => 0) ∧ aI τ m = z ∧ (∀ k, k < 12 → k < j → aT τ (m + k) = shMT k) ∧ ∀ q ∈ shMR, q.2.2 < j → aR τ (m + q.1) q.2.1 = some (m + q.2.2)
theorem mkM.arr {σ τ : cAS} {m j f kd n : Nat} {z : Nat → Int32} (h : mkM σ τ m j z) (h0 : 0 < j) (hT : shMT j = (kd, n)) (hq : ∀ q ∈ shMR, q.2.2 < j + 1 → (q.2.2 < j ∧ q.1 = 0 ∧ q.2.1 ≠ f) ∨ q = (0, f, j)) : mkM σ (sR (sA τ kd n) m f (some (aN τ))) m (j + 1) z := by
  obtain ⟨a1, a2, a3, a4, a5, a6⟩ := h
  refine ⟨by show aN τ + 1 = _; omega, fun d hd => ?_, fun d c1 c2 => ?_, (saIo (σ := τ) (kd := kd) (n := n) (by omega)).trans a4, fun k c1 c2 => ?_, fun q hq' c => ?_⟩
  · obtain ⟨b1, b2, b3, b4⟩ := a2 d hd
    exact ⟨(saTo (σ := τ) (kd := kd) (n := n) (by omega)).trans b1, (saIo (σ := τ) (kd := kd) (n := n) (by omega)).trans b2, (funext fun i => (srRo (by omega)).trans (saRo (σ := τ) (by omega))).trans b3, (saLo (σ := τ) (kd := kd) (n := n) (by omega)).trans b4⟩
  · show aI (sA τ kd n) d = _
    by_cases e : d = aN τ
    · exact funext fun i => if_pos e
    · rw [saIo e]
      exact a3 d c1 (by have : d < aN τ + 1 := c2; omega)
  · show aT (sA τ kd n) (m + k) = _
    by_cases e : k = j
    · subst e
      rw [saTs a1.symm, hT]
    · rw [saTo (by omega)]
      exact a5 k c1 (by omega)
  · rcases hq q hq' c with ⟨e1, e2, e3⟩ | rfl
    · rw [srRo (fun w => e3 w.2), saRo (by omega)]
      exact a6 q hq' e1
    · show aR _ m f = _
      rw [srR, a1]
theorem shMR_of {P : Nat × Nat × Nat → Prop} (h : ∀ q, q = (0, 0, 1) ∨ q = (0, 1, 2) ∨ q = (0, 2, 3) ∨ q = (0, 3, 4) ∨ q = (0, 4, 5) ∨ q = (0, 5, 6) ∨ q = (0, 9, 7) ∨ q = (0, 10, 8) ∨ q = (0, 15, 9) ∨ q = (0, 16, 10) ∨ q = (0, 25, 11) → P q) : ∀ q ∈ shMR, P q := fun q hq => h q (by simpa [shMR] using hq)
theorem mkM.shM {σ τ : cAS} {m : Nat} {z : Nat → Int32} (h : mkM σ τ m 12 z) : shM τ m := by
  obtain ⟨a1, a2, a3, a4, a5, a6⟩ := h
  have hk : ∀ k ∈ [0, 1, 2, 3, 4, 5, 6, 7, 8, 9, 10, 11], k < 12 := by decide
  have hq : ∀ q ∈ shMR, q.2.2 < 12 := by decide
  exact ⟨fun k h => a5 k (hk k h) (hk k h), fun q h => a6 q h (hq q h)⟩
theorem t23_len : cTL 23 = cTL 0 := by decide +kernel
theorem t23_tx : ∀ j, j < cTL 0 → (cTB 23 j).toNatClampNeg < 128 ∧ cTB 23 j = nI (cTB 23 j).toNatClampNeg ∧ cTB 0 j = cTB 23 j := by decide +kernel
theorem t0_ok : (sdRead (fun i => cTB 0 i) (cTL 0) (mS0 (fun _ => 0))).2.1 = 0 ∧ (sdRead (fun i => cTB 0 i) (cTL 0) (mS0 (fun _ => 0))).2.2.1 = -1 := by decide +kernel
def miP (σ : cAS) (m : Nat) : cRes → cAS → Prop := fun r τ => r = .inl none ∧ keepB σ τ m ∧ aN τ = m + 12 ∧ shM τ m ∧ mdI (aI τ) m m00
section T
variable (Γ : cG) {σ : cAS} {m : Nat}
theorem LX9_lay (hm : shM σ m) {I0 : Nat → Nat → Int32} : ∀ d i (I : Nat → Nat → Int32), i + d = cTL 23 → (∀ b, b ≠ m + 10 → I b = I0 b) → (∀ j, j < i → I (m + 10) j = cTB 23 j) → WP Γ (5, 106, 0, 0) MX9_layInput (rW σ (fun I' => (∀ b, b ≠ m → b ≠ m + 10 → I' b = I0 b) ∧ (∀ j, j ≠ 17 → I' m j = I0 m j) ∧ I' m 17 = nI (cTL 23) ∧ ∀ j, j < cTL 23 → I' (m + 10) j = cTB 23 j)) 2 [some (.ref m), some (.ref (gK Γ 23)), some (.int (nI i))] [] (wI σ I) := by
  have hl := cTL_le 23 (by decide)
  intro d
  induction d with
  | zero =>
    intro i I hi f1 e1
    refine WP.iload_n (pc := 2) dX9_layInput_2 rfl ?_
    refine WP.aload_n (pc := 3) dX9_layInput_3 rfl ?_
    refine WP.cVS (pc := 4) (mc2 := 0) (ms2 := 0) (j := 23) (by decide) kX9_65 (CJ_length Γ _ (j := 23) (by decide)) rfl rfl ⟨Nat.le_of_ble_eq_true rfl, Nat.le_of_ble_eq_true rfl⟩ (Nat.le_of_ble_eq_true rfl) (Nat.le_of_ble_eq_true rfl) (Nat.le_of_ble_eq_true rfl) rfl dX9_layInput_4 ?_
    refine WP.icmp_ge (pc := 7) (tgt := 27) dX9_layInput_7 (by decide) (fun c => ?_) (fun c => ?_)
    · refine WP.aload_n (pc := 27) dX9_layInput_27 rfl ?_
      refine WP.aload_n (pc := 28) dX9_layInput_28 rfl ?_
      refine WP.cVS (pc := 29) (mc2 := 0) (ms2 := 0) (j := 23) (by decide) kX9_65 (CJ_length Γ _ (j := 23) (by decide)) rfl rfl ⟨Nat.le_of_ble_eq_true rfl, Nat.le_of_ble_eq_true rfl⟩ (Nat.le_of_ble_eq_true rfl) (Nat.le_of_ble_eq_true rfl) (Nat.le_of_ble_eq_true rfl) rfl dX9_layInput_29 ?_
      refine WP.pI (pc := 32) uX9 fX9_58 rfl rfl hm.t0 dX9_layInput_32 ?_
      refine WP.vret (pc := 35) rfl dX9_layInput_35 ?_
      refine ⟨rfl, _, rfl, fun b c1 c2 => ?_, fun j hj => ?_, ?_, fun j hj => ?_⟩
      · rw [up_ne c1]
        exact f1 b c2
      · rw [up_eq, if_neg (fun q => hj q.2), f1 m (by omega)]
      · rw [up_eq, if_pos ⟨rfl, rfl⟩]
      · rw [up_ne (by omega)]
        exact e1 j (by omega)
    · exact absurd (nI_le (by omega) (by omega)) c
  | succ d ih =>
    intro i I hi f1 e1
    refine WP.iload_n (pc := 2) dX9_layInput_2 rfl ?_
    refine WP.aload_n (pc := 3) dX9_layInput_3 rfl ?_
    refine WP.cVS (pc := 4) (mc2 := 0) (ms2 := 0) (j := 23) (by decide) kX9_65 (CJ_length Γ _ (j := 23) (by decide)) rfl rfl ⟨Nat.le_of_ble_eq_true rfl, Nat.le_of_ble_eq_true rfl⟩ (Nat.le_of_ble_eq_true rfl) (Nat.le_of_ble_eq_true rfl) (Nat.le_of_ble_eq_true rfl) rfl dX9_layInput_4 ?_
    refine WP.icmp_ge (pc := 7) (tgt := 27) dX9_layInput_7 (by decide) (fun c => ?_) (fun c => ?_)
    · exact absurd c (nI_ge (by omega) (by omega))
    · refine WP.aload_n (pc := 10) dX9_layInput_10 rfl ?_
      refine WP.gR (pc := 11) uX9 fX9_38 hm.t0 hm.r0_16 dX9_layInput_11 ?_
      refine WP.iload_n (pc := 14) dX9_layInput_14 rfl ?_
      refine WP.aload_n (pc := 15) dX9_layInput_15 rfl ?_
      refine WP.iload_n (pc := 16) dX9_layInput_16 rfl ?_
      refine WP.cVS (pc := 17) (mc2 := 0) (ms2 := 0) (j := 23) (by decide) kX9_71 (CJ_charAt Γ _ (j := 23) (by decide) (i := i) (by omega)) rfl rfl ⟨Nat.le_of_ble_eq_true rfl, Nat.le_of_ble_eq_true rfl⟩ (Nat.le_of_ble_eq_true rfl) (Nat.le_of_ble_eq_true rfl) (Nat.le_of_ble_eq_true rfl) rfl dX9_layInput_17 ?_
      refine WP.iast (pc := 20) hm.t10 (k := i) (by omega) (by decide) dX9_layInput_20 ?_
      refine WP.iinc (pc := 21) dX9_layInput_21 rfl (nI_1 _) (by decide) rfl ?_
      refine WP.goto (pc := 24) (tgt := 2) dX9_layInput_24 (by decide) ?_
      refine ih (i + 1) _ (by omega) (fun b hb => ?_) (fun j hj => ?_)
      · rw [up_ne hb]
        exact f1 b hb
      · rw [up_eq]
        by_cases e : j = i
        · rw [if_pos ⟨rfl, e⟩, e]
        · rw [if_neg (fun q => e q.2)]
          exact e1 j (by omega)
theorem CX9_layInput (hm : shM σ m) {I : Nat → Nat → Int32} : Ctr Γ (5, 106, 0, 0) MX9_layInput [.ref m, .ref (gK Γ 23)] (wI σ I) (rW σ (fun I' => (∀ b, b ≠ m → b ≠ m + 10 → I' b = I b) ∧ (∀ j, j ≠ 17 → I' m j = I m j) ∧ I' m 17 = nI (cTL 23) ∧ ∀ j, j < cTL 23 → I' (m + 10) j = cTB 23 j)) := by
  refine Ctr.go rfl (by decide) rfl rfl ?_
  refine WP.iconst (pc := 0) (v := 0) dX9_layInput_0 (by decide) ?_
  refine WP.istore_n (pc := 1) dX9_layInput_1 (by decide) rfl ?_
  exact LX9_lay Γ hm (cTL 23) 0 I (Nat.zero_add _) (fun _ _ => rfl) (fun j hj => absurd hj (Nat.not_lt_zero _))
theorem CX9_init (h : mkM σ σ m 1 (fun _ => 0)) : Ctr Γ (10, 216, 11, 6052) MX9_init [.ref m] σ (miP σ m) := by
  have t {τ : cAS} {j : Nat} {z : Nat → Int32} (h : mkM σ τ m j z) (hj : 0 < j) : aT τ m = (10, 27) := h.2.2.2.2.1 0 (by decide) hj
  refine Ctr.go rfl (by decide) rfl rfl ?_
  refine WP.aload_n (pc := 0) dX9_init_0 rfl ?_
  refine WP.objInit (pc := 1) oX9_1 oI oC (Nat.le_of_ble_eq_true rfl) (Nat.le_of_ble_eq_true rfl) dX9_init_1 ?_
  refine WP.aload_n (pc := 4) dX9_init_4 rfl ?_
  refine WP.sipush (pc := 5) (v := 380) dX9_init_5 (by decide) ?_
  refine WP.newarr (pc := 8) (mc := 10) (ms := 5672) (kd := 11) (n := 380) (by decide) (by decide) rfl nA11 (by decide) (by decide) (by decide) dX9_init_8 ?_
  refine WP.putR (pc := 10) (k := 0) uX9 fX9_7 rfl rfl rfl rfl rfl (sA_T (t h (by decide)) (by rw [h.1]; omega)) dX9_init_10 ?_
  have B1 : mkM σ (sR (sA σ 11 380) m 0 (some (aN σ))) m 2 (fun _ => 0) := h.arr (by decide) rfl (shMR_of (fun q hq c => by rcases hq with rfl | rfl | rfl | rfl | rfl | rfl | rfl | rfl | rfl | rfl | rfl <;> first | exact Or.inr rfl | exact absurd c (by decide) | exact Or.inl ⟨by decide, rfl, by decide⟩))
  generalize sR (sA σ 11 380) m 0 (some (aN σ)) = s1 at B1 ⊢
  refine WP.aload_n (pc := 13) dX9_init_13 rfl ?_
  refine WP.sipush (pc := 14) (v := 380) dX9_init_14 (by decide) ?_
  refine WP.newarr (pc := 17) (mc := 9) (ms := 5292) (kd := 11) (n := 380) (by decide) (by decide) rfl nA11 (by decide) (by decide) (by decide) dX9_init_17 ?_
  refine WP.putR (pc := 19) (k := 1) uX9 fX9_13 rfl rfl rfl rfl rfl (sA_T (t B1 (by decide)) (by rw [B1.1]; omega)) dX9_init_19 ?_
  have B2 : mkM σ (sR (sA s1 11 380) m 1 (some (aN s1))) m 3 (fun _ => 0) := B1.arr (by decide) rfl (shMR_of (fun q hq c => by rcases hq with rfl | rfl | rfl | rfl | rfl | rfl | rfl | rfl | rfl | rfl | rfl <;> first | exact Or.inr rfl | exact absurd c (by decide) | exact Or.inl ⟨by decide, rfl, by decide⟩))
  generalize sR (sA s1 11 380) m 1 (some (aN s1)) = s2 at B2 ⊢
  refine WP.aload_n (pc := 22) dX9_init_22 rfl ?_
  refine WP.sipush (pc := 23) (v := 380) dX9_init_23 (by decide) ?_
  refine WP.newarr (pc := 26) (mc := 8) (ms := 4912) (kd := 11) (n := 380) (by decide) (by decide) rfl nA11 (by decide) (by decide) (by decide) dX9_init_26 ?_
  refine WP.putR (pc := 28) (k := 2) uX9 fX9_16 rfl rfl rfl rfl rfl (sA_T (t B2 (by decide)) (by rw [B2.1]; omega)) dX9_init_28 ?_
  have B3 : mkM σ (sR (sA s2 11 380) m 2 (some (aN s2))) m 4 (fun _ => 0) := B2.arr (by decide) rfl (shMR_of (fun q hq c => by rcases hq with rfl | rfl | rfl | rfl | rfl | rfl | rfl | rfl | rfl | rfl | rfl <;> first | exact Or.inr rfl | exact absurd c (by decide) | exact Or.inl ⟨by decide, rfl, by decide⟩))
  generalize sR (sA s2 11 380) m 2 (some (aN s2)) = s3 at B3 ⊢
  refine WP.aload_n (pc := 31) dX9_init_31 rfl ?_
  refine WP.sipush (pc := 32) (v := 3040) dX9_init_32 (by decide) ?_
  refine WP.newarr (pc := 35) (mc := 7) (ms := 1872) (kd := 11) (n := 3040) (by decide) (by decide) rfl nA11 (by decide) (by decide) (by decide) dX9_init_35 ?_
  refine WP.putR (pc := 37) (k := 3) uX9 fX9_19 rfl rfl rfl rfl rfl (sA_T (t B3 (by decide)) (by rw [B3.1]; omega)) dX9_init_37 ?_
  have B4 : mkM σ (sR (sA s3 11 3040) m 3 (some (aN s3))) m 5 (fun _ => 0) := B3.arr (by decide) rfl (shMR_of (fun q hq c => by rcases hq with rfl | rfl | rfl | rfl | rfl | rfl | rfl | rfl | rfl | rfl | rfl <;> first | exact Or.inr rfl | exact absurd c (by decide) | exact Or.inl ⟨by decide, rfl, by decide⟩))
  generalize sR (sA s3 11 3040) m 3 (some (aN s3)) = s4 at B4 ⊢
  refine WP.aload_n (pc := 40) dX9_init_40 rfl ?_
  refine WP.sipush (pc := 41) (v := 760) dX9_init_41 (by decide) ?_
  refine WP.newarr (pc := 44) (mc := 6) (ms := 1112) (kd := 11) (n := 760) (by decide) (by decide) rfl nA11 (by decide) (by decide) (by decide) dX9_init_44 ?_
  refine WP.putR (pc := 46) (k := 4) uX9 fX9_22 rfl rfl rfl rfl rfl (sA_T (t B4 (by decide)) (by rw [B4.1]; omega)) dX9_init_46 ?_
  have B5 : mkM σ (sR (sA s4 11 760) m 4 (some (aN s4))) m 6 (fun _ => 0) := B4.arr (by decide) rfl (shMR_of (fun q hq c => by rcases hq with rfl | rfl | rfl | rfl | rfl | rfl | rfl | rfl | rfl | rfl | rfl <;> first | exact Or.inr rfl | exact absurd c (by decide) | exact Or.inl ⟨by decide, rfl, by decide⟩))
  generalize sR (sA s4 11 760) m 4 (some (aN s4)) = s5 at B5 ⊢
  refine WP.aload_n (pc := 49) dX9_init_49 rfl ?_
  refine WP.iconst (pc := 50) (v := 2) dX9_init_50 (by decide) ?_
  refine WP.newarr (pc := 51) (mc := 5) (ms := 1110) (kd := 13) (n := 2) (by decide) (by decide) rfl nA13 (by decide) (by decide) (by decide) dX9_init_51 ?_
  refine WP.putR (pc := 53) (k := 5) uX9 fX9_25 rfl rfl rfl rfl rfl (sA_T (t B5 (by decide)) (by rw [B5.1]; omega)) dX9_init_53 ?_
  have B6 : mkM σ (sR (sA s5 13 2) m 5 (some (aN s5))) m 7 (fun _ => 0) := B5.arr (by decide) rfl (shMR_of (fun q hq c => by rcases hq with rfl | rfl | rfl | rfl | rfl | rfl | rfl | rfl | rfl | rfl | rfl <;> first | exact Or.inr rfl | exact absurd c (by decide) | exact Or.inl ⟨by decide, rfl, by decide⟩))
  generalize sR (sA s5 13 2) m 5 (some (aN s5)) = s6 at B6 ⊢
  refine WP.aload_n (pc := 56) dX9_init_56 rfl ?_
  refine WP.bipush (pc := 57) (v := 90) dX9_init_57 (by decide) ?_
  refine WP.newarr (pc := 59) (mc := 4) (ms := 1020) (kd := 11) (n := 90) (by decide) (by decide) rfl nA11 (by decide) (by decide) (by decide) dX9_init_59 ?_
  refine WP.putR (pc := 61) (k := 9) uX9 fX9_29 rfl rfl rfl rfl rfl (sA_T (t B6 (by decide)) (by rw [B6.1]; omega)) dX9_init_61 ?_
  have B7 : mkM σ (sR (sA s6 11 90) m 9 (some (aN s6))) m 8 (fun _ => 0) := B6.arr (by decide) rfl (shMR_of (fun q hq c => by rcases hq with rfl | rfl | rfl | rfl | rfl | rfl | rfl | rfl | rfl | rfl | rfl <;> first | exact Or.inr rfl | exact absurd c (by decide) | exact Or.inl ⟨by decide, rfl, by decide⟩))
  generalize sR (sA s6 11 90) m 9 (some (aN s6)) = s7 at B7 ⊢
  refine WP.aload_n (pc := 64) dX9_init_64 rfl ?_
  refine WP.bipush (pc := 65) (v := 60) dX9_init_65 (by decide) ?_
  refine WP.newarr (pc := 67) (mc := 3) (ms := 960) (kd := 11) (n := 60) (by decide) (by decide) rfl nA11 (by decide) (by decide) (by decide) dX9_init_67 ?_
  refine WP.putR (pc := 69) (k := 10) uX9 fX9_32 rfl rfl rfl rfl rfl (sA_T (t B7 (by decide)) (by rw [B7.1]; omega)) dX9_init_69 ?_
  have B8 : mkM σ (sR (sA s7 11 60) m 10 (some (aN s7))) m 9 (fun _ => 0) := B7.arr (by decide) rfl (shMR_of (fun q hq c => by rcases hq with rfl | rfl | rfl | rfl | rfl | rfl | rfl | rfl | rfl | rfl | rfl <;> first | exact Or.inr rfl | exact absurd c (by decide) | exact Or.inl ⟨by decide, rfl, by decide⟩))
  generalize sR (sA s7 11 60) m 10 (some (aN s7)) = s8 at B8 ⊢
  refine WP.aload_n (pc := 72) dX9_init_72 rfl ?_
  refine WP.bipush (pc := 73) (v := 60) dX9_init_73 (by decide) ?_
  refine WP.newarr (pc := 75) (mc := 2) (ms := 900) (kd := 13) (n := 60) (by decide) (by decide) rfl nA13 (by decide) (by decide) (by decide) dX9_init_75 ?_
  refine WP.putR (pc := 77) (k := 15) uX9 fX9_35 rfl rfl rfl rfl rfl (sA_T (t B8 (by decide)) (by rw [B8.1]; omega)) dX9_init_77 ?_
  have B9 : mkM σ (sR (sA s8 13 60) m 15 (some (aN s8))) m 10 (fun _ => 0) := B8.arr (by decide) rfl (shMR_of (fun q hq c => by rcases hq with rfl | rfl | rfl | rfl | rfl | rfl | rfl | rfl | rfl | rfl | rfl <;> first | exact Or.inr rfl | exact absurd c (by decide) | exact Or.inl ⟨by decide, rfl, by decide⟩))
  generalize sR (sA s8 13 60) m 15 (some (aN s8)) = s9 at B9 ⊢
  refine WP.aload_n (pc := 80) dX9_init_80 rfl ?_
  refine WP.sipush (pc := 81) (v := 600) dX9_init_81 (by decide) ?_
  refine WP.newarr (pc := 84) (mc := 1) (ms := 300) (kd := 11) (n := 600) (by decide) (by decide) rfl nA11 (by decide) (by decide) (by decide) dX9_init_84 ?_
  refine WP.putR (pc := 86) (k := 16) uX9 fX9_38 rfl rfl rfl rfl rfl (sA_T (t B9 (by decide)) (by rw [B9.1]; omega)) dX9_init_86 ?_
  have B10 : mkM σ (sR (sA s9 11 600) m 16 (some (aN s9))) m 11 (fun _ => 0) := B9.arr (by decide) rfl (shMR_of (fun q hq c => by rcases hq with rfl | rfl | rfl | rfl | rfl | rfl | rfl | rfl | rfl | rfl | rfl <;> first | exact Or.inr rfl | exact absurd c (by decide) | exact Or.inl ⟨by decide, rfl, by decide⟩))
  generalize sR (sA s9 11 600) m 16 (some (aN s9)) = s10 at B10 ⊢
  refine WP.aload_n (pc := 89) dX9_init_89 rfl ?_
  refine WP.iconst (pc := 90) (v := (-1)) dX9_init_90 (by decide) ?_
  refine WP.self ?_
  refine WP.pI (pc := 91) uX9 fX9_41 rfl rfl (t B10 (by decide)) dX9_init_91 ?_
  have B11 : mkM σ (wI s10 (up (aI s10) m 24 (-1))) m 11 (fun j => if j = 24 then -1 else 0) := by
    obtain ⟨a1, a2, a3, a4, a5, a6⟩ := B10
    refine ⟨a1, fun d hd => ?_, fun d c1 c2 => ?_, ?_, a5, a6⟩
    · obtain ⟨b1, b2, b3, b4⟩ := a2 d hd
      exact ⟨b1, (up_ne (by omega)).trans b2, b3, b4⟩
    · exact (up_ne (by omega)).trans (a3 d c1 c2)
    · funext j
      show up (aI s10) m 24 (-1) m j = _
      rw [up_eq, a4]
      by_cases e : j = 24
      · rw [if_pos ⟨rfl, e⟩, if_pos e]
      · rw [if_neg (fun q => e q.2), if_neg e]
  generalize wI s10 (up (aI s10) m 24 (-1)) = s11 at B11 ⊢
  refine WP.aload_n (pc := 94) dX9_init_94 rfl ?_
  refine WP.sipush (pc := 95) (v := 300) dX9_init_95 (by decide) ?_
  refine WP.newarr (pc := 98) (mc := 0) (ms := 0) (kd := 12) (n := 300) (by decide) (by decide) rfl nA12 (by decide) (by decide) (by decide) dX9_init_98 ?_
  refine WP.putR (pc := 100) (k := 25) uX9 fX9_45 rfl rfl rfl rfl rfl (sA_T (t B11 (by decide)) (by rw [B11.1]; omega)) dX9_init_100 ?_
  have B12 : mkM σ (sR (sA s11 12 300) m 25 (some (aN s11))) m 12 (fun j => if j = 24 then -1 else 0) := B11.arr (by decide) rfl (shMR_of (fun q hq c => by rcases hq with rfl | rfl | rfl | rfl | rfl | rfl | rfl | rfl | rfl | rfl | rfl <;> first | exact Or.inr rfl | exact absurd c (by decide) | exact Or.inl ⟨by decide, rfl, by decide⟩))
  generalize sR (sA s11 12 300) m 25 (some (aN s11)) = s12 at B12 ⊢
  have hm := B12.shM
  obtain ⟨a1, a2, a3, a4, -, -⟩ := B12
  have hz : ∀ k, 0 < k → k < 12 → aI s12 (m + k) = fun _ => 0 := fun k c1 c2 => a3 (m + k) (by omega) (by omega)
  refine WP.self ?_
  refine WP.aload_n (pc := 103) dX9_init_103 rfl ?_
  refine WP.ldcS (pc := 104) (j := 23) (List.mem_of_getElem? (i := 23) rfl) dX9_init_104 ?_
  refine WP.cVw (pc := 106) (mc2 := 0) (ms2 := 0) (ci := 9) kX9_51 (CX9_layInput Γ hm) (by decide) rfl hm.t0 rfl ⟨Nat.le_of_ble_eq_true rfl, Nat.le_of_ble_eq_true rfl⟩ (Nat.le_of_ble_eq_true rfl) (Nat.le_of_ble_eq_true rfl) (Nat.le_of_ble_eq_true rfl) rfl dX9_init_106 (fun I1 ⟨f1, f2, e1, e2⟩ => ?_)
  refine WP.aload_n (pc := 109) dX9_init_109 rfl ?_
  have hl := f0_len
  rw [t23_len] at e1 e2
  refine WP.cVw (pc := 110) (mc2 := 0) (ms2 := 0) (ci := 9) kX9_55 (CX9_read Γ hm (f := fun i => cTB 0 i) (n := cTL 0) (by omega) e1 (fun j hj => by
    obtain ⟨b1, b2, b3⟩ := t23_tx j hj
    refine ⟨(cTB 23 j).toNatClampNeg, by omega, (e2 j hj).trans b2, ?_⟩
    show cTB 0 j = _
    unfold sx
    rw [if_pos b1, ← b2, b3])) (by decide) rfl hm.t0 rfl ⟨Nat.le_of_ble_eq_true rfl, Nat.le_of_ble_eq_true rfl⟩ (Nat.le_of_ble_eq_true rfl) (Nat.le_of_ble_eq_true rfl) (Nat.le_of_ble_eq_true rfl) rfl dX9_init_110 (fun I2 ⟨g1, g2, g3⟩ => ?_)
  have g4 := g3 t0_ok.1
  obtain ⟨-, -, -, k23, k24, -, -, -⟩ := g2
  rw [t0_ok.1] at k23
  rw [t0_ok.2] at k24
  rw [← m00_s] at g4
  clear g3
  refine WP.aload_n (pc := 113) dX9_init_113 rfl ?_
  refine WP.iconst (pc := 114) (v := 0) dX9_init_114 (by decide) ?_
  refine WP.pI (pc := 115) uX9 fX9_58 rfl rfl hm.t0 dX9_init_115 ?_
  refine WP.aload_n (pc := 118) dX9_init_118 rfl ?_
  refine WP.gR (pc := 119) uX9 fX9_13 hm.t0 hm.r0_1 dX9_init_119 ?_
  refine WP.iconst (pc := 122) (v := 0) dX9_init_122 (by decide) ?_
  refine WP.aload_n (pc := 123) dX9_init_123 rfl ?_
  refine WP.gR (pc := 124) uX9 fX9_7 hm.t0 hm.r0_0 dX9_init_124 ?_
  refine WP.iconst (pc := 127) (v := 0) dX9_init_127 (by decide) ?_
  refine WP.cSw (pc := 128) (mc2 := 0) (ms2 := 0) kX9_61 (CX9_copyRow Γ (p := 0) (q := 0) hm.t2 hm.t1 (by omega) (by decide) (by decide) (by decide) (by decide)) rfl ⟨Nat.le_of_ble_eq_true rfl, Nat.le_of_ble_eq_true rfl⟩ (Nat.le_of_ble_eq_true rfl) (Nat.le_of_ble_eq_true rfl) (Nat.le_of_ble_eq_true rfl) rfl dX9_init_128 (fun I3 ⟨h1, h2⟩ => ?_)
  refine WP.vret (pc := 131) rfl dX9_init_131 ?_
  have M : ∀ j, j = 6 ∨ j = 7 ∨ j = 26 → I3 m j = 0 := fun j hj => by
    rw [h1 m (by omega), up_eq, if_neg (by omega), g1.2 j (by omega), f2 j (by omega), a4]
    exact if_neg (by omega)
  have R : ∀ k, k = 4 ∨ k = 5 ∨ k = 6 ∨ k = 11 → I3 (m + k) = fun _ => 0 := fun k hk => by
    rw [h1 _ (by omega), up_ne (by omega), g1.1 _ (by omega) (by omega) (by omega) (by omega) (by omega), f1 _ (by omega) (by omega), hz k (by omega) (by omega)]
  refine ⟨rfl, fun d hd => ?_, a1, ⟨hm.1, hm.2⟩, ?_, ⟨M 6 (by omega), Nat.zero_le _, 0, by decide, M 7 (by omega), fun i s hs => ?_⟩, fun k hk => ⟨fun s hs => ?_, fun _ => ?_⟩, ⟨?_, Nat.zero_le _, fun j hj => absurd hj (Nat.not_lt_zero _)⟩, ⟨?_, Nat.zero_le _, ?_⟩, M 26 (by omega), Nat.zero_le _, fun i v hv => ?_⟩
  · obtain ⟨b1, b2, b3, b4⟩ := a2 d hd
    refine ⟨b1, ?_, b3, b4⟩
    show I3 d = _
    rw [h1 _ (by omega), up_ne (by omega), g1.1 _ (by omega) (by omega) (by omega) (by omega) (by omega), f1 _ (by omega) (by omega)]
    exact b2
  · show gAt (I3 (m + 1)) m00.s
    rw [h2]
    refine g4.ext (fun k hk => ?_)
    unfold cpR
    rw [if_pos (by omega), up_ne (by omega)]
    congr 1
    omega
  · exact nomatch hs
  · exact nomatch hs
  · show I3 (m + 6) k = 0
    rw [R 6 (by omega)]
  · show I3 m 17 = nI 0
    rw [h1 m (by omega), up_eq, if_pos ⟨rfl, rfl⟩]
    rfl
  · show I3 m 23 = nI 0
    rw [h1 m (by omega), up_eq, if_neg (by omega)]
    exact k23
  · show I3 m 24 = -1
    rw [h1 m (by omega), up_eq, if_neg (by omega)]
    exact k24
  · exact nomatch hv
end T
