-- behind: 69.xi
-- the constructor of the class
theorem f0_ok : ∀ i, i < cTL 0 → ((cTB 0 i).toInt8.toInt32).toInt8.toInt32 = cTB 0 i := by decide +kernel
theorem f0_len : cTL 0 ≤ 200 := cTL_le 0 (by decide)
theorem f0_out {i : Nat} (h : cTL 0 ≤ i) : cTB 0 i = 0 := by
  unfold cTB
  rw [List.getD_eq_getElem?_getD, List.getElem?_eq_none (show (cTC.getD 0 []).length ≤ i from h)]
  rfl
def mkm (s : mS) : mX := (s, fun i => cTB 0 i, 0, 0, -1, [], fun _ => none, [])
theorem mkm_s (s : mS) : mX.s (mkm s) = s := rfl
def m00 : mX := mkm (sdRead (fun i => cTB 0 i) (cTL 0) s00).1
theorem m00_s : m00.s = (sdRead (fun i => cTB 0 i) (cTL 0) (mS0 (fun _ => 0))).1 := mkm_s _
def xiP (σ : cAS) (x : Nat) : cRes → cAS → Prop := fun r τ => r = .inl none ∧ keepB σ τ x ∧ aN τ = x + 62 ∧ shX τ x ∧ (∀ k i, 60 ≤ k → k < 62 → aR τ (x + k) i = none) ∧ stAt (aI τ) (x + 1) m00.s ∧ flAt (aI τ) x m00
section T
variable (Γ : cG) {σ : cAS} {x : Nat}
theorem mkX.shX {τ : cAS} (h : mkX σ τ x 62) : shX τ x := by
  obtain ⟨a1, a2, a3, a4, a5, a6, a7, a8⟩ := h
  have hk : ∀ k ∈ shXK, k < 62 := by decide
  have hq : ∀ q ∈ shXR, q.2.2 < 62 ∧ q.1 < 62 := by decide
  exact ⟨fun k h => a4 k h (hk k h), fun q h => a5 q h (hq q h).1 (hq q h).2, a6 (by decide), a7 (by decide)⟩
theorem LX8_init98 {τ : cAS} (h : mkX σ τ x 62) : ∀ m i (J : Nat → Nat → Int32), i + m = cTL 0 → (∀ a, a ≠ x + 56 → J a = aI τ a) → (∀ k, J (x + 56) k = if k < i then cTB 0 k else 0) → WP Γ (9, 199, 0, 0) MX8_init (xiP σ x) 98 [some (.ref x), some (.int (nI (cTL 0))), some (.int (nI i))] [] (wI τ J) := by
  have hx := h.shX
  have hl := f0_len
  intro m
  induction m with
  | zero =>
    intro i J hi h1 h2
    refine WP.iload_n (pc := 98) dX8_init_98 rfl ?_
    refine WP.iload_n (pc := 99) dX8_init_99 rfl ?_
    refine WP.icmp_ge (pc := 100) (tgt := 129) dX8_init_100 (by decide) (fun c => ?_) (fun c => ?_)
    · have hJ : J (x + 56) = fun k => cTB 0 k := funext fun k => by
        rw [h2 k]
        by_cases c : k < i
        · rw [if_pos c]
        · rw [if_neg c]
          exact (f0_out (by omega)).symm
      have hz : ∀ k, x ≤ k → k < x + 62 → k ≠ x + 56 → J k = fun _ => 0 := fun k c1 c2 c3 => by
        rw [h1 k c3]
        exact h.2.2.1 k c1 (by rw [h.1]; omega)
      refine WP.aload_n (pc := 129) dX8_init_129 rfl ?_
      refine WP.gR (pc := 130) uX8 fX8_35 hx.t0 hx.r0_4 dX8_init_130 ?_
      refine WP.iload_n (pc := 133) dX8_init_133 rfl ?_
      refine WP.aload_n (pc := 134) dX8_init_134 rfl ?_
      refine WP.gR (pc := 135) uX8 fX8_10 hx.t0 hx.r0_0 dX8_init_135 ?_
      refine WP.cVw (pc := 138) (mc2 := 0) (ms2 := 0) (ci := 4) kX8_61 (CX4_read Γ hx hx.a (by omega) (n := cTL 0) (by omega) (fun j _ => by rw [hz (x + 1 + 1) (by omega) (by omega) (by omega)]; exact ⟨0, rfl, Nat.zero_le _, by decide⟩)) (by decide) rfl hx.t57 rfl ⟨Nat.le_of_ble_eq_true rfl, Nat.le_of_ble_eq_true rfl⟩ (Nat.le_of_ble_eq_true rfl) (Nat.le_of_ble_eq_true rfl) (Nat.le_of_ble_eq_true rfl) rfl dX8_init_138 (fun I1 ⟨f1, g1, _⟩ => ?_)
      have e0 : (fun j => J (x + 1 + 1) j) = fun _ => 0 := hz (x + 1 + 1) (by omega) (by omega) (by omega)
      rw [hJ, e0] at g1
      refine WP.aload_n (pc := 141) dX8_init_141 rfl ?_
      refine WP.iconst (pc := 142) (v := (-1)) dX8_init_142 (by decide) ?_
      refine WP.pI (pc := 143) uX8 fX8_65 rfl rfl hx.t0 dX8_init_143 ?_
      refine WP.vret (pc := 146) rfl dX8_init_146 ?_
      have u : ∀ a, a ≠ x → up I1 x 12 (-1) a = I1 a := fun a ha => funext fun j => by rw [up_eq, if_neg (fun q => ha q.1)]
      have ux : ∀ j, j ≠ 12 → up I1 x 12 (-1) x j = 0 := fun j hj => by
        rw [up_eq, if_neg (fun q => hj q.2), f1 x (by omega) (by omega), hz x (by omega) (by omega) (by omega)]
      refine ⟨rfl, fun d hd => ?_, h.1, hx.of rfl rfl, h.2.2.2.2.2.2.2, ?_, fun j hj => ?_, ?_, ux 9 (by decide), Nat.zero_le _, ux 11 (by decide), Nat.zero_le _, ?_, ux 10 (by decide), Nat.zero_le _, fun i v hv => ?_, ux 8 (by decide), Nat.zero_le _⟩
      · obtain ⟨b1, b2, b3, b4⟩ := h.2.1 d hd
        refine ⟨b1, ?_, b3, b4⟩
        show up I1 x 12 (-1) d = _
        rw [u d (by omega), f1 d (by omega) (by omega), h1 d (by omega)]
        exact b2
      · rw [m00_s]
        exact g1.ext (fun a c1 c2 => u a (by omega))
      · show inR (up I1 x 12 (-1) (x + 27) j) 0 99
        rw [u _ (by omega), f1 _ (by omega) (by omega), hz (x + 27) (by omega) (by omega) (by omega)]
        exact ⟨0, rfl, Nat.zero_le _, by decide⟩
      · show up I1 x 12 (-1) (x + 56) = fun i => cTB 0 i
        rw [u _ (by omega), f1 _ (by omega) (by omega)]
        exact hJ
      · show up I1 x 12 (-1) x 12 = -1
        rw [up_eq, if_pos ⟨rfl, rfl⟩]
      · exact nomatch hv
    · exact absurd (nI_le (by omega) (by omega)) c
  | succ m ih =>
    intro i J hi h1 h2
    refine WP.iload_n (pc := 98) dX8_init_98 rfl ?_
    refine WP.iload_n (pc := 99) dX8_init_99 rfl ?_
    refine WP.icmp_ge (pc := 100) (tgt := 129) dX8_init_100 (by decide) (fun c => ?_) (fun c => ?_)
    · exact absurd c (nI_ge (by omega) (by omega))
    · refine WP.iload_n (pc := 103) dX8_init_103 rfl ?_
      refine WP.sipush (pc := 104) (v := 600) dX8_init_104 (by decide) ?_
      refine WP.icmp_ge (pc := 107) (tgt := 129) dX8_init_107 (by decide) (fun c2 => ?_) (fun c2 => ?_)
      · exact absurd c2 (nI_ge (b := 600) (by omega) (by omega))
      · refine WP.aload_n (pc := 110) dX8_init_110 rfl ?_
        refine WP.gR (pc := 111) uX8 fX8_26 hx.t0 hx.r0_3 dX8_init_111 ?_
        refine WP.iload_n (pc := 114) dX8_init_114 rfl ?_
        refine WP.ldcS (pc := 115) (j := 0) (List.mem_of_getElem? (i := 0) rfl) dX8_init_115 ?_
        refine WP.iload_n (pc := 117) dX8_init_117 rfl ?_
        refine WP.cVS (pc := 118) (mc2 := 0) (ms2 := 0) (j := 0) (by decide) kX8_57 (CJ_charAt Γ _ (j := 0) (by decide) (i := i) (by omega)) rfl rfl ⟨Nat.le_of_ble_eq_true rfl, Nat.le_of_ble_eq_true rfl⟩ (Nat.le_of_ble_eq_true rfl) (Nat.le_of_ble_eq_true rfl) (Nat.le_of_ble_eq_true rfl) rfl dX8_init_118 ?_
        refine WP.i2b (pc := 121) dX8_init_121 ?_
        refine WP.bast (pc := 122) hx.t56 (k := i) (by omega) (by decide) dX8_init_122 ?_
        rw [f0_ok i (by omega)]
        refine WP.iinc (pc := 123) dX8_init_123 rfl (nI_1 _) (by decide) rfl ?_
        refine WP.goto (pc := 126) (tgt := 98) dX8_init_126 (by decide) ?_
        refine ih (i + 1) _ (by omega) (fun a ha => ?_) (fun k => ?_)
        · rw [← h1 a ha]
          funext j
          rw [up_eq, if_neg (fun q => ha q.1)]
        · rw [up_eq]
          by_cases e : k = i
          · rw [if_pos ⟨rfl, e⟩, if_pos (by omega), e]
          · rw [if_neg (fun q => e q.2), h2 k]
            by_cases e2 : k < i
            · rw [if_pos e2, if_pos (by omega)]
            · rw [if_neg e2, if_neg (by omega)]
theorem CX8_init (h : mkX σ σ x 1) (t0 : aT σ x = (9, 13)) : Ctr Γ (9, 199, 61, 1855) MX8_init [.ref x] σ (xiP σ x) := by
  have t {τ : cAS} {j : Nat} (h : mkX σ τ x j) (hj : 0 < j) : aT τ x = (9, 13) := h.2.2.2.1 0 (by decide) hj
  refine Ctr.go rfl (by decide) rfl rfl ?_
  refine WP.aload_n (pc := 0) dX8_init_0 rfl ?_
  refine WP.objInit (pc := 1) oX8_1 oI oC (Nat.le_of_ble_eq_true rfl) (Nat.le_of_ble_eq_true rfl) dX8_init_1 ?_
  refine WP.aload_n (pc := 4) dX8_init_4 rfl ?_
  refine WP.new (pc := 5) (mc := 60) (ms := 1842) (ci := 5) uX5 (by decide) nX8_7 nI5 nJ5 nD5 dX8_init_5 ?_
  refine (?_ : WP Γ (9, 199, 60, 1842) MX8_init _ 8 _ [.ref (aN σ), .ref x] (sA σ 6 13))
  refine WP.dup (pc := 8) dX8_init_8 rfl ?_
  refine WP.cIN0 (pc := 9) (mc2 := 36) (ms2 := 1451) kX8_9 (CX5_init Γ (σ := sA σ 6 13) sA_new sA_newL) rfl ⟨Nat.le_of_ble_eq_true rfl, Nat.le_of_ble_eq_true rfl⟩ (Nat.le_of_ble_eq_true rfl) (Nat.le_of_ble_eq_true rfl) (Nat.le_of_ble_eq_true rfl) rfl dX8_init_9 ?_
  refine WP.putR (pc := 12) (k := 0) uX8 fX8_10 rfl rfl rfl rfl rfl ((nwS_old (by rw [h.1]; omega)).1.trans t0) dX8_init_12 ?_
  have B := h.mkt (f := 0) (Or.inl ⟨rfl, rfl⟩)
  generalize sR (iSt (sA σ 6 13) (aN σ)) x 0 (some (aN σ)) = s1 at B ⊢
  refine WP.aload_n (pc := 15) dX8_init_15 rfl ?_
  refine WP.new (pc := 16) (mc := 35) (ms := 1438) (ci := 5) uX5 (by decide) nX8_7 nI5 nJ5 nD5 dX8_init_16 ?_
  refine (?_ : WP Γ (9, 199, 35, 1438) MX8_init _ 19 _ [.ref (aN s1), .ref x] (sA s1 6 13))
  refine WP.dup (pc := 19) dX8_init_19 rfl ?_
  refine WP.cIN0 (pc := 20) (mc2 := 11) (ms2 := 1047) kX8_9 (CX5_init Γ (σ := sA s1 6 13) sA_new sA_newL) rfl ⟨Nat.le_of_ble_eq_true rfl, Nat.le_of_ble_eq_true rfl⟩ (Nat.le_of_ble_eq_true rfl) (Nat.le_of_ble_eq_true rfl) (Nat.le_of_ble_eq_true rfl) rfl dX8_init_20 ?_
  refine WP.putR (pc := 23) (k := 1) uX8 fX8_16 rfl rfl rfl rfl rfl ((nwS_old (by rw [B.1]; omega)).1.trans (t B (by decide))) dX8_init_23 ?_
  have B2 := B.mkt (f := 1) (Or.inr ⟨rfl, rfl⟩)
  generalize sR (iSt (sA s1 6 13) (aN s1)) x 1 (some (aN s1)) = s2 at B2 ⊢
  refine WP.aload_n (pc := 26) dX8_init_26 rfl ?_
  refine WP.new (pc := 27) (mc := 10) (ms := 1039) (ci := 0) uX0 (by decide) nX8_19 nI0 nJ0 nD0 dX8_init_27 ?_
  refine (?_ : WP Γ (9, 199, 10, 1039) MX8_init _ 30 _ [.ref (aN s2), .ref x] (sA s2 1 8))
  refine WP.dup (pc := 30) dX8_init_30 rfl ?_
  refine WP.cIN0 (pc := 31) (mc2 := 6) (ms2 := 739) kX8_21 (CX0_init Γ (σ := sA s2 1 8) sA_new sA_newL) rfl ⟨Nat.le_of_ble_eq_true rfl, Nat.le_of_ble_eq_true rfl⟩ (Nat.le_of_ble_eq_true rfl) (Nat.le_of_ble_eq_true rfl) (Nat.le_of_ble_eq_true rfl) rfl dX8_init_31 ?_
  refine WP.putR (pc := 34) (k := 2) uX8 fX8_22 rfl rfl rfl rfl rfl (iAu_T (sA_T (kd := 1) (n := 8) (t B2 (by decide)) (by rw [B2.1]; omega)) (by show x < aN s2 + 1; rw [B2.1]; omega) (by rw [B2.1]; omega)) dX8_init_34 ?_
  have B3 : mkX σ (sR (iAu (sA s2 1 8) (aN s2)) x 2 (some (aN s2))) x 56 := B2.plan
  generalize sR (iAu (sA s2 1 8) (aN s2)) x 2 (some (aN s2)) = s3 at B3 ⊢
  refine WP.aload_n (pc := 37) dX8_init_37 rfl ?_
  refine WP.sipush (pc := 38) (v := 600) dX8_init_38 (by decide) ?_
  refine WP.newarr (pc := 41) (mc := 5) (ms := 139) (kd := 12) (n := 600) (by decide) (by decide) rfl nA12 (by decide) (by decide) (by decide) dX8_init_41 ?_
  refine WP.putR (pc := 43) (k := 3) uX8 fX8_26 rfl rfl rfl rfl rfl (sA_T (t B3 (by decide)) (by rw [B3.1]; omega)) dX8_init_43 ?_
  have B4 : mkX σ (sR (sA s3 12 600) x 3 (some (aN s3))) x 57 := B3.arr (by decide) rfl (shXR_of (fun q hq c1 c2 => by rcases hq with rfl | rfl | rfl | rfl | rfl | rfl | rfl | rfl | rfl | rfl | rfl | rfl | rfl | rfl | rfl <;> first | exact Or.inr rfl | exact absurd c1 (by decide) | exact absurd c2 (by decide) | exact Or.inl ⟨by decide, by decide, by decide⟩))
  generalize sR (sA s3 12 600) x 3 (some (aN s3)) = s4 at B4 ⊢
  refine WP.aload_n (pc := 46) dX8_init_46 rfl ?_
  refine WP.new (pc := 47) (mc := 4) (ms := 135) (ci := 4) uX4 (by decide) nX8_30 nI4 nJ4 nD4 dX8_init_47 ?_
  refine (?_ : WP Γ (9, 199, 4, 135) MX8_init _ 50 _ [.ref (aN s4), .ref x] (sA s4 5 4))
  refine WP.dup (pc := 50) dX8_init_50 rfl ?_
  have T4 := t B4 (by decide)
  have hl4 : x < aN s4 := by rw [B4.1]; omega
  have T4' : aT (sA s4 5 4) x = (9, 13) := sA_T T4 hl4
  have r3 : aR (sA s4 5 4) x 3 = some (x + 56) := (saRo (by omega)).trans (B4.2.2.2.2.1 (0, 3, 56) (by decide) (by decide) (by decide))
  have r2 : aR (sA s4 5 4) x 2 = some (x + 51) := (saRo (by omega)).trans (B4.2.2.2.2.1 (0, 2, 51) (by decide) (by decide) (by decide))
  refine WP.aload_n (pc := 51) dX8_init_51 rfl ?_
  refine WP.self ?_
  refine WP.gR (pc := 52) uX8 fX8_26 T4' r3 dX8_init_52 ?_
  refine WP.aload_n (pc := 55) dX8_init_55 rfl ?_
  refine WP.gR (pc := 56) uX8 fX8_22 T4' r2 dX8_init_56 ?_
  refine (?_ : WP Γ (9, 199, 4, 135) MX8_init _ 59 _ [.ref (x + 51), .ref (x + 56), .ref (aN s4), .ref (aN s4), .ref x] (sA s4 5 4))
  refine WP.cI0 (pc := 59) (mc2 := 3) (ms2 := 130) kX8_32 (CX4_init Γ (σ := sA s4 5 4) (b := x + 56) (c := x + 51) sA_new sA_newL) rfl ⟨Nat.le_of_ble_eq_true rfl, Nat.le_of_ble_eq_true rfl⟩ (Nat.le_of_ble_eq_true rfl) (Nat.le_of_ble_eq_true rfl) (Nat.le_of_ble_eq_true rfl) rfl dX8_init_59 ?_
  refine WP.putR (pc := 62) (k := 4) uX8 fX8_35 rfl rfl rfl rfl rfl (sA_T (σ := sA s4 5 4) T4' (Nat.lt_succ_of_lt hl4)) dX8_init_62 ?_
  have B5 := B4.ldr
  refine (?_ : WP Γ (9, 199, 3, 130) MX8_init _ 65 _ [] (nwL s4 x))
  generalize nwL s4 x = s5 at B5 ⊢
  refine WP.aload_n (pc := 65) dX8_init_65 rfl ?_
  refine WP.bipush (pc := 66) (v := 120) dX8_init_66 (by decide) ?_
  refine WP.newarr (pc := 68) (mc := 2) (ms := 10) (kd := 12) (n := 120) (by decide) (by decide) rfl nA12 (by decide) (by decide) (by decide) dX8_init_68 ?_
  refine WP.putR (pc := 70) (k := 5) uX8 fX8_39 rfl rfl rfl rfl rfl (sA_T (t B5 (by decide)) (by rw [B5.1]; omega)) dX8_init_70 ?_
  have B6 : mkX σ (sR (sA s5 12 120) x 5 (some (aN s5))) x 60 := B5.arr (by decide) rfl (shXR_of (fun q hq c1 c2 => by rcases hq with rfl | rfl | rfl | rfl | rfl | rfl | rfl | rfl | rfl | rfl | rfl | rfl | rfl | rfl | rfl <;> first | exact Or.inr rfl | exact absurd c1 (by decide) | exact absurd c2 (by decide) | exact Or.inl ⟨by decide, by decide, by decide⟩))
  generalize sR (sA s5 12 120) x 5 (some (aN s5)) = s6 at B6 ⊢
  refine WP.aload_n (pc := 73) dX8_init_73 rfl ?_
  refine WP.iconst (pc := 74) (v := 2) dX8_init_74 (by decide) ?_
  refine WP.anewarr (pc := 75) (mc := 1) (ms := 8) (n := 2) nX8_7 (by decide) (by decide) (by decide) dX8_init_75 ?_
  refine WP.putR (pc := 78) (k := 6) uX8 fX8_42 rfl rfl rfl rfl rfl (sA_T (t B6 (by decide)) (by rw [B6.1]; omega)) dX8_init_78 ?_
  have B7 : mkX σ (sR (sA s6 15 2) x 6 (some (aN s6))) x 61 := B6.arr (by decide) rfl (shXR_of (fun q hq c1 c2 => by rcases hq with rfl | rfl | rfl | rfl | rfl | rfl | rfl | rfl | rfl | rfl | rfl | rfl | rfl | rfl | rfl <;> first | exact Or.inr rfl | exact absurd c1 (by decide) | exact absurd c2 (by decide) | exact Or.inl ⟨by decide, by decide, by decide⟩))
  generalize sR (sA s6 15 2) x 6 (some (aN s6)) = s7 at B7 ⊢
  refine WP.aload_n (pc := 81) dX8_init_81 rfl ?_
  refine WP.bipush (pc := 82) (v := 8) dX8_init_82 (by decide) ?_
  refine WP.anewarr (pc := 84) (mc := 0) (ms := 0) (n := 8) nX8_7 (by decide) (by decide) (by decide) dX8_init_84 ?_
  refine WP.putR (pc := 87) (k := 7) uX8 fX8_46 rfl rfl rfl rfl rfl (sA_T (t B7 (by decide)) (by rw [B7.1]; omega)) dX8_init_87 ?_
  have B8 : mkX σ (sR (sA s7 15 8) x 7 (some (aN s7))) x 62 := B7.arr (by decide) rfl (shXR_of (fun q hq c1 c2 => by rcases hq with rfl | rfl | rfl | rfl | rfl | rfl | rfl | rfl | rfl | rfl | rfl | rfl | rfl | rfl | rfl <;> first | exact Or.inr rfl | exact absurd c1 (by decide) | exact absurd c2 (by decide) | exact Or.inl ⟨by decide, by decide, by decide⟩))
  generalize sR (sA s7 15 8) x 7 (some (aN s7)) = s8 at B8 ⊢
  refine WP.ldcS (pc := 90) (j := 0) (List.mem_of_getElem? (i := 0) rfl) dX8_init_90 ?_
  refine WP.cVS (pc := 92) (mc2 := 0) (ms2 := 0) (j := 0) (by decide) kX8_51 (CJ_length Γ _ (j := 0) (by decide)) rfl rfl ⟨Nat.le_of_ble_eq_true rfl, Nat.le_of_ble_eq_true rfl⟩ (Nat.le_of_ble_eq_true rfl) (Nat.le_of_ble_eq_true rfl) (Nat.le_of_ble_eq_true rfl) rfl dX8_init_92 ?_
  refine WP.istore_n (pc := 95) dX8_init_95 (by decide) rfl ?_
  refine WP.iconst (pc := 96) (v := 0) dX8_init_96 (by decide) ?_
  refine WP.istore_n (pc := 97) dX8_init_97 (by decide) rfl ?_
  refine WP.self ?_
  exact LX8_init98 Γ B8 (cTL 0) 0 (aI s8) (Nat.zero_add _) (fun _ _ => rfl) (fun k => by
    rw [if_neg (Nat.not_lt_zero _)]
    exact congrFun (B8.2.2.1 (x + 56) (by omega) (by rw [B8.1]; omega)) k)
end T
