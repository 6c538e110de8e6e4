section T
variable (Γ : cG) {x a : Nat} {l : List Nat}
abbrev sayP (σ0 : cAS) (x : Nat) (s : mS) (r : Nat × Int32 × List Int32 × (Nat → Option mS) × List mS) (l : List Nat) : Option Value → cAS → Prop := fun w τ => w = none ∧ (∃ f', xAt τ x (s, f', l.length, r) ∧ ∀ p c, l[p]? = some c → f' p = nI c) ∧ kpM σ0 τ x
theorem LL_say {σ0 : cAS} {s : mS} {r : Nat × Int32 × List Int32 × (Nat → Option mS) × List mS} (hl : l.length ≤ 200) :
    ∀ d i f σ, l.length ≤ i + 20 * d → i < l.length + 20 → xAt σ x (s, f, i, r) → (∀ p, p < i → f p = nI (bb l p)) → kpM σ0 σ x → strF σ x a l →
    WP Γ (10, 260, 2 * d + 1, 11 * d + 6) ML_says (rS (sayP σ0 x s r l)) 2 [some (.ref x), some (.ref a), some (.int (nI i)), none, none] [] σ := by
  intro d
  induction d with
  | zero =>
    intro i f σ h1 h2 hx hf hk hS
    refine WP.iload_n (pc := 2) dL_says_2 rfl ?_
    refine WP.aload_n (pc := 3) dL_says_3 rfl ?_
    refine WP.cV1 (pc := 4) (mc2 := 1) (ms2 := 6) (ci := 16) kL_8 (CS_length Γ hS.1) (by decide) rfl hS.1.2.1 rfl ⟨Nat.le_of_ble_eq_true rfl, Nat.le_of_ble_eq_true rfl⟩ (Nat.le_of_ble_eq_true rfl) (Nat.le_of_ble_eq_true rfl) (Nat.le_of_ble_eq_true rfl) rfl dL_says_4 ?_
    refine WP.icmp_ge (pc := 7) (tgt := 96) dL_says_7 (by decide) (fun _ => ?_) (fun h => absurd (nI_le (by omega) (by omega)) h)
    refine WP.aload_n (pc := 96) dL_says_96 rfl ?_
    refine WP.aload_n (pc := 97) dL_says_97 rfl ?_
    refine WP.cV1 (pc := 98) (mc2 := 1) (ms2 := 6) (ci := 16) kL_8 (CS_length Γ hS.1) (by decide) rfl hS.1.2.1 rfl ⟨Nat.le_of_ble_eq_true rfl, Nat.le_of_ble_eq_true rfl⟩ (Nat.le_of_ble_eq_true rfl) (Nat.le_of_ble_eq_true rfl) (Nat.le_of_ble_eq_true rfl) rfl dL_says_98 ?_
    refine WP.callV (pc := 101) (mc2 := 0) (ms2 := 0) (ci := 8) kL_24 (CX8_truncateInput Γ hx (nI l.length)) (by decide) rfl hx.1.t0 rfl ⟨Nat.le_of_ble_eq_true rfl, Nat.le_of_ble_eq_true rfl⟩ (Nat.le_of_ble_eq_true rfl) (Nat.le_of_ble_eq_true rfl) (Nat.le_of_ble_eq_true rfl) rfl dL_says_101 (fun v τ h => ?_) (fun E τ h => ?_)
    · obtain ⟨e1, e2, e3⟩ := h
      have hq : q_truncateInput (s, f, i, r) (nI l.length) = (0, nI l.length, (s, f, l.length, r)) := by
        unfold q_truncateInput
        rw [if_neg (fun q => q.elim (nI_pos (by omega)) (fun z => nI_nlt (a := i) (b := l.length) (by omega) (by omega) z))]
        show (0, nI l.length, (s, f, (nI l.length).toNatClampNeg, r)) = _
        rw [nI_clamp (by omega)]
      rw [hq] at e1 e2
      cases e1
      refine WP.pop (pc := 104) dL_says_104 rfl ?_
      refine WP.vret (pc := 105) rfl dL_says_105 ?_
      refine ⟨none, rfl, rfl, ⟨f, e2, fun p c hc => ?_⟩, hk.trans e3⟩
      have hp := (List.getElem?_eq_some_iff.mp hc).1
      rw [hf p (by omega)]
      unfold bb
      rw [if_pos hp, List.getD_eq_getElem?_getD, hc]
      rfl
    · obtain ⟨e1, -, -⟩ := h
      unfold q_truncateInput at e1
      rw [if_neg (fun q => q.elim (nI_pos (by omega)) (fun z => nI_nlt (a := i) (b := l.length) (by omega) (by omega) z))] at e1
      cases e1
  | succ d ih =>
    intro i f σ h1 h2 hx hf hk hS
    by_cases hge : l.length ≤ i
    · exact WP.less (mc2 := 2 * d + 1) (ms2 := 11 * d + 6) (by omega) (by omega) (ih i f σ (by omega) h2 hx hf hk hS)
    refine WP.iload_n (pc := 2) dL_says_2 rfl ?_
    refine WP.aload_n (pc := 3) dL_says_3 rfl ?_
    refine WP.cV1 (pc := 4) (mc2 := (2 * d + 1 + 1) + 1) (ms2 := (11 * d + 12) + 5) (ci := 16) kL_8 (CS_length Γ hS.1) (by decide) rfl hS.1.2.1 rfl ⟨Nat.le_of_ble_eq_true rfl, Nat.le_of_ble_eq_true rfl⟩ (by omega) (by omega) (Nat.le_of_ble_eq_true rfl) rfl dL_says_4 ?_
    refine WP.icmp_ge (pc := 7) (tgt := 96) dL_says_7 (by decide) (fun h => absurd h (nI_ge (by omega) (by omega))) (fun _ => ?_)
    refine WP.iconst (pc := 10) (v := 5) dL_says_10 (by decide) ?_
    refine WP.newarr (pc := 11) (kd := 11) (n := 5) (by decide) (by decide) rfl nA11 (by decide) (by decide) (by omega) dL_says_11 ?_
    refine WP.astore_n (pc := 13) dL_says_13 (by decide) rfl ?_
    refine WP.iconst (pc := 14) (v := 0) dL_says_14 (by decide) ?_
    refine WP.istore (pc := 15) dL_says_15 (by decide) rfl ?_
    have hx62 := hx.2.1
    have hkA : kpM σ (sA σ 11 5) x := kpM_sA hx62
    have hxA := hx.oth (kpX.sA (σ := σ) (x := x) (kd := 11) (n := 5))
    have hSA := hS.kp hkA
    have hfc : fre (sA σ 11 5) x (aN σ) := hx.new (kpX.sA) (Nat.le_refl _) (by rw [aN_sA]; omega)
    refine LL_in Γ (i := i) (c5 := aN σ) hl (by omega) 20 0 rfl _ (by rw [aT_sA, if_pos rfl]) hSA.1 (fun q hq => by rw [aI_sA, if_pos rfl]; rfl) (fun τ ho hτ => ?_)
    have hkτ : kpM σ τ x := hkA.yng (Nat.le_refl _) ho
    have hxτ := hxA.oth (ho.X hfc)
    have hT5 : aT τ (aN σ) = (11, 5) := by rw [ho.1, aT_sA, if_pos rfl]
    have t0 := hτ 0 (by omega)
    have t1 := hτ 1 (by omega)
    have t2 := hτ 2 (by omega)
    have t3 := hτ 3 (by omega)
    have t4 := hτ 4 (by omega)
    generalize hc5 : aN σ = c5 at hT5 t0 t1 t2 t3 t4
    refine WP.aload_n (pc := 70) dL_says_70 rfl ?_
    refine WP.aload_n (pc := 71) dL_says_71 rfl ?_
    refine WP.iconst (pc := 72) (v := 0) dL_says_72 (by decide) ?_
    refine WP.iaload (pc := 73) hT5 (cVin (k := 0) (n := 5) (by omega) (by omega)) dL_says_73 ?_
    rw [show (0 : Int32).toNatClampNeg = 0 from rfl, t0]
    refine WP.aload_n (pc := 74) dL_says_74 rfl ?_
    refine WP.iconst (pc := 75) (v := 1) dL_says_75 (by decide) ?_
    refine WP.iaload (pc := 76) hT5 (cVin (k := 1) (n := 5) (by omega) (by omega)) dL_says_76 ?_
    rw [show (1 : Int32).toNatClampNeg = 1 from rfl, t1]
    refine WP.aload_n (pc := 77) dL_says_77 rfl ?_
    refine WP.iconst (pc := 78) (v := 2) dL_says_78 (by decide) ?_
    refine WP.iaload (pc := 79) hT5 (cVin (k := 2) (n := 5) (by omega) (by omega)) dL_says_79 ?_
    rw [show (2 : Int32).toNatClampNeg = 2 from rfl, t2]
    refine WP.aload_n (pc := 80) dL_says_80 rfl ?_
    refine WP.iconst (pc := 81) (v := 3) dL_says_81 (by decide) ?_
    refine WP.iaload (pc := 82) hT5 (cVin (k := 3) (n := 5) (by omega) (by omega)) dL_says_82 ?_
    rw [show (3 : Int32).toNatClampNeg = 3 from rfl, t3]
    refine WP.aload_n (pc := 83) dL_says_83 rfl ?_
    refine WP.iconst (pc := 84) (v := 4) dL_says_84 (by decide) ?_
    refine WP.iaload (pc := 85) hT5 (cVin (k := 4) (n := 5) (by omega) (by omega)) dL_says_85 ?_
    rw [show (4 : Int32).toNatClampNeg = 4 from rfl, t4]
    have hq : q_appendInput (s, f, i, r) (nI (pw l (i + 4 * 0) 4)) (nI (pw l (i + 4 * 1) 4)) (nI (pw l (i + 4 * 2) 4)) (nI (pw l (i + 4 * 3) 4)) (nI (pw l (i + 4 * 4) 4)) = (0, nI (i + 20), (s, ap5 f i l i, i + 20, r)) := by
      unfold q_appendInput
      rw [if_neg (show ¬ 580 < i by omega)]
      rfl
    refine WP.callV (pc := 86) (mc2 := 2 * d + 1) (ms2 := 11 * d + 6) (ci := 8) kL_18 (CX8_appendInput Γ hxτ _ _ _ _ _) (by decide) rfl hxτ.1.t0 rfl ⟨Nat.le_of_ble_eq_true rfl, Nat.le_of_ble_eq_true rfl⟩ (by omega) (by omega) (Nat.le_of_ble_eq_true rfl) rfl dL_says_86 (fun v υ h => ?_) (fun E υ h => ?_)
    · obtain ⟨e1, e2, e3⟩ := h
      rw [hq] at e1 e2
      cases e1
      refine WP.pop (pc := 89) dL_says_89 rfl ?_
      refine WP.iinc (pc := 90) dL_says_90 rfl (nI_add i 20) (by decide) rfl ?_
      refine WP.goto (pc := 93) (tgt := 2) dL_says_93 (by decide) ?_
      refine WP.drop 3 ?_
      refine WP.drop 4 ?_
      exact ih (i + 20) _ υ (by omega) (by omega) e2 (fun p hp => by
        rw [ap5_at hSA.1.lt hp]
        by_cases c : i ≤ p
        · rw [if_pos c]
        · rw [if_neg c]
          exact hf p (by omega)) ((hk.trans hkτ).trans e3) ((hS.kp hkτ).kp e3)
    · obtain ⟨e1, -, -⟩ := h
      rw [hq] at e1
      cases e1
theorem CL_says {σ : cAS} {s : mS} {f : Nat → Int32} {r : Nat × Int32 × List Int32 × (Nat → Option mS) × List mS} (hl : l.length ≤ 200) (hx : xAt σ x (s, f, 0, r)) (hS : strF σ x a l) : Ctr Γ (10, 260, 21, 116) ML_says [.ref x, .ref a] σ (rS (sayP σ x s r l)) := by
  refine Ctr.go rfl (by decide) rfl rfl ?_
  refine WP.iconst (pc := 0) (v := 0) dL_says_0 (by decide) ?_
  refine WP.istore_n (pc := 1) dL_says_1 (by decide) rfl ?_
  exact LL_say Γ hl 10 0 f σ (by omega) (by omega) hx (fun p hp => absurd hp (Nat.not_lt_zero p)) kpM.rf hS
end T
