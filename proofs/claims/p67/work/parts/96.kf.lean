-- the law: its turns
theorem kL_119 : cKI RL 119 MX8_init 0 := ⟨rfl, wX8_init, (cInT 31 (by decide +kernel) (by decide +kernel)), (cInT 32 (by decide +kernel) (by decide +kernel)), rfl, rfl, (cInT 1 (by decide +kernel) (by decide +kernel)), ⟨by decide +kernel, by decide +kernel, by decide +kernel⟩⟩
theorem kL_120 : cKS RL 120 ML_text 1 := ⟨rfl, wL_text, (cInT 1068 (by decide +kernel) (by decide +kernel)), (cInT 1069 (by decide +kernel) (by decide +kernel)), (cInT 0 (by decide +kernel) (by decide +kernel)), ⟨by decide +kernel, by decide +kernel, by decide +kernel⟩⟩
theorem kL_124 : cKSH RL 124 ML_loaded 1 := ⟨wL_loaded, (cInT 1023 (by decide +kernel) (by decide +kernel)), (cInT 1024 (by decide +kernel) (by decide +kernel)), (cInT 0 (by decide +kernel) (by decide +kernel)), ⟨by decide +kernel, by decide +kernel, by decide +kernel⟩⟩
theorem kL_128 : cKV RL 128 MX8_errorCode 0 := ⟨rfl, wX8_errorCode, (cInT 658 (by decide +kernel) (by decide +kernel)), (cInT 659 (by decide +kernel) (by decide +kernel)), (cInT 660 (by decide +kernel) (by decide +kernel)), (cInT 1 (by decide +kernel) (by decide +kernel)), ⟨by decide +kernel, by decide +kernel, by decide +kernel⟩⟩
theorem kL_131 : cKV RL 131 MX8_eventCount 0 := ⟨rfl, wX8_eventCount, (cInT 662 (by decide +kernel) (by decide +kernel)), (cInT 663 (by decide +kernel) (by decide +kernel)), (cInT 664 (by decide +kernel) (by decide +kernel)), (cInT 1 (by decide +kernel) (by decide +kernel)), ⟨by decide +kernel, by decide +kernel, by decide +kernel⟩⟩
theorem kL_136 : cKI RL 136 MX9_init 1 := ⟨rfl, wX9_init, (cInT 679 (by decide +kernel) (by decide +kernel)), (cInT 680 (by decide +kernel) (by decide +kernel)), rfl, rfl, (cInT 27 (by decide +kernel) (by decide +kernel)), ⟨by decide +kernel, by decide +kernel, by decide +kernel⟩⟩
theorem kL_139 : cKV RL 139 MX9_acts 1 := ⟨rfl, wX9_acts, (cInT 856 (by decide +kernel) (by decide +kernel)), (cInT 857 (by decide +kernel) (by decide +kernel)), (cInT 858 (by decide +kernel) (by decide +kernel)), (cInT 27 (by decide +kernel) (by decide +kernel)), ⟨by decide +kernel, by decide +kernel, by decide +kernel⟩⟩
theorem kL_142 : cKSH RL 142 ML_acts 3 := ⟨wL_acts, (cInT 1327 (by decide +kernel) (by decide +kernel)), (cInT 1328 (by decide +kernel) (by decide +kernel)), (cInT 0 (by decide +kernel) (by decide +kernel)), ⟨by decide +kernel, by decide +kernel, by decide +kernel⟩⟩
theorem kL_145 : cKV RL 145 MX9_agrees 1 := ⟨rfl, wX9_agrees, (cInT 904 (by decide +kernel) (by decide +kernel)), (cInT 905 (by decide +kernel) (by decide +kernel)), (cInT 906 (by decide +kernel) (by decide +kernel)), (cInT 27 (by decide +kernel) (by decide +kernel)), ⟨by decide +kernel, by decide +kernel, by decide +kernel⟩⟩
theorem kL_149 : cKV RL 149 MX8_moneyDifference 0 := ⟨rfl, wX8_moneyDifference, (cInT 666 (by decide +kernel) (by decide +kernel)), (cInT 667 (by decide +kernel) (by decide +kernel)), (cInT 668 (by decide +kernel) (by decide +kernel)), (cInT 1 (by decide +kernel) (by decide +kernel)), ⟨by decide +kernel, by decide +kernel, by decide +kernel⟩⟩
theorem kL_152 : cKV RL 152 MX8_loafDifference 0 := ⟨rfl, wX8_loafDifference, (cInT 673 (by decide +kernel) (by decide +kernel)), (cInT 674 (by decide +kernel) (by decide +kernel)), (cInT 675 (by decide +kernel) (by decide +kernel)), (cInT 1 (by decide +kernel) (by decide +kernel)), ⟨by decide +kernel, by decide +kernel, by decide +kernel⟩⟩
abbrev ML_law (nm : String × List (Nat × Nat × Nat × Nat)) : cM := (⟨RL, nm.1, "([I)Z"⟩, cL_law, 6, (some FieldType.boolean), nm.2)
def lwO : cRes → cAS → Prop := fun r _ => r = .inl (some (.int 1))
section T
variable (Γ : cG) {nm : String × List (Nat × Nat × Nat × Nat)} {x h : Nat}
theorem G_money {σ : cAS} {m : mX} {N : Nat} {S : hBd} (hj : hJ σ x m h N S) (hc : csv m.s) : Ctr Γ (1, 23, 0, 0) MX8_moneyDifference [.ref x] σ (gP σ x m h N S 0) := gOk Γ hj (CX8_moneyDifference Γ hj.1) hc.money
theorem G_loaf {σ : cAS} {m : mX} {N : Nat} {S : hBd} (hj : hJ σ x m h N S) (hc : csv m.s) : Ctr Γ (0, 0, 0, 0) MX8_loafDifference [.ref x] σ (gP σ x m h N S 0) := gOk Γ hj (CX8_loafDifference Γ hj.1) hc.loaf
theorem LL_turn {mc ms k P : Nat} {σ : cAS} {m : mX} {N : Nat} {S : hBd} (hN : (gX Γ).2.1 ≤ 260) (h3 : 3 ≤ k) (h27 : k < 27) (hj : hJ σ x m h N S) (hR : hRs noP P m.s S) (hI : IV k m.s) (hn : m.n = 0) (hv : inv (598 + k) (10764000 + 18000 * k) (1722240 + 2880 * k) m) (hP : P + 13 ≤ 1900)
    (kk : ∀ τ m' N' S', hJ τ x m' h N' S' → hRs noP (P + 13) m'.s S' → IV (k + 1) m'.s → m'.n = 0 → inv (598 + (k + 1)) (10764000 + 18000 * (k + 1)) (1722240 + 2880 * (k + 1)) m' → WP Γ (21, 640, mc, ms) (ML_law nm) lwO 51 [some (.ref (gX Γ).1), some (.ref x), some (.ref h), some (.int (nI (k + 1))), none, none] [] τ) :
    WP Γ (21, 640, mc + 901, ms + 6256) (ML_law nm) lwO 57 [some (.ref (gX Γ).1), some (.ref x), some (.ref h), some (.int (nI k)), none, none] [] σ := by
  have hX := clN_lt Γ k
  have hw : wf (598 + k) (10764000 + 18000 * k) m.s := hv.1.1
  have b1 : 18000 * k ≤ 18000 * 27 := Nat.mul_le_mul_left _ (by omega)
  generalize hcc : 18000 * k = ck at b1 hv hw
  have h3b : m.s.2.1.length = 3 := hR.2.2.1.2.1
  have hT1 : 598 + k ≤ 2147483647 := by omega
  have hfr := hI.fresh h3 h27
  have hIa := hI.act (X := clN Γ k) h3 hw (by omega) (by omega)
  refine WP.aload_n (pc := 57) dL_law_57 rfl ?_
  refine WP.iload_n (pc := 58) dL_law_58 rfl ?_
  refine WP.cS1 (pc := 59) (mc2 := mc + 901) (ms2 := ms + 6256) kL_39 (CL_cell Γ hN (k := k) (by omega)) rfl ⟨Nat.le_of_ble_eq_true rfl, Nat.le_of_ble_eq_true rfl⟩ (by omega) (by omega) (Nat.le_of_ble_eq_true rfl) rfl dL_law_59 ?_
  refine WP.istore (pc := 62) dL_law_62 (Nat.le_of_ble_eq_true rfl) rfl ?_
  refine WP.aload_n (pc := 64) dL_law_64 rfl ?_
  refine WP.iload (pc := 65) dL_law_65 rfl ?_
  refine WP.cVs (pc := 67) (mc2 := mc + 571) (ms2 := ms + 5266) (ci := 9) kL_139 (CH_acts Γ (nm := nmT k) hj hR hw hT1 (by omega) hP hX) (by decide) rfl hj.t0 rfl ⟨Nat.le_of_ble_eq_true rfl, Nat.le_of_ble_eq_true rfl⟩ (by omega) (by omega) (Nat.le_of_ble_eq_true rfl) rfl dL_law_67 (fun w τ ⟨hw1, N1, S1, hj1, hR1⟩ => ?_)
  subst hw1
  refine WP.istore (pc := 70) dL_law_70 (Nat.le_of_ble_eq_true rfl) rfl ?_
  refine WP.aload_n (pc := 72) dL_law_72 rfl ?_
  refine WP.iload (pc := 73) dL_law_73 rfl ?_
  refine WP.iload_n (pc := 75) dL_law_75 rfl ?_
  refine WP.callSH (pc := 76) (mc2 := mc + 511) (ms2 := ms + 3066) (show mH ML_acts ≠ [] from List.cons_ne_nil _ _) kL_142 (CL_acts Γ (m := m) (t := k) hX (by omega) hj1.1 hw hT1 (by omega) hn h3b hfr) rfl ⟨Nat.le_of_ble_eq_true rfl, Nat.le_of_ble_eq_true rfl⟩ (by omega) (by omega) (Nat.le_of_ble_eq_true rfl) rfl dL_law_76 (fun v τ2 hh => ?_) (fun E τ2 hh => by
    obtain ⟨v, q, -⟩ := hh
    cases q)
  obtain ⟨v', q, q2, m', hx2, hk2, hs2, hn2, hi2⟩ := hh
  cases q
  subst q2
  have hj2 := hj1.M hk2 hx2
  rw [← hs2] at hR1 hIa
  have hv2 := hi2 _ _ _ hT1 (by omega) hv
  have hw2 : wf (598 + k + 1) (10764000 + ck + 18000) m'.s := hv2.1.1
  refine WP.iload (pc := 79) dL_law_79 rfl ?_
  refine WP.icmp_ne (pc := 81) (tgt := 106) dL_law_81 (by decide) (fun c => absurd rfl c) (fun c => ?_)
  refine WP.aload_n (pc := 84) dL_law_84 rfl ?_
  refine WP.aload_n (pc := 85) dL_law_85 rfl ?_
  refine WP.cVs (pc := 86) (mc2 := mc) (ms2 := ms) (ci := 9) kL_145 (CH_agrees Γ hj2 hR1 hw2 (by omega) hIa.tick) (by decide) rfl hj2.t0 rfl ⟨Nat.le_of_ble_eq_true rfl, Nat.le_of_ble_eq_true rfl⟩ (by omega) (by omega) (Nat.le_of_ble_eq_true rfl) rfl dL_law_86 (fun w τ3 ⟨hw3, S3, hj3, hR3⟩ => ?_)
  subst hw3
  refine WP.if_eq (pc := 89) (tgt := 106) dL_law_89 (by decide) (fun c => absurd c (by decide)) (fun c => ?_)
  refine WP.aload_n (pc := 92) dL_law_92 rfl ?_
  refine WP.cVs (pc := 93) (mc2 := mc) (ms2 := ms) (ci := 8) kL_149 (G_money Γ hj3 hIa.1) (by decide) rfl hj3.1.1.t0 rfl ⟨Nat.le_of_ble_eq_true rfl, Nat.le_of_ble_eq_true rfl⟩ (by omega) (by omega) (Nat.le_of_ble_eq_true rfl) rfl dL_law_93 (fun w τ4 ⟨hw4, hj4, hk4⟩ => ?_)
  subst hw4
  refine WP.if_ne (pc := 96) (tgt := 106) dL_law_96 (by decide) (fun c => absurd rfl c) (fun c => ?_)
  refine WP.aload_n (pc := 99) dL_law_99 rfl ?_
  refine WP.cVs (pc := 100) (mc2 := mc) (ms2 := ms) (ci := 8) kL_152 (G_loaf Γ hj4 hIa.1) (by decide) rfl hj4.1.1.t0 rfl ⟨Nat.le_of_ble_eq_true rfl, Nat.le_of_ble_eq_true rfl⟩ (by omega) (by omega) (Nat.le_of_ble_eq_true rfl) rfl dL_law_100 (fun w τ5 ⟨hw5, hj5, hk5⟩ => ?_)
  subst hw5
  refine WP.if_eq (pc := 103) (tgt := 108) dL_law_103 (by decide) (fun c => ?_) (fun c => absurd rfl c)
  refine WP.iinc (pc := 108) dL_law_108 rfl (nI_1 _) (Nat.le_of_ble_eq_true rfl) rfl ?_
  refine WP.goto (pc := 111) (tgt := 51) dL_law_111 (by decide) ?_
  refine WP.drop 4 (WP.drop 5 ?_)
  refine kk τ5 m' N1 S3 hj5 hR3 hIa hn2 ?_
  have e1 : 598 + (k + 1) = 598 + k + 1 := by omega
  have e2 : 10764000 + 18000 * (k + 1) = 10764000 + ck + 18000 := by rw [Nat.mul_succ, hcc, Nat.add_assoc]
  have e3 : 1722240 + 2880 * (k + 1) = 1722240 + 2880 * k + 2880 := by rw [Nat.mul_succ, Nat.add_assoc]
  rw [e1, e2, e3]
  exact hv2
theorem LL_loop (hN : (gX Γ).2.1 ≤ 260) : ∀ d k σ m N S P mc ms, k + d = 27 → 3 ≤ k → P + 13 * d ≤ 1800 → hJ σ x m h N S → hRs noP P m.s S → IV k m.s → m.n = 0 → inv (598 + k) (10764000 + 18000 * k) (1722240 + 2880 * k) m → WP Γ (21, 640, mc + 901 * d, ms + 6256 * d) (ML_law nm) lwO 51 [some (.ref (gX Γ).1), some (.ref x), some (.ref h), some (.int (nI k)), none, none] [] σ := by
  intro d
  induction d with
  | zero =>
    intro k σ m N S P mc ms h1 h3 hP hj hR hI hn hv
    have hk : k = 27 := by omega
    subst hk
    refine WP.iload_n (pc := 51) dL_law_51 rfl ?_
    refine WP.bipush (pc := 52) (v := 27) dL_law_52 (by decide) ?_
    refine WP.icmp_ge (pc := 54) (tgt := 114) dL_law_54 (by decide) (fun c => ?_) (fun c => absurd (by decide) c)
    refine WP.iconst (pc := 114) (v := 1) dL_law_114 (by decide) ?_
    exact WP.zret (pc := 115) rfl (by decide) dL_law_115 rfl
  | succ d ih =>
    intro k σ m N S P mc ms h1 h3 hP hj hR hI hn hv
    refine WP.iload_n (pc := 51) dL_law_51 rfl ?_
    refine WP.bipush (pc := 52) (v := 27) dL_law_52 (by decide) ?_
    refine WP.icmp_ge (pc := 54) (tgt := 114) dL_law_54 (by decide) (fun c => absurd c (nI_ge (a := k) (b := 27) (by omega) (by omega))) (fun c => ?_)
    have e1 : mc + 901 * (d + 1) = mc + 901 * d + 901 := by rw [Nat.mul_succ, Nat.add_assoc]
    have e2 : ms + 6256 * (d + 1) = ms + 6256 * d + 6256 := by rw [Nat.mul_succ, Nat.add_assoc]
    rw [e1, e2]
    exact LL_turn Γ (P := P) hN h3 (by omega) hj hR hI hn hv (by omega) (fun τ m' N' S' hj' hR' hI' hn' hv' => ih (k + 1) τ m' N' S' (P + 13) mc ms (by omega) (by omega) (by omega) hj' hR' hI' hn' hv')
end T
