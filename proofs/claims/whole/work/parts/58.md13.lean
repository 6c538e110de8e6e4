-- behind: 57
section T
variable (Γ : cG) {σ : cAS} {m : Nat} {f : Nat → Int32} {n : Nat}
theorem CX9_readCustomer (hm : shM σ m) {I : Nat → Nat → Int32} {l : mLd} {s : mS} (h : mlAt I m f n l) (h0 : l.1 = 0) (hs : gAt (I (m + 2)) s) {T C : Nat} (hT : T ≤ 2147483646) (hw : wf T C s) : Ctr Γ (7, 149, 0, 0) MX9_readCustomer [.ref m] (wI σ I) (stP σ I m f n (sdCust f n s l)) := by
  have hl10 := hs.2.2.2.1.2.1
  have hnB : ∀ e ∈ s.2.1, nmOk e.1 := fun e he => (hw.2.1.2 e he).1
  have hnC : ∀ e ∈ s.2.2.2.1, nmOk e.1 := fun e he => (hw.2.2.2.2.1.2 e he).1
  have tail : ∀ I1 X, frK I I1 m → mlAt I1 m f n X → (X.1 = 0 → s.2.2.2.1.length < 10 ∧ X = ldX f n l) → (¬ X.1 = 0 → sdCust f n s l = (s, X)) → WP Γ (7, 149, 0, 0) MX9_readCustomer (stP σ I m f n (sdCust f n s l)) 26 [some (.ref m), none, none, none, none, none, none] [] (wI σ I1) := fun I1 X f1 g1 hX hX2 => by
    refine WP.aload_n (pc := 26) dX9_readCustomer_26 rfl ?_
    refine WP.cVp (pc := 27) (mc2 := 0) (ms2 := 0) (ci := 9) kX9_242 (CX9_newName Γ hm g1 (hs.K f1) hnB hnC) (by decide) rfl hm.t0 rfl ⟨Nat.le_of_ble_eq_true rfl, Nat.le_of_ble_eq_true rfl⟩ (Nat.le_of_ble_eq_true rfl) (Nat.le_of_ble_eq_true rfl) (Nat.le_of_ble_eq_true rfl) rfl dX9_readCustomer_27 (fun v2 I2 ⟨e2, f2, g2⟩ => ?_)
    refine WP.istore_n (pc := 30) dX9_readCustomer_30 (by decide) rfl ?_
    refine WP.aload_n (pc := 31) dX9_readCustomer_31 rfl ?_
    refine WP.cVp (pc := 32) (mc2 := 0) (ms2 := 0) (ci := 9) kX9_251 (CX9_kind Γ hm g2) (by decide) rfl hm.t0 rfl ⟨Nat.le_of_ble_eq_true rfl, Nat.le_of_ble_eq_true rfl⟩ (Nat.le_of_ble_eq_true rfl) (Nat.le_of_ble_eq_true rfl) (Nat.le_of_ble_eq_true rfl) rfl dX9_readCustomer_32 (fun v3 I3 ⟨e3, f3, g3⟩ => ?_)
    obtain ⟨K, hK⟩ : ∃ K, K = ldKind f n (ldM f n s X) := ⟨_, rfl⟩
    have g3 : mlAt I3 m f n K.2 := by rw [hK]; exact g3
    refine WP.istore_n (pc := 35) dX9_readCustomer_35 (by decide) rfl ?_
    refine WP.aload_n (pc := 36) dX9_readCustomer_36 rfl ?_
    refine WP.iconst (pc := 37) (v := 1) dX9_readCustomer_37 (by decide) ?_
    refine WP.bipush (pc := 38) (v := 9) dX9_readCustomer_38 (by decide) ?_
    refine WP.cVp (pc := 40) (mc2 := 0) (ms2 := 0) (ci := 9) kX9_245 (CX9_number Γ hm g3 (lo := 1) (hi := 9) (by decide) (by decide)) (by decide) rfl hm.t0 rfl ⟨Nat.le_of_ble_eq_true rfl, Nat.le_of_ble_eq_true rfl⟩ (Nat.le_of_ble_eq_true rfl) (Nat.le_of_ble_eq_true rfl) (Nat.le_of_ble_eq_true rfl) rfl dX9_readCustomer_40 (fun v4 I4 ⟨e4, f4, g4⟩ => ?_)
    obtain ⟨A, hA⟩ : ∃ A, A = ldNum f n 1 9 K.2 := ⟨_, rfl⟩
    have e4 : v4 = if A.2.1 = 0 then A.1 else 1 := by rw [hA]; exact e4
    have g4 : mlAt I4 m f n A.2 := by rw [hA]; exact g4
    refine WP.istore_n (pc := 43) dX9_readCustomer_43 (by decide) rfl ?_
    refine WP.aload_n (pc := 44) dX9_readCustomer_44 rfl ?_
    refine WP.iconst (pc := 45) (v := 1) dX9_readCustomer_45 (by decide) ?_
    refine WP.bipush (pc := 46) (v := 99) dX9_readCustomer_46 (by decide) ?_
    refine WP.cVp (pc := 48) (mc2 := 0) (ms2 := 0) (ci := 9) kX9_245 (CX9_number Γ hm g4 (lo := 1) (hi := 99) (by decide) (by decide)) (by decide) rfl hm.t0 rfl ⟨Nat.le_of_ble_eq_true rfl, Nat.le_of_ble_eq_true rfl⟩ (Nat.le_of_ble_eq_true rfl) (Nat.le_of_ble_eq_true rfl) (Nat.le_of_ble_eq_true rfl) rfl dX9_readCustomer_48 (fun v5 I5 ⟨e5, f5, g5⟩ => ?_)
    obtain ⟨B, hB⟩ : ∃ B, B = ldNum f n 1 99 A.2 := ⟨_, rfl⟩
    have e5 : v5 = if B.2.1 = 0 then B.1 else 1 := by rw [hB]; exact e5
    have g5 : mlAt I5 m f n B.2 := by rw [hB]; exact g5
    refine WP.istore (pc := 51) dX9_readCustomer_51 (by decide) rfl ?_
    refine WP.aload_n (pc := 53) dX9_readCustomer_53 rfl ?_
    refine WP.iconst (pc := 54) (v := 0) dX9_readCustomer_54 (by decide) ?_
    refine WP.sipush (pc := 55) (v := 999) dX9_readCustomer_55 (by decide) ?_
    refine WP.cVp (pc := 58) (mc2 := 0) (ms2 := 0) (ci := 9) kX9_245 (CX9_number Γ hm g5 (lo := 0) (hi := 999) (by decide) (by decide)) (by decide) rfl hm.t0 rfl ⟨Nat.le_of_ble_eq_true rfl, Nat.le_of_ble_eq_true rfl⟩ (Nat.le_of_ble_eq_true rfl) (Nat.le_of_ble_eq_true rfl) (Nat.le_of_ble_eq_true rfl) rfl dX9_readCustomer_58 (fun v6 I6 ⟨e6, f6, g6⟩ => ?_)
    obtain ⟨E, hE⟩ : ∃ E, E = ldNum f n 0 999 B.2 := ⟨_, rfl⟩
    have e6 : v6 = if E.2.1 = 0 then E.1 else 0 := by rw [hE]; exact e6
    have g6 : mlAt I6 m f n E.2 := by rw [hE]; exact g6
    refine WP.istore (pc := 61) dX9_readCustomer_61 (by decide) rfl ?_
    refine WP.aload_n (pc := 63) dX9_readCustomer_63 rfl ?_
    refine WP.iconst (pc := 64) (v := 1) dX9_readCustomer_64 (by decide) ?_
    refine WP.bipush (pc := 65) (v := 99) dX9_readCustomer_65 (by decide) ?_
    refine WP.cVp (pc := 67) (mc2 := 0) (ms2 := 0) (ci := 9) kX9_245 (CX9_number Γ hm g6 (lo := 1) (hi := 99) (by decide) (by decide)) (by decide) rfl hm.t0 rfl ⟨Nat.le_of_ble_eq_true rfl, Nat.le_of_ble_eq_true rfl⟩ (Nat.le_of_ble_eq_true rfl) (Nat.le_of_ble_eq_true rfl) (Nat.le_of_ble_eq_true rfl) rfl dX9_readCustomer_67 (fun v7 I7 ⟨e7, f7, g7⟩ => ?_)
    obtain ⟨G, hG⟩ : ∃ G, G = ldNum f n 1 99 E.2 := ⟨_, rfl⟩
    have e7 : v7 = if G.2.1 = 0 then G.1 else 1 := by rw [hG]; exact e7
    have g7 : mlAt I7 m f n G.2 := by rw [hG]; exact g7
    refine WP.istore (pc := 70) dX9_readCustomer_70 (by decide) rfl ?_
    refine WP.aload_n (pc := 72) dX9_readCustomer_72 rfl ?_
    refine WP.cVw (pc := 73) (mc2 := 0) (ms2 := 0) (ci := 9) kX9_248 (CX9_finish Γ hm g7) (by decide) rfl hm.t0 rfl ⟨Nat.le_of_ble_eq_true rfl, Nat.le_of_ble_eq_true rfl⟩ (Nat.le_of_ble_eq_true rfl) (Nat.le_of_ble_eq_true rfl) (Nat.le_of_ble_eq_true rfl) rfl dX9_readCustomer_73 (fun I8 ⟨f8, g8⟩ => ?_)
    have F := ((((((f1.trans f2).trans f3).trans f4).trans f5).trans f6).trans f7).trans f8
    obtain ⟨D, hD⟩ : ∃ D, D = ldSemi f n G.2 := ⟨_, rfl⟩
    rw [← hD] at g8
    have c3 := g8.2.2.2.1
    have c6 := g8.2.2.2.2.2.2.2
    have hDX : ¬ X.1 = 0 → D = X := fun z => by rw [hD, hG, hE, hB, hA, hK, ldM_n z, ldKind_n z, ldNum_n z, ldNum_n z, ldNum_n z, ldNum_n z, ldSemi_n z]
    have hS : X.1 = 0 → sdCust f n s l = (if D.1 = 0 then wlC s (nmF f (ldX f n l).2.2.2.1 (ldX f n l).2.2.2.2) K.1 A.1 B.1 E.1 G.1 else s, D) := fun z => by
      obtain ⟨z1, z2⟩ := hX z
      unfold sdCust
      rw [if_pos z1, hD, hG, hE, hB, hA, hK, ldM_0 z, z2]
    refine WP.aload_n (pc := 76) dX9_readCustomer_76 rfl ?_
    refine WP.gIv (pc := 77) (v := nI D.1) uX9 fX9_180 hm.t0 (by simp [up_eq, c3]) dX9_readCustomer_77 ?_
    refine WP.if_ne (pc := 80) (tgt := 107) dX9_readCustomer_80 (by decide) (fun h1 => ?_) (fun h1 => ?_)
    · skip
      refine WP.vret (pc := 107) rfl dX9_readCustomer_107 ?_
      refine stP.err (s := s) ?_ (frR.ofK F) g8 (code_n h1)
      by_cases z : X.1 = 0
      · rw [hS z]
      · rw [hX2 z, hDX z]
    · have d0 : D.1 = 0 := (nI_eq (b := 0) (by omega) (by decide)).mp h1
      have z : X.1 = 0 := Classical.byContradiction fun z => z (by rw [← hDX z]; exact d0)
      obtain ⟨z1, z2⟩ := hX z
      have k7 := (ldSemi_0 (by rw [← hD]; exact d0)).1
      have k6 := (ldNum_0 (f := f) (n := n) (lo := 1) (hi := 99) (l := E.2) (by rw [← hG]; exact k7)).1
      have k5 := (ldNum_0 (f := f) (n := n) (lo := 0) (hi := 999) (l := B.2) (by rw [← hE]; exact k6)).1
      have k4 := (ldNum_0 (f := f) (n := n) (lo := 1) (hi := 99) (l := A.2) (by rw [← hB]; exact k5)).1
      have k3 := (ldNum_0 (f := f) (n := n) (lo := 1) (hi := 9) (l := K.2) (by rw [← hA]; exact k4)).1
      have k2 := (ldKind_0 (f := f) (n := n) (l := ldM f n s X) (by rw [← hK]; exact k3)).1
      have e3' : v3 = K.1 := by rw [e3, hK, ldKind_1 k2]
      rw [ldM_0 z] at k2
      have e2' := e2 z k2
      rw [z2] at e2'
      rw [if_pos k4] at e4
      rw [if_pos k5] at e5
      rw [if_pos k6] at e6
      rw [if_pos k7] at e7
      rw [e2', e3', e4, e5, e6, e7]
      have h5 := hs.K F
      generalize hnm : nmF f (ldX f n l).2.2.2.1 (ldX f n l).2.2.2.2 = nm at hS
      refine WP.aload_n (pc := 83) dX9_readCustomer_83 rfl ?_
      refine WP.gR (pc := 84) uX9 fX9_13 hm.t0 hm.r0_1 dX9_readCustomer_84 ?_
      refine WP.iload_n (pc := 87) dX9_readCustomer_87 rfl ?_
      refine WP.iload_n (pc := 88) dX9_readCustomer_88 rfl ?_
      refine WP.iload_n (pc := 89) dX9_readCustomer_89 rfl ?_
      refine WP.iload (pc := 90) dX9_readCustomer_90 rfl ?_
      refine WP.iload (pc := 92) dX9_readCustomer_92 rfl ?_
      refine WP.iload (pc := 94) dX9_readCustomer_94 rfl ?_
      refine WP.cSp (pc := 96) (mc2 := 0) (ms2 := 0) kX9_260 (CX9_join Γ hm.t2 h5 z1 nm K.1 A.1 B.1 E.1 G.1) rfl ⟨Nat.le_of_ble_eq_true rfl, Nat.le_of_ble_eq_true rfl⟩ (Nat.le_of_ble_eq_true rfl) (Nat.le_of_ble_eq_true rfl) (Nat.le_of_ble_eq_true rfl) rfl dX9_readCustomer_96 (fun w I9 ⟨hw9, f9, g9⟩ => ?_)
      obtain ⟨q, hq, -, hq2⟩ := hw.1.2.2.2
      refine WP.if_ge (pc := 99) (tgt := 107) dX9_readCustomer_99 (by decide) (fun h2 => ?_) (fun h2 => ?_)
      · skip
        refine WP.vret (pc := 107) rfl dX9_readCustomer_107 ?_
        exact stP.ok (s' := wlC s nm K.1 A.1 B.1 E.1 G.1) (D := D) (by rw [hS z, if_pos d0]) ((frR.ofK F).trans (frR.ofB f9)) (g8.B f9) g9
      · exact absurd (by rw [hw9, hq]; exact nI_pos' (by omega)) h2
  refine Ctr.go rfl (by decide) rfl rfl ?_
  refine WP.aload_n (pc := 0) dX9_readCustomer_0 rfl ?_
  refine WP.aload_n (pc := 1) dX9_readCustomer_1 rfl ?_
  refine WP.gR (pc := 2) uX9 fX9_13 hm.t0 hm.r0_1 dX9_readCustomer_2 ?_
  refine WP.iconst (pc := 5) (v := 2) dX9_readCustomer_5 (by decide) ?_
  refine WP.ialdv (pc := 6) (k := 2) hm.t2 (by decide) (by decide) (v := (nI s.2.2.2.1.length)) (hs.2.2.2.1.1) dX9_readCustomer_6 ?_
  refine WP.bipush (pc := 7) (v := 10) dX9_readCustomer_7 (by decide) ?_
  refine WP.icmp_ge (pc := 9) (tgt := 16) dX9_readCustomer_9 (by decide) (fun h1 => ?_) (fun h1 => ?_)
  · have hge : ¬ s.2.2.2.1.length < 10 := fun q => nI_ge (b := 10) q (by omega) h1
    refine WP.iconst (pc := 16) (v := 0) dX9_readCustomer_16 (by decide) ?_
    refine WP.iconst (pc := 17) (v := 5) dX9_readCustomer_17 (by decide) ?_
    refine WP.cVp (pc := 18) (mc2 := 0) (ms2 := 0) (ci := 9) kX9_212 (CX9_check Γ hm h false 5 (by omega)) (by decide) rfl hm.t0 rfl ⟨Nat.le_of_ble_eq_true rfl, Nat.le_of_ble_eq_true rfl⟩ (Nat.le_of_ble_eq_true rfl) (Nat.le_of_ble_eq_true rfl) (Nat.le_of_ble_eq_true rfl) rfl dX9_readCustomer_18 (fun v1 I1 ⟨f1, g1⟩ => ?_)
    rw [ldC_f h0] at g1
    refine WP.pop (pc := 21) dX9_readCustomer_21 rfl ?_
    refine WP.aload_n (pc := 22) dX9_readCustomer_22 rfl ?_
    refine WP.cVw (pc := 23) (mc2 := 0) (ms2 := 0) (ci := 9) kX9_215 (CX9_next Γ hm g1) (by decide) rfl hm.t0 rfl ⟨Nat.le_of_ble_eq_true rfl, Nat.le_of_ble_eq_true rfl⟩ (Nat.le_of_ble_eq_true rfl) (Nat.le_of_ble_eq_true rfl) (Nat.le_of_ble_eq_true rfl) rfl dX9_readCustomer_23 (fun I2 ⟨f2, g2⟩ => ?_)
    rw [ldN_n (ldF_n (by decide))] at g2
    refine tail I2 _ ((frK.ofj f1 (by omega) (by omega)).trans f2) g2 (fun q => absurd q (ldF_n (by decide))) (fun _ => ?_)
    unfold sdCust
    rw [if_neg hge]
  · have hlt : s.2.2.2.1.length < 10 := Nat.not_le.mp fun q => h1 (nI_le (a := 10) q (by omega))
    refine WP.iconst (pc := 12) (v := 1) dX9_readCustomer_12 (by decide) ?_
    refine WP.goto (pc := 13) (tgt := 17) dX9_readCustomer_13 (by decide) ?_
    refine WP.iconst (pc := 17) (v := 5) dX9_readCustomer_17 (by decide) ?_
    refine WP.cVp (pc := 18) (mc2 := 0) (ms2 := 0) (ci := 9) kX9_212 (CX9_check Γ hm h true 5 (by omega)) (by decide) rfl hm.t0 rfl ⟨Nat.le_of_ble_eq_true rfl, Nat.le_of_ble_eq_true rfl⟩ (Nat.le_of_ble_eq_true rfl) (Nat.le_of_ble_eq_true rfl) (Nat.le_of_ble_eq_true rfl) rfl dX9_readCustomer_18 (fun v1 I1 ⟨f1, g1⟩ => ?_)
    rw [ldC_t] at g1
    refine WP.pop (pc := 21) dX9_readCustomer_21 rfl ?_
    refine WP.aload_n (pc := 22) dX9_readCustomer_22 rfl ?_
    refine WP.cVw (pc := 23) (mc2 := 0) (ms2 := 0) (ci := 9) kX9_215 (CX9_next Γ hm g1) (by decide) rfl hm.t0 rfl ⟨Nat.le_of_ble_eq_true rfl, Nat.le_of_ble_eq_true rfl⟩ (Nat.le_of_ble_eq_true rfl) (Nat.le_of_ble_eq_true rfl) (Nat.le_of_ble_eq_true rfl) rfl dX9_readCustomer_23 (fun I2 ⟨f2, g2⟩ => ?_)
    rw [ldN_0 h0] at g2
    exact tail I2 _ ((frK.ofj f1 (by omega) (by omega)).trans f2) g2 (fun _ => ⟨hlt, rfl⟩) (fun q => absurd h0 q)
theorem bake_eq {s : mS} {i : Nat} {a : mLd} : ldN f n (ldC (decide (rfB s i = 0)) 6 (ldC (smI' f a.2.2) 1 a)) = ldSemi f n (sdBk6 f s i a) := by
  unfold sdBk6
  by_cases h0 : a.1 = 0
  · cases hs : smI' f a.2.2
    · rw [if_neg (fun z => absurd z.2.1 (by decide)), ldC_f h0, ldC_n (ldF_n (by decide)), ldN_n (ldF_n (by decide))]
      unfold ldSemi
      rw [if_pos h0, if_neg (by rw [hs]; decide)]
    · rw [ldC_t]
      by_cases hr : rfB s i = 0
      · rw [if_neg (fun z => z.2.2 hr), decide_eq_true hr, ldC_t, ldN_0 h0]
        unfold ldSemi
        rw [if_pos h0, if_pos hs]
      · rw [if_pos ⟨h0, rfl, hr⟩, decide_eq_false hr, ldC_f h0, ldN_n (ldF_n (by decide)), ldSemi_n (ldF_n (by decide))]
  · rw [if_neg (fun z => h0 z.1), ldC_n h0, ldC_n h0, ldN_n h0, ldSemi_n h0]
theorem bkr_eq {s : mS} {l : mLd} (h0 : l.1 = 0) : ldN f n (ldC (decide (bkIx s.2.1 (ldNm f l) ≠ -1)) 4 (ldC (decide (l.2.2.1 = 1)) 1 l)) = ldBkr f n s l := by
  unfold ldBkr
  by_cases h1 : l.2.2.1 = 1
  · rw [if_pos h1, decide_eq_true h1, ldC_t]
    by_cases h2 : bkIx s.2.1 (ldNm f l) = -1
    · rw [if_pos h2, decide_eq_false (fun z => z h2), ldC_f h0, ldN_n (ldF_n (by decide))]
    · rw [if_neg h2, decide_eq_true h2, ldC_t, ldN_0 h0]
  · rw [if_neg h1, decide_eq_false h1, ldC_f h0, ldC_n (ldF_n (by decide)), ldN_n (ldF_n (by decide))]
theorem ldC_0 {b : Bool} {c : Nat} {l : mLd} (hc : c ≠ 0) (h : (ldC b c l).1 = 0) : l.1 = 0 ∧ b = true ∧ ldC b c l = l := by
  by_cases h0 : l.1 = 0
  · cases b
    · rw [ldC_f h0] at h
      exact absurd h hc
    · exact ⟨h0, rfl, ldC_t⟩
  · rw [ldC_n h0] at h
    exact absurd h h0
theorem CX9_readBake (hm : shM σ m) {I : Nat → Nat → Int32} {l : mLd} {s : mS} (h : mlAt I m f n l) (h0 : l.1 = 0) (hs : gAt (I (m + 2)) s) {T C : Nat} (hw : wf T C s) : Ctr Γ (7, 149, 0, 0) MX9_readBake [.ref m] (wI σ I) (stP σ I m f n (sdBake f n s l)) := by
  have hl4 := hs.2.1.2.1
  have hx0 : (ldX f n l).1 = 0 := h0
  have hnB : ∀ e ∈ s.2.1, nmOk e.1 := fun e he => (hw.2.1.2 e he).1
  obtain ⟨X, hXe⟩ : ∃ X, X = ldX f n l := ⟨_, rfl⟩
  obtain ⟨Y, hY⟩ : ∃ Y, Y = ldBkr f n s X := ⟨_, rfl⟩
  obtain ⟨K, hK⟩ : ∃ K, K = ldKind f n Y := ⟨_, rfl⟩
  obtain ⟨D, hD⟩ : ∃ D, D = ldSemi f n (sdBk6 f s (bkIx s.2.1 (ldNm f X)).toNatClampNeg K.2) := ⟨_, rfl⟩
  have hS : sdBake f n s l = (if D.1 = 0 then bgB s (bkIx s.2.1 (ldNm f X)).toNatClampNeg K.1 else s, D) := by rw [hD, hK, hY, hXe]; rfl
  rw [← hXe] at hx0
  have hkY := kind_eq (f := f) (n := n) (l := Y)
  rw [← hK] at hkY
  -- from the kind on
  have tail77 : ∀ v I1 Y', frK I I1 m → mlAt I1 m f n Y' → ldN f n Y' = Y → (Y.1 = 0 → v = bkIx s.2.1 (ldNm f X) ∧ bkIx s.2.1 (ldNm f X) ≠ -1) → WP Γ (7, 149, 0, 0) MX9_readBake (stP σ I m f n (sdBake f n s l)) 77 [some (.ref m), some (.int v), none] [] (wI σ I1) := fun v I1 Y' f1 g1 hY' hv => by
    refine WP.aload_n (pc := 77) dX9_readBake_77 rfl ?_
    refine WP.cVw (pc := 78) (mc2 := 0) (ms2 := 0) (ci := 9) kX9_215 (CX9_next Γ hm g1) (by decide) rfl hm.t0 rfl ⟨Nat.le_of_ble_eq_true rfl, Nat.le_of_ble_eq_true rfl⟩ (Nat.le_of_ble_eq_true rfl) (Nat.le_of_ble_eq_true rfl) (Nat.le_of_ble_eq_true rfl) rfl dX9_readBake_78 (fun I2 ⟨f2, g2⟩ => ?_)
    rw [hY'] at g2
    refine WP.aload_n (pc := 81) dX9_readBake_81 rfl ?_
    refine WP.cVp (pc := 82) (mc2 := 0) (ms2 := 0) (ci := 9) kX9_251 (CX9_kind Γ hm g2) (by decide) rfl hm.t0 rfl ⟨Nat.le_of_ble_eq_true rfl, Nat.le_of_ble_eq_true rfl⟩ (Nat.le_of_ble_eq_true rfl) (Nat.le_of_ble_eq_true rfl) (Nat.le_of_ble_eq_true rfl) rfl dX9_readBake_82 (fun k I3 ⟨ek, f3, g3⟩ => ?_)
    rw [← hK] at g3
    refine WP.istore_n (pc := 85) dX9_readBake_85 (by decide) rfl ?_
    refine WP.aload_n (pc := 86) dX9_readBake_86 rfl ?_
    refine WP.cVw (pc := 87) (mc2 := 0) (ms2 := 0) (ci := 9) kX9_218 (CX9_semicolon Γ hm g3) (by decide) rfl hm.t0 rfl ⟨Nat.le_of_ble_eq_true rfl, Nat.le_of_ble_eq_true rfl⟩ (Nat.le_of_ble_eq_true rfl) (Nat.le_of_ble_eq_true rfl) (Nat.le_of_ble_eq_true rfl) rfl dX9_readBake_87 (fun I4 ⟨f4, g4⟩ => ?_)
    have F4 := (((f1.trans f2).trans f3).trans (frK.ofj f4 (by omega) (by omega)))
    have c3 := g4.2.2.2.1
    have c6 := g4.2.2.2.2.2.2.2
    have tail144 : ∀ I6 Z (s' : mS), frR I I6 m → mlAt I6 m f n Z → ldN f n Z = D → (D.1 = 0 → gAt (I6 (m + 2)) s') → (D.1 = 0 → bgB s (bkIx s.2.1 (ldNm f X)).toNatClampNeg K.1 = s') → WP Γ (7, 149, 0, 0) MX9_readBake (stP σ I m f n (sdBake f n s l)) 144 [some (.ref m), some (.int v), some (.int k)] [] (wI σ I6) := fun I6 Z s' f6 g6 hZ hs6 hb => by
      refine WP.aload_n (pc := 144) dX9_readBake_144 rfl ?_
      refine WP.cVw (pc := 145) (mc2 := 0) (ms2 := 0) (ci := 9) kX9_215 (CX9_next Γ hm g6) (by decide) rfl hm.t0 rfl ⟨Nat.le_of_ble_eq_true rfl, Nat.le_of_ble_eq_true rfl⟩ (Nat.le_of_ble_eq_true rfl) (Nat.le_of_ble_eq_true rfl) (Nat.le_of_ble_eq_true rfl) rfl dX9_readBake_145 (fun I7 ⟨f7, g7⟩ => ?_)
      refine WP.vret (pc := 148) rfl dX9_readBake_148 ?_
      rw [hZ] at g7
      by_cases d0 : D.1 = 0
      · exact stP.ok (s' := s') (D := D) (by rw [hS, if_pos d0, hb d0]) (f6.trans (frR.ofK f7)) g7 ((hs6 d0).K f7)
      · exact stP.err (s := s) (by rw [hS]) (f6.trans (frR.ofK f7)) g7 d0
    have hbe := bake_eq (f := f) (n := n) (s := s) (i := (bkIx s.2.1 (ldNm f X)).toNatClampNeg) (a := K.2)
    rw [← hD] at hbe
    refine WP.aload_n (pc := 90) dX9_readBake_90 rfl ?_
    refine WP.aload_n (pc := 91) dX9_readBake_91 rfl ?_
    refine WP.gIv (pc := 92) (v := nI (ldC (smI' f K.2.2.2) 1 K.2).1) uX9 fX9_180 hm.t0 (by simp [up_eq, c3]) dX9_readBake_92 ?_
    refine WP.if_ne (pc := 95) (tgt := 109) dX9_readBake_95 (by decide) (fun h1 => ?_) (fun h1 => ?_)
    · have q := code_n h1
      rw [ldC_n q, ldN_n q] at hbe
      refine WP.iconst (pc := 109) (v := 1) dX9_readBake_109 (by decide) ?_
      refine WP.goto (pc := 110) (tgt := 114) dX9_readBake_110 (by decide) ?_
      refine WP.bipush (pc := 114) (v := 6) dX9_readBake_114 (by decide) ?_
      refine WP.cVp (pc := 116) (mc2 := 0) (ms2 := 0) (ci := 9) kX9_212 (CX9_check Γ hm g4 true 6 (by omega)) (by decide) rfl hm.t0 rfl ⟨Nat.le_of_ble_eq_true rfl, Nat.le_of_ble_eq_true rfl⟩ (Nat.le_of_ble_eq_true rfl) (Nat.le_of_ble_eq_true rfl) (Nat.le_of_ble_eq_true rfl) rfl dX9_readBake_116 (fun v5 I5 ⟨f5, g5⟩ => ?_)
      rw [ldC_t] at g5
      have c5 := g5.2.2.2.1
      refine WP.pop (pc := 119) dX9_readBake_119 rfl ?_
      refine WP.aload_n (pc := 120) dX9_readBake_120 rfl ?_
      refine WP.gIv (pc := 121) (v := nI (ldC (smI' f K.2.2.2) 1 K.2).1) uX9 fX9_180 hm.t0 (by simp [up_eq, c5]) dX9_readBake_121 ?_
      refine WP.if_ne (pc := 124) (tgt := 144) dX9_readBake_124 (by decide) (fun h2 => ?_) (fun h2 => ?_)
      · exact tail144 I5 _ s ((frR.ofK F4).trans (frR.ofj f5)) g5 (by rw [ldN_n q]; exact hbe) (fun z => absurd (by rw [hbe]; exact z) q) (fun z => absurd (by rw [hbe]; exact z) q)
      · exact absurd h2 h1
    · have q0 : (ldC (smI' f K.2.2.2) 1 K.2).1 = 0 := (nI_eq (b := 0) (by omega) (by decide)).mp h1
      obtain ⟨k0, hsm, hCe⟩ := ldC_0 (by decide) q0
      have y0 : Y.1 = 0 := (ldKind_0 (by rw [← hK]; exact k0)).1
      obtain ⟨hv1, hv2⟩ := hv y0
      obtain ⟨j, e, hj, he, -, hj2⟩ := bkIx_in hl4 hv2
      have ho := hw.2.1.2 e (List.mem_of_getElem? he)
      have hrf : rfB s (bkIx s.2.1 (ldNm f X)).toNatClampNeg = rfU s e := by
        rw [hj, nI_clamp (by omega)]
        unfold rfB
        rw [he]
      have hs4 := hs.K F4
      rw [hv1, hj] at tail144 ⊢
      refine WP.aload_n (pc := 98) dX9_readBake_98 rfl ?_
      refine WP.gR (pc := 99) uX9 fX9_13 hm.t0 hm.r0_1 dX9_readBake_99 ?_
      refine WP.iload_n (pc := 102) dX9_readBake_102 rfl ?_
      refine WP.cS1 (pc := 103) (mc2 := 0) (ms2 := 0) kX9_254 (CX9_whyNotBake Γ hm.t2 hs4 hw.2.1.2 he) rfl ⟨Nat.le_of_ble_eq_true rfl, Nat.le_of_ble_eq_true rfl⟩ (Nat.le_of_ble_eq_true rfl) (Nat.le_of_ble_eq_true rfl) (Nat.le_of_ble_eq_true rfl) rfl dX9_readBake_103 ?_
      refine WP.if_ne (pc := 106) (tgt := 113) dX9_readBake_106 (by decide) (fun h3 => ?_) (fun h3 => ?_)
      · have hr : ¬ rfB s (nI j).toNatClampNeg = 0 := by rw [← hj, hrf]; exact h3
        rw [hj, decide_eq_false hr] at hbe
        refine WP.iconst (pc := 113) (v := 0) dX9_readBake_113 (by decide) ?_
        refine WP.bipush (pc := 114) (v := 6) dX9_readBake_114 (by decide) ?_
        refine WP.cVp (pc := 116) (mc2 := 0) (ms2 := 0) (ci := 9) kX9_212 (CX9_check Γ hm g4 false 6 (by omega)) (by decide) rfl hm.t0 rfl ⟨Nat.le_of_ble_eq_true rfl, Nat.le_of_ble_eq_true rfl⟩ (Nat.le_of_ble_eq_true rfl) (Nat.le_of_ble_eq_true rfl) (Nat.le_of_ble_eq_true rfl) rfl dX9_readBake_116 (fun v5 I5 ⟨f5, g5⟩ => ?_)
        have q6 : ¬ (ldC false 6 (ldC (smI' f K.2.2.2) 1 K.2)).1 = 0 := by rw [ldC_f q0]; exact ldF_n (by decide)
        rw [ldN_n q6] at hbe
        have c5 := g5.2.2.2.1
        have c56 := g5.2.2.2.2.2.2.2
        refine WP.pop (pc := 119) dX9_readBake_119 rfl ?_
        refine WP.aload_n (pc := 120) dX9_readBake_120 rfl ?_
        refine WP.gIv (pc := 121) (v := nI (ldC false 6 (ldC (smI' f K.2.2.2) 1 K.2)).1) uX9 fX9_180 hm.t0 (by simp [up_eq, c5]) dX9_readBake_121 ?_
        refine WP.if_ne (pc := 124) (tgt := 144) dX9_readBake_124 (by decide) (fun h2 => ?_) (fun h2 => ?_)
        · exact tail144 I5 _ s ((frR.ofK F4).trans (frR.ofj f5)) g5 (by rw [ldN_n q6]; exact hbe) (fun z => absurd (by rw [hbe]; exact z) q6) (fun z => absurd (by rw [hbe]; exact z) q6)
        · exact absurd ((nI_eq (b := 0) (by omega) (by decide)).mp h2) q6
      · have hr : rfB s (nI j).toNatClampNeg = 0 := by rw [← hj, hrf]; exact h3
        rw [hj, decide_eq_true hr] at hbe
        refine WP.iconst (pc := 109) (v := 1) dX9_readBake_109 (by decide) ?_
        refine WP.goto (pc := 110) (tgt := 114) dX9_readBake_110 (by decide) ?_
        refine WP.bipush (pc := 114) (v := 6) dX9_readBake_114 (by decide) ?_
        refine WP.cVp (pc := 116) (mc2 := 0) (ms2 := 0) (ci := 9) kX9_212 (CX9_check Γ hm g4 true 6 (by omega)) (by decide) rfl hm.t0 rfl ⟨Nat.le_of_ble_eq_true rfl, Nat.le_of_ble_eq_true rfl⟩ (Nat.le_of_ble_eq_true rfl) (Nat.le_of_ble_eq_true rfl) (Nat.le_of_ble_eq_true rfl) rfl dX9_readBake_116 (fun v5 I5 ⟨f5, g5⟩ => ?_)
        have c5 := g5.2.2.2.1
        have z5 : I5 m 23 = 0 := by rw [c5, ldC_t, q0]; rfl
        refine WP.pop (pc := 119) dX9_readBake_119 rfl ?_
        refine WP.aload_n (pc := 120) dX9_readBake_120 rfl ?_
        refine WP.gIv (pc := 121) (v := 0) uX9 fX9_180 hm.t0 (by simp [up_eq, z5]) dX9_readBake_121 ?_
        refine WP.if_ne (pc := 124) (tgt := 144) dX9_readBake_124 (by decide) (fun h2 => ?_) (fun h2 => ?_)
        · exact absurd rfl h2
        · refine WP.aload_n (pc := 127) dX9_readBake_127 rfl ?_
          refine WP.gR (pc := 128) uX9 fX9_13 hm.t0 hm.r0_1 dX9_readBake_128 ?_
          refine WP.iload_n (pc := 131) dX9_readBake_131 rfl ?_
          refine WP.iload_n (pc := 132) dX9_readBake_132 rfl ?_
          refine WP.cSp (pc := 133) (mc2 := 0) (ms2 := 0) kX9_257 (CX9_fire Γ hm.t2 (hs4.j f5) he k) rfl ⟨Nat.le_of_ble_eq_true rfl, Nat.le_of_ble_eq_true rfl⟩ (Nat.le_of_ble_eq_true rfl) (Nat.le_of_ble_eq_true rfl) (Nat.le_of_ble_eq_true rfl) rfl dX9_readBake_133 (fun w I6 ⟨hw6, f6, g6⟩ => ?_)
          obtain ⟨o, ho1, ho2, ho3⟩ := ho.2.1
          refine WP.if_ge (pc := 136) (tgt := 144) dX9_readBake_136 (by decide) (fun h4 => ?_) (fun h4 => ?_)
          · refine tail144 I6 _ (bgB s j k) (((frR.ofK F4).trans (frR.ofj f5)).trans (frR.ofB f6)) (g5.B f6) hbe (fun _ => g6) (fun _ => ?_)
            rw [nI_clamp (by omega), ek, hK, ldKind_1 y0]
          · exact absurd (by rw [hw6, ho1]; exact nI_pos' (by omega)) h4
  have hb0 := bkr_eq (f := f) (n := n) (s := s) hx0
  rw [← hY] at hb0
  -- behind the test of the word
  have tail23 : ∀ I1, frK I I1 m → mlAt I1 m f n (ldC (decide (X.2.2.1 = 1)) 1 X) → WP Γ (7, 149, 0, 0) MX9_readBake (stP σ I m f n (sdBake f n s l)) 23 [some (.ref m), none, none] [] (wI σ I1) := fun I1 f1 g1 => by
    have hok := g1.ok
    have c3 := g1.2.2.2.1
    have c6 := g1.2.2.2.2.2.2.2
    by_cases t1 : X.2.2.1 = 1
    · rw [decide_eq_true t1] at g1 hb0 hok c3 c6
      rw [ldC_t] at g1 hb0 hok c3 c6
      have z1 : I1 m 23 = 0 := by rw [c3, hx0]; rfl
      obtain ⟨k17, kn, kt, k23, k24, ktk, -, -⟩ := id g1
      refine WP.aload_n (pc := 23) dX9_readBake_23 rfl ?_
      refine WP.gIv (pc := 24) (v := 0) uX9 fX9_180 hm.t0 (by simp [up_eq, z1]) dX9_readBake_24 ?_
      refine WP.if_ne (pc := 27) (tgt := 52) dX9_readBake_27 (by decide) (fun h1 => ?_) (fun h1 => ?_)
      · exact absurd rfl h1
      · refine WP.aload_n (pc := 30) dX9_readBake_30 rfl ?_
        refine WP.gR (pc := 31) uX9 fX9_13 hm.t0 hm.r0_1 dX9_readBake_31 ?_
        refine WP.aload_n (pc := 34) dX9_readBake_34 rfl ?_
        refine WP.aload_n (pc := 35) dX9_readBake_35 rfl ?_
        refine WP.gIv (pc := 36) (v := nI X.2.2.2.1) uX9 fX9_192 hm.t0 (by simp [up_eq, ktk.1]) dX9_readBake_36 ?_
        refine WP.aload_n (pc := 39) dX9_readBake_39 rfl ?_
        refine WP.gIv (pc := 40) (v := nI (if X.2.2.1 = 1 then X.2.2.2.2 else 0)) uX9 fX9_195 hm.t0 (by simp [up_eq, ktk.2.2.2.1]) dX9_readBake_40 ?_
        rw [if_pos t1]
        refine WP.cV1 (pc := 43) (mc2 := 0) (ms2 := 0) (ci := 9) kX9_224 (CX9_nameFrom Γ hm (s := X.2.2.2.1) (k := X.2.2.2.2) hok.2.1 kn kt) (by decide) rfl hm.t0 rfl ⟨Nat.le_of_ble_eq_true rfl, Nat.le_of_ble_eq_true rfl⟩ (Nat.le_of_ble_eq_true rfl) (Nat.le_of_ble_eq_true rfl) (Nat.le_of_ble_eq_true rfl) rfl dX9_readBake_43 ?_
        refine WP.cS1 (pc := 46) (mc2 := 0) (ms2 := 0) kX9_221 (CX9_bakerNamed Γ hm.t2 (hs.K f1).2.1 (v := nmV f X.2.2.2.1 X.2.2.2.2) (w := ldNm f X) (fun e he => nmV_iff (hnB e he))) rfl ⟨Nat.le_of_ble_eq_true rfl, Nat.le_of_ble_eq_true rfl⟩ (Nat.le_of_ble_eq_true rfl) (Nat.le_of_ble_eq_true rfl) (Nat.le_of_ble_eq_true rfl) rfl dX9_readBake_46 ?_
        refine WP.goto (pc := 49) (tgt := 53) dX9_readBake_49 (by decide) ?_
        refine WP.istore_n (pc := 53) dX9_readBake_53 (by decide) rfl ?_
        refine WP.aload_n (pc := 54) dX9_readBake_54 rfl ?_
        refine WP.aload_n (pc := 55) dX9_readBake_55 rfl ?_
        refine WP.gIv (pc := 56) (v := 0) uX9 fX9_180 hm.t0 (by simp [up_eq, z1]) dX9_readBake_56 ?_
        refine WP.if_ne (pc := 59) (tgt := 67) dX9_readBake_59 (by decide) (fun h2 => ?_) (fun h2 => ?_)
        · exact absurd rfl h2
        · refine WP.iload_n (pc := 62) dX9_readBake_62 rfl ?_
          refine WP.iconst (pc := 63) (v := (-1)) dX9_readBake_63 (by decide) ?_
          refine WP.icmp_eq (pc := 64) (tgt := 71) dX9_readBake_64 (by decide) (fun h3 => ?_) (fun h3 => ?_)
          · refine WP.iconst (pc := 71) (v := 0) dX9_readBake_71 (by decide) ?_
            refine WP.iconst (pc := 72) (v := 4) dX9_readBake_72 (by decide) ?_
            rw [decide_eq_false (fun z => z h3)] at hb0
            refine WP.cVp (pc := 73) (mc2 := 0) (ms2 := 0) (ci := 9) kX9_212 (CX9_check Γ hm g1 false 4 (by omega)) (by decide) rfl hm.t0 rfl ⟨Nat.le_of_ble_eq_true rfl, Nat.le_of_ble_eq_true rfl⟩ (Nat.le_of_ble_eq_true rfl) (Nat.le_of_ble_eq_true rfl) (Nat.le_of_ble_eq_true rfl) rfl dX9_readBake_73 (fun v1 I2 ⟨f2, g2⟩ => ?_)
            refine WP.pop (pc := 76) dX9_readBake_76 rfl ?_
            refine tail77 _ I2 _ (f1.trans (frK.ofj f2 (by omega) (by omega))) g2 hb0 (fun z => ?_)
            rw [← hb0, ldC_f hx0, ldN_n (ldF_n (by decide))] at z
            exact absurd z (ldF_n (by decide))
          · refine WP.iconst (pc := 67) (v := 1) dX9_readBake_67 (by decide) ?_
            refine WP.goto (pc := 68) (tgt := 72) dX9_readBake_68 (by decide) ?_
            refine WP.iconst (pc := 72) (v := 4) dX9_readBake_72 (by decide) ?_
            rw [decide_eq_true h3] at hb0
            refine WP.cVp (pc := 73) (mc2 := 0) (ms2 := 0) (ci := 9) kX9_212 (CX9_check Γ hm g1 true 4 (by omega)) (by decide) rfl hm.t0 rfl ⟨Nat.le_of_ble_eq_true rfl, Nat.le_of_ble_eq_true rfl⟩ (Nat.le_of_ble_eq_true rfl) (Nat.le_of_ble_eq_true rfl) (Nat.le_of_ble_eq_true rfl) rfl dX9_readBake_73 (fun v1 I2 ⟨f2, g2⟩ => ?_)
            refine WP.pop (pc := 76) dX9_readBake_76 rfl ?_
            exact tail77 _ I2 _ (f1.trans (frK.ofj f2 (by omega) (by omega))) g2 hb0 (fun _ => ⟨rfl, h3⟩)
    · rw [decide_eq_false t1, ldC_f hx0] at g1 hb0 c3
      have z1 : I1 m 23 = 1 := by rw [c3]; rfl
      rw [ldC_n (ldF_n (by decide)), ldN_n (ldF_n (by decide))] at hb0
      refine WP.aload_n (pc := 23) dX9_readBake_23 rfl ?_
      refine WP.gIv (pc := 24) (v := 1) uX9 fX9_180 hm.t0 (by simp [up_eq, z1]) dX9_readBake_24 ?_
      refine WP.if_ne (pc := 27) (tgt := 52) dX9_readBake_27 (by decide) (fun h1 => ?_) (fun h1 => ?_)
      · refine WP.iconst (pc := 52) (v := 0) dX9_readBake_52 (by decide) ?_
        refine WP.istore_n (pc := 53) dX9_readBake_53 (by decide) rfl ?_
        refine WP.aload_n (pc := 54) dX9_readBake_54 rfl ?_
        refine WP.aload_n (pc := 55) dX9_readBake_55 rfl ?_
        refine WP.gIv (pc := 56) (v := 1) uX9 fX9_180 hm.t0 (by simp [up_eq, z1]) dX9_readBake_56 ?_
        refine WP.if_ne (pc := 59) (tgt := 67) dX9_readBake_59 (by decide) (fun h2 => ?_) (fun h2 => ?_)
        · refine WP.iconst (pc := 67) (v := 1) dX9_readBake_67 (by decide) ?_
          refine WP.goto (pc := 68) (tgt := 72) dX9_readBake_68 (by decide) ?_
          refine WP.iconst (pc := 72) (v := 4) dX9_readBake_72 (by decide) ?_
          refine WP.cVp (pc := 73) (mc2 := 0) (ms2 := 0) (ci := 9) kX9_212 (CX9_check Γ hm g1 true 4 (by omega)) (by decide) rfl hm.t0 rfl ⟨Nat.le_of_ble_eq_true rfl, Nat.le_of_ble_eq_true rfl⟩ (Nat.le_of_ble_eq_true rfl) (Nat.le_of_ble_eq_true rfl) (Nat.le_of_ble_eq_true rfl) rfl dX9_readBake_73 (fun v1 I2 ⟨f2, g2⟩ => ?_)
          rw [ldC_t] at g2
          refine WP.pop (pc := 76) dX9_readBake_76 rfl ?_
          refine tail77 _ I2 _ (f1.trans (frK.ofj f2 (by omega) (by omega))) g2 (by rw [ldN_n (ldF_n (by decide))]; exact hb0) (fun z => ?_)
          rw [← hb0] at z
          exact absurd z (ldF_n (by decide))
        · exact absurd h2 (by decide)
      · exact absurd h1 (by decide)
  refine Ctr.go rfl (by decide) rfl rfl ?_
  refine WP.aload_n (pc := 0) dX9_readBake_0 rfl ?_
  refine WP.cVw (pc := 1) (mc2 := 0) (ms2 := 0) (ci := 9) kX9_215 (CX9_next Γ hm h) (by decide) rfl hm.t0 rfl ⟨Nat.le_of_ble_eq_true rfl, Nat.le_of_ble_eq_true rfl⟩ (Nat.le_of_ble_eq_true rfl) (Nat.le_of_ble_eq_true rfl) (Nat.le_of_ble_eq_true rfl) rfl dX9_readBake_1 (fun I1 ⟨f1, g1⟩ => ?_)
  rw [ldN_0 h0, ← hXe] at g1
  have h3 := g1.ok.1
  have tk2 : tkm X.2.2.1 ≤ 3 ∧ (tkm X.2.2.1 = 3 ↔ X.2.2.1 = 1) := by
    unfold tkm
    split
    · omega
    · split <;> omega
  refine WP.aload_n (pc := 4) dX9_readBake_4 rfl ?_
  refine WP.aload_n (pc := 5) dX9_readBake_5 rfl ?_
  refine WP.gIv (pc := 6) (v := nI (tkm X.2.2.1)) uX9 fX9_201 hm.t0 (by simp [up_eq, g1.2.2.2.2.2.1.2.1]) dX9_readBake_6 ?_
  refine WP.iconst (pc := 9) (v := 3) dX9_readBake_9 (by decide) ?_
  refine WP.icmp_ne (pc := 10) (tgt := 17) dX9_readBake_10 (by decide) (fun hw => ?_) (fun hw => ?_)
  · have t1 : ¬ X.2.2.1 = 1 := fun q => hw (by rw [tk2.2.mpr q]; rfl)
    refine WP.iconst (pc := 17) (v := 0) dX9_readBake_17 (by decide) ?_
    refine WP.iconst (pc := 18) (v := 1) dX9_readBake_18 (by decide) ?_
    refine WP.cVp (pc := 19) (mc2 := 0) (ms2 := 0) (ci := 9) kX9_212 (CX9_check Γ hm g1 false 1 (by omega)) (by decide) rfl hm.t0 rfl ⟨Nat.le_of_ble_eq_true rfl, Nat.le_of_ble_eq_true rfl⟩ (Nat.le_of_ble_eq_true rfl) (Nat.le_of_ble_eq_true rfl) (Nat.le_of_ble_eq_true rfl) rfl dX9_readBake_19 (fun v1 I2 ⟨f2, g2⟩ => ?_)
    refine WP.pop (pc := 22) dX9_readBake_22 rfl ?_
    exact tail23 I2 (f1.trans (frK.ofj f2 (by omega) (by omega))) (by rw [decide_eq_false t1]; exact g2)
  · have t1 : X.2.2.1 = 1 := tk2.2.mp ((nI_eq (b := 3) (by omega) (by decide)).mp hw)
    refine WP.iconst (pc := 13) (v := 1) dX9_readBake_13 (by decide) ?_
    refine WP.goto (pc := 14) (tgt := 18) dX9_readBake_14 (by decide) ?_
    refine WP.iconst (pc := 18) (v := 1) dX9_readBake_18 (by decide) ?_
    refine WP.cVp (pc := 19) (mc2 := 0) (ms2 := 0) (ci := 9) kX9_212 (CX9_check Γ hm g1 true 1 (by omega)) (by decide) rfl hm.t0 rfl ⟨Nat.le_of_ble_eq_true rfl, Nat.le_of_ble_eq_true rfl⟩ (Nat.le_of_ble_eq_true rfl) (Nat.le_of_ble_eq_true rfl) (Nat.le_of_ble_eq_true rfl) rfl dX9_readBake_19 (fun v1 I2 ⟨f2, g2⟩ => ?_)
    refine WP.pop (pc := 22) dX9_readBake_22 rfl ?_
    exact tail23 I2 (f1.trans (frK.ofj f2 (by omega) (by omega))) (by rw [decide_eq_true t1]; exact g2)
end T
