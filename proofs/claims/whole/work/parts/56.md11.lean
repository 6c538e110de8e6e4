-- behind: 55
section PU
variable {f : Nat → Int32} {n : Nat}
def ldM (f : Nat → Int32) (n : Nat) (s : mS) (l : mLd) : mLd := if l.1 = 0 then ldName f n s l else l
theorem ldM_0 {s : mS} {l : mLd} (h : l.1 = 0) : ldM f n s l = ldName f n s l := if_pos h
theorem ldM_n {s : mS} {l : mLd} (h : ¬ l.1 = 0) : ldM f n s l = l := if_neg h
theorem ldNum_n {lo hi : Int32} {l : mLd} (h : ¬ l.1 = 0) : ldNum f n lo hi l = (lo, l) := if_neg h
theorem ldKind_n {l : mLd} (h : ¬ l.1 = 0) : ldKind f n l = (-1, l) := if_neg h
theorem ldSemi_n {l : mLd} (h : ¬ l.1 = 0) : ldSemi f n l = l := if_neg h
theorem ldKind_1 {l : mLd} (h : l.1 = 0) : (ldKind f n l).1 = ldKindV f l := by
  unfold ldKind
  rw [if_pos h]
theorem nmV_iff {s k : Nat} {e : Nat} (he : nmOk e) : (nI e = nmV f s k ↔ nmA e = pkN f s k) := by
  unfold nmV
  by_cases h : pkN f s k = -1
  · rw [if_pos h, h]
    constructor
    · intro z
      exact absurd z (nI_ne_m1 (by unfold nmOk at he; omega))
    · intro z
      exact absurd z (nmA_ne e)
  · obtain ⟨h1, h2⟩ := pkN_nm h
    rw [if_neg h, h1]
    constructor
    · intro z
      rw [(nI_eq (by unfold nmOk at he; omega) (by unfold nmOk at h2; omega)).mp z]
    · intro z
      rw [nmA_inj he h2 z]
theorem nm_eq {s : mS} {l : mLd} (h0 : l.1 = 0) : ldN f n (ldC (!hasN s (ldNm f l)) 3 (ldC (decide (nmV f l.2.2.2.1 l.2.2.2.2 ≠ -1)) 2 l)) = (if ldNm f l = -1 then ldF 2 l else if hasN s (ldNm f l) = true then ldF 3 l else ldX f n l) := by
  by_cases h1 : ldNm f l = -1
  · rw [if_pos h1]
    have e1 : nmV f l.2.2.2.1 l.2.2.2.2 = -1 := if_pos h1
    rw [decide_eq_false (fun z => z e1), ldC_f h0, ldC_n (ldF_n (by decide)), ldN_n (ldF_n (by decide))]
  · rw [if_neg h1]
    have e1 : nmV f l.2.2.2.1 l.2.2.2.2 ≠ -1 := by
      have h2 := (pkN_nm h1).2
      unfold nmV
      rw [if_neg (show ¬ pkN f l.2.2.2.1 l.2.2.2.2 = -1 from h1)]
      exact nI_ne_m1 (by unfold nmOk at h2; omega)
    rw [decide_eq_true e1, ldC_t]
    cases hq : hasN s (ldNm f l)
    · rw [if_neg (by decide), Bool.not_false, ldC_t, ldN_0 h0]
    · rw [if_pos rfl, Bool.not_true, ldC_f h0, ldN_n (ldF_n (by decide))]
end PU
def frR (I I' : Nat → Nat → Int32) (m : Nat) : Prop := (∀ b, b ≠ m → b ≠ m + 2 → b ≠ m + 7 → b ≠ m + 8 → b ≠ m + 9 → I' b = I b) ∧ ∀ j, (j < 11 ∨ (14 < j ∧ j < 18) ∨ 24 < j) → I' m j = I m j
section F
variable {I I' I'' : Nat → Nat → Int32} {m : Nat}
theorem frR.rf : frR I I m := ⟨fun _ _ _ _ _ _ => rfl, fun _ _ => rfl⟩
theorem frR.trans (h : frR I I' m) (h' : frR I' I'' m) : frR I I'' m := ⟨fun b h1 h2 h3 h4 h5 => (h'.1 b h1 h2 h3 h4 h5).trans (h.1 b h1 h2 h3 h4 h5), fun j hj => (h'.2 j hj).trans (h.2 j hj)⟩
theorem frR.ofK (h : frK I I' m) : frR I I' m := ⟨fun b h1 _ _ _ _ => h.1 b h1, fun j hj => h.2 j (by omega)⟩
theorem frR.ofj (h : fr_j I I' m 23 24) : frR I I' m := ⟨fun b h1 _ _ _ _ => h.1 b h1, fun j hj => h.2 j (by omega) (by omega)⟩
theorem frR.ofB (h : frB I I' (m + 2)) : frR I I' m := ⟨fun b _ h2 _ _ _ => h b h2, fun j _ => by rw [h m (by omega)]⟩
theorem frR.ofH (h : frH I I' m (m + 2)) : frR I I' m := ⟨fun b h1 h2 h3 h4 h5 => h.1 b h1 h3 h4 h5 h2, fun j hj => h.2 j (by omega)⟩
theorem mlAt.B {n : Nat} {f : Nat → Int32} {l : mLd} (h : mlAt I m f n l) (hf : frB I I' (m + 2)) : mlAt I' m f n l := h.other (fun j _ _ => by rw [hf m (by omega)]) (hf _ (by omega))
theorem mlAt.H {n : Nat} {f : Nat → Int32} {l : mLd} (h : mlAt I m f n l) (hf : frH I I' m (m + 2)) : mlAt I' m f n l := h.other (fun j h1 h2 => hf.2 j (by omega)) (hf.1 _ (by omega) (by omega) (by omega) (by omega) (by omega))
theorem gAt.K {s : mS} (h : gAt (I (m + 2)) s) (hf : frK I I' m) : gAt (I' (m + 2)) s := by
  rw [hf.1 _ (by omega)]
  exact h
theorem gAt.j {s : mS} (h : gAt (I (m + 2)) s) (hf : fr_j I I' m 23 24) : gAt (I' (m + 2)) s := by
  rw [hf.1 _ (by omega)]
  exact h
end F
def stP (σ : cAS) (I : Nat → Nat → Int32) (m : Nat) (f : Nat → Int32) (n : Nat) (p : mS × mLd) : cRes → cAS → Prop := rW σ (fun I' => frR I I' m ∧ mlAt I' m f n p.2 ∧ (p.2.1 = 0 → gAt (I' (m + 2)) p.1))
section T
variable (Γ : cG) {σ : cAS} {m : Nat} {f : Nat → Int32} {n : Nat}
theorem CX9_newName (hm : shM σ m) {I : Nat → Nat → Int32} {l : mLd} {s : mS} (h : mlAt I m f n l) (hs : gAt (I (m + 2)) s) (hnB : ∀ e ∈ s.2.1, nmOk e.1) (hnC : ∀ e ∈ s.2.2.2.1, nmOk e.1) : Ctr Γ (4, 83, 0, 0) MX9_newName [.ref m] (wI σ I) (rP σ (fun v I' => (l.1 = 0 → (ldName f n s l).1 = 0 → v = nI (nmF f l.2.2.2.1 l.2.2.2.2)) ∧ frK I I' m ∧ mlAt I' m f n (ldM f n s l))) := by
  have hok := h.ok
  obtain ⟨h17, hn, ht, h23, h24, htk, he, h6⟩ := id h
  have h3 := hok.1
  have tk2 : tkm l.2.2.1 ≤ 3 ∧ (tkm l.2.2.1 = 3 ↔ l.2.2.1 = 1) := by
    unfold tkm
    split
    · omega
    · split <;> omega
  have tail88 : ∀ N I1 l3, ((l.1 = 0 → (ldName f n s l).1 = 0 → N = nI (nmF f l.2.2.2.1 l.2.2.2.2))) → frK I I1 m → mlAt I1 m f n l3 → ldN f n l3 = ldM f n s l → WP Γ (4, 83, 0, 0) MX9_newName (rP σ (fun v I' => (l.1 = 0 → (ldName f n s l).1 = 0 → v = nI (nmF f l.2.2.2.1 l.2.2.2.2)) ∧ frK I I' m ∧ mlAt I' m f n (ldM f n s l))) 88 [some (.ref m), some (.int N)] [] (wI σ I1) := fun N I1 l3 hN f1 g1 e1 => by
    refine WP.aload_n (pc := 88) dX9_newName_88 rfl ?_
    refine WP.cVw (pc := 89) (mc2 := 0) (ms2 := 0) (ci := 9) kX9_215 (CX9_next Γ hm g1) (by decide) rfl hm.t0 rfl ⟨Nat.le_of_ble_eq_true rfl, Nat.le_of_ble_eq_true rfl⟩ (Nat.le_of_ble_eq_true rfl) (Nat.le_of_ble_eq_true rfl) (Nat.le_of_ble_eq_true rfl) rfl dX9_newName_89 (fun I2 ⟨f2, g2⟩ => ?_)
    refine WP.iload_n (pc := 92) dX9_newName_92 rfl ?_
    refine WP.iret (pc := 93) rfl dX9_newName_93 ?_
    rw [e1] at g2
    exact ⟨_, I2, rfl, rfl, hN, f1.trans f2, g2⟩
  have tail59n : ∀ N I1 l2, ((l.1 = 0 → (ldName f n s l).1 = 0 → N = nI (nmF f l.2.2.2.1 l.2.2.2.2))) → frK I I1 m → mlAt I1 m f n l2 → ¬ l2.1 = 0 → l2 = ldM f n s l → WP Γ (4, 83, 0, 0) MX9_newName (rP σ (fun v I' => (l.1 = 0 → (ldName f n s l).1 = 0 → v = nI (nmF f l.2.2.2.1 l.2.2.2.2)) ∧ frK I I' m ∧ mlAt I' m f n (ldM f n s l))) 59 [some (.ref m), some (.int N)] [] (wI σ I1) := fun N I1 l2 hN f1 g1 h2 e1 => by
    have c1 := g1.2.2.2.1
    have c6 := g1.2.2.2.2.2.2.2
    refine WP.aload_n (pc := 59) dX9_newName_59 rfl ?_
    refine WP.aload_n (pc := 60) dX9_newName_60 rfl ?_
    refine WP.gIv (pc := 61) (v := nI l2.1) uX9 fX9_180 hm.t0 (by simp [up_eq, c1]) dX9_newName_61 ?_
    refine WP.if_ne (pc := 64) (tgt := 78) dX9_newName_64 (by decide) (fun h1 => ?_) (fun h1 => ?_)
    · refine WP.iconst (pc := 78) (v := 1) dX9_newName_78 (by decide) ?_
      refine WP.goto (pc := 79) (tgt := 83) dX9_newName_79 (by decide) ?_
      refine WP.iconst (pc := 83) (v := 3) dX9_newName_83 (by decide) ?_
      refine WP.cVp (pc := 84) (mc2 := 0) (ms2 := 0) (ci := 9) kX9_212 (CX9_check Γ hm g1 true 3 (by omega)) (by decide) rfl hm.t0 rfl ⟨Nat.le_of_ble_eq_true rfl, Nat.le_of_ble_eq_true rfl⟩ (Nat.le_of_ble_eq_true rfl) (Nat.le_of_ble_eq_true rfl) (Nat.le_of_ble_eq_true rfl) rfl dX9_newName_84 (fun v1 I2 ⟨f2, g2⟩ => ?_)
      refine WP.pop (pc := 87) dX9_newName_87 rfl ?_
      rw [ldC_t] at g2
      exact tail88 N I2 l2 hN (f1.trans (frK.ofj f2 (by omega) (by omega))) g2 (by rw [ldN_n h2]; exact e1)
    · exact absurd ((nI_eq (b := 0) (by omega) (by decide)).mp h1) h2
  -- an error stood there, or the token isn't a word
  have bad : ∀ I1 l1, frK I I1 m → mlAt I1 m f n l1 → ¬ l1.1 = 0 → l1 = ldM f n s l → (l.1 = 0 → ¬ (ldName f n s l).1 = 0) → WP Γ (4, 83, 0, 0) MX9_newName (rP σ (fun v I' => (l.1 = 0 → (ldName f n s l).1 = 0 → v = nI (nmF f l.2.2.2.1 l.2.2.2.2)) ∧ frK I I' m ∧ mlAt I' m f n (ldM f n s l))) 19 [some (.ref m), none] [] (wI σ I1) := fun I1 l1 f1 g1 h1 e1 hz => by
    have c1 := g1.2.2.2.1
    have c6 := g1.2.2.2.2.2.2.2
    refine WP.aload_n (pc := 19) dX9_newName_19 rfl ?_
    refine WP.gIv (pc := 20) (v := nI l1.1) uX9 fX9_180 hm.t0 (by simp [up_eq, c1]) dX9_newName_20 ?_
    refine WP.if_ne (pc := 23) (tgt := 41) dX9_newName_23 (by decide) (fun h2 => ?_) (fun h2 => ?_)
    · refine WP.iconst (pc := 41) (v := 0) dX9_newName_41 (by decide) ?_
      refine WP.istore_n (pc := 42) dX9_newName_42 (by decide) rfl ?_
      refine WP.aload_n (pc := 43) dX9_newName_43 rfl ?_
      refine WP.iload_n (pc := 44) dX9_newName_44 rfl ?_
      refine WP.iconst (pc := 45) (v := (-1)) dX9_newName_45 (by decide) ?_
      refine WP.icmp_eq (pc := 46) (tgt := 53) dX9_newName_46 (by decide) (fun h3 => ?_) (fun h3 => ?_)
      · exact absurd h3 (by decide)
      · refine WP.iconst (pc := 49) (v := 1) dX9_newName_49 (by decide) ?_
        refine WP.goto (pc := 50) (tgt := 54) dX9_newName_50 (by decide) ?_
        refine WP.iconst (pc := 54) (v := 2) dX9_newName_54 (by decide) ?_
        refine WP.cVp (pc := 55) (mc2 := 0) (ms2 := 0) (ci := 9) kX9_212 (CX9_check Γ hm g1 true 2 (by omega)) (by decide) rfl hm.t0 rfl ⟨Nat.le_of_ble_eq_true rfl, Nat.le_of_ble_eq_true rfl⟩ (Nat.le_of_ble_eq_true rfl) (Nat.le_of_ble_eq_true rfl) (Nat.le_of_ble_eq_true rfl) rfl dX9_newName_55 (fun v1 I2 ⟨f2, g2⟩ => ?_)
        refine WP.pop (pc := 58) dX9_newName_58 rfl ?_
        rw [ldC_t] at g2
        exact tail59n _ I2 l1 (fun z1 z2 => absurd z2 (hz z1)) (f1.trans (frK.ofj f2 (by omega) (by omega))) g2 h1 e1
    · exact absurd ((nI_eq (b := 0) (by omega) (by decide)).mp h2) h1
  refine Ctr.go rfl (by decide) rfl rfl ?_
  refine WP.aload_n (pc := 0) dX9_newName_0 rfl ?_
  refine WP.aload_n (pc := 1) dX9_newName_1 rfl ?_
  refine WP.gIv (pc := 2) (v := nI (tkm l.2.2.1)) uX9 fX9_201 hm.t0 (by simp [up_eq, htk.2.1]) dX9_newName_2 ?_
  refine WP.iconst (pc := 5) (v := 3) dX9_newName_5 (by decide) ?_
  refine WP.icmp_ne (pc := 6) (tgt := 13) dX9_newName_6 (by decide) (fun hw => ?_) (fun hw => ?_)
  · have t1 : ¬ l.2.2.1 = 1 := fun q => hw (by rw [tk2.2.mpr q]; rfl)
    refine WP.iconst (pc := 13) (v := 0) dX9_newName_13 (by decide) ?_
    refine WP.iconst (pc := 14) (v := 1) dX9_newName_14 (by decide) ?_
    refine WP.cVp (pc := 15) (mc2 := 0) (ms2 := 0) (ci := 9) kX9_212 (CX9_check Γ hm h false 1 (by omega)) (by decide) rfl hm.t0 rfl ⟨Nat.le_of_ble_eq_true rfl, Nat.le_of_ble_eq_true rfl⟩ (Nat.le_of_ble_eq_true rfl) (Nat.le_of_ble_eq_true rfl) (Nat.le_of_ble_eq_true rfl) rfl dX9_newName_15 (fun v1 I1 ⟨f1, g1⟩ => ?_)
    refine WP.pop (pc := 18) dX9_newName_18 rfl ?_
    by_cases h0 : l.1 = 0
    · have eN : ldName f n s l = ldF 1 l := if_neg t1
      rw [ldC_f h0] at g1
      exact bad I1 _ (frK.ofj f1 (by omega) (by omega)) g1 (ldF_n (by decide)) (by rw [ldM_0 h0, eN]) (fun _ => by rw [eN]; exact ldF_n (by decide))
    · rw [ldC_n h0] at g1
      exact bad I1 _ (frK.ofj f1 (by omega) (by omega)) g1 h0 (ldM_n h0).symm (fun z => absurd z h0)
  · have t1 : l.2.2.1 = 1 := tk2.2.mp ((nI_eq (b := 3) (by omega) (by decide)).mp hw)
    refine WP.iconst (pc := 9) (v := 1) dX9_newName_9 (by decide) ?_
    refine WP.goto (pc := 10) (tgt := 14) dX9_newName_10 (by decide) ?_
    refine WP.iconst (pc := 14) (v := 1) dX9_newName_14 (by decide) ?_
    refine WP.cVp (pc := 15) (mc2 := 0) (ms2 := 0) (ci := 9) kX9_212 (CX9_check Γ hm h true 1 (by omega)) (by decide) rfl hm.t0 rfl ⟨Nat.le_of_ble_eq_true rfl, Nat.le_of_ble_eq_true rfl⟩ (Nat.le_of_ble_eq_true rfl) (Nat.le_of_ble_eq_true rfl) (Nat.le_of_ble_eq_true rfl) rfl dX9_newName_15 (fun v1 I1 ⟨f1, g1⟩ => ?_)
    refine WP.pop (pc := 18) dX9_newName_18 rfl ?_
    rw [ldC_t] at g1
    have F1 := frK.ofj f1 (by omega) (by omega)
    by_cases h0 : l.1 = 0
    · have eN : ldName f n s l = if ldNm f l = -1 then ldF 2 l else if hasN s (ldNm f l) = true then ldF 3 l else ldX f n l := if_pos t1
      have eQ := nm_eq (f := f) (n := n) (s := s) h0
      rw [← eN, ← ldM_0 h0] at eQ
      have hNv : l.1 = 0 → (ldName f n s l).1 = 0 → nmV f l.2.2.2.1 l.2.2.2.2 = nI (nmF f l.2.2.2.1 l.2.2.2.2) := fun _ z => if_neg (ldName_0 z).1
      have g1' := g1
      obtain ⟨k17, -, kt, k23, k24, ktk, -, -⟩ := g1'
      have tail43 : ∀ I2, fr_j I1 I2 m 23 24 → mlAt I2 m f n (ldC (decide (nmV f l.2.2.2.1 l.2.2.2.2 ≠ -1)) 2 l) → WP Γ (4, 83, 0, 0) MX9_newName (rP σ (fun v I' => (l.1 = 0 → (ldName f n s l).1 = 0 → v = nI (nmF f l.2.2.2.1 l.2.2.2.2)) ∧ frK I I' m ∧ mlAt I' m f n (ldM f n s l))) 59 [some (.ref m), some (.int (nmV f l.2.2.2.1 l.2.2.2.2))] [] (wI σ I2) := fun I2 f2 g2 => by
        have F2 := F1.trans (frK.ofj f2 (by omega) (by omega))
        by_cases h2 : (ldC (decide (nmV f l.2.2.2.1 l.2.2.2.2 ≠ -1)) 2 l).1 = 0
        · have c1 := g2.2.2.2.1
          have hs2 : gAt (I2 (m + 2)) s := hs.K F2
          refine WP.aload_n (pc := 59) dX9_newName_59 rfl ?_
          refine WP.aload_n (pc := 60) dX9_newName_60 rfl ?_
          refine WP.gIv (pc := 61) (v := nI (ldC (decide (nmV f l.2.2.2.1 l.2.2.2.2 ≠ -1)) 2 l).1) uX9 fX9_180 hm.t0 (by simp [up_eq, c1]) dX9_newName_61 ?_
          rw [h2]
          refine WP.if_ne (pc := 64) (tgt := 78) dX9_newName_64 (by decide) (fun h5 => ?_) (fun h5 => ?_)
          · exact absurd rfl h5
          · refine WP.aload_n (pc := 67) dX9_newName_67 rfl ?_
            refine WP.gR (pc := 68) uX9 fX9_13 hm.t0 hm.r0_1 dX9_newName_68 ?_
            refine WP.iload_n (pc := 71) dX9_newName_71 rfl ?_
            refine WP.cS1 (pc := 72) (mc2 := 0) (ms2 := 0) kX9_228 (CX9_isTaken Γ hm.t2 hs2 (v := nmV f l.2.2.2.1 l.2.2.2.2) (w := ldNm f l) (fun e he => nmV_iff (hnB e he)) (fun e he => nmV_iff (hnC e he))) rfl ⟨Nat.le_of_ble_eq_true rfl, Nat.le_of_ble_eq_true rfl⟩ (Nat.le_of_ble_eq_true rfl) (Nat.le_of_ble_eq_true rfl) (Nat.le_of_ble_eq_true rfl) rfl dX9_newName_72 ?_
            refine WP.if_ne (pc := 75) (tgt := 82) dX9_newName_75 (by decide) (fun h6 => ?_) (fun h6 => ?_)
            · have hb : hasN s (ldNm f l) = true := Classical.byContradiction fun z => h6 (by rw [Bool.not_eq_true] at z; rw [z]; rfl)
              refine WP.iconst (pc := 82) (v := 0) dX9_newName_82 (by decide) ?_
              refine WP.iconst (pc := 83) (v := 3) dX9_newName_83 (by decide) ?_
              refine WP.cVp (pc := 84) (mc2 := 0) (ms2 := 0) (ci := 9) kX9_212 (CX9_check Γ hm g2 false 3 (by omega)) (by decide) rfl hm.t0 rfl ⟨Nat.le_of_ble_eq_true rfl, Nat.le_of_ble_eq_true rfl⟩ (Nat.le_of_ble_eq_true rfl) (Nat.le_of_ble_eq_true rfl) (Nat.le_of_ble_eq_true rfl) rfl dX9_newName_84 (fun v3 I3 ⟨f3, g3⟩ => ?_)
              refine WP.pop (pc := 87) dX9_newName_87 rfl ?_
              exact tail88 _ I3 _ hNv (F2.trans (frK.ofj f3 (by omega) (by omega))) g3 (by rw [hb] at eQ; exact eQ)
            · have hb : hasN s (ldNm f l) = false := by
                cases hq : hasN s (ldNm f l)
                · rfl
                · rw [hq] at h6
                  exact absurd h6 (by decide)
              refine WP.iconst (pc := 78) (v := 1) dX9_newName_78 (by decide) ?_
              refine WP.goto (pc := 79) (tgt := 83) dX9_newName_79 (by decide) ?_
              refine WP.iconst (pc := 83) (v := 3) dX9_newName_83 (by decide) ?_
              refine WP.cVp (pc := 84) (mc2 := 0) (ms2 := 0) (ci := 9) kX9_212 (CX9_check Γ hm g2 true 3 (by omega)) (by decide) rfl hm.t0 rfl ⟨Nat.le_of_ble_eq_true rfl, Nat.le_of_ble_eq_true rfl⟩ (Nat.le_of_ble_eq_true rfl) (Nat.le_of_ble_eq_true rfl) (Nat.le_of_ble_eq_true rfl) rfl dX9_newName_84 (fun v3 I3 ⟨f3, g3⟩ => ?_)
              refine WP.pop (pc := 87) dX9_newName_87 rfl ?_
              exact tail88 _ I3 _ hNv (F2.trans (frK.ofj f3 (by omega) (by omega))) g3 (by rw [hb] at eQ; exact eQ)
        · rw [ldC_n h2, ldN_n h2] at eQ
          exact tail59n _ I2 _ hNv F2 g2 h2 eQ
      have k0 : I1 m 23 = 0 := by rw [k23, h0]; rfl
      refine WP.aload_n (pc := 19) dX9_newName_19 rfl ?_
      refine WP.gIv (pc := 20) (v := 0) uX9 fX9_180 hm.t0 (by simp [up_eq, k0]) dX9_newName_20 ?_
      refine WP.if_ne (pc := 23) (tgt := 41) dX9_newName_23 (by decide) (fun h2 => ?_) (fun h2 => ?_)
      · exact absurd rfl h2
      · refine WP.aload_n (pc := 26) dX9_newName_26 rfl ?_
        refine WP.aload_n (pc := 27) dX9_newName_27 rfl ?_
        refine WP.gIv (pc := 28) (v := nI l.2.2.2.1) uX9 fX9_192 hm.t0 (by simp [up_eq, ktk.1]) dX9_newName_28 ?_
        refine WP.aload_n (pc := 31) dX9_newName_31 rfl ?_
        refine WP.gIv (pc := 32) (v := nI (if l.2.2.1 = 1 then l.2.2.2.2 else 0)) uX9 fX9_195 hm.t0 (by simp [up_eq, ktk.2.2.2.1]) dX9_newName_32 ?_
        rw [if_pos t1]
        refine WP.cV1 (pc := 35) (mc2 := 0) (ms2 := 0) (ci := 9) kX9_224 (CX9_nameFrom Γ hm (s := l.2.2.2.1) (k := l.2.2.2.2) hok.2.1 hn kt) (by decide) rfl hm.t0 rfl ⟨Nat.le_of_ble_eq_true rfl, Nat.le_of_ble_eq_true rfl⟩ (Nat.le_of_ble_eq_true rfl) (Nat.le_of_ble_eq_true rfl) (Nat.le_of_ble_eq_true rfl) rfl dX9_newName_35 ?_
        refine WP.goto (pc := 38) (tgt := 42) dX9_newName_38 (by decide) ?_
        refine WP.istore_n (pc := 42) dX9_newName_42 (by decide) rfl ?_
        refine WP.aload_n (pc := 43) dX9_newName_43 rfl ?_
        refine WP.iload_n (pc := 44) dX9_newName_44 rfl ?_
        refine WP.iconst (pc := 45) (v := (-1)) dX9_newName_45 (by decide) ?_
        refine WP.icmp_eq (pc := 46) (tgt := 53) dX9_newName_46 (by decide) (fun h3 => ?_) (fun h3 => ?_)
        · refine WP.iconst (pc := 53) (v := 0) dX9_newName_53 (by decide) ?_
          refine WP.iconst (pc := 54) (v := 2) dX9_newName_54 (by decide) ?_
          rw [decide_eq_false (fun z => z h3)] at tail43
          refine WP.cVp (pc := 55) (mc2 := 0) (ms2 := 0) (ci := 9) kX9_212 (CX9_check Γ hm g1 false 2 (by omega)) (by decide) rfl hm.t0 rfl ⟨Nat.le_of_ble_eq_true rfl, Nat.le_of_ble_eq_true rfl⟩ (Nat.le_of_ble_eq_true rfl) (Nat.le_of_ble_eq_true rfl) (Nat.le_of_ble_eq_true rfl) rfl dX9_newName_55 (fun v1 I2 ⟨f2, g2⟩ => ?_)
          refine WP.pop (pc := 58) dX9_newName_58 rfl ?_
          exact tail43 I2 f2 g2
        · refine WP.iconst (pc := 49) (v := 1) dX9_newName_49 (by decide) ?_
          refine WP.goto (pc := 50) (tgt := 54) dX9_newName_50 (by decide) ?_
          refine WP.iconst (pc := 54) (v := 2) dX9_newName_54 (by decide) ?_
          rw [decide_eq_true h3] at tail43
          refine WP.cVp (pc := 55) (mc2 := 0) (ms2 := 0) (ci := 9) kX9_212 (CX9_check Γ hm g1 true 2 (by omega)) (by decide) rfl hm.t0 rfl ⟨Nat.le_of_ble_eq_true rfl, Nat.le_of_ble_eq_true rfl⟩ (Nat.le_of_ble_eq_true rfl) (Nat.le_of_ble_eq_true rfl) (Nat.le_of_ble_eq_true rfl) rfl dX9_newName_55 (fun v1 I2 ⟨f2, g2⟩ => ?_)
          refine WP.pop (pc := 58) dX9_newName_58 rfl ?_
          exact tail43 I2 f2 g2
    · exact bad I1 _ F1 g1 h0 (ldM_n h0).symm (fun z => absurd z h0)
end T
