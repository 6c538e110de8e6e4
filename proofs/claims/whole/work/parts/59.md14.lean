-- behind: 58
section PU
variable {f : Nat → Int32} {n : Nat}
theorem ldX_st {l : mLd} (h : tkOk n l.2.2) : l.2.2.2.1 + l.2.2.2.2 ≤ (ldX f n l).2.2.2.1 := (tkN_ok h.2.1).2.1
theorem ldX_st' {l : mLd} (h : tkOk n l.2.2) : l.2.2.2.1 ≤ (ldX f n l).2.2.2.1 := Nat.le_trans (Nat.le_add_right _ _) (ldX_st h)
theorem ldSemi_st {l : mLd} (h : tkOk n l.2.2) : l.2.2.2.1 ≤ (ldSemi f n l).2.2.2.1 := by
  unfold ldSemi
  split
  · split
    · exact ldX_st' h
    · exact Nat.le_refl _
  · exact Nat.le_refl _
theorem ldNum_st {lo hi : Int32} {l : mLd} (h : tkOk n l.2.2) : l.2.2.2.1 ≤ (ldNum f n lo hi l).2.2.2.2.1 := by
  unfold ldNum
  split
  · split
    · dsimp only
      split
      · exact Nat.le_refl _
      · exact ldX_st' h
    · exact Nat.le_refl _
  · exact Nat.le_refl _
theorem ldKind_st {l : mLd} (h : tkOk n l.2.2) : l.2.2.2.1 ≤ (ldKind f n l).2.2.2.2.1 := by
  unfold ldKind
  split
  · dsimp only
    split
    · exact Nat.le_refl _
    · exact ldX_st' h
  · exact Nat.le_refl _
theorem ldName_st {s : mS} {l : mLd} (h : tkOk n l.2.2) : l.2.2.2.1 ≤ (ldName f n s l).2.2.2.1 := by
  unfold ldName
  split
  · split
    · exact Nat.le_refl _
    · split
      · exact Nat.le_refl _
      · exact ldX_st' h
  · exact Nat.le_refl _
theorem ldBkr_st {s : mS} {l : mLd} (h : tkOk n l.2.2) : l.2.2.2.1 ≤ (ldBkr f n s l).2.2.2.1 := by
  unfold ldBkr
  split
  · split
    · exact Nat.le_refl _
    · exact ldX_st' h
  · exact Nat.le_refl _
theorem sdBk6_tk {s : mS} {i : Nat} {a : mLd} : (sdBk6 f s i a).2.2 = a.2.2 := by
  unfold sdBk6
  split <;> rfl
theorem sdBaker_st {s : mS} {l : mLd} (hk : tkOk n (ldX f n l).2.2) (c : s.2.1.length < 4) : (ldX f n l).2.2.2.1 ≤ (sdBaker f n s l).2.2.2.2.1 := by
  unfold sdBaker
  rw [if_pos c]
  show _ ≤ (ldSemi f n (ldNum f n 1 9 (ldNum f n 1 12 (ldName f n s (ldX f n l))).2).2).2.2.2.1
  generalize ldX f n l = x at *
  have q1 := ldName_st (f := f) (s := s) hk
  have k1 := ldName_ok (f := f) (s := s) hk
  generalize ldName f n s x = a at *
  have q2 := ldNum_st (f := f) (lo := 1) (hi := 12) k1
  have k2 := ldNum_ok (f := f) (lo := 1) (hi := 12) k1
  generalize (ldNum f n 1 12 a).2 = b at *
  have q3 := ldNum_st (f := f) (lo := 1) (hi := 9) k2
  have k3 := ldNum_ok (f := f) (lo := 1) (hi := 9) k2
  generalize (ldNum f n 1 9 b).2 = d at *
  have q4 := ldSemi_st (f := f) k3
  omega
theorem sdBake_st {s : mS} {l : mLd} (hk : tkOk n (ldX f n l).2.2) : (ldX f n l).2.2.2.1 ≤ (sdBake f n s l).2.2.2.2.1 := by
  show _ ≤ (ldSemi f n (sdBk6 f s (bkIx s.2.1 (ldNm f (ldX f n l))).toNatClampNeg (ldKind f n (ldBkr f n s (ldX f n l))).2)).2.2.2.1
  generalize (bkIx s.2.1 (ldNm f (ldX f n l))).toNatClampNeg = i
  generalize ldX f n l = x at *
  have q1 := ldBkr_st (f := f) (s := s) hk
  have k1 := ldBkr_ok (f := f) (s := s) hk
  generalize ldBkr f n s x = a at *
  have q2 := ldKind_st (f := f) k1
  have k2 := ldKind_ok (f := f) k1
  generalize (ldKind f n a).2 = b at *
  have k3 : tkOk n (sdBk6 f s i b).2.2 := by rw [sdBk6_tk]; exact k2
  have q4 := ldSemi_st (f := f) k3
  rw [sdBk6_tk] at q4
  omega
theorem sdCust_st {s : mS} {l : mLd} (hk : tkOk n (ldX f n l).2.2) (c : s.2.2.2.1.length < 10) : (ldX f n l).2.2.2.1 ≤ (sdCust f n s l).2.2.2.2.1 := by
  unfold sdCust
  rw [if_pos c]
  show _ ≤ (ldSemi f n (ldNum f n 1 99 (ldNum f n 0 999 (ldNum f n 1 99 (ldNum f n 1 9 (ldKind f n (ldName f n s (ldX f n l))).2).2).2).2).2).2.2.2.1
  generalize ldX f n l = x at *
  have q1 := ldName_st (f := f) (s := s) hk
  have k1 := ldName_ok (f := f) (s := s) hk
  generalize ldName f n s x = a at *
  have q2 := ldKind_st (f := f) k1
  have k2 := ldKind_ok (f := f) k1
  generalize (ldKind f n a).2 = b at *
  have q3 := ldNum_st (f := f) (lo := 1) (hi := 9) k2
  have k3 := ldNum_ok (f := f) (lo := 1) (hi := 9) k2
  generalize (ldNum f n 1 9 b).2 = e at *
  have q4 := ldNum_st (f := f) (lo := 1) (hi := 99) k3
  have k4 := ldNum_ok (f := f) (lo := 1) (hi := 99) k3
  generalize (ldNum f n 1 99 e).2 = g at *
  have q5 := ldNum_st (f := f) (lo := 0) (hi := 999) k4
  have k5 := ldNum_ok (f := f) (lo := 0) (hi := 999) k4
  generalize (ldNum f n 0 999 g).2 = h at *
  have q6 := ldNum_st (f := f) (lo := 1) (hi := 99) k5
  have k6 := ldNum_ok (f := f) (lo := 1) (hi := 99) k5
  generalize (ldNum f n 1 99 h).2 = d at *
  have q7 := ldSemi_st (f := f) k6
  omega
theorem sdAuct_st {s : mS} {l : mLd} (hk : tkOk n (ldX f n l).2.2) : (ldX f n l).2.2.2.1 ≤ (sdAuct f n s l).2.2.2.2.1 := by
  show _ ≤ (ldSemi f n (ldKind f n (ldX f n l)).2).2.2.2.1
  have q2 := ldKind_st (f := f) hk
  have k2 := ldKind_ok (f := f) hk
  have q4 := ldSemi_st (f := f) k2
  omega
theorem sdSpar_st {s : mS} {l : mLd} (hk : tkOk n (ldX f n l).2.2) : (ldX f n l).2.2.2.1 ≤ (sdSpar f n s l).2.2.2.2.1 := by
  show _ ≤ (ldSemi f n (ldNum f n 0 999 (ldNum f n 0 9 (ldX f n l)).2).2).2.2.2.1
  generalize ldX f n l = x at *
  have q1 := ldNum_st (f := f) (lo := 0) (hi := 9) hk
  have k1 := ldNum_ok (f := f) (lo := 0) (hi := 9) hk
  generalize (ldNum f n 0 9 x).2 = a at *
  have q2 := ldNum_st (f := f) (lo := 0) (hi := 999) k1
  have k2 := ldNum_ok (f := f) (lo := 0) (hi := 999) k1
  generalize (ldNum f n 0 999 a).2 = b at *
  have q4 := ldSemi_st (f := f) k2
  omega
theorem sdHour_st {s : mS} {l : mLd} (hk : tkOk n (ldX f n l).2.2) : (ldX f n l).2.2.2.1 ≤ (sdHour f n s l).2.2.2.2.1 := by
  show _ ≤ (ldSemi f n (ldNum f n 0 60 (ldX f n l)).2).2.2.2.1
  generalize ldX f n l = x at *
  have q1 := ldNum_st (f := f) (lo := 0) (hi := 60) hk
  have k1 := ldNum_ok (f := f) (lo := 0) (hi := 60) hk
  generalize (ldNum f n 0 60 x).2 = a at *
  have q4 := ldSemi_st (f := f) k1
  omega
theorem sdStep_adv {s : mS} {l : mLd} (h : tkOk n l.2.2) (ht : l.2.2.1 ≠ 0) (h0 : (sdStep f n s l).2.1 = 0) : l.2.2.2.1 < (sdStep f n s l).2.2.2.2.1 := by
  have h1 := h.2.2 ht
  have hx := ldX_st (f := f) h
  have hk : tkOk n (ldX f n l).2.2 := ldX_ok h
  have key : ∀ y, (ldX f n l).2.2.2.1 ≤ y → l.2.2.2.1 < y := fun y hy => by omega
  unfold sdStep at h0 ⊢
  split
  · next q =>
    rw [if_pos q] at h0
    by_cases c : s.2.1.length < 4
    · exact key _ (sdBaker_st hk c)
    · unfold sdBaker at h0
      rw [if_neg c] at h0
      exact absurd h0 (ldF_n (by decide))
  · next q =>
    rw [if_neg q] at h0
    split
    · exact key _ (sdBake_st hk)
    · next q3 =>
      rw [if_neg q3] at h0
      split
      · next q4 =>
        rw [if_pos q4] at h0
        by_cases c : s.2.2.2.1.length < 10
        · exact key _ (sdCust_st hk c)
        · unfold sdCust at h0
          rw [if_neg c] at h0
          exact absurd h0 (ldF_n (by decide))
      · next q4 =>
        rw [if_neg q4] at h0
        split
        · exact key _ (sdAuct_st hk)
        · next q5 =>
          rw [if_neg q5] at h0
          split
          · exact key _ (sdSpar_st hk)
          · next q6 =>
            rw [if_neg q6] at h0
            split
            · exact key _ (sdHour_st hk)
            · next q7 =>
              rw [if_neg q7] at h0
              exact absurd h0 (ldF_n (by decide))
end PU
section T
variable (Γ : cG) {σ : cAS} {m : Nat} {f : Nat → Int32} {n : Nat}
theorem CX9_readStatement (hm : shM σ m) {I : Nat → Nat → Int32} {l : mLd} {s : mS} (h : mlAt I m f n l) (h0 : l.1 = 0) (hs : gAt (I (m + 2)) s) {T C : Nat} (hT : T ≤ 2147483646) (hC : C + 18000 < 2147483648) (hw : wf T C s) : Ctr Γ (8, 175, 0, 0) MX9_readStatement [.ref m] (wI σ I) (stP σ I m f n (sdStep f n s l)) := by
  have hS : sdStep f n s l = if wdI f l.2.2 2 = true then sdBaker f n s l else if wdI f l.2.2 3 = true then sdBake f n s l else if wdI f l.2.2 7 = true then sdCust f n s l else if wdI f l.2.2 8 = true then sdAuct f n s l else if wdI f l.2.2 9 = true then sdSpar f n s l else if wdI f l.2.2 10 = true then sdHour f n s l else (s, ldF 1 l) := rfl
  have fin : ∀ {p : mS × mLd} (I1 : Nat → Nat → Int32), sdStep f n s l = p → frR I I1 m → mlAt I1 m f n p.2 → (p.2.1 = 0 → gAt (I1 (m + 2)) p.1) → stP σ I m f n (sdStep f n s l) (.inl none) (wI σ I1) := fun {p} I1 e a b c => by
    rw [e]
    exact ⟨rfl, I1, rfl, a, b, c⟩
  refine Ctr.go rfl (by decide) rfl rfl ?_
  refine WP.aload_n (pc := 0) dX9_readStatement_0 rfl ?_
  refine WP.ldcSW (pc := 1) (j := 25) (tx := "baker") (by decide) dX9_readStatement_1 ?_
  refine WP.cV1 (pc := 4) (mc2 := 0) (ms2 := 0) (ci := 9) kX9_234 (CX9_is Γ hm (j := 2 + 23) (by decide) h) (by decide) rfl hm.t0 rfl ⟨Nat.le_of_ble_eq_true rfl, Nat.le_of_ble_eq_true rfl⟩ (Nat.le_of_ble_eq_true rfl) (Nat.le_of_ble_eq_true rfl) (Nat.le_of_ble_eq_true rfl) rfl dX9_readStatement_4 ?_
  rw [wdI_23 (by decide) (by decide)]
  have yes2 : ¬ bI (wdI f l.2.2 2) = 0 → wdI f l.2.2 2 = true := fun z => Classical.byContradiction fun q => z (by rw [Bool.not_eq_true] at q; rw [q]; rfl)
  refine WP.if_eq (pc := 7) (tgt := 17) dX9_readStatement_7 (by decide) (fun h2 => ?_) (fun h2 => ?_)
  · have n2 : ¬ wdI f l.2.2 2 = true := fun z => by rw [z] at h2; exact absurd h2 (by decide)
    rw [if_neg n2] at hS
    refine WP.aload_n (pc := 17) dX9_readStatement_17 rfl ?_
    refine WP.ldcSW (pc := 18) (j := 26) (tx := "bake") (by decide) dX9_readStatement_18 ?_
    refine WP.cV1 (pc := 21) (mc2 := 0) (ms2 := 0) (ci := 9) kX9_234 (CX9_is Γ hm (j := 3 + 23) (by decide) h) (by decide) rfl hm.t0 rfl ⟨Nat.le_of_ble_eq_true rfl, Nat.le_of_ble_eq_true rfl⟩ (Nat.le_of_ble_eq_true rfl) (Nat.le_of_ble_eq_true rfl) (Nat.le_of_ble_eq_true rfl) rfl dX9_readStatement_21 ?_
    rw [wdI_23 (by decide) (by decide)]
    have yes3 : ¬ bI (wdI f l.2.2 3) = 0 → wdI f l.2.2 3 = true := fun z => Classical.byContradiction fun q => z (by rw [Bool.not_eq_true] at q; rw [q]; rfl)
    refine WP.if_eq (pc := 24) (tgt := 34) dX9_readStatement_24 (by decide) (fun h3 => ?_) (fun h3 => ?_)
    · have n3 : ¬ wdI f l.2.2 3 = true := fun z => by rw [z] at h3; exact absurd h3 (by decide)
      rw [if_neg n3] at hS
      refine WP.aload_n (pc := 34) dX9_readStatement_34 rfl ?_
      refine WP.ldcSW (pc := 35) (j := 30) (tx := "customer") (by decide) dX9_readStatement_35 ?_
      refine WP.cV1 (pc := 38) (mc2 := 0) (ms2 := 0) (ci := 9) kX9_234 (CX9_is Γ hm (j := 7 + 23) (by decide) h) (by decide) rfl hm.t0 rfl ⟨Nat.le_of_ble_eq_true rfl, Nat.le_of_ble_eq_true rfl⟩ (Nat.le_of_ble_eq_true rfl) (Nat.le_of_ble_eq_true rfl) (Nat.le_of_ble_eq_true rfl) rfl dX9_readStatement_38 ?_
      rw [wdI_23 (by decide) (by decide)]
      have yes7 : ¬ bI (wdI f l.2.2 7) = 0 → wdI f l.2.2 7 = true := fun z => Classical.byContradiction fun q => z (by rw [Bool.not_eq_true] at q; rw [q]; rfl)
      refine WP.if_eq (pc := 41) (tgt := 51) dX9_readStatement_41 (by decide) (fun h7 => ?_) (fun h7 => ?_)
      · have n7 : ¬ wdI f l.2.2 7 = true := fun z => by rw [z] at h7; exact absurd h7 (by decide)
        rw [if_neg n7] at hS
        refine WP.aload_n (pc := 51) dX9_readStatement_51 rfl ?_
        refine WP.ldcSW (pc := 52) (j := 31) (tx := "auction") (by decide) dX9_readStatement_52 ?_
        refine WP.cV1 (pc := 55) (mc2 := 0) (ms2 := 0) (ci := 9) kX9_234 (CX9_is Γ hm (j := 8 + 23) (by decide) h) (by decide) rfl hm.t0 rfl ⟨Nat.le_of_ble_eq_true rfl, Nat.le_of_ble_eq_true rfl⟩ (Nat.le_of_ble_eq_true rfl) (Nat.le_of_ble_eq_true rfl) (Nat.le_of_ble_eq_true rfl) rfl dX9_readStatement_55 ?_
        rw [wdI_23 (by decide) (by decide)]
        have yes8 : ¬ bI (wdI f l.2.2 8) = 0 → wdI f l.2.2 8 = true := fun z => Classical.byContradiction fun q => z (by rw [Bool.not_eq_true] at q; rw [q]; rfl)
        refine WP.if_eq (pc := 58) (tgt := 68) dX9_readStatement_58 (by decide) (fun h8 => ?_) (fun h8 => ?_)
        · have n8 : ¬ wdI f l.2.2 8 = true := fun z => by rw [z] at h8; exact absurd h8 (by decide)
          rw [if_neg n8] at hS
          refine WP.aload_n (pc := 68) dX9_readStatement_68 rfl ?_
          refine WP.ldcSW (pc := 69) (j := 32) (tx := "sparrows") (by decide) dX9_readStatement_69 ?_
          refine WP.cV1 (pc := 72) (mc2 := 0) (ms2 := 0) (ci := 9) kX9_234 (CX9_is Γ hm (j := 9 + 23) (by decide) h) (by decide) rfl hm.t0 rfl ⟨Nat.le_of_ble_eq_true rfl, Nat.le_of_ble_eq_true rfl⟩ (Nat.le_of_ble_eq_true rfl) (Nat.le_of_ble_eq_true rfl) (Nat.le_of_ble_eq_true rfl) rfl dX9_readStatement_72 ?_
          rw [wdI_23 (by decide) (by decide)]
          have yes9 : ¬ bI (wdI f l.2.2 9) = 0 → wdI f l.2.2 9 = true := fun z => Classical.byContradiction fun q => z (by rw [Bool.not_eq_true] at q; rw [q]; rfl)
          refine WP.if_eq (pc := 75) (tgt := 85) dX9_readStatement_75 (by decide) (fun h9 => ?_) (fun h9 => ?_)
          · have n9 : ¬ wdI f l.2.2 9 = true := fun z => by rw [z] at h9; exact absurd h9 (by decide)
            rw [if_neg n9] at hS
            refine WP.aload_n (pc := 85) dX9_readStatement_85 rfl ?_
            refine WP.ldcSW (pc := 86) (j := 33) (tx := "hours") (by decide) dX9_readStatement_86 ?_
            refine WP.cV1 (pc := 89) (mc2 := 0) (ms2 := 0) (ci := 9) kX9_234 (CX9_is Γ hm (j := 10 + 23) (by decide) h) (by decide) rfl hm.t0 rfl ⟨Nat.le_of_ble_eq_true rfl, Nat.le_of_ble_eq_true rfl⟩ (Nat.le_of_ble_eq_true rfl) (Nat.le_of_ble_eq_true rfl) (Nat.le_of_ble_eq_true rfl) rfl dX9_readStatement_89 ?_
            rw [wdI_23 (by decide) (by decide)]
            have yes10 : ¬ bI (wdI f l.2.2 10) = 0 → wdI f l.2.2 10 = true := fun z => Classical.byContradiction fun q => z (by rw [Bool.not_eq_true] at q; rw [q]; rfl)
            refine WP.if_eq (pc := 92) (tgt := 102) dX9_readStatement_92 (by decide) (fun h10 => ?_) (fun h10 => ?_)
            · have n10 : ¬ wdI f l.2.2 10 = true := fun z => by rw [z] at h10; exact absurd h10 (by decide)
              rw [if_neg n10] at hS
              refine WP.aload_n (pc := 102) dX9_readStatement_102 rfl ?_
              refine WP.iconst (pc := 103) (v := 0) dX9_readStatement_103 (by decide) ?_
              refine WP.iconst (pc := 104) (v := 1) dX9_readStatement_104 (by decide) ?_
              refine WP.cVp (pc := 105) (mc2 := 0) (ms2 := 0) (ci := 9) kX9_212 (CX9_check Γ hm h false 1 (by omega)) (by decide) rfl hm.t0 rfl ⟨Nat.le_of_ble_eq_true rfl, Nat.le_of_ble_eq_true rfl⟩ (Nat.le_of_ble_eq_true rfl) (Nat.le_of_ble_eq_true rfl) (Nat.le_of_ble_eq_true rfl) rfl dX9_readStatement_105 (fun v1 I1 ⟨f1, g1⟩ => ?_)
              refine WP.pop (pc := 108) dX9_readStatement_108 rfl ?_
              refine WP.vret (pc := 109) rfl dX9_readStatement_109 ?_
              rw [ldC_f h0] at g1
              exact fin I1 hS (frR.ofj f1) g1 (fun z => absurd z (ldF_n (by decide)))
            · rw [if_pos (yes10 h10)] at hS
              refine WP.aload_n (pc := 95) dX9_readStatement_95 rfl ?_
              refine WP.cVw (pc := 96) (mc2 := 0) (ms2 := 0) (ci := 9) kX9_297 (CX9_readHours Γ hm h h0 hs hT hC hw) (by decide) rfl hm.t0 rfl ⟨Nat.le_of_ble_eq_true rfl, Nat.le_of_ble_eq_true rfl⟩ (Nat.le_of_ble_eq_true rfl) (Nat.le_of_ble_eq_true rfl) (Nat.le_of_ble_eq_true rfl) rfl dX9_readStatement_96 (fun I1 ⟨f1, g1, s1⟩ => ?_)
              refine WP.goto (pc := 99) (tgt := 109) dX9_readStatement_99 (by decide) ?_
              refine WP.vret (pc := 109) rfl dX9_readStatement_109 ?_
              exact fin I1 hS f1 g1 s1
          · rw [if_pos (yes9 h9)] at hS
            refine WP.aload_n (pc := 78) dX9_readStatement_78 rfl ?_
            refine WP.cVw (pc := 79) (mc2 := 0) (ms2 := 0) (ci := 9) kX9_292 (CX9_readSparrows Γ hm h h0 hs) (by decide) rfl hm.t0 rfl ⟨Nat.le_of_ble_eq_true rfl, Nat.le_of_ble_eq_true rfl⟩ (Nat.le_of_ble_eq_true rfl) (Nat.le_of_ble_eq_true rfl) (Nat.le_of_ble_eq_true rfl) rfl dX9_readStatement_79 (fun I1 ⟨f1, g1, s1⟩ => ?_)
            refine WP.goto (pc := 82) (tgt := 109) dX9_readStatement_82 (by decide) ?_
            refine WP.vret (pc := 109) rfl dX9_readStatement_109 ?_
            exact fin I1 hS f1 g1 s1
        · rw [if_pos (yes8 h8)] at hS
          refine WP.aload_n (pc := 61) dX9_readStatement_61 rfl ?_
          refine WP.cVw (pc := 62) (mc2 := 0) (ms2 := 0) (ci := 9) kX9_287 (CX9_readAuction Γ hm h h0 hs hT hw) (by decide) rfl hm.t0 rfl ⟨Nat.le_of_ble_eq_true rfl, Nat.le_of_ble_eq_true rfl⟩ (Nat.le_of_ble_eq_true rfl) (Nat.le_of_ble_eq_true rfl) (Nat.le_of_ble_eq_true rfl) rfl dX9_readStatement_62 (fun I1 ⟨f1, g1, s1⟩ => ?_)
          refine WP.goto (pc := 65) (tgt := 109) dX9_readStatement_65 (by decide) ?_
          refine WP.vret (pc := 109) rfl dX9_readStatement_109 ?_
          exact fin I1 hS f1 g1 s1
      · rw [if_pos (yes7 h7)] at hS
        refine WP.aload_n (pc := 44) dX9_readStatement_44 rfl ?_
        refine WP.cVw (pc := 45) (mc2 := 0) (ms2 := 0) (ci := 9) kX9_282 (CX9_readCustomer Γ hm h h0 hs hT hw) (by decide) rfl hm.t0 rfl ⟨Nat.le_of_ble_eq_true rfl, Nat.le_of_ble_eq_true rfl⟩ (Nat.le_of_ble_eq_true rfl) (Nat.le_of_ble_eq_true rfl) (Nat.le_of_ble_eq_true rfl) rfl dX9_readStatement_45 (fun I1 ⟨f1, g1, s1⟩ => ?_)
        refine WP.goto (pc := 48) (tgt := 109) dX9_readStatement_48 (by decide) ?_
        refine WP.vret (pc := 109) rfl dX9_readStatement_109 ?_
        exact fin I1 hS f1 g1 s1
    · rw [if_pos (yes3 h3)] at hS
      refine WP.aload_n (pc := 27) dX9_readStatement_27 rfl ?_
      refine WP.cVw (pc := 28) (mc2 := 0) (ms2 := 0) (ci := 9) kX9_277 (CX9_readBake Γ hm h h0 hs hw) (by decide) rfl hm.t0 rfl ⟨Nat.le_of_ble_eq_true rfl, Nat.le_of_ble_eq_true rfl⟩ (Nat.le_of_ble_eq_true rfl) (Nat.le_of_ble_eq_true rfl) (Nat.le_of_ble_eq_true rfl) rfl dX9_readStatement_28 (fun I1 ⟨f1, g1, s1⟩ => ?_)
      refine WP.goto (pc := 31) (tgt := 109) dX9_readStatement_31 (by decide) ?_
      refine WP.vret (pc := 109) rfl dX9_readStatement_109 ?_
      exact fin I1 hS f1 g1 s1
  · rw [if_pos (yes2 h2)] at hS
    refine WP.aload_n (pc := 10) dX9_readStatement_10 rfl ?_
    refine WP.cVw (pc := 11) (mc2 := 0) (ms2 := 0) (ci := 9) kX9_272 (CX9_readBaker Γ hm h h0 hs hw) (by decide) rfl hm.t0 rfl ⟨Nat.le_of_ble_eq_true rfl, Nat.le_of_ble_eq_true rfl⟩ (Nat.le_of_ble_eq_true rfl) (Nat.le_of_ble_eq_true rfl) (Nat.le_of_ble_eq_true rfl) rfl dX9_readStatement_11 (fun I1 ⟨f1, g1, s1⟩ => ?_)
    refine WP.goto (pc := 14) (tgt := 109) dX9_readStatement_14 (by decide) ?_
    refine WP.vret (pc := 109) rfl dX9_readStatement_109 ?_
    exact fin I1 hS f1 g1 s1
theorem LX9_rd17 (hm : shM σ m) {Φ : cRes → cAS → Prop} : ∀ d i (I : Nat → Nat → Int32), i + d = 380 → (∀ j, j < i → I (m + 2) j = 0) → (∀ I', frB I I' (m + 2) → (∀ j, j < 380 → I' (m + 2) j = 0) → WP Γ (9, 195, 0, 0) MX9_read Φ 37 [some (.ref m), none] [] (wI σ I')) →
    WP Γ (9, 195, 0, 0) MX9_read Φ 17 [some (.ref m), some (.int (nI i))] [] (wI σ I) := by
  intro d
  induction d with
  | zero =>
    intro i I hi h H
    refine WP.iload_n (pc := 17) dX9_read_17 rfl ?_
    refine WP.sipush (pc := 18) (v := 380) dX9_read_18 (by decide) ?_
    refine WP.icmp_ge (pc := 21) (tgt := 37) dX9_read_21 (by decide) (fun h1 => ?_) (fun h1 => ?_)
    · refine WP.drop 1 (H I frB.rf ?_)
      rw [show i = 380 by omega] at h
      exact h
    · exact absurd (nI_le (a := 380) (by omega) (by omega)) h1
  | succ d ih =>
    intro i I hi h H
    refine WP.iload_n (pc := 17) dX9_read_17 rfl ?_
    refine WP.sipush (pc := 18) (v := 380) dX9_read_18 (by decide) ?_
    refine WP.icmp_ge (pc := 21) (tgt := 37) dX9_read_21 (by decide) (fun h1 => ?_) (fun h1 => ?_)
    · exact absurd h1 (nI_ge (b := 380) (by omega) (by omega))
    · refine WP.aload_n (pc := 24) dX9_read_24 rfl ?_
      refine WP.gR (pc := 25) uX9 fX9_13 hm.t0 hm.r0_1 dX9_read_25 ?_
      refine WP.iload_n (pc := 28) dX9_read_28 rfl ?_
      refine WP.iconst (pc := 29) (v := 0) dX9_read_29 (by decide) ?_
      refine WP.iast (pc := 30) hm.t2 (by omega) (by decide) dX9_read_30 ?_
      refine WP.iinc (pc := 31) dX9_read_31 rfl (nI_1 _) (by decide) rfl ?_
      refine WP.goto (pc := 34) (tgt := 17) dX9_read_34 (by decide) ?_
      refine ih (i + 1) _ (by omega) (fun j hj => ?_) (fun I' f1 g1 => H I' (frB.rf.up.trans f1) g1)
      rw [up_eq]
      by_cases q : j = i
      · rw [if_pos ⟨rfl, q⟩]
      · rw [if_neg (fun z => q z.2)]
        exact h j (by omega)
theorem gAt_0 {g : Nat → Int32} (h : ∀ j, j < 380 → g j = 0) : gAt g (mS0 (fun _ => 0)) := by
  refine ⟨fun j hj => ?_, ⟨h 1 (by omega), Nat.zero_le _, fun i e he => (by cases he), fun i _ hi => ⟨h _ (by omega), h _ (by omega)⟩⟩, ⟨h 3 (by omega), Nat.zero_le _, fun i e he => (by cases he)⟩, ⟨h 2 (by omega), Nat.zero_le _, fun i e he => (by cases he)⟩, ⟨h 7 (by omega), Nat.zero_le _, fun i e he => (by cases he)⟩⟩
  rw [h _ (by have := (zIx_lt j hj).1; omega)]
  show 0 = if j < 3 then (0 : Int32) else 0
  split <;> rfl
theorem LX9_rd60 (hm : shM σ m) {Φ : cRes → cAS → Prop} {k : Nat} (hk : k < 3) {I : Nat → Nat → Int32} {X : mLd} (h : mlAt I m f n X) (H : ∀ I2, frR I I2 m → mlAt I2 m f n (ldNum f n 1 99 X).2 → I2 (m + 2) = uw (I (m + 2)) (13 + k) (if (ldNum f n 1 99 X).2.1 = 0 then (ldNum f n 1 99 X).1 else 1) → WP Γ (9, 195, 0, 0) MX9_read Φ 60 [some (.ref m), some (.int (nI (k + 1)))] [] (wI σ I2)) :
    WP Γ (9, 195, 0, 0) MX9_read Φ 60 [some (.ref m), some (.int (nI k))] [] (wI σ I) := by
  refine WP.iload_n (pc := 60) dX9_read_60 rfl ?_
  refine WP.iconst (pc := 61) (v := 3) dX9_read_61 (by decide) ?_
  refine WP.icmp_ge (pc := 62) (tgt := 87) dX9_read_62 (by decide) (fun h1 => ?_) (fun h1 => ?_)
  · exact absurd h1 (nI_ge (b := 3) (by omega) (by omega))
  · refine WP.aload_n (pc := 65) dX9_read_65 rfl ?_
    refine WP.gR (pc := 66) uX9 fX9_13 hm.t0 hm.r0_1 dX9_read_66 ?_
    refine WP.bipush (pc := 69) (v := 13) dX9_read_69 (by decide) ?_
    refine WP.iload_n (pc := 71) dX9_read_71 rfl ?_
    refine WP.iaN (pc := 72) (a := 13) dX9_read_72 ?_
    refine WP.aload_n (pc := 73) dX9_read_73 rfl ?_
    refine WP.iconst (pc := 74) (v := 1) dX9_read_74 (by decide) ?_
    refine WP.bipush (pc := 75) (v := 99) dX9_read_75 (by decide) ?_
    refine WP.cVp (pc := 77) (mc2 := 0) (ms2 := 0) (ci := 9) kX9_245 (CX9_number Γ hm h (lo := 1) (hi := 99) (by decide) (by decide)) (by decide) rfl hm.t0 rfl ⟨Nat.le_of_ble_eq_true rfl, Nat.le_of_ble_eq_true rfl⟩ (Nat.le_of_ble_eq_true rfl) (Nat.le_of_ble_eq_true rfl) (Nat.le_of_ble_eq_true rfl) rfl dX9_read_77 (fun v I1 ⟨e1, f1, g1⟩ => ?_)
    refine WP.iast (pc := 80) hm.t2 (by omega) (by decide) dX9_read_80 ?_
    refine WP.iinc (pc := 81) dX9_read_81 rfl (nI_1 _) (by decide) rfl ?_
    refine WP.goto (pc := 84) (tgt := 60) dX9_read_84 (by decide) ?_
    refine H _ ((frR.ofK f1).trans (frR.ofB frB.rf.up)) (mlAt.B (f := f) (n := n) g1 frB.rf.up) ?_
    rw [up_row, e1, f1.1 (m + 2) (by omega)]
    rfl
theorem LX9_rd91 (hm : shM σ m) {Φ : cRes → cAS → Prop} : ∀ d (I : Nat → Nat → Int32) (p : mS × mLd) (T C : Nat), mlAt I m f n p.2 → (p.2.1 = 0 → gAt (I (m + 2)) p.1) → wf T C p.1 → (p.2.1 = 0 → n ≤ p.2.2.2.2.1 + d) → T + d ≤ 2147483646 → C + 18000 * d < 2147483648 →
    (∀ I', frR I I' m → mlAt I' m f n (sdLoop f n d p).2 → ((sdLoop f n d p).2.1 = 0 → gAt (I' (m + 2)) (sdLoop f n d p).1) → Φ (.inl none) (wI σ I')) →
    WP Γ (9, 195, 0, 0) MX9_read Φ 91 [some (.ref m), none] [] (wI σ I) := by
  intro d
  have tk0 : ∀ t, t ≤ 3 → tkm t ≤ 3 ∧ (tkm t = 0 ↔ t = 0) := fun t ht => by
    unfold tkm
    split
    · omega
    · split <;> omega
  induction d with
  | zero =>
    intro I p T C h hs hw hd hT hC H
    have hok := h.ok
    have c3 := h.2.2.2.1
    have c6 := h.2.2.2.2.2.2.2
    have tk2 := tk0 p.2.2.2.1 hok.1
    refine WP.aload_n (pc := 91) dX9_read_91 rfl ?_
    refine WP.gIv (pc := 92) (v := nI p.2.1) uX9 fX9_180 hm.t0 (by simp [up_eq, c3]) dX9_read_92 ?_
    refine WP.if_ne (pc := 95) (tgt := 112) dX9_read_95 (by decide) (fun h1 => ?_) (fun h1 => ?_)
    · skip
      refine WP.vret (pc := 112) rfl dX9_read_112 ?_
      exact H I frR.rf h hs
    · have z : p.2.1 = 0 := (nI_eq (b := 0) (by omega) (by decide)).mp h1
      have hnd := hd z
      have t0 : p.2.2.2.1 = 0 := Classical.byContradiction fun q => by
        have h5 := hok.2.2 q
        have h6 := hok.2.1
        omega
      refine WP.aload_n (pc := 98) dX9_read_98 rfl ?_
      refine WP.gIv (pc := 99) (v := nI (tkm p.2.2.2.1)) uX9 fX9_201 hm.t0 (by simp [up_eq, h.2.2.2.2.2.1.2.1]) dX9_read_99 ?_
      refine WP.if_eq (pc := 102) (tgt := 112) dX9_read_102 (by decide) (fun h2 => ?_) (fun h2 => ?_)
      · skip
        refine WP.vret (pc := 112) rfl dX9_read_112 ?_
        exact H I frR.rf h hs
      · exact absurd (by rw [tk2.2.mpr t0]; rfl) h2
  | succ d ih =>
    intro I p T C h hs hw hd hT hC H
    have hok := h.ok
    have c3 := h.2.2.2.1
    have c6 := h.2.2.2.2.2.2.2
    have tk2 := tk0 p.2.2.2.1 hok.1
    have stop : ¬ (p.2.1 = 0 ∧ p.2.2.2.1 ≠ 0) → Φ (.inl none) (wI σ I) := fun q => by
      have e : sdLoop f n (d + 1) p = p := if_neg q
      rw [e] at H
      exact H I frR.rf h hs
    refine WP.aload_n (pc := 91) dX9_read_91 rfl ?_
    refine WP.gIv (pc := 92) (v := nI p.2.1) uX9 fX9_180 hm.t0 (by simp [up_eq, c3]) dX9_read_92 ?_
    refine WP.if_ne (pc := 95) (tgt := 112) dX9_read_95 (by decide) (fun h1 => ?_) (fun h1 => ?_)
    · skip
      refine WP.vret (pc := 112) rfl dX9_read_112 ?_
      exact stop fun q => code_n h1 q.1
    · have z : p.2.1 = 0 := (nI_eq (b := 0) (by omega) (by decide)).mp h1
      refine WP.aload_n (pc := 98) dX9_read_98 rfl ?_
      refine WP.gIv (pc := 99) (v := nI (tkm p.2.2.2.1)) uX9 fX9_201 hm.t0 (by simp [up_eq, h.2.2.2.2.2.1.2.1]) dX9_read_99 ?_
      refine WP.if_eq (pc := 102) (tgt := 112) dX9_read_102 (by decide) (fun h2 => ?_) (fun h2 => ?_)
      · skip
        refine WP.vret (pc := 112) rfl dX9_read_112 ?_
        exact stop fun q => q.2 (tk2.2.mp ((nI_eq (b := 0) (by omega) (by decide)).mp h2))
      · have t0 : p.2.2.2.1 ≠ 0 := fun q => h2 (by rw [tk2.2.mpr q]; rfl)
        have e : sdLoop f n (d + 1) p = sdLoop f n d (sdStep f n p.1 p.2) := if_pos ⟨z, t0⟩
        rw [e] at H
        have e3 : C + 18000 * (d + 1) = C + 18000 + 18000 * d := by rw [Nat.mul_succ, Nat.add_comm (18000 * d), ← Nat.add_assoc]
        rw [e3] at hC
        have hC1 := Nat.lt_of_le_of_lt (Nat.le_add_right _ _) hC
        have hnd := hd z
        refine WP.aload_n (pc := 105) dX9_read_105 rfl ?_
        refine WP.cVw (pc := 106) (mc2 := 0) (ms2 := 0) (ci := 9) kX9_302 (CX9_readStatement Γ hm h z (hs z) (T := T) (C := C) (by omega) hC1 hw) (by decide) rfl hm.t0 rfl ⟨Nat.le_of_ble_eq_true rfl, Nat.le_of_ble_eq_true rfl⟩ (Nat.le_of_ble_eq_true rfl) (Nat.le_of_ble_eq_true rfl) (Nat.le_of_ble_eq_true rfl) rfl dX9_read_106 (fun I1 ⟨f1, g1, s1⟩ => ?_)
        refine WP.goto (pc := 109) (tgt := 91) dX9_read_109 (by decide) ?_
        exact ih I1 _ (T + 1) (C + 18000) g1 s1 (sdStep_wf (by omega) hC1 hw) (fun q => by have := sdStep_adv hok t0 q; omega) (by omega) hC (fun I' f2 => H I' (f1.trans f2))
theorem CX9_read (hm : shM σ m) {I : Nat → Nat → Int32} (hn : n ≤ 600) (h17 : I m 17 = nI n) (ht : tx f (I (m + 10)) n) : Ctr Γ (9, 195, 0, 0) MX9_read [.ref m] (wI σ I) (stP σ I m f n (sdRead f n (mS0 (fun _ => 0)))) := by
  have hR : sdRead f n (mS0 (fun _ => 0)) = sdLoop f n n (if wdI f (ld0 f n).2.2 1 = true then sdMarket f n (mS0 (fun _ => 0)) (ld0 f n) else (mS0 (fun _ => 0), ldF 1 (ld0 f n))) := rfl
  have hw0 : wf 0 0 (mS0 (fun _ => 0)) := mS0_wf (fun j _ => ⟨0, rfl, Nat.zero_le _, by decide⟩)
  refine Ctr.go rfl (by decide) rfl rfl ?_
  refine WP.aload_n (pc := 0) dX9_read_0 rfl ?_
  refine WP.iconst (pc := 1) (v := 0) dX9_read_1 (by decide) ?_
  refine WP.pI (pc := 2) uX9 fX9_180 rfl rfl hm.t0 dX9_read_2 ?_
  refine WP.aload_n (pc := 5) dX9_read_5 rfl ?_
  refine WP.iconst (pc := 6) (v := (-1)) dX9_read_6 (by decide) ?_
  refine WP.pI (pc := 7) uX9 fX9_41 rfl rfl hm.t0 dX9_read_7 ?_
  refine WP.aload_n (pc := 10) dX9_read_10 rfl ?_
  refine WP.iconst (pc := 11) (v := 0) dX9_read_11 (by decide) ?_
  refine WP.pI (pc := 12) uX9 fX9_186 rfl rfl hm.t0 dX9_read_12 ?_
  refine WP.iconst (pc := 15) (v := 0) dX9_read_15 (by decide) ?_
  refine WP.istore_n (pc := 16) dX9_read_16 (by decide) rfl ?_
  generalize hJ : up (up (up I m 23 0) m 24 (-1)) m 18 0 = J
  have FJ : frR I J m := by
    rw [← hJ]
    exact ⟨fun b h1 _ _ _ _ => by rw [up_ne h1, up_ne h1, up_ne h1], fun j hj => by rw [up_eq, if_neg (by omega), up_eq, if_neg (by omega), up_eq, if_neg (by omega)]⟩
  have j23 : J m 23 = 0 := by rw [← hJ]; simp [up_eq]
  have j24 : J m 24 = -1 := by rw [← hJ]; simp [up_eq]
  have j18 : J m 18 = nI 0 := by rw [← hJ]; simp [up_eq]; rfl
  have j17 : J m 17 = nI n := by rw [FJ.2 17 (by omega)]; exact h17
  have jt : tx f (J (m + 10)) n := by rw [FJ.1 (m + 10) (by omega) (by omega) (by omega) (by omega) (by omega)]; exact ht
  refine LX9_rd17 Γ hm 380 0 J (by omega) (fun j hj => absurd hj (Nat.not_lt_zero _)) (fun I1 f1 z1 => ?_)
  have o1 : ∀ j, I1 m j = J m j := fun j => by rw [f1 m (by omega)]
  have t1 : tx f (I1 (m + 10)) n := by rw [f1 (m + 10) (by omega)]; exact jt
  refine WP.aload_n (pc := 37) dX9_read_37 rfl ?_
  refine WP.cVw (pc := 38) (mc2 := 0) (ms2 := 0) (ci := 9) kX9_209 (CX9_advance Γ hm hn (Nat.zero_le n) (by rw [o1]; exact j17) t1 (by rw [o1]; exact j18)) (by decide) rfl hm.t0 rfl ⟨Nat.le_of_ble_eq_true rfl, Nat.le_of_ble_eq_true rfl⟩ (Nat.le_of_ble_eq_true rfl) (Nat.le_of_ble_eq_true rfl) (Nat.le_of_ble_eq_true rfl) rfl dX9_read_38 (fun I2 ⟨f2, g2⟩ => ?_)
  have h2 : mlAt I2 m f n (ld0 f n) := ⟨by rw [f2.2 17 (by omega), o1]; exact j17, hn, by rw [f2.1 (m + 10) (by omega)]; exact t1, by rw [f2.2 23 (by omega), o1, j23]; rfl, by rw [f2.2 24 (by omega), o1, j24]; rfl, g2, ⟨0, Nat.zero_le _, rfl⟩, Nat.zero_le _⟩
  have s2 : gAt (I2 (m + 2)) (mS0 (fun _ => 0)) := by
    rw [f2.1 (m + 2) (by omega)]
    exact gAt_0 z1
  refine WP.aload_n (pc := 41) dX9_read_41 rfl ?_
  refine WP.aload_n (pc := 42) dX9_read_42 rfl ?_
  refine WP.ldcSW (pc := 43) (j := 24) (tx := "market") (by decide) dX9_read_43 ?_
  refine WP.cV1 (pc := 46) (mc2 := 0) (ms2 := 0) (ci := 9) kX9_234 (CX9_is Γ hm (j := 1 + 23) (by decide) h2) (by decide) rfl hm.t0 rfl ⟨Nat.le_of_ble_eq_true rfl, Nat.le_of_ble_eq_true rfl⟩ (Nat.le_of_ble_eq_true rfl) (Nat.le_of_ble_eq_true rfl) (Nat.le_of_ble_eq_true rfl) rfl dX9_read_46 ?_
  rw [wdI_23 (by decide) (by decide)]
  refine WP.iconst (pc := 49) (v := 1) dX9_read_49 (by decide) ?_
  refine WP.cVp (pc := 50) (mc2 := 0) (ms2 := 0) (ci := 9) kX9_212 (CX9_check Γ hm h2 (wdI f (ld0 f n).2.2 1) 1 (by omega)) (by decide) rfl hm.t0 rfl ⟨Nat.le_of_ble_eq_true rfl, Nat.le_of_ble_eq_true rfl⟩ (Nat.le_of_ble_eq_true rfl) (Nat.le_of_ble_eq_true rfl) (Nat.le_of_ble_eq_true rfl) rfl dX9_read_50 (fun v3 I3 ⟨f3, g3⟩ => ?_)
  refine WP.pop (pc := 53) dX9_read_53 rfl ?_
  refine WP.aload_n (pc := 54) dX9_read_54 rfl ?_
  refine WP.cVw (pc := 55) (mc2 := 0) (ms2 := 0) (ci := 9) kX9_215 (CX9_next Γ hm g3) (by decide) rfl hm.t0 rfl ⟨Nat.le_of_ble_eq_true rfl, Nat.le_of_ble_eq_true rfl⟩ (Nat.le_of_ble_eq_true rfl) (Nat.le_of_ble_eq_true rfl) (Nat.le_of_ble_eq_true rfl) rfl dX9_read_55 (fun I4 ⟨f4, g4⟩ => ?_)
  refine WP.iconst (pc := 58) (v := 0) dX9_read_58 (by decide) ?_
  refine WP.istore_n (pc := 59) dX9_read_59 (by decide) rfl ?_
  obtain ⟨X, hX⟩ : ∃ X, X = ldN f n (ldC (wdI f (ld0 f n).2.2 1) 1 (ld0 f n)) := ⟨_, rfl⟩
  rw [← hX] at g4
  have s4 : gAt (I4 (m + 2)) (mS0 (fun _ => 0)) := (s2.j f3).K f4
  have F4 : frR I I4 m := (((FJ.trans (frR.ofB f1)).trans (frR.ofK (frK.ofV f2))).trans (frR.ofj f3)).trans (frR.ofK f4)
  refine LX9_rd60 Γ hm (k := 0) (by decide) g4 (fun I5 f5 g5 r5 => ?_)
  obtain ⟨A, hA⟩ : ∃ A, A = ldNum f n 1 99 X := ⟨_, rfl⟩
  rw [← hA] at g5 r5
  refine LX9_rd60 Γ hm (k := 1) (by decide) g5 (fun I6 f6 g6 r6 => ?_)
  obtain ⟨B, hB⟩ : ∃ B, B = ldNum f n 1 99 A.2 := ⟨_, rfl⟩
  rw [← hB] at g6 r6
  refine LX9_rd60 Γ hm (k := 2) (by decide) g6 (fun I7 f7 g7 r7 => ?_)
  obtain ⟨E, hE⟩ : ∃ E, E = ldNum f n 1 99 B.2 := ⟨_, rfl⟩
  rw [← hE] at g7 r7
  refine WP.iload_n (pc := 60) dX9_read_60 rfl ?_
  refine WP.iconst (pc := 61) (v := 3) dX9_read_61 (by decide) ?_
  refine WP.icmp_ge (pc := 62) (tgt := 87) dX9_read_62 (by decide) (fun h1 => ?_) (fun h1 => ?_)
  · refine WP.aload_n (pc := 87) dX9_read_87 rfl ?_
    refine WP.cVw (pc := 88) (mc2 := 0) (ms2 := 0) (ci := 9) kX9_248 (CX9_finish Γ hm g7) (by decide) rfl hm.t0 rfl ⟨Nat.le_of_ble_eq_true rfl, Nat.le_of_ble_eq_true rfl⟩ (Nat.le_of_ble_eq_true rfl) (Nat.le_of_ble_eq_true rfl) (Nat.le_of_ble_eq_true rfl) rfl dX9_read_88 (fun I8 ⟨f8, g8⟩ => ?_)
    obtain ⟨D, hD⟩ : ∃ D, D = ldSemi f n E.2 := ⟨_, rfl⟩
    rw [← hD] at g8
    have F8 : frR I I8 m := (((F4.trans f5).trans f6).trans f7).trans (frR.ofK f8)
    have r8 : I8 (m + 2) = uw (uw (uw (I4 (m + 2)) 13 (if A.2.1 = 0 then A.1 else 1)) 14 (if B.2.1 = 0 then B.1 else 1)) 15 (if E.2.1 = 0 then E.1 else 1) := by rw [f8.1 (m + 2) (by omega), r7, r6, r5]
    refine WP.drop 1 ?_
    by_cases hm1 : wdI f (ld0 f n).2.2 1 = true
    · have hX2 : X = ldX f n (ld0 f n) := by rw [hX, hm1, ldC_t, ldN_0 rfl]
      have hS : sdMarket f n (mS0 (fun _ => 0)) (ld0 f n) = (if D.1 = 0 then bsS (mS0 (fun _ => 0)) A.1 B.1 E.1 else mS0 (fun _ => 0), D) := by rw [hD, hE, hB, hA, hX2]; rfl
      rw [if_pos hm1] at hR
      have hwM : wf 0 0 (sdMarket f n (mS0 (fun _ => 0)) (ld0 f n)).1 := sdMarket_wf hw0
      refine LX9_rd91 Γ hm n I8 (sdMarket f n (mS0 (fun _ => 0)) (ld0 f n)) 0 0 (by rw [hS]; exact g8) (fun z => ?_) hwM (fun _ => Nat.le_add_left _ _) (by omega) (by have := Nat.mul_le_mul_left 18000 hn; exact Nat.lt_of_le_of_lt (by rw [Nat.zero_add]; exact this) (by decide)) (fun I9 f9 g9 s9 => ?_)
      · rw [hS] at z ⊢
        have d0 : D.1 = 0 := z
        have e0 := (ldSemi_0 (by rw [← hD]; exact d0)).1
        have b0 := (ldNum_0 (f := f) (n := n) (lo := 1) (hi := 99) (l := B.2) (by rw [← hE]; exact e0)).1
        have a0 := (ldNum_0 (f := f) (n := n) (lo := 1) (hi := 99) (l := A.2) (by rw [← hB]; exact b0)).1
        rw [if_pos e0, if_pos b0, if_pos a0] at r8
        show gAt (I8 (m + 2)) (if D.1 = 0 then bsS (mS0 (fun _ => 0)) A.1 B.1 E.1 else mS0 (fun _ => 0))
        rw [if_pos d0, r8]
        exact ((s4.z (j := 0) (by omega) A.1).z (j := 1) (by omega) B.1).z (j := 2) (by omega) E.1
      · rw [hR]
        exact ⟨rfl, I9, rfl, F8.trans f9, g9, s9⟩
    · have hX2 : X = ldF 1 (ld0 f n) := by
        rw [Bool.not_eq_true] at hm1
        rw [hX, hm1, ldC_f rfl, ldN_n (ldF_n (by decide))]
      have xn : ¬ X.1 = 0 := by rw [hX2]; exact ldF_n (by decide)
      have hDX : D = X := by rw [hD, hE, hB, hA, ldNum_n xn, ldNum_n xn, ldNum_n xn, ldSemi_n xn]
      rw [if_neg hm1] at hR
      refine LX9_rd91 Γ hm n I8 (mS0 (fun _ => 0), ldF 1 (ld0 f n)) 0 0 (by rw [hDX, hX2] at g8; exact g8) (fun z => absurd z (ldF_n (by decide))) hw0 (fun _ => Nat.le_add_left _ _) (by omega) (by have := Nat.mul_le_mul_left 18000 hn; exact Nat.lt_of_le_of_lt (by rw [Nat.zero_add]; exact this) (by decide)) (fun I9 f9 g9 s9 => ?_)
      rw [hR]
      exact ⟨rfl, I9, rfl, F8.trans f9, g9, s9⟩
  · exact absurd (Int32.le_refl _) h1
end T
