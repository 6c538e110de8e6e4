-- behind: 56
section T
variable (Γ : cG) {σ : cAS} {m : Nat} {f : Nat → Int32} {n : Nat}
theorem stP.err {I I' : Nat → Nat → Int32} {p : mS × mLd} {s : mS} {D : mLd} (hp : p.2 = D) (hf : frR I I' m) (hg : mlAt I' m f n D) (hD : ¬ D.1 = 0) : stP σ I m f n p (.inl none) (wI σ I') := ⟨rfl, I', rfl, hf, by rw [hp]; exact hg, fun z => absurd (by rw [← hp]; exact z) hD⟩
theorem stP.ok {I I' : Nat → Nat → Int32} {p : mS × mLd} {s' : mS} {D : mLd} (hp : p = (s', D)) (hf : frR I I' m) (hg : mlAt I' m f n D) (hs : gAt (I' (m + 2)) s') : stP σ I m f n p (.inl none) (wI σ I') := by
  rw [hp]
  exact ⟨rfl, I', rfl, hf, hg, fun _ => hs⟩
theorem code_n {D : mLd} (h1 : ¬ nI D.1 = 0) : ¬ D.1 = 0 := fun q => h1 (by rw [q]; rfl)
theorem CX9_readAuction (hm : shM σ m) {I : Nat → Nat → Int32} {l : mLd} {s : mS} (h : mlAt I m f n l) (h0 : l.1 = 0) (hs : gAt (I (m + 2)) s) {T C : Nat} (hT : T ≤ 2147483646) (hw : wf T C s) : Ctr Γ (7, 149, 0, 0) MX9_readAuction [.ref m] (wI σ I) (stP σ I m f n (sdAuct f n s l)) := by
  refine Ctr.go rfl (by decide) rfl rfl ?_
  refine WP.aload_n (pc := 0) dX9_readAuction_0 rfl ?_
  refine WP.cVw (pc := 1) (mc2 := 0) (ms2 := 0) (ci := 9) kX9_215 (CX9_next Γ hm h) (by decide) rfl hm.t0 rfl ⟨Nat.le_of_ble_eq_true rfl, Nat.le_of_ble_eq_true rfl⟩ (Nat.le_of_ble_eq_true rfl) (Nat.le_of_ble_eq_true rfl) (Nat.le_of_ble_eq_true rfl) rfl dX9_readAuction_1 (fun I1 ⟨f1, g1⟩ => ?_)
  rw [ldN_0 h0] at g1
  refine WP.aload_n (pc := 4) dX9_readAuction_4 rfl ?_
  refine WP.cVp (pc := 5) (mc2 := 0) (ms2 := 0) (ci := 9) kX9_251 (CX9_kind Γ hm g1) (by decide) rfl hm.t0 rfl ⟨Nat.le_of_ble_eq_true rfl, Nat.le_of_ble_eq_true rfl⟩ (Nat.le_of_ble_eq_true rfl) (Nat.le_of_ble_eq_true rfl) (Nat.le_of_ble_eq_true rfl) rfl dX9_readAuction_5 (fun v I2 ⟨hv, f2, g2⟩ => ?_)
  refine WP.istore_n (pc := 8) dX9_readAuction_8 (by decide) rfl ?_
  refine WP.aload_n (pc := 9) dX9_readAuction_9 rfl ?_
  refine WP.cVw (pc := 10) (mc2 := 0) (ms2 := 0) (ci := 9) kX9_248 (CX9_finish Γ hm g2) (by decide) rfl hm.t0 rfl ⟨Nat.le_of_ble_eq_true rfl, Nat.le_of_ble_eq_true rfl⟩ (Nat.le_of_ble_eq_true rfl) (Nat.le_of_ble_eq_true rfl) (Nat.le_of_ble_eq_true rfl) rfl dX9_readAuction_10 (fun I3 ⟨f3, g3⟩ => ?_)
  have F := (f1.trans f2).trans f3
  obtain ⟨D, hD⟩ : ∃ D, D = ldSemi f n (ldKind f n (ldX f n l)).2 := ⟨_, rfl⟩
  have g3 : mlAt I3 m f n D := by rw [hD]; exact g3
  have hS : sdAuct f n s l = (if D.1 = 0 then hdOut s (ldKind f n (ldX f n l)).1 else s, D) := by rw [hD]; rfl
  have c3 := g3.2.2.2.1
  have c6 := g3.2.2.2.2.2.2.2
  refine WP.aload_n (pc := 13) dX9_readAuction_13 rfl ?_
  refine WP.gIv (pc := 14) (v := nI D.1) uX9 fX9_180 hm.t0 (by simp [up_eq, c3]) dX9_readAuction_14 ?_
  refine WP.if_ne (pc := 17) (tgt := 37) dX9_readAuction_17 (by decide) (fun h1 => ?_) (fun h1 => ?_)
  · skip
    refine WP.vret (pc := 37) rfl dX9_readAuction_37 ?_
    exact stP.err (s := s) (by rw [hS]) (frR.ofK F) g3 (code_n h1)
  · have d0 : D.1 = 0 := (nI_eq (b := 0) (by omega) (by decide)).mp h1
    have d1 := ldSemi_0 (by rw [← hD]; exact d0)
    have hk := (ldKind_0 d1.1).2
    rw [ldKind_1 (f := f) (n := n) (l := ldX f n l) h0] at hk hS
    rw [hv]
    refine WP.aload_n (pc := 20) dX9_readAuction_20 rfl ?_
    refine WP.aload_n (pc := 21) dX9_readAuction_21 rfl ?_
    refine WP.gR (pc := 22) uX9 fX9_13 hm.t0 hm.r0_1 dX9_readAuction_22 ?_
    refine WP.iload_n (pc := 25) dX9_readAuction_25 rfl ?_
    refine WP.cVp (pc := 26) (mc2 := 0) (ms2 := 0) (ci := 9) kX9_264 (CX9_hold Γ hm hm.t2 (by omega) (A := 73) (by decide) (T := T) (by omega) hw hk (hs.K F)) (by decide) rfl hm.t0 rfl ⟨Nat.le_of_ble_eq_true rfl, Nat.le_of_ble_eq_true rfl⟩ (Nat.le_of_ble_eq_true rfl) (Nat.le_of_ble_eq_true rfl) (Nat.le_of_ble_eq_true rfl) rfl dX9_readAuction_26 (fun w I4 ⟨hw4, f4, g4⟩ => ?_)
    have ⟨t1, t2⟩ := trN_le (plB s (ldKindV f (ldX f n l))) (plL s (ldKindV f (ldX f n l)))
    have hl60 : (plL s (ldKindV f (ldX f n l))).length ≤ 60 := Nat.le_trans (lvF_len _) (by have := hw.2.2.1; omega)
    have eT : plT s (ldKindV f (ldX f n l)) = trN (plB s (ldKindV f (ldX f n l))) (plL s (ldKindV f (ldX f n l))) := rfl
    refine WP.if_ge (pc := 29) (tgt := 37) dX9_readAuction_29 (by decide) (fun h2 => ?_) (fun h2 => ?_)
    · skip
      refine WP.vret (pc := 37) rfl dX9_readAuction_37 ?_
      exact stP.ok (s' := hdOut s (ldKindV f (ldX f n l))) (D := D) (by rw [hS, if_pos d0]) ((frR.ofK F).trans (frR.ofH f4)) (g3.H f4) g4
    · exact absurd (by rw [hw4]; exact nI_pos' (by omega)) h2
theorem CX9_readSparrows (hm : shM σ m) {I : Nat → Nat → Int32} {l : mLd} {s : mS} (h : mlAt I m f n l) (h0 : l.1 = 0) (hs : gAt (I (m + 2)) s) : Ctr Γ (5, 106, 0, 0) MX9_readSparrows [.ref m] (wI σ I) (stP σ I m f n (sdSpar f n s l)) := by
  refine Ctr.go rfl (by decide) rfl rfl ?_
  refine WP.aload_n (pc := 0) dX9_readSparrows_0 rfl ?_
  refine WP.cVw (pc := 1) (mc2 := 0) (ms2 := 0) (ci := 9) kX9_215 (CX9_next Γ hm h) (by decide) rfl hm.t0 rfl ⟨Nat.le_of_ble_eq_true rfl, Nat.le_of_ble_eq_true rfl⟩ (Nat.le_of_ble_eq_true rfl) (Nat.le_of_ble_eq_true rfl) (Nat.le_of_ble_eq_true rfl) rfl dX9_readSparrows_1 (fun I1 ⟨f1, g1⟩ => ?_)
  rw [ldN_0 h0] at g1
  refine WP.aload_n (pc := 4) dX9_readSparrows_4 rfl ?_
  refine WP.iconst (pc := 5) (v := 0) dX9_readSparrows_5 (by decide) ?_
  refine WP.bipush (pc := 6) (v := 9) dX9_readSparrows_6 (by decide) ?_
  refine WP.cVp (pc := 8) (mc2 := 0) (ms2 := 0) (ci := 9) kX9_245 (CX9_number Γ hm g1 (lo := 0) (hi := 9) (by decide) (by decide)) (by decide) rfl hm.t0 rfl ⟨Nat.le_of_ble_eq_true rfl, Nat.le_of_ble_eq_true rfl⟩ (Nat.le_of_ble_eq_true rfl) (Nat.le_of_ble_eq_true rfl) (Nat.le_of_ble_eq_true rfl) rfl dX9_readSparrows_8 (fun v2 I2 ⟨e2, f2, g2⟩ => ?_)
  obtain ⟨A, hA⟩ : ∃ A, A = ldNum f n 0 9 (ldX f n l) := ⟨_, rfl⟩
  have e2 : v2 = if A.2.1 = 0 then A.1 else 0 := by rw [hA]; exact e2
  have g2 : mlAt I2 m f n A.2 := by rw [hA]; exact g2
  refine WP.istore_n (pc := 11) dX9_readSparrows_11 (by decide) rfl ?_
  refine WP.aload_n (pc := 12) dX9_readSparrows_12 rfl ?_
  refine WP.iconst (pc := 13) (v := 0) dX9_readSparrows_13 (by decide) ?_
  refine WP.sipush (pc := 14) (v := 999) dX9_readSparrows_14 (by decide) ?_
  refine WP.cVp (pc := 17) (mc2 := 0) (ms2 := 0) (ci := 9) kX9_245 (CX9_number Γ hm g2 (lo := 0) (hi := 999) (by decide) (by decide)) (by decide) rfl hm.t0 rfl ⟨Nat.le_of_ble_eq_true rfl, Nat.le_of_ble_eq_true rfl⟩ (Nat.le_of_ble_eq_true rfl) (Nat.le_of_ble_eq_true rfl) (Nat.le_of_ble_eq_true rfl) rfl dX9_readSparrows_17 (fun v3 I3 ⟨e3, f3, g3⟩ => ?_)
  obtain ⟨B, hB⟩ : ∃ B, B = ldNum f n 0 999 A.2 := ⟨_, rfl⟩
  have e3 : v3 = if B.2.1 = 0 then B.1 else 0 := by rw [hB]; exact e3
  have g3 : mlAt I3 m f n B.2 := by rw [hB]; exact g3
  refine WP.istore_n (pc := 20) dX9_readSparrows_20 (by decide) rfl ?_
  refine WP.aload_n (pc := 21) dX9_readSparrows_21 rfl ?_
  refine WP.cVw (pc := 22) (mc2 := 0) (ms2 := 0) (ci := 9) kX9_248 (CX9_finish Γ hm g3) (by decide) rfl hm.t0 rfl ⟨Nat.le_of_ble_eq_true rfl, Nat.le_of_ble_eq_true rfl⟩ (Nat.le_of_ble_eq_true rfl) (Nat.le_of_ble_eq_true rfl) (Nat.le_of_ble_eq_true rfl) rfl dX9_readSparrows_22 (fun I4 ⟨f4, g4⟩ => ?_)
  have F := ((f1.trans f2).trans f3).trans f4
  obtain ⟨D, hD⟩ : ∃ D, D = ldSemi f n B.2 := ⟨_, rfl⟩
  rw [← hD] at g4
  have hS : sdSpar f n s l = (if D.1 = 0 then (zup (zup s.1 5 A.1) 4 B.1, s.2) else s, D) := by rw [hD, hB, hA]; rfl
  have c3 := g4.2.2.2.1
  have c6 := g4.2.2.2.2.2.2.2
  refine WP.aload_n (pc := 25) dX9_readSparrows_25 rfl ?_
  refine WP.gIv (pc := 26) (v := nI D.1) uX9 fX9_180 hm.t0 (by simp [up_eq, c3]) dX9_readSparrows_26 ?_
  refine WP.if_ne (pc := 29) (tgt := 46) dX9_readSparrows_29 (by decide) (fun h1 => ?_) (fun h1 => ?_)
  · skip
    refine WP.vret (pc := 46) rfl dX9_readSparrows_46 ?_
    exact stP.err (s := s) (by rw [hS]) (frR.ofK F) g4 (code_n h1)
  · have d0 : D.1 = 0 := (nI_eq (b := 0) (by omega) (by decide)).mp h1
    have d1 := ldSemi_0 (by rw [← hD]; exact d0)
    have b0 := d1.1
    have a0 := (ldNum_0 (f := f) (n := n) (lo := 0) (hi := 999) (l := A.2) (by rw [← hB]; exact b0)).1
    rw [if_pos a0] at e2
    rw [if_pos b0] at e3
    rw [e2, e3]
    refine WP.aload_n (pc := 32) dX9_readSparrows_32 rfl ?_
    refine WP.gR (pc := 33) uX9 fX9_13 hm.t0 hm.r0_1 dX9_readSparrows_33 ?_
    refine WP.iconst (pc := 36) (v := 5) dX9_readSparrows_36 (by decide) ?_
    refine WP.iload_n (pc := 37) dX9_readSparrows_37 rfl ?_
    refine WP.iast (pc := 38) (k := 5) hm.t2 (by decide) (by decide) dX9_readSparrows_38 ?_
    refine WP.aload_n (pc := 39) dX9_readSparrows_39 rfl ?_
    refine WP.gR (pc := 40) uX9 fX9_13 hm.t0 hm.r0_1 dX9_readSparrows_40 ?_
    refine WP.iconst (pc := 43) (v := 4) dX9_readSparrows_43 (by decide) ?_
    refine WP.iload_n (pc := 44) dX9_readSparrows_44 rfl ?_
    refine WP.iast (pc := 45) (k := 4) hm.t2 (by decide) (by decide) dX9_readSparrows_45 ?_
    refine WP.vret (pc := 46) rfl dX9_readSparrows_46 ?_
    refine stP.ok (s' := (zup (zup s.1 5 A.1) 4 B.1, s.2)) (D := D) (by rw [hS, if_pos d0]) ((frR.ofK F).trans (frR.ofB frB.rf.up.up)) (g4.B frB.rf.up.up) ?_
    rw [up_row, up_row]
    exact ((hs.K F).z (j := 5) (by omega) A.1).z (j := 4) (by omega) B.1
theorem CX9_readHours (hm : shM σ m) {I : Nat → Nat → Int32} {l : mLd} {s : mS} (h : mlAt I m f n l) (h0 : l.1 = 0) (hs : gAt (I (m + 2)) s) {T C : Nat} (hT : T ≤ 2147483646) (hC : C + 18000 < 2147483648) (hw : wf T C s) : Ctr Γ (6, 140, 0, 0) MX9_readHours [.ref m] (wI σ I) (stP σ I m f n (sdHour f n s l)) := by
  refine Ctr.go rfl (by decide) rfl rfl ?_
  refine WP.aload_n (pc := 0) dX9_readHours_0 rfl ?_
  refine WP.cVw (pc := 1) (mc2 := 0) (ms2 := 0) (ci := 9) kX9_215 (CX9_next Γ hm h) (by decide) rfl hm.t0 rfl ⟨Nat.le_of_ble_eq_true rfl, Nat.le_of_ble_eq_true rfl⟩ (Nat.le_of_ble_eq_true rfl) (Nat.le_of_ble_eq_true rfl) (Nat.le_of_ble_eq_true rfl) rfl dX9_readHours_1 (fun I1 ⟨f1, g1⟩ => ?_)
  rw [ldN_0 h0] at g1
  refine WP.aload_n (pc := 4) dX9_readHours_4 rfl ?_
  refine WP.iconst (pc := 5) (v := 0) dX9_readHours_5 (by decide) ?_
  refine WP.bipush (pc := 6) (v := 60) dX9_readHours_6 (by decide) ?_
  refine WP.cVp (pc := 8) (mc2 := 0) (ms2 := 0) (ci := 9) kX9_245 (CX9_number Γ hm g1 (lo := 0) (hi := 60) (by decide) (by decide)) (by decide) rfl hm.t0 rfl ⟨Nat.le_of_ble_eq_true rfl, Nat.le_of_ble_eq_true rfl⟩ (Nat.le_of_ble_eq_true rfl) (Nat.le_of_ble_eq_true rfl) (Nat.le_of_ble_eq_true rfl) rfl dX9_readHours_8 (fun v2 I2 ⟨e2, f2, g2⟩ => ?_)
  obtain ⟨A, hA⟩ : ∃ A, A = ldNum f n 0 60 (ldX f n l) := ⟨_, rfl⟩
  have e2 : v2 = if A.2.1 = 0 then A.1 else 0 := by rw [hA]; exact e2
  have g2 : mlAt I2 m f n A.2 := by rw [hA]; exact g2
  refine WP.istore_n (pc := 11) dX9_readHours_11 (by decide) rfl ?_
  refine WP.aload_n (pc := 12) dX9_readHours_12 rfl ?_
  refine WP.cVw (pc := 13) (mc2 := 0) (ms2 := 0) (ci := 9) kX9_248 (CX9_finish Γ hm g2) (by decide) rfl hm.t0 rfl ⟨Nat.le_of_ble_eq_true rfl, Nat.le_of_ble_eq_true rfl⟩ (Nat.le_of_ble_eq_true rfl) (Nat.le_of_ble_eq_true rfl) (Nat.le_of_ble_eq_true rfl) rfl dX9_readHours_13 (fun I4 ⟨f4, g4⟩ => ?_)
  have F := (f1.trans f2).trans f4
  obtain ⟨D, hD⟩ : ∃ D, D = ldSemi f n A.2 := ⟨_, rfl⟩
  rw [← hD] at g4
  have hS : sdHour f n s l = (if D.1 = 0 then hrsN A.1.toNatClampNeg s else s, D) := by rw [hD, hA]; rfl
  have c3 := g4.2.2.2.1
  have c6 := g4.2.2.2.2.2.2.2
  refine WP.aload_n (pc := 16) dX9_readHours_16 rfl ?_
  refine WP.aload_n (pc := 17) dX9_readHours_17 rfl ?_
  refine WP.gR (pc := 18) uX9 fX9_13 hm.t0 hm.r0_1 dX9_readHours_18 ?_
  refine WP.aload_n (pc := 21) dX9_readHours_21 rfl ?_
  refine WP.gIv (pc := 22) (v := nI D.1) uX9 fX9_180 hm.t0 (by simp [up_eq, c3]) dX9_readHours_22 ?_
  refine WP.if_ne (pc := 25) (tgt := 32) dX9_readHours_25 (by decide) (fun h1 => ?_) (fun h1 => ?_)
  · refine WP.iconst (pc := 32) (v := 0) dX9_readHours_32 (by decide) ?_
    refine WP.cVw (pc := 33) (mc2 := 0) (ms2 := 0) (ci := 9) kX9_267 (CX9_passMany Γ hm hm.t2 (n := 0) (T := T) (C := C) (by decide) (by omega) (hs.K F) (by omega) hw) (by decide) rfl hm.t0 rfl ⟨Nat.le_of_ble_eq_true rfl, Nat.le_of_ble_eq_true rfl⟩ (Nat.le_of_ble_eq_true rfl) (Nat.le_of_ble_eq_true rfl) (Nat.le_of_ble_eq_true rfl) rfl dX9_readHours_33 (fun I5 ⟨f5, g5⟩ => ?_)
    refine WP.vret (pc := 36) rfl dX9_readHours_36 ?_
    exact stP.err (s := s) (by rw [hS]) ((frR.ofK F).trans (frR.ofB f5)) (g4.B f5) (code_n h1)
  · have d0 : D.1 = 0 := (nI_eq (b := 0) (by omega) (by decide)).mp h1
    have d1 := ldSemi_0 (by rw [← hD]; exact d0)
    have a0 := d1.1
    rw [if_pos a0] at e2
    obtain ⟨q, hq, -, hq2⟩ : inR A.1 0 60 := by
      have := ldNum_in (f := f) (n := n) (l := ldX f n l) (lo := 0) (hi := 60) 0 60 rfl rfl (by decide) (by decide) (by rw [← hA]; exact a0)
      rw [hA]
      exact this
    rw [e2, hq]
    refine WP.iload_n (pc := 28) dX9_readHours_28 rfl ?_
    refine WP.goto (pc := 29) (tgt := 33) dX9_readHours_29 (by decide) ?_
    refine WP.cVw (pc := 33) (mc2 := 0) (ms2 := 0) (ci := 9) kX9_267 (CX9_passMany Γ hm hm.t2 (n := q) (T := T) (C := C) (by omega) (by omega) (hs.K F) (Nat.lt_of_le_of_lt (Nat.add_le_add_left (Nat.mul_le_mul_left 300 hq2) C) hC) hw) (by decide) rfl hm.t0 rfl ⟨Nat.le_of_ble_eq_true rfl, Nat.le_of_ble_eq_true rfl⟩ (Nat.le_of_ble_eq_true rfl) (Nat.le_of_ble_eq_true rfl) (Nat.le_of_ble_eq_true rfl) rfl dX9_readHours_33 (fun I5 ⟨f5, g5⟩ => ?_)
    refine WP.vret (pc := 36) rfl dX9_readHours_36 ?_
    refine stP.ok (s' := hrsN q s) (D := D) (by rw [hS, hq, nI_clamp (by omega), if_pos d0]) ((frR.ofK F).trans (frR.ofB f5)) (g4.B f5) g5
theorem gBs.app {g g' : Nat → Int32} {l : List mBk} {e : mBk} (h : gBs g l) (hl : l.length < 4) (hf : ∀ k, (k < 16 + 6 * l.length ∨ 22 + 6 * l.length ≤ k) → k ≠ 1 → g' k = g k) (h1 : g' 1 = nI (l.length + 1)) (he : gBk g' l.length e) : gBs g' (l ++ [e]) := by
  obtain ⟨k1, k2, k3, k4⟩ := h
  refine ⟨by rw [h1]; simp, by simp; omega, fun j x hx => ?_, fun j c1 c2 => ?_⟩
  · rcases gE_app hx with ⟨c, q⟩ | ⟨rfl, rfl⟩
    · exact (k3 j x q).kp (fun k c1 c2 => hf k (by omega) (by omega))
    · exact he
  · have c1 : l.length + 1 ≤ j := by simpa using c1
    rw [hf _ (by omega) (by omega), hf _ (by omega) (by omega)]
    exact k4 j (by omega) c2
theorem CX9_readBaker (hm : shM σ m) {I : Nat → Nat → Int32} {l : mLd} {s : mS} (h : mlAt I m f n l) (h0 : l.1 = 0) (hs : gAt (I (m + 2)) s) {T C : Nat} (hw : wf T C s) : Ctr Γ (5, 106, 0, 0) MX9_readBaker [.ref m] (wI σ I) (stP σ I m f n (sdBaker f n s l)) := by
  have hl4 := hs.2.1.2.1
  have hnB : ∀ e ∈ s.2.1, nmOk e.1 := fun e he => (hw.2.1.2 e he).1
  have hnC : ∀ e ∈ s.2.2.2.1, nmOk e.1 := fun e he => (hw.2.2.2.2.1.2 e he).1
  have tail : ∀ I1 X, frK I I1 m → mlAt I1 m f n X → (X.1 = 0 → s.2.1.length < 4 ∧ X = ldX f n l) → (¬ X.1 = 0 → sdBaker f n s l = (s, X)) → WP Γ (5, 106, 0, 0) MX9_readBaker (stP σ I m f n (sdBaker f n s l)) 25 [some (.ref m), none, none, none, none] [] (wI σ I1) := fun I1 X f1 g1 hX hX2 => by
    refine WP.aload_n (pc := 25) dX9_readBaker_25 rfl ?_
    refine WP.cVp (pc := 26) (mc2 := 0) (ms2 := 0) (ci := 9) kX9_242 (CX9_newName Γ hm g1 (hs.K f1) hnB hnC) (by decide) rfl hm.t0 rfl ⟨Nat.le_of_ble_eq_true rfl, Nat.le_of_ble_eq_true rfl⟩ (Nat.le_of_ble_eq_true rfl) (Nat.le_of_ble_eq_true rfl) (Nat.le_of_ble_eq_true rfl) rfl dX9_readBaker_26 (fun v2 I2 ⟨e2, f2, g2⟩ => ?_)
    refine WP.istore_n (pc := 29) dX9_readBaker_29 (by decide) rfl ?_
    refine WP.aload_n (pc := 30) dX9_readBaker_30 rfl ?_
    refine WP.iconst (pc := 31) (v := 1) dX9_readBaker_31 (by decide) ?_
    refine WP.bipush (pc := 32) (v := 12) dX9_readBaker_32 (by decide) ?_
    refine WP.cVp (pc := 34) (mc2 := 0) (ms2 := 0) (ci := 9) kX9_245 (CX9_number Γ hm g2 (lo := 1) (hi := 12) (by decide) (by decide)) (by decide) rfl hm.t0 rfl ⟨Nat.le_of_ble_eq_true rfl, Nat.le_of_ble_eq_true rfl⟩ (Nat.le_of_ble_eq_true rfl) (Nat.le_of_ble_eq_true rfl) (Nat.le_of_ble_eq_true rfl) rfl dX9_readBaker_34 (fun v3 I3 ⟨e3, f3, g3⟩ => ?_)
    obtain ⟨A, hA⟩ : ∃ A, A = ldNum f n 1 12 (ldM f n s X) := ⟨_, rfl⟩
    have e3 : v3 = if A.2.1 = 0 then A.1 else 1 := by rw [hA]; exact e3
    have g3 : mlAt I3 m f n A.2 := by rw [hA]; exact g3
    refine WP.istore_n (pc := 37) dX9_readBaker_37 (by decide) rfl ?_
    refine WP.aload_n (pc := 38) dX9_readBaker_38 rfl ?_
    refine WP.iconst (pc := 39) (v := 1) dX9_readBaker_39 (by decide) ?_
    refine WP.bipush (pc := 40) (v := 9) dX9_readBaker_40 (by decide) ?_
    refine WP.cVp (pc := 42) (mc2 := 0) (ms2 := 0) (ci := 9) kX9_245 (CX9_number Γ hm g3 (lo := 1) (hi := 9) (by decide) (by decide)) (by decide) rfl hm.t0 rfl ⟨Nat.le_of_ble_eq_true rfl, Nat.le_of_ble_eq_true rfl⟩ (Nat.le_of_ble_eq_true rfl) (Nat.le_of_ble_eq_true rfl) (Nat.le_of_ble_eq_true rfl) rfl dX9_readBaker_42 (fun v4 I4 ⟨e4, f4, g4⟩ => ?_)
    obtain ⟨B, hB⟩ : ∃ B, B = ldNum f n 1 9 A.2 := ⟨_, rfl⟩
    have e4 : v4 = if B.2.1 = 0 then B.1 else 1 := by rw [hB]; exact e4
    have g4 : mlAt I4 m f n B.2 := by rw [hB]; exact g4
    refine WP.istore_n (pc := 45) dX9_readBaker_45 (by decide) rfl ?_
    refine WP.aload_n (pc := 46) dX9_readBaker_46 rfl ?_
    refine WP.cVw (pc := 47) (mc2 := 0) (ms2 := 0) (ci := 9) kX9_248 (CX9_finish Γ hm g4) (by decide) rfl hm.t0 rfl ⟨Nat.le_of_ble_eq_true rfl, Nat.le_of_ble_eq_true rfl⟩ (Nat.le_of_ble_eq_true rfl) (Nat.le_of_ble_eq_true rfl) (Nat.le_of_ble_eq_true rfl) rfl dX9_readBaker_47 (fun I5 ⟨f5, g5⟩ => ?_)
    have F := (((f1.trans f2).trans f3).trans f4).trans f5
    obtain ⟨D, hD⟩ : ∃ D, D = ldSemi f n B.2 := ⟨_, rfl⟩
    rw [← hD] at g5
    have c3 := g5.2.2.2.1
    have c6 := g5.2.2.2.2.2.2.2
    have hDX : ¬ X.1 = 0 → D = X := fun z => by rw [hD, hB, hA, ldM_n z, ldNum_n z, ldNum_n z, ldSemi_n z]
    have hS : X.1 = 0 → sdBaker f n s l = (if D.1 = 0 then adB s (nmF f (ldX f n l).2.2.2.1 (ldX f n l).2.2.2.2) A.1 B.1 else s, D) := fun z => by
      obtain ⟨z1, z2⟩ := hX z
      unfold sdBaker
      rw [if_pos z1, hD, hB, hA, ldM_0 z, z2]
    refine WP.aload_n (pc := 50) dX9_readBaker_50 rfl ?_
    refine WP.gIv (pc := 51) (v := nI D.1) uX9 fX9_180 hm.t0 (by simp [up_eq, c3]) dX9_readBaker_51 ?_
    refine WP.if_ne (pc := 54) (tgt := 108) dX9_readBaker_54 (by decide) (fun h1 => ?_) (fun h1 => ?_)
    · skip
      refine WP.vret (pc := 108) rfl dX9_readBaker_108 ?_
      refine stP.err (s := s) ?_ (frR.ofK F) g5 (code_n h1)
      by_cases z : X.1 = 0
      · rw [hS z]
      · rw [hX2 z, hDX z]
    · have d0 : D.1 = 0 := (nI_eq (b := 0) (by omega) (by decide)).mp h1
      have z : X.1 = 0 := Classical.byContradiction fun z => z (by rw [← hDX z]; exact d0)
      obtain ⟨z1, z2⟩ := hX z
      have d1 := ldSemi_0 (by rw [← hD]; exact d0)
      have b0 := d1.1
      have a0 := (ldNum_0 (f := f) (n := n) (lo := 1) (hi := 9) (l := A.2) (by rw [← hB]; exact b0)).1
      have m0 := (ldNum_0 (f := f) (n := n) (lo := 1) (hi := 12) (l := ldM f n s X) (by rw [← hA]; exact a0)).1
      rw [ldM_0 z] at m0
      have e2' := e2 z m0
      rw [z2] at e2'
      rw [if_pos a0] at e3
      rw [if_pos b0] at e4
      rw [e2', e3, e4]
      have h5 := hs.K F
      have k1 := h5.2.1.1
      have k4 := h5.2.1.2.2.2 s.2.1.length (Nat.le_refl _) z1
      generalize hnm : nmF f (ldX f n l).2.2.2.1 (ldX f n l).2.2.2.2 = nm at hS
      refine WP.aload_n (pc := 57) dX9_readBaker_57 rfl ?_
      refine WP.gR (pc := 58) uX9 fX9_13 hm.t0 hm.r0_1 dX9_readBaker_58 ?_
      refine WP.iconst (pc := 61) (v := 1) dX9_readBaker_61 (by decide) ?_
      refine WP.ialdv (pc := 62) (k := 1) hm.t2 (by decide) (by decide) (v := (nI s.2.1.length)) (k1) dX9_readBaker_62 ?_
      refine WP.cS1 (pc := 63) (mc2 := 0) (ms2 := 0) kX9_100 (CX9_ofBaker Γ s.2.1.length) rfl ⟨Nat.le_of_ble_eq_true rfl, Nat.le_of_ble_eq_true rfl⟩ (Nat.le_of_ble_eq_true rfl) (Nat.le_of_ble_eq_true rfl) (Nat.le_of_ble_eq_true rfl) rfl dX9_readBaker_63 ?_
      refine WP.istore (pc := 66) dX9_readBaker_66 (by decide) rfl ?_
      refine WP.aload_n (pc := 68) dX9_readBaker_68 rfl ?_
      refine WP.gR (pc := 69) uX9 fX9_13 hm.t0 hm.r0_1 dX9_readBaker_69 ?_
      refine WP.iload (pc := 72) dX9_readBaker_72 rfl ?_
      refine WP.iconst (pc := 74) (v := 0) dX9_readBaker_74 (by decide) ?_
      refine WP.ia0 (pc := 75) dX9_readBaker_75 ?_
      refine WP.iload_n (pc := 76) dX9_readBaker_76 rfl ?_
      refine WP.iast (pc := 77) hm.t2 (by omega) (by decide) dX9_readBaker_77 ?_
      refine WP.aload_n (pc := 78) dX9_readBaker_78 rfl ?_
      refine WP.gR (pc := 79) uX9 fX9_13 hm.t0 hm.r0_1 dX9_readBaker_79 ?_
      refine WP.iload (pc := 82) dX9_readBaker_82 rfl ?_
      refine WP.iconst (pc := 84) (v := 1) dX9_readBaker_84 (by decide) ?_
      refine WP.iaN (pc := 85) (b := 1) dX9_readBaker_85 ?_
      refine WP.iload_n (pc := 86) dX9_readBaker_86 rfl ?_
      refine WP.iast (pc := 87) hm.t2 (by omega) (by decide) dX9_readBaker_87 ?_
      refine WP.aload_n (pc := 88) dX9_readBaker_88 rfl ?_
      refine WP.gR (pc := 89) uX9 fX9_13 hm.t0 hm.r0_1 dX9_readBaker_89 ?_
      refine WP.iload (pc := 92) dX9_readBaker_92 rfl ?_
      refine WP.iconst (pc := 94) (v := 2) dX9_readBaker_94 (by decide) ?_
      refine WP.iaN (pc := 95) (b := 2) dX9_readBaker_95 ?_
      refine WP.iload_n (pc := 96) dX9_readBaker_96 rfl ?_
      refine WP.iast (pc := 97) hm.t2 (by omega) (by decide) dX9_readBaker_97 ?_
      refine WP.aload_n (pc := 98) dX9_readBaker_98 rfl ?_
      refine WP.gR (pc := 99) uX9 fX9_13 hm.t0 hm.r0_1 dX9_readBaker_99 ?_
      refine WP.iconst (pc := 102) (v := 1) dX9_readBaker_102 (by decide) ?_
      refine WP.dup2 (pc := 103) dX9_readBaker_103 rfl rfl ?_
      refine WP.ialdv (pc := 104) (k := 1) hm.t2 (by decide) (by decide) (v := (nI s.2.1.length)) (by simp (disch := omega) only [up_row, uw_ne]; exact k1) dX9_readBaker_104 ?_
      refine WP.iconst (pc := 105) (v := 1) dX9_readBaker_105 (by decide) ?_
      refine WP.iaN (pc := 106) (b := 1) dX9_readBaker_106 ?_
      refine WP.iast (pc := 107) (k := 1) hm.t2 (by decide) (by decide) dX9_readBaker_107 ?_
      refine WP.vret (pc := 108) rfl dX9_readBaker_108 ?_
      have FB : frB I5 (up (up (up (up I5 (m + 2) (16 + 6 * s.2.1.length) (nI nm)) (m + 2) (16 + 6 * s.2.1.length + 1) A.1) (m + 2) (16 + 6 * s.2.1.length + 2) B.1) (m + 2) 1 (nI (s.2.1.length + 1))) (m + 2) := frB.rf.up.up.up.up
      refine stP.ok (s' := adB s nm A.1 B.1) (D := D) (by rw [hS z, if_pos d0]) ((frR.ofK F).trans (frR.ofB FB)) (g5.B FB) ?_
      simp only [up_row]
      refine h5.bk (fun k c1 c2 c3 => by simp (disch := omega) only [uw_ne]) (h5.2.1.app z1 (fun k c1 c2 => by simp (disch := omega) only [uw_ne]) (uw_at rfl) ?_)
      refine ⟨?_, ?_, ?_, fun z => absurd rfl z, ?_, ?_⟩ <;> simp (disch := omega) only [uw_ne, uw_at]
      · exact k4.1
      · exact k4.2
  refine Ctr.go rfl (by decide) rfl rfl ?_
  refine WP.aload_n (pc := 0) dX9_readBaker_0 rfl ?_
  refine WP.aload_n (pc := 1) dX9_readBaker_1 rfl ?_
  refine WP.gR (pc := 2) uX9 fX9_13 hm.t0 hm.r0_1 dX9_readBaker_2 ?_
  refine WP.iconst (pc := 5) (v := 1) dX9_readBaker_5 (by decide) ?_
  refine WP.ialdv (pc := 6) (k := 1) hm.t2 (by decide) (by decide) (v := (nI s.2.1.length)) (hs.2.1.1) dX9_readBaker_6 ?_
  refine WP.iconst (pc := 7) (v := 4) dX9_readBaker_7 (by decide) ?_
  refine WP.icmp_ge (pc := 8) (tgt := 15) dX9_readBaker_8 (by decide) (fun h1 => ?_) (fun h1 => ?_)
  · have hge : ¬ s.2.1.length < 4 := fun q => nI_ge (b := 4) q (by omega) h1
    refine WP.iconst (pc := 15) (v := 0) dX9_readBaker_15 (by decide) ?_
    refine WP.iconst (pc := 16) (v := 5) dX9_readBaker_16 (by decide) ?_
    refine WP.cVp (pc := 17) (mc2 := 0) (ms2 := 0) (ci := 9) kX9_212 (CX9_check Γ hm h false 5 (by omega)) (by decide) rfl hm.t0 rfl ⟨Nat.le_of_ble_eq_true rfl, Nat.le_of_ble_eq_true rfl⟩ (Nat.le_of_ble_eq_true rfl) (Nat.le_of_ble_eq_true rfl) (Nat.le_of_ble_eq_true rfl) rfl dX9_readBaker_17 (fun v1 I1 ⟨f1, g1⟩ => ?_)
    rw [ldC_f h0] at g1
    refine WP.pop (pc := 20) dX9_readBaker_20 rfl ?_
    refine WP.aload_n (pc := 21) dX9_readBaker_21 rfl ?_
    refine WP.cVw (pc := 22) (mc2 := 0) (ms2 := 0) (ci := 9) kX9_215 (CX9_next Γ hm g1) (by decide) rfl hm.t0 rfl ⟨Nat.le_of_ble_eq_true rfl, Nat.le_of_ble_eq_true rfl⟩ (Nat.le_of_ble_eq_true rfl) (Nat.le_of_ble_eq_true rfl) (Nat.le_of_ble_eq_true rfl) rfl dX9_readBaker_22 (fun I2 ⟨f2, g2⟩ => ?_)
    rw [ldN_n (ldF_n (by decide))] at g2
    refine tail I2 _ ((frK.ofj f1 (by omega) (by omega)).trans f2) g2 (fun q => absurd q (ldF_n (by decide))) (fun _ => ?_)
    unfold sdBaker
    rw [if_neg hge]
  · have hlt : s.2.1.length < 4 := Nat.not_le.mp fun q => h1 (nI_le (a := 4) q (by omega))
    refine WP.iconst (pc := 11) (v := 1) dX9_readBaker_11 (by decide) ?_
    refine WP.goto (pc := 12) (tgt := 16) dX9_readBaker_12 (by decide) ?_
    refine WP.iconst (pc := 16) (v := 5) dX9_readBaker_16 (by decide) ?_
    refine WP.cVp (pc := 17) (mc2 := 0) (ms2 := 0) (ci := 9) kX9_212 (CX9_check Γ hm h true 5 (by omega)) (by decide) rfl hm.t0 rfl ⟨Nat.le_of_ble_eq_true rfl, Nat.le_of_ble_eq_true rfl⟩ (Nat.le_of_ble_eq_true rfl) (Nat.le_of_ble_eq_true rfl) (Nat.le_of_ble_eq_true rfl) rfl dX9_readBaker_17 (fun v1 I1 ⟨f1, g1⟩ => ?_)
    rw [ldC_t] at g1
    refine WP.pop (pc := 20) dX9_readBaker_20 rfl ?_
    refine WP.aload_n (pc := 21) dX9_readBaker_21 rfl ?_
    refine WP.cVw (pc := 22) (mc2 := 0) (ms2 := 0) (ci := 9) kX9_215 (CX9_next Γ hm g1) (by decide) rfl hm.t0 rfl ⟨Nat.le_of_ble_eq_true rfl, Nat.le_of_ble_eq_true rfl⟩ (Nat.le_of_ble_eq_true rfl) (Nat.le_of_ble_eq_true rfl) (Nat.le_of_ble_eq_true rfl) rfl dX9_readBaker_22 (fun I2 ⟨f2, g2⟩ => ?_)
    rw [ldN_0 h0] at g2
    exact tail I2 _ ((frK.ofj f1 (by omega) (by omega)).trans f2) g2 (fun _ => ⟨hlt, rfl⟩) (fun q => absurd h0 q)
end T
