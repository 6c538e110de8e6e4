def frL (I I' : Nat → Nat → Int32) (b x : Nat) : Prop := ∀ a, (a < b ∨ b + 25 ≤ a) → (a < x + 51 ∨ x + 59 ≤ a ∨ a = x + 56) → I' a = I a
theorem frL.rf {I : Nat → Nat → Int32} {b x : Nat} : frL I I b x := fun _ _ _ => rfl
theorem frL.trans {I I' I'' : Nat → Nat → Int32} {b x : Nat} (h : frL I I' b x) (h' : frL I' I'' b x) : frL I I'' b x := fun a h1 h2 => (h' a h1 h2).trans (h a h1 h2)
theorem fr.L {I I' : Nat → Nat → Int32} {b x : Nat} (h : fr I I' (x + 57) 2) : frL I I' b x := fun a h1 h2 => h a (by omega)
theorem fr.Lb {I I' : Nat → Nat → Int32} {b x : Nat} (h : fr I I' b 25) : frL I I' b x := fun a h1 h2 => h a (by omega)
theorem fr.Lp {I I' : Nat → Nat → Int32} {b x : Nat} (h : fr I I' (x + 51) 5) : frL I I' b x := fun a h1 h2 => h a (by omega)
theorem ldAt.kpB {I I' : Nat → Nat → Int32} {x n b : Nat} {l : mLd} (h : ldAt I x n l) (hf : fr I I' b 25) (hd : b + 25 ≤ x + 51) : ldAt I' x n l := h.kp hf (by omega)
theorem stAt.base {I : Nat → Nat → Int32} {b : Nat} {s : mS} (h : stAt I b s) (j : Nat) (v : Int32) (hj : j < 3) : stAt (up I (b + 1) j v) b (zup s.1 j v, s.2) := by
  have f : fr I (up I (b + 1) j v) (b + 1) 1 := fr_up1
  refine ⟨?_, h.2.1.kp f (by omega), h.2.2.1.kp f (by omega), h.2.2.2.1.kp f (by omega), h.2.2.2.2.kp f (by omega)⟩
  obtain ⟨z0, z1, z2, z3, z4, z5, z6, z7, z8, z9, z10, z11⟩ := h.1
  rcases (by omega : j = 0 ∨ j = 1 ∨ j = 2) with rfl | rfl | rfl <;> exact ⟨by simp [up_eq, zup_eq, z0], by simp [up_eq, zup_eq, z1], by simp [up_eq, zup_eq, z2], by simp [up_eq, zup_eq, z3], by simp [up_eq, zup_eq, z4], by simp [up_eq, zup_eq, z5], by simp [up_eq, zup_eq, z6], by simp [up_eq, zup_eq, z7], by simp [up_eq, zup_eq, z8], by simp [up_eq, zup_eq, z9], by simp [up_eq, zup_eq, z10], by simp [up_eq, zup_eq, z11]⟩
section T
variable (Γ : cG) {σ : cAS} {x b : Nat}
theorem CX4_market (hx : shX σ x) (hs : shS σ b) (hd : b + 25 ≤ x + 51) {n : Nat} {l : mLd} {s : mS} {I : Nat → Nat → Int32} (hst : stAt I b s) (h : ldAt I x n l) : Ctr Γ (3, 64, 0, 0) MX4_marketStatement [.ref (x + 57), .ref b] (wI σ I) (rW σ (fun I' => frL I I' b x ∧ stAt I' b (sdMarket (I (x + 56)) n s l).1 ∧ ldAt I' x n (sdMarket (I (x + 56)) n s l).2)) := by
  refine Ctr.go rfl (by decide) rfl rfl ?_
  refine WP.aload_n (pc := 0) dX4_marketStatement_0 rfl ?_
  refine WP.gR (pc := 1) uX4 fX4_14 hx.t57 hx.r57_0 dX4_marketStatement_1 ?_
  refine WP.cVw (pc := 4) (mc2 := 0) (ms2 := 0) (ci := 7) kX4_85 (NX7 Γ hx h) (by decide) rfl hx.t58 rfl ⟨Nat.le_of_ble_eq_true rfl, Nat.le_of_ble_eq_true rfl⟩ (Nat.le_of_ble_eq_true rfl) (Nat.le_of_ble_eq_true rfl) (Nat.le_of_ble_eq_true rfl) rfl dX4_marketStatement_4 (fun I1 ⟨f1, g1⟩ => ?_)
  have h1 := h.nx f1 g1
  have F1 : fr I I1 (x + 57) 2 := f1.mono (by omega) (by omega)
  refine WP.aload_n (pc := 7) dX4_marketStatement_7 rfl ?_
  refine WP.iconst (pc := 8) (v := 1) dX4_marketStatement_8 (by decide) ?_
  refine WP.bipush (pc := 9) (v := 99) dX4_marketStatement_9 (by decide) ?_
  refine WP.cVp (pc := 11) (mc2 := 0) (ms2 := 0) (ci := 4) kX4_88 (CX4_number Γ hx 1 99 h1) (by decide) rfl hx.t57 rfl ⟨Nat.le_of_ble_eq_true rfl, Nat.le_of_ble_eq_true rfl⟩ (Nat.le_of_ble_eq_true rfl) (Nat.le_of_ble_eq_true rfl) (Nat.le_of_ble_eq_true rfl) rfl dX4_marketStatement_11 (fun v2 I2 ⟨e2, f2, h2⟩ => ?_)
  rw [F1 (x + 56) (by omega)] at e2 h2
  have F2 := F1.trans f2
  refine WP.istore_n (pc := 14) dX4_marketStatement_14 (by decide) rfl ?_
  refine WP.aload_n (pc := 15) dX4_marketStatement_15 rfl ?_
  refine WP.iconst (pc := 16) (v := 1) dX4_marketStatement_16 (by decide) ?_
  refine WP.bipush (pc := 17) (v := 99) dX4_marketStatement_17 (by decide) ?_
  refine WP.cVp (pc := 19) (mc2 := 0) (ms2 := 0) (ci := 4) kX4_88 (CX4_number Γ hx 1 99 h2) (by decide) rfl hx.t57 rfl ⟨Nat.le_of_ble_eq_true rfl, Nat.le_of_ble_eq_true rfl⟩ (Nat.le_of_ble_eq_true rfl) (Nat.le_of_ble_eq_true rfl) (Nat.le_of_ble_eq_true rfl) rfl dX4_marketStatement_19 (fun v3 I3 ⟨e3, f3, h3⟩ => ?_)
  rw [F2 (x + 56) (by omega)] at e3 h3
  have F3 := F2.trans f3
  refine WP.istore_n (pc := 22) dX4_marketStatement_22 (by decide) rfl ?_
  refine WP.aload_n (pc := 23) dX4_marketStatement_23 rfl ?_
  refine WP.iconst (pc := 24) (v := 1) dX4_marketStatement_24 (by decide) ?_
  refine WP.bipush (pc := 25) (v := 99) dX4_marketStatement_25 (by decide) ?_
  refine WP.cVp (pc := 27) (mc2 := 0) (ms2 := 0) (ci := 4) kX4_88 (CX4_number Γ hx 1 99 h3) (by decide) rfl hx.t57 rfl ⟨Nat.le_of_ble_eq_true rfl, Nat.le_of_ble_eq_true rfl⟩ (Nat.le_of_ble_eq_true rfl) (Nat.le_of_ble_eq_true rfl) (Nat.le_of_ble_eq_true rfl) rfl dX4_marketStatement_27 (fun v4 I4 ⟨e4, f4, h4⟩ => ?_)
  rw [F3 (x + 56) (by omega)] at e4 h4
  have F4 := F3.trans f4
  refine WP.istore (pc := 30) dX4_marketStatement_30 (by decide) rfl ?_
  refine WP.aload_n (pc := 32) dX4_marketStatement_32 rfl ?_
  refine WP.cVw (pc := 33) (mc2 := 0) (ms2 := 0) (ci := 4) kX4_92 (CX4_semicolon Γ hx h4) (by decide) rfl hx.t57 rfl ⟨Nat.le_of_ble_eq_true rfl, Nat.le_of_ble_eq_true rfl⟩ (Nat.le_of_ble_eq_true rfl) (Nat.le_of_ble_eq_true rfl) (Nat.le_of_ble_eq_true rfl) rfl dX4_marketStatement_33 (fun I5 ⟨f5, h5⟩ => ?_)
  rw [F4 (x + 56) (by omega)] at h5
  have F5 := F4.trans f5
  have hst5 := hst.kp F5 (by omega)
  unfold sdMarket
  dsimp only
  generalize hl5 : ldSemi (I (x + 56)) n _ = l5 at h5 ⊢
  refine WP.aload_n (pc := 36) dX4_marketStatement_36 rfl ?_
  refine WP.gIv (pc := 37) (v := (nI l5.1)) uX4 fX4_24 hx.t57 (by simp [up_eq, h5.1]) dX4_marketStatement_37 ?_
  refine WP.if_ne (pc := 40) (tgt := 65) dX4_marketStatement_40 (by decide) (fun hE => ?_) (fun hE => ?_)
  · refine WP.vret (pc := 65) rfl dX4_marketStatement_65 ?_
    rw [if_neg (fun q => hE (h5.er.mpr q))]
    exact ⟨rfl, _, rfl, F5.L, hst5, h5⟩
  · refine WP.aload_n (pc := 43) dX4_marketStatement_43 rfl ?_
    refine WP.gR (pc := 44) uX5 fX4_95 hs.t0 hs.r0_0 dX4_marketStatement_44 ?_
    refine WP.iconst (pc := 47) (v := 0) dX4_marketStatement_47 (by decide) ?_
    refine WP.iload_n (pc := 48) dX4_marketStatement_48 rfl ?_
    refine WP.iast (pc := 49) (k := 0) hs.t1 (by decide) (by decide) dX4_marketStatement_49 ?_
    refine WP.aload_n (pc := 50) dX4_marketStatement_50 rfl ?_
    refine WP.gR (pc := 51) uX5 fX4_95 hs.t0 hs.r0_0 dX4_marketStatement_51 ?_
    refine WP.iconst (pc := 54) (v := 1) dX4_marketStatement_54 (by decide) ?_
    refine WP.iload_n (pc := 55) dX4_marketStatement_55 rfl ?_
    refine WP.iast (pc := 56) (k := 1) hs.t1 (by decide) (by decide) dX4_marketStatement_56 ?_
    refine WP.aload_n (pc := 57) dX4_marketStatement_57 rfl ?_
    refine WP.gR (pc := 58) uX5 fX4_95 hs.t0 hs.r0_0 dX4_marketStatement_58 ?_
    refine WP.iconst (pc := 61) (v := 2) dX4_marketStatement_61 (by decide) ?_
    refine WP.iload (pc := 62) dX4_marketStatement_62 rfl ?_
    refine WP.iast (pc := 64) (k := 2) hs.t1 (by decide) (by decide) dX4_marketStatement_64 ?_
    refine WP.vret (pc := 65) rfl dX4_marketStatement_65 ?_
    rw [if_pos (h5.er.mp hE), ← e2, ← e3, ← e4]
    have fb : ∀ J : Nat → Nat → Int32, ∀ j v, fr J (up J (b + 1) j v) b 25 := fun J j v => fr_up1.mono (by omega) (by omega)
    refine ⟨rfl, _, rfl, F5.L.trans (((fb _ _ _).trans (fb _ _ _)).trans (fb _ _ _)).Lb, ?_, ?_⟩
    · exact (((hst5.base 0 v2 (by omega)).base 1 v3 (by omega)).base 2 v4 (by omega))
    · exact h5.kpB (((fb _ _ _).trans (fb _ _ _)).trans (fb _ _ _)) hd
theorem CX4_baker (hx : shX σ x) (hs : shS σ b) (hd : b + 25 ≤ x + 51) {n : Nat} {l : mLd} {s : mS} {I : Nat → Nat → Int32} (hst : stAt I b s) (h : ldAt I x n l) : Ctr Γ (4, 86, 0, 0) MX4_bakerStatement [.ref (x + 57), .ref b] (wI σ I) (rW σ (fun I' => frL I I' b x ∧ stAt I' b (sdBaker (I (x + 56)) n s l).1 ∧ ldAt I' x n (sdBaker (I (x + 56)) n s l).2)) := by
  have hb := hst.2.1
  have hbl := hb.2.1
  refine Ctr.go rfl (by decide) rfl rfl ?_
  refine WP.aload_n (pc := 0) dX4_bakerStatement_0 rfl ?_
  refine WP.gR (pc := 1) uX5 fX4_99 hs.t0 hs.r0_1 dX4_bakerStatement_1 ?_
  refine WP.gIv (pc := 4) (v := (nI s.2.1.length)) uX1 fX4_103 hs.t2 (by simp [up_eq, hb.1]) dX4_bakerStatement_4 ?_
  refine WP.iconst (pc := 7) (v := 4) dX4_bakerStatement_7 (by decide) ?_
  unfold sdBaker
  refine WP.icmp_lt (pc := 8) (tgt := 17) dX4_bakerStatement_8 (by decide) (fun hL => ?_) (fun hL => ?_)
  · have hlt : s.2.1.length < 4 := (nI_ltI (b := 4) (by omega) (by omega)).mp hL
    rw [if_pos hlt]
    refine WP.aload_n (pc := 17) dX4_bakerStatement_17 rfl ?_
    refine WP.gR (pc := 18) uX4 fX4_14 hx.t57 hx.r57_0 dX4_bakerStatement_18 ?_
    refine WP.cVw (pc := 21) (mc2 := 0) (ms2 := 0) (ci := 7) kX4_85 (NX7 Γ hx h) (by decide) rfl hx.t58 rfl ⟨Nat.le_of_ble_eq_true rfl, Nat.le_of_ble_eq_true rfl⟩ (Nat.le_of_ble_eq_true rfl) (Nat.le_of_ble_eq_true rfl) (Nat.le_of_ble_eq_true rfl) rfl dX4_bakerStatement_21 (fun I1 ⟨f1, g1⟩ => ?_)
    have h1 := h.nx f1 g1
    have F1 : fr I I1 (x + 57) 2 := f1.mono (by omega) (by omega)
    refine WP.aload_n (pc := 24) dX4_bakerStatement_24 rfl ?_
    refine WP.aload_n (pc := 25) dX4_bakerStatement_25 rfl ?_
    refine WP.cVp (pc := 26) (mc2 := 0) (ms2 := 0) (ci := 4) kX4_108 (CX4_newName Γ hx hs (hst.kp F1 (by omega)) h1) (by decide) rfl hx.t57 rfl ⟨Nat.le_of_ble_eq_true rfl, Nat.le_of_ble_eq_true rfl⟩ (Nat.le_of_ble_eq_true rfl) (Nat.le_of_ble_eq_true rfl) (Nat.le_of_ble_eq_true rfl) rfl dX4_bakerStatement_26 (fun v2 I2 ⟨e2, f2, h2⟩ => ?_)
    rw [F1 (x + 56) (by omega)] at e2 h2
    have F2 := F1.trans f2
    refine WP.istore_n (pc := 29) dX4_bakerStatement_29 (by decide) rfl ?_
    refine WP.aload_n (pc := 30) dX4_bakerStatement_30 rfl ?_
    refine WP.iconst (pc := 31) (v := 1) dX4_bakerStatement_31 (by decide) ?_
    refine WP.bipush (pc := 32) (v := 12) dX4_bakerStatement_32 (by decide) ?_
    refine WP.cVp (pc := 34) (mc2 := 0) (ms2 := 0) (ci := 4) kX4_88 (CX4_number Γ hx 1 12 h2) (by decide) rfl hx.t57 rfl ⟨Nat.le_of_ble_eq_true rfl, Nat.le_of_ble_eq_true rfl⟩ (Nat.le_of_ble_eq_true rfl) (Nat.le_of_ble_eq_true rfl) (Nat.le_of_ble_eq_true rfl) rfl dX4_bakerStatement_34 (fun v3 I3 ⟨e3, f3, h3⟩ => ?_)
    rw [F2 (x + 56) (by omega)] at e3 h3
    have F3 := F2.trans f3
    refine WP.istore_n (pc := 37) dX4_bakerStatement_37 (by decide) rfl ?_
    refine WP.aload_n (pc := 38) dX4_bakerStatement_38 rfl ?_
    refine WP.iconst (pc := 39) (v := 1) dX4_bakerStatement_39 (by decide) ?_
    refine WP.bipush (pc := 40) (v := 9) dX4_bakerStatement_40 (by decide) ?_
    refine WP.cVp (pc := 42) (mc2 := 0) (ms2 := 0) (ci := 4) kX4_88 (CX4_number Γ hx 1 9 h3) (by decide) rfl hx.t57 rfl ⟨Nat.le_of_ble_eq_true rfl, Nat.le_of_ble_eq_true rfl⟩ (Nat.le_of_ble_eq_true rfl) (Nat.le_of_ble_eq_true rfl) (Nat.le_of_ble_eq_true rfl) rfl dX4_bakerStatement_42 (fun v4 I4 ⟨e4, f4, h4⟩ => ?_)
    rw [F3 (x + 56) (by omega)] at e4 h4
    have F4 := F3.trans f4
    refine WP.istore (pc := 45) dX4_bakerStatement_45 (by decide) rfl ?_
    refine WP.aload_n (pc := 47) dX4_bakerStatement_47 rfl ?_
    refine WP.cVw (pc := 48) (mc2 := 0) (ms2 := 0) (ci := 4) kX4_92 (CX4_semicolon Γ hx h4) (by decide) rfl hx.t57 rfl ⟨Nat.le_of_ble_eq_true rfl, Nat.le_of_ble_eq_true rfl⟩ (Nat.le_of_ble_eq_true rfl) (Nat.le_of_ble_eq_true rfl) (Nat.le_of_ble_eq_true rfl) rfl dX4_bakerStatement_48 (fun I5 ⟨f5, h5⟩ => ?_)
    rw [F4 (x + 56) (by omega)] at h5
    have F5 := F4.trans f5
    have hst5 := hst.kp F5 (by omega)
    dsimp only
    have hE0 : (ldSemi (I (x + 56)) n (ldNum (I (x + 56)) n 1 9 (ldNum (I (x + 56)) n 1 12 (ldName (I (x + 56)) n s (ldX (I (x + 56)) n l))).2).2).1 = 0 → v2 = nmA (nmF (I (x + 56)) (ldX (I (x + 56)) n l).2.2.2.1 (ldX (I (x + 56)) n l).2.2.2.2) := fun q => by
      rw [e2]
      exact (pkN_nm (ldName_0 (ldNum_0 (ldNum_0 (ldSemi_0 q).1).1).1).1).1
    generalize ldSemi (I (x + 56)) n _ = l5 at h5 hE0 ⊢
    refine WP.aload_n (pc := 51) dX4_bakerStatement_51 rfl ?_
    refine WP.gIv (pc := 52) (v := (nI l5.1)) uX4 fX4_24 hx.t57 (by simp [up_eq, h5.1]) dX4_bakerStatement_52 ?_
    refine WP.if_ne (pc := 55) (tgt := 69) dX4_bakerStatement_55 (by decide) (fun hE => ?_) (fun hE => ?_)
    · refine WP.vret (pc := 69) rfl dX4_bakerStatement_69 ?_
      rw [if_neg (fun q => hE (h5.er.mpr q))]
      exact ⟨rfl, _, rfl, F5.L, hst5, h5⟩
    · refine WP.aload_n (pc := 58) dX4_bakerStatement_58 rfl ?_
      refine WP.gR (pc := 59) uX5 fX4_99 hs.t0 hs.r0_1 dX4_bakerStatement_59 ?_
      refine WP.iload_n (pc := 62) dX4_bakerStatement_62 rfl ?_
      refine WP.iload_n (pc := 63) dX4_bakerStatement_63 rfl ?_
      refine WP.iload (pc := 64) dX4_bakerStatement_64 rfl ?_
      rw [hE0 (h5.er.mp hE)]
      refine WP.cVw (pc := 66) (mc2 := 0) (ms2 := 0) (ci := 1) kX4_112 (CX1_add Γ hs (l := s.2.1) _ _ _ hlt hst5.2.1) (by decide) rfl hs.t2 rfl ⟨Nat.le_of_ble_eq_true rfl, Nat.le_of_ble_eq_true rfl⟩ (Nat.le_of_ble_eq_true rfl) (Nat.le_of_ble_eq_true rfl) (Nat.le_of_ble_eq_true rfl) rfl dX4_bakerStatement_66 (fun I6 ⟨f6, g6⟩ => ?_)
      refine WP.vret (pc := 69) rfl dX4_bakerStatement_69 ?_
      rw [if_pos (h5.er.mp hE), ← e3, ← e4]
      have f6' : fr I5 I6 b 25 := f6.mono (by omega) (by omega)
      exact ⟨rfl, _, rfl, F5.L.trans f6'.Lb, hst5.bk f6 g6, h5.kpB f6' hd⟩
  · have hlt : ¬ s.2.1.length < 4 := fun q => hL (nI_lt (b := 4) q (by omega))
    rw [if_neg hlt]
    refine WP.aload_n (pc := 11) dX4_bakerStatement_11 rfl ?_
    refine WP.iconst (pc := 12) (v := 5) dX4_bakerStatement_12 (by decide) ?_
    refine WP.cVw (pc := 13) (mc2 := 0) (ms2 := 0) (ci := 4) kX4_50 (CX4_fail Γ hx (c := 5) (by decide) h) (by decide) rfl hx.t57 rfl ⟨Nat.le_of_ble_eq_true rfl, Nat.le_of_ble_eq_true rfl⟩ (Nat.le_of_ble_eq_true rfl) (Nat.le_of_ble_eq_true rfl) (Nat.le_of_ble_eq_true rfl) rfl dX4_bakerStatement_13 (fun I1 ⟨f1, g1⟩ => ?_)
    refine WP.vret (pc := 16) rfl dX4_bakerStatement_16 ?_
    have F1 : fr I I1 (x + 57) 2 := f1.mono (by omega) (by omega)
    exact ⟨rfl, _, rfl, F1.L, hst.kp F1 (by omega), g1⟩
theorem CX4_bake (hx : shX σ x) (hs : shS σ b) (hd : b + 25 ≤ x + 51) {n : Nat} {l : mLd} {s : mS} {I : Nat → Nat → Int32} (hst : stAt I b s) (h : ldAt I x n l) : Ctr Γ (7, 149, 0, 0) MX4_bakeStatement [.ref (x + 57), .ref b] (wI σ I) (rW σ (fun I' => frL I I' b x ∧ stAt I' b (sdBake (I (x + 56)) n s l).1 ∧ ldAt I' x n (sdBake (I (x + 56)) n s l).2)) := by
  have hbl := hst.2.1.2.1
  refine Ctr.go rfl (by decide) rfl rfl ?_
  refine WP.aload_n (pc := 0) dX4_bakeStatement_0 rfl ?_
  refine WP.gR (pc := 1) uX4 fX4_14 hx.t57 hx.r57_0 dX4_bakeStatement_1 ?_
  refine WP.cVw (pc := 4) (mc2 := 0) (ms2 := 0) (ci := 7) kX4_85 (NX7 Γ hx h) (by decide) rfl hx.t58 rfl ⟨Nat.le_of_ble_eq_true rfl, Nat.le_of_ble_eq_true rfl⟩ (Nat.le_of_ble_eq_true rfl) (Nat.le_of_ble_eq_true rfl) (Nat.le_of_ble_eq_true rfl) rfl dX4_bakeStatement_4 (fun I1 ⟨f1, g1⟩ => ?_)
  have h1 := h.nx f1 g1
  have F1 : fr I I1 (x + 57) 2 := f1.mono (by omega) (by omega)
  refine WP.aload_n (pc := 7) dX4_bakeStatement_7 rfl ?_
  refine WP.aload_n (pc := 8) dX4_bakeStatement_8 rfl ?_
  refine WP.gR (pc := 9) uX5 fX4_99 hs.t0 hs.r0_1 dX4_bakeStatement_9 ?_
  refine WP.cVp (pc := 12) (mc2 := 0) (ms2 := 0) (ci := 4) kX4_116 (CX4_knownBaker Γ hx hs (hst.kp F1 (by omega)) h1) (by decide) rfl hx.t57 rfl ⟨Nat.le_of_ble_eq_true rfl, Nat.le_of_ble_eq_true rfl⟩ (Nat.le_of_ble_eq_true rfl) (Nat.le_of_ble_eq_true rfl) (Nat.le_of_ble_eq_true rfl) rfl dX4_bakeStatement_12 (fun v2 I2 ⟨e2, f2, h2⟩ => ?_)
  rw [F1 (x + 56) (by omega)] at e2 h2
  have F2 := F1.trans f2
  refine WP.istore_n (pc := 15) dX4_bakeStatement_15 (by decide) rfl ?_
  refine WP.aload_n (pc := 16) dX4_bakeStatement_16 rfl ?_
  refine WP.cVp (pc := 17) (mc2 := 0) (ms2 := 0) (ci := 4) kX4_120 (CX4_kind Γ hx h2) (by decide) rfl hx.t57 rfl ⟨Nat.le_of_ble_eq_true rfl, Nat.le_of_ble_eq_true rfl⟩ (Nat.le_of_ble_eq_true rfl) (Nat.le_of_ble_eq_true rfl) (Nat.le_of_ble_eq_true rfl) rfl dX4_bakeStatement_17 (fun v3 I3 ⟨e3, f3, h3⟩ => ?_)
  rw [F2 (x + 56) (by omega)] at e3 h3
  have F3 := F2.trans f3
  have hst3 := hst.kp F3 (by omega)
  unfold sdBake
  dsimp only
  generalize hx0 : ldX (I (x + 56)) n l = x0 at *
  generalize hkk : ldKind (I (x + 56)) n (ldBkr (I (x + 56)) n s x0) = kk at *
  have hbk : kk.2.1 = 0 → ∃ i e, bkIx s.2.1 (ldNm (I (x + 56)) x0) = nI i ∧ s.2.1[i]? = some e ∧ i < 4 := fun q => by
    rw [← hkk] at q
    obtain ⟨j, e, j1, j2, -, j4⟩ := bkIx_in hbl (ldBkr_0 (ldKind_0 q).1)
    exact ⟨j, e, j1, j2, by omega⟩
  rw [← e2]
  have hfin : ∀ l4 I4, fr I I4 (x + 57) 2 → ldAt I4 x n l4 → (l4.1 = 0 → kk.2.1 = 0) → WP Γ (7, 149, 0, 0) MX4_bakeStatement (rW σ (fun I' => frL I I' b x ∧ stAt I' b (if (ldSemi (I (x + 56)) n l4).1 = 0 then bgB s v2.toNatClampNeg kk.1 else s, ldSemi (I (x + 56)) n l4).1 ∧ ldAt I' x n (if (ldSemi (I (x + 56)) n l4).1 = 0 then bgB s v2.toNatClampNeg kk.1 else s, ldSemi (I (x + 56)) n l4).2)) 52 [some (.ref (x + 57)), some (.ref b), some (.int v2), some (.int v3)] [] (wI σ I4) := by
    intro l4 I4 F4 h4 hk
    refine WP.aload_n (pc := 52) dX4_bakeStatement_52 rfl ?_
    refine WP.cVw (pc := 53) (mc2 := 0) (ms2 := 0) (ci := 4) kX4_92 (CX4_semicolon Γ hx h4) (by decide) rfl hx.t57 rfl ⟨Nat.le_of_ble_eq_true rfl, Nat.le_of_ble_eq_true rfl⟩ (Nat.le_of_ble_eq_true rfl) (Nat.le_of_ble_eq_true rfl) (Nat.le_of_ble_eq_true rfl) rfl dX4_bakeStatement_53 (fun I5 ⟨f5, h5⟩ => ?_)
    rw [F4 (x + 56) (by omega)] at h5
    have F5 := F4.trans f5
    have hst5 := hst.kp F5 (by omega)
    have hz : (ldSemi (I (x + 56)) n l4).1 = 0 → l4.1 = 0 := fun q => (ldSemi_0 q).1
    generalize ldSemi (I (x + 56)) n l4 = l5 at *
    refine WP.aload_n (pc := 56) dX4_bakeStatement_56 rfl ?_
    refine WP.gIv (pc := 57) (v := (nI l5.1)) uX4 fX4_24 hx.t57 (by simp [up_eq, h5.1]) dX4_bakeStatement_57 ?_
    refine WP.if_ne (pc := 60) (tgt := 72) dX4_bakeStatement_60 (by decide) (fun hE => ?_) (fun hE => ?_)
    · refine WP.vret (pc := 72) rfl dX4_bakeStatement_72 ?_
      rw [if_neg (fun q => hE (h5.er.mpr q))]
      exact ⟨rfl, _, rfl, F5.L, hst5, h5⟩
    · rw [if_pos (h5.er.mp hE)]
      obtain ⟨i, e, i1, i2, i3⟩ := hbk (hk (hz (h5.er.mp hE)))
      rw [i1] at e2
      subst e2
      refine WP.aload_n (pc := 63) dX4_bakeStatement_63 rfl ?_
      refine WP.gR (pc := 64) uX5 fX4_99 hs.t0 hs.r0_1 dX4_bakeStatement_64 ?_
      refine WP.iload_n (pc := 67) dX4_bakeStatement_67 rfl ?_
      refine WP.iload_n (pc := 68) dX4_bakeStatement_68 rfl ?_
      refine WP.cVw (pc := 69) (mc2 := 0) (ms2 := 0) (ci := 1) kX4_132 (CX1_begin Γ hs (l := s.2.1) (i := i) (e := e) v3 i2 hst5.2.1) (by decide) rfl hs.t2 rfl ⟨Nat.le_of_ble_eq_true rfl, Nat.le_of_ble_eq_true rfl⟩ (Nat.le_of_ble_eq_true rfl) (Nat.le_of_ble_eq_true rfl) (Nat.le_of_ble_eq_true rfl) rfl dX4_bakeStatement_69 (fun I6 ⟨f6, g6⟩ => ?_)
      refine WP.vret (pc := 72) rfl dX4_bakeStatement_72 ?_
      have f6' : fr I5 I6 b 25 := f6.mono (by omega) (by omega)
      have eb : bgB s (nI i).toNatClampNeg kk.1 = (s.1, s.2.1.set i (e.1, e.2.1, e.2.2.1, v3, e.2.2.1, e.2.2.2.2.2), s.2.2) := by
        unfold bgB
        rw [nI_clamp (by omega), i2, e3]
      rw [eb]
      exact ⟨rfl, _, rfl, F5.L.trans f6'.Lb, hst5.bk f6 g6, h5.kpB f6' hd⟩
  refine WP.istore_n (pc := 20) dX4_bakeStatement_20 (by decide) rfl ?_
  refine WP.aload_n (pc := 21) dX4_bakeStatement_21 rfl ?_
  refine WP.gIv (pc := 22) (v := (nI kk.2.1)) uX4 fX4_24 hx.t57 (by simp [up_eq, h3.1]) dX4_bakeStatement_22 ?_
  refine WP.if_ne (pc := 25) (tgt := 52) dX4_bakeStatement_25 (by decide) (fun hE => ?_) (fun hE => ?_)
  · have e6 : sdBk6 (I (x + 56)) s v2.toNatClampNeg kk.2 = kk.2 := by
      unfold sdBk6
      rw [if_neg (fun q => hE (h3.er.mpr q.1))]
    rw [e6]
    exact hfin _ _ F3 h3 (fun q => q)
  · refine WP.aload_n (pc := 28) dX4_bakeStatement_28 rfl ?_
    refine WP.gR (pc := 29) uX4 fX4_14 hx.t57 hx.r57_0 dX4_bakeStatement_29 ?_
    have hk0 := h3.er.mp hE
    refine WP.cV1 (pc := 32) (mc2 := 0) (ms2 := 0) (ci := 7) kX4_124 (CX7_isSemicolon Γ hx h3.2.2.1 h3.lt3) (by decide) rfl hx.t58 rfl ⟨Nat.le_of_ble_eq_true rfl, Nat.le_of_ble_eq_true rfl⟩ (Nat.le_of_ble_eq_true rfl) (Nat.le_of_ble_eq_true rfl) (Nat.le_of_ble_eq_true rfl) rfl dX4_bakeStatement_32 ?_
    rw [F3 (x + 56) (by omega)]
    refine WP.if_eq (pc := 35) (tgt := 52) dX4_bakeStatement_35 (by decide) (fun h4 => ?_) (fun h4 => ?_)
    · have e6 : sdBk6 (I (x + 56)) s v2.toNatClampNeg kk.2 = kk.2 := by
        unfold sdBk6
        rw [if_neg (fun q => by rw [bI_0 h4] at q; exact absurd q.2.1 (by decide))]
      rw [e6]
      exact hfin _ _ F3 h3 (fun q => q)
    · obtain ⟨i, e, i1, i2, i3⟩ := hbk hk0
      rw [i1] at e2
      have er : rfB s v2.toNatClampNeg = rfU s e := by
        unfold rfB
        rw [e2, nI_clamp (by omega), i2]
      refine WP.aload_n (pc := 38) dX4_bakeStatement_38 rfl ?_
      refine WP.iload_n (pc := 39) dX4_bakeStatement_39 rfl ?_
      refine (?_ : WP Γ _ MX4_bakeStatement _ 40 _ [.int v2, .ref b] (wI σ I3))
      rw [e2]
      refine WP.cV1 (pc := 40) (mc2 := 0) (ms2 := 0) (ci := 5) kX4_128 (CX5_refusal Γ hs hst3 (i := i) (e := e) i2) (by decide) rfl hs.t0 rfl ⟨Nat.le_of_ble_eq_true rfl, Nat.le_of_ble_eq_true rfl⟩ (Nat.le_of_ble_eq_true rfl) (Nat.le_of_ble_eq_true rfl) (Nat.le_of_ble_eq_true rfl) rfl dX4_bakeStatement_40 ?_
      rw [← e2]
      refine WP.if_eq (pc := 43) (tgt := 52) dX4_bakeStatement_43 (by decide) (fun h5 => ?_) (fun h5 => ?_)
      · have e6 : sdBk6 (I (x + 56)) s v2.toNatClampNeg kk.2 = kk.2 := by
          unfold sdBk6
          rw [er, if_neg (fun q => q.2.2 h5)]
        rw [e6]
        exact hfin _ _ F3 h3 (fun q => q)
      · have e6 : sdBk6 (I (x + 56)) s v2.toNatClampNeg kk.2 = ldF 6 kk.2 := by
          unfold sdBk6
          rw [er, if_pos ⟨hk0, bI_1 h4, h5⟩]
        rw [e6]
        refine WP.aload_n (pc := 46) dX4_bakeStatement_46 rfl ?_
        refine WP.bipush (pc := 47) (v := 6) dX4_bakeStatement_47 (by decide) ?_
        refine WP.cVw (pc := 49) (mc2 := 0) (ms2 := 0) (ci := 4) kX4_50 (CX4_fail Γ hx (c := 6) (by decide) h3) (by decide) rfl hx.t57 rfl ⟨Nat.le_of_ble_eq_true rfl, Nat.le_of_ble_eq_true rfl⟩ (Nat.le_of_ble_eq_true rfl) (Nat.le_of_ble_eq_true rfl) (Nat.le_of_ble_eq_true rfl) rfl dX4_bakeStatement_49 (fun I6 ⟨f6, g6⟩ => ?_)
        have F6 := F3.trans (f6.mono (by omega) (by omega))
        exact hfin _ _ F6 g6 (fun q => absurd q (by show ¬ 6 = 0; decide))
theorem CX4_customer (hx : shX σ x) (hs : shS σ b) (hd : b + 25 ≤ x + 51) {n : Nat} {l : mLd} {s : mS} {I : Nat → Nat → Int32} (hst : stAt I b s) (h : ldAt I x n l) : Ctr Γ (7, 149, 0, 0) MX4_customerStatement [.ref (x + 57), .ref b] (wI σ I) (rW σ (fun I' => frL I I' b x ∧ stAt I' b (sdCust (I (x + 56)) n s l).1 ∧ ldAt I' x n (sdCust (I (x + 56)) n s l).2)) := by
  have hb := hst.2.2.2.1
  have hbl := hb.2.1
  refine Ctr.go rfl (by decide) rfl rfl ?_
  refine WP.aload_n (pc := 0) dX4_customerStatement_0 rfl ?_
  refine WP.gR (pc := 1) uX5 fX4_135 hs.t0 hs.r0_3 dX4_customerStatement_1 ?_
  refine WP.gIv (pc := 4) (v := (nI s.2.2.2.1.length)) uX2 fX4_139 hs.t13 (by simp [up_eq, hb.1]) dX4_customerStatement_4 ?_
  refine WP.bipush (pc := 7) (v := 10) dX4_customerStatement_7 (by decide) ?_
  unfold sdCust
  refine WP.icmp_lt (pc := 9) (tgt := 18) dX4_customerStatement_9 (by decide) (fun hL => ?_) (fun hL => ?_)
  · have hlt : s.2.2.2.1.length < 10 := (nI_ltI (b := 10) (by omega) (by omega)).mp hL
    rw [if_pos hlt]
    refine WP.aload_n (pc := 18) dX4_customerStatement_18 rfl ?_
    refine WP.gR (pc := 19) uX4 fX4_14 hx.t57 hx.r57_0 dX4_customerStatement_19 ?_
    refine WP.cVw (pc := 22) (mc2 := 0) (ms2 := 0) (ci := 7) kX4_85 (NX7 Γ hx h) (by decide) rfl hx.t58 rfl ⟨Nat.le_of_ble_eq_true rfl, Nat.le_of_ble_eq_true rfl⟩ (Nat.le_of_ble_eq_true rfl) (Nat.le_of_ble_eq_true rfl) (Nat.le_of_ble_eq_true rfl) rfl dX4_customerStatement_22 (fun I1 ⟨f1, g1⟩ => ?_)
    have h1 := h.nx f1 g1
    have F1 : fr I I1 (x + 57) 2 := f1.mono (by omega) (by omega)
    refine WP.aload_n (pc := 25) dX4_customerStatement_25 rfl ?_
    refine WP.aload_n (pc := 26) dX4_customerStatement_26 rfl ?_
    refine WP.cVp (pc := 27) (mc2 := 0) (ms2 := 0) (ci := 4) kX4_108 (CX4_newName Γ hx hs (hst.kp F1 (by omega)) h1) (by decide) rfl hx.t57 rfl ⟨Nat.le_of_ble_eq_true rfl, Nat.le_of_ble_eq_true rfl⟩ (Nat.le_of_ble_eq_true rfl) (Nat.le_of_ble_eq_true rfl) (Nat.le_of_ble_eq_true rfl) rfl dX4_customerStatement_27 (fun v2 I2 ⟨e2, f2, h2⟩ => ?_)
    rw [F1 (x + 56) (by omega)] at e2 h2
    have F2 := F1.trans f2
    refine WP.istore_n (pc := 30) dX4_customerStatement_30 (by decide) rfl ?_
    refine WP.aload_n (pc := 31) dX4_customerStatement_31 rfl ?_
    refine WP.cVp (pc := 32) (mc2 := 0) (ms2 := 0) (ci := 4) kX4_120 (CX4_kind Γ hx h2) (by decide) rfl hx.t57 rfl ⟨Nat.le_of_ble_eq_true rfl, Nat.le_of_ble_eq_true rfl⟩ (Nat.le_of_ble_eq_true rfl) (Nat.le_of_ble_eq_true rfl) (Nat.le_of_ble_eq_true rfl) rfl dX4_customerStatement_32 (fun v3 I3 ⟨e3, f3, h3⟩ => ?_)
    rw [F2 (x + 56) (by omega)] at e3 h3
    have F3 := F2.trans f3
    refine WP.istore_n (pc := 35) dX4_customerStatement_35 (by decide) rfl ?_
    refine WP.aload_n (pc := 36) dX4_customerStatement_36 rfl ?_
    refine WP.iconst (pc := 37) (v := 1) dX4_customerStatement_37 (by decide) ?_
    refine WP.bipush (pc := 38) (v := 9) dX4_customerStatement_38 (by decide) ?_
    refine WP.cVp (pc := 40) (mc2 := 0) (ms2 := 0) (ci := 4) kX4_88 (CX4_number Γ hx 1 9 h3) (by decide) rfl hx.t57 rfl ⟨Nat.le_of_ble_eq_true rfl, Nat.le_of_ble_eq_true rfl⟩ (Nat.le_of_ble_eq_true rfl) (Nat.le_of_ble_eq_true rfl) (Nat.le_of_ble_eq_true rfl) rfl dX4_customerStatement_40 (fun v4 I4 ⟨e4, f4, h4⟩ => ?_)
    rw [F3 (x + 56) (by omega)] at e4 h4
    have F4 := F3.trans f4
    refine WP.istore (pc := 43) dX4_customerStatement_43 (by decide) rfl ?_
    refine WP.aload_n (pc := 45) dX4_customerStatement_45 rfl ?_
    refine WP.iconst (pc := 46) (v := 1) dX4_customerStatement_46 (by decide) ?_
    refine WP.bipush (pc := 47) (v := 99) dX4_customerStatement_47 (by decide) ?_
    refine WP.cVp (pc := 49) (mc2 := 0) (ms2 := 0) (ci := 4) kX4_88 (CX4_number Γ hx 1 99 h4) (by decide) rfl hx.t57 rfl ⟨Nat.le_of_ble_eq_true rfl, Nat.le_of_ble_eq_true rfl⟩ (Nat.le_of_ble_eq_true rfl) (Nat.le_of_ble_eq_true rfl) (Nat.le_of_ble_eq_true rfl) rfl dX4_customerStatement_49 (fun v5 I5 ⟨e5, f5, h5⟩ => ?_)
    rw [F4 (x + 56) (by omega)] at e5 h5
    have F5 := F4.trans f5
    refine WP.istore (pc := 52) dX4_customerStatement_52 (by decide) rfl ?_
    refine WP.aload_n (pc := 54) dX4_customerStatement_54 rfl ?_
    refine WP.iconst (pc := 55) (v := 0) dX4_customerStatement_55 (by decide) ?_
    refine WP.sipush (pc := 56) (v := 999) dX4_customerStatement_56 (by decide) ?_
    refine WP.cVp (pc := 59) (mc2 := 0) (ms2 := 0) (ci := 4) kX4_88 (CX4_number Γ hx 0 999 h5) (by decide) rfl hx.t57 rfl ⟨Nat.le_of_ble_eq_true rfl, Nat.le_of_ble_eq_true rfl⟩ (Nat.le_of_ble_eq_true rfl) (Nat.le_of_ble_eq_true rfl) (Nat.le_of_ble_eq_true rfl) rfl dX4_customerStatement_59 (fun v6 I6 ⟨e6, f6, h6⟩ => ?_)
    rw [F5 (x + 56) (by omega)] at e6 h6
    have F6 := F5.trans f6
    refine WP.istore (pc := 62) dX4_customerStatement_62 (by decide) rfl ?_
    refine WP.aload_n (pc := 64) dX4_customerStatement_64 rfl ?_
    refine WP.iconst (pc := 65) (v := 1) dX4_customerStatement_65 (by decide) ?_
    refine WP.bipush (pc := 66) (v := 99) dX4_customerStatement_66 (by decide) ?_
    refine WP.cVp (pc := 68) (mc2 := 0) (ms2 := 0) (ci := 4) kX4_88 (CX4_number Γ hx 1 99 h6) (by decide) rfl hx.t57 rfl ⟨Nat.le_of_ble_eq_true rfl, Nat.le_of_ble_eq_true rfl⟩ (Nat.le_of_ble_eq_true rfl) (Nat.le_of_ble_eq_true rfl) (Nat.le_of_ble_eq_true rfl) rfl dX4_customerStatement_68 (fun v7 I7 ⟨e7, f7, h7⟩ => ?_)
    rw [F6 (x + 56) (by omega)] at e7 h7
    have F7 := F6.trans f7
    refine WP.istore (pc := 71) dX4_customerStatement_71 (by decide) rfl ?_
    refine WP.aload_n (pc := 73) dX4_customerStatement_73 rfl ?_
    refine WP.cVw (pc := 74) (mc2 := 0) (ms2 := 0) (ci := 4) kX4_92 (CX4_semicolon Γ hx h7) (by decide) rfl hx.t57 rfl ⟨Nat.le_of_ble_eq_true rfl, Nat.le_of_ble_eq_true rfl⟩ (Nat.le_of_ble_eq_true rfl) (Nat.le_of_ble_eq_true rfl) (Nat.le_of_ble_eq_true rfl) rfl dX4_customerStatement_74 (fun I8 ⟨f8, h8⟩ => ?_)
    rw [F7 (x + 56) (by omega)] at h8
    have F8 := F7.trans f8
    have hst8 := hst.kp F8 (by omega)
    dsimp only
    rw [← e3, ← e4, ← e5, ← e6, ← e7]
    have hE0 : (ldSemi (I (x + 56)) n (ldNum (I (x + 56)) n 1 99 (ldNum (I (x + 56)) n 0 999 (ldNum (I (x + 56)) n 1 99 (ldNum (I (x + 56)) n 1 9 (ldKind (I (x + 56)) n (ldName (I (x + 56)) n s (ldX (I (x + 56)) n l))).2).2).2).2).2).1 = 0 → v2 = nmA (nmF (I (x + 56)) (ldX (I (x + 56)) n l).2.2.2.1 (ldX (I (x + 56)) n l).2.2.2.2) := fun q => by
      rw [e2]
      exact (pkN_nm (ldName_0 (ldKind_0 (ldNum_0 (ldNum_0 (ldNum_0 (ldNum_0 (ldSemi_0 q).1).1).1).1).1).1).1).1
    generalize ldSemi (I (x + 56)) n _ = l8 at h8 hE0 ⊢
    refine WP.aload_n (pc := 77) dX4_customerStatement_77 rfl ?_
    refine WP.gIv (pc := 78) (v := (nI l8.1)) uX4 fX4_24 hx.t57 (by simp [up_eq, h8.1]) dX4_customerStatement_78 ?_
    refine WP.if_ne (pc := 81) (tgt := 99) dX4_customerStatement_81 (by decide) (fun hE => ?_) (fun hE => ?_)
    · refine WP.vret (pc := 99) rfl dX4_customerStatement_99 ?_
      rw [if_neg (fun q => hE (h8.er.mpr q))]
      exact ⟨rfl, _, rfl, F8.L, hst8, h8⟩
    · refine WP.aload_n (pc := 84) dX4_customerStatement_84 rfl ?_
      refine WP.iload_n (pc := 85) dX4_customerStatement_85 rfl ?_
      refine WP.iload_n (pc := 86) dX4_customerStatement_86 rfl ?_
      refine WP.iload (pc := 87) dX4_customerStatement_87 rfl ?_
      refine WP.iload (pc := 89) dX4_customerStatement_89 rfl ?_
      refine WP.iload (pc := 91) dX4_customerStatement_91 rfl ?_
      refine WP.iload (pc := 93) dX4_customerStatement_93 rfl ?_
      rw [hE0 (h8.er.mp hE)]
      refine WP.cVp (pc := 95) (mc2 := 0) (ms2 := 0) (ci := 5) kX4_142 (CX5_welcome Γ hs hst8 _ _ _ _ _ _ hlt) (by decide) rfl hs.t0 rfl ⟨Nat.le_of_ble_eq_true rfl, Nat.le_of_ble_eq_true rfl⟩ (Nat.le_of_ble_eq_true rfl) (Nat.le_of_ble_eq_true rfl) (Nat.le_of_ble_eq_true rfl) rfl dX4_customerStatement_95 (fun v9 I9 ⟨e9, f9, g9⟩ => ?_)
      refine WP.pop (pc := 98) dX4_customerStatement_98 rfl ?_
      refine WP.vret (pc := 99) rfl dX4_customerStatement_99 ?_
      rw [if_pos (h8.er.mp hE)]
      exact ⟨rfl, _, rfl, F8.L.trans f9.Lb, g9, h8.kpB f9 hd⟩
  · have hlt : ¬ s.2.2.2.1.length < 10 := fun q => hL (nI_lt (b := 10) q (by omega))
    rw [if_neg hlt]
    refine WP.aload_n (pc := 12) dX4_customerStatement_12 rfl ?_
    refine WP.iconst (pc := 13) (v := 5) dX4_customerStatement_13 (by decide) ?_
    refine WP.cVw (pc := 14) (mc2 := 0) (ms2 := 0) (ci := 4) kX4_50 (CX4_fail Γ hx (c := 5) (by decide) h) (by decide) rfl hx.t57 rfl ⟨Nat.le_of_ble_eq_true rfl, Nat.le_of_ble_eq_true rfl⟩ (Nat.le_of_ble_eq_true rfl) (Nat.le_of_ble_eq_true rfl) (Nat.le_of_ble_eq_true rfl) rfl dX4_customerStatement_14 (fun I1 ⟨f1, g1⟩ => ?_)
    refine WP.vret (pc := 17) rfl dX4_customerStatement_17 ?_
    have F1 : fr I I1 (x + 57) 2 := f1.mono (by omega) (by omega)
    exact ⟨rfl, _, rfl, F1.L, hst.kp F1 (by omega), g1⟩
theorem CX4_auction (hx : shX σ x) (hs : shS σ b) (hd : b + 25 ≤ x + 51) {n T C : Nat} {l : mLd} {s : mS} {I : Nat → Nat → Int32} (hw : wf T C s) (hst : stAt I b s) (h : ldAt I x n l) : Ctr Γ (7, 149, 0, 0) MX4_auctionStatement [.ref (x + 57), .ref b] (wI σ I) (rW σ (fun I' => frL I I' b x ∧ stAt I' b (sdAuct (I (x + 56)) n s l).1 ∧ ldAt I' x n (sdAuct (I (x + 56)) n s l).2)) := by
  refine Ctr.go rfl (by decide) rfl rfl ?_
  refine WP.aload_n (pc := 0) dX4_auctionStatement_0 rfl ?_
  refine WP.gR (pc := 1) uX4 fX4_14 hx.t57 hx.r57_0 dX4_auctionStatement_1 ?_
  refine WP.cVw (pc := 4) (mc2 := 0) (ms2 := 0) (ci := 7) kX4_85 (NX7 Γ hx h) (by decide) rfl hx.t58 rfl ⟨Nat.le_of_ble_eq_true rfl, Nat.le_of_ble_eq_true rfl⟩ (Nat.le_of_ble_eq_true rfl) (Nat.le_of_ble_eq_true rfl) (Nat.le_of_ble_eq_true rfl) rfl dX4_auctionStatement_4 (fun I1 ⟨f1, g1⟩ => ?_)
  have h1 := h.nx f1 g1
  have F1 : fr I I1 (x + 57) 2 := f1.mono (by omega) (by omega)
  refine WP.aload_n (pc := 7) dX4_auctionStatement_7 rfl ?_
  refine WP.cVp (pc := 8) (mc2 := 0) (ms2 := 0) (ci := 4) kX4_120 (CX4_kind Γ hx h1) (by decide) rfl hx.t57 rfl ⟨Nat.le_of_ble_eq_true rfl, Nat.le_of_ble_eq_true rfl⟩ (Nat.le_of_ble_eq_true rfl) (Nat.le_of_ble_eq_true rfl) (Nat.le_of_ble_eq_true rfl) rfl dX4_auctionStatement_8 (fun v2 I2 ⟨e2, f2, h2⟩ => ?_)
  rw [F1 (x + 56) (by omega)] at e2 h2
  have F2 := F1.trans f2
  refine WP.istore_n (pc := 11) dX4_auctionStatement_11 (by decide) rfl ?_
  refine WP.aload_n (pc := 12) dX4_auctionStatement_12 rfl ?_
  refine WP.cVw (pc := 13) (mc2 := 0) (ms2 := 0) (ci := 4) kX4_92 (CX4_semicolon Γ hx h2) (by decide) rfl hx.t57 rfl ⟨Nat.le_of_ble_eq_true rfl, Nat.le_of_ble_eq_true rfl⟩ (Nat.le_of_ble_eq_true rfl) (Nat.le_of_ble_eq_true rfl) (Nat.le_of_ble_eq_true rfl) rfl dX4_auctionStatement_13 (fun I5 ⟨f5, h5⟩ => ?_)
  rw [F2 (x + 56) (by omega)] at h5
  have F5 := F2.trans f5
  have hst5 := hst.kp F5 (by omega)
  unfold sdAuct
  dsimp only
  rw [← e2]
  generalize ldSemi (I (x + 56)) n _ = l5 at h5 ⊢
  refine WP.aload_n (pc := 16) dX4_auctionStatement_16 rfl ?_
  refine WP.gIv (pc := 17) (v := (nI l5.1)) uX4 fX4_24 hx.t57 (by simp [up_eq, h5.1]) dX4_auctionStatement_17 ?_
  refine WP.if_ne (pc := 20) (tgt := 32) dX4_auctionStatement_20 (by decide) (fun hE => ?_) (fun hE => ?_)
  · refine WP.vret (pc := 32) rfl dX4_auctionStatement_32 ?_
    rw [if_neg (fun q => hE (h5.er.mpr q))]
    exact ⟨rfl, _, rfl, F5.L, hst5, h5⟩
  · refine WP.aload_n (pc := 23) dX4_auctionStatement_23 rfl ?_
    refine WP.gR (pc := 24) uX4 fX4_20 hx.t57 hx.r57_1 dX4_auctionStatement_24 ?_
    refine WP.aload_n (pc := 27) dX4_auctionStatement_27 rfl ?_
    refine WP.iload_n (pc := 28) dX4_auctionStatement_28 rfl ?_
    refine WP.cVw (pc := 29) (mc2 := 0) (ms2 := 0) (ci := 0) kX4_146 (CX0_hold Γ hx hs hd hst5 v2 hw.cu hw.bk) (by decide) rfl hx.t51 rfl ⟨Nat.le_of_ble_eq_true rfl, Nat.le_of_ble_eq_true rfl⟩ (Nat.le_of_ble_eq_true rfl) (Nat.le_of_ble_eq_true rfl) (Nat.le_of_ble_eq_true rfl) rfl dX4_auctionStatement_29 (fun I6 ⟨f6, g6, _⟩ => ?_)
    refine WP.vret (pc := 32) rfl dX4_auctionStatement_32 ?_
    rw [if_pos (h5.er.mp hE)]
    have e57 : I6 (x + 57) = I5 (x + 57) := f6 _ (by omega) (by omega)
    have e58 : I6 (x + 58) = I5 (x + 58) := f6 _ (by omega) (by omega)
    refine ⟨rfl, _, rfl, F5.L.trans (fun a a1 a2 => f6 a a1 (by omega)), g6, ?_⟩
    unfold ldAt tkAt at h5 ⊢
    rw [e57, e58]
    exact h5
theorem CX4_sparrows (hx : shX σ x) (hs : shS σ b) (hd : b + 25 ≤ x + 51) {n : Nat} {l : mLd} {s : mS} {I : Nat → Nat → Int32} (hst : stAt I b s) (h : ldAt I x n l) : Ctr Γ (3, 64, 0, 0) MX4_sparrowsStatement [.ref (x + 57), .ref b] (wI σ I) (rW σ (fun I' => frL I I' b x ∧ stAt I' b (sdSpar (I (x + 56)) n s l).1 ∧ ldAt I' x n (sdSpar (I (x + 56)) n s l).2)) := by
  refine Ctr.go rfl (by decide) rfl rfl ?_
  refine WP.aload_n (pc := 0) dX4_sparrowsStatement_0 rfl ?_
  refine WP.gR (pc := 1) uX4 fX4_14 hx.t57 hx.r57_0 dX4_sparrowsStatement_1 ?_
  refine WP.cVw (pc := 4) (mc2 := 0) (ms2 := 0) (ci := 7) kX4_85 (NX7 Γ hx h) (by decide) rfl hx.t58 rfl ⟨Nat.le_of_ble_eq_true rfl, Nat.le_of_ble_eq_true rfl⟩ (Nat.le_of_ble_eq_true rfl) (Nat.le_of_ble_eq_true rfl) (Nat.le_of_ble_eq_true rfl) rfl dX4_sparrowsStatement_4 (fun I1 ⟨f1, g1⟩ => ?_)
  have h1 := h.nx f1 g1
  have F1 : fr I I1 (x + 57) 2 := f1.mono (by omega) (by omega)
  refine WP.aload_n (pc := 7) dX4_sparrowsStatement_7 rfl ?_
  refine WP.iconst (pc := 8) (v := 0) dX4_sparrowsStatement_8 (by decide) ?_
  refine WP.bipush (pc := 9) (v := 9) dX4_sparrowsStatement_9 (by decide) ?_
  refine WP.cVp (pc := 11) (mc2 := 0) (ms2 := 0) (ci := 4) kX4_88 (CX4_number Γ hx 0 9 h1) (by decide) rfl hx.t57 rfl ⟨Nat.le_of_ble_eq_true rfl, Nat.le_of_ble_eq_true rfl⟩ (Nat.le_of_ble_eq_true rfl) (Nat.le_of_ble_eq_true rfl) (Nat.le_of_ble_eq_true rfl) rfl dX4_sparrowsStatement_11 (fun v2 I2 ⟨e2, f2, h2⟩ => ?_)
  rw [F1 (x + 56) (by omega)] at e2 h2
  have F2 := F1.trans f2
  refine WP.istore_n (pc := 14) dX4_sparrowsStatement_14 (by decide) rfl ?_
  refine WP.aload_n (pc := 15) dX4_sparrowsStatement_15 rfl ?_
  refine WP.iconst (pc := 16) (v := 0) dX4_sparrowsStatement_16 (by decide) ?_
  refine WP.sipush (pc := 17) (v := 999) dX4_sparrowsStatement_17 (by decide) ?_
  refine WP.cVp (pc := 20) (mc2 := 0) (ms2 := 0) (ci := 4) kX4_88 (CX4_number Γ hx 0 999 h2) (by decide) rfl hx.t57 rfl ⟨Nat.le_of_ble_eq_true rfl, Nat.le_of_ble_eq_true rfl⟩ (Nat.le_of_ble_eq_true rfl) (Nat.le_of_ble_eq_true rfl) (Nat.le_of_ble_eq_true rfl) rfl dX4_sparrowsStatement_20 (fun v3 I3 ⟨e3, f3, h3⟩ => ?_)
  rw [F2 (x + 56) (by omega)] at e3 h3
  have F3 := F2.trans f3
  refine WP.istore_n (pc := 23) dX4_sparrowsStatement_23 (by decide) rfl ?_
  refine WP.aload_n (pc := 24) dX4_sparrowsStatement_24 rfl ?_
  refine WP.cVw (pc := 25) (mc2 := 0) (ms2 := 0) (ci := 4) kX4_92 (CX4_semicolon Γ hx h3) (by decide) rfl hx.t57 rfl ⟨Nat.le_of_ble_eq_true rfl, Nat.le_of_ble_eq_true rfl⟩ (Nat.le_of_ble_eq_true rfl) (Nat.le_of_ble_eq_true rfl) (Nat.le_of_ble_eq_true rfl) rfl dX4_sparrowsStatement_25 (fun I5 ⟨f5, h5⟩ => ?_)
  rw [F3 (x + 56) (by omega)] at h5
  have F5 := F3.trans f5
  have hst5 := hst.kp F5 (by omega)
  unfold sdSpar
  dsimp only
  rw [← e2, ← e3]
  generalize ldSemi (I (x + 56)) n _ = l5 at h5 ⊢
  refine WP.aload_n (pc := 28) dX4_sparrowsStatement_28 rfl ?_
  refine WP.gIv (pc := 29) (v := (nI l5.1)) uX4 fX4_24 hx.t57 (by simp [up_eq, h5.1]) dX4_sparrowsStatement_29 ?_
  refine WP.if_ne (pc := 32) (tgt := 45) dX4_sparrowsStatement_32 (by decide) (fun hE => ?_) (fun hE => ?_)
  · refine WP.vret (pc := 45) rfl dX4_sparrowsStatement_45 ?_
    rw [if_neg (fun q => hE (h5.er.mpr q))]
    exact ⟨rfl, _, rfl, F5.L, hst5, h5⟩
  · refine WP.aload_n (pc := 35) dX4_sparrowsStatement_35 rfl ?_
    refine WP.iload_n (pc := 36) dX4_sparrowsStatement_36 rfl ?_
    refine WP.pI (pc := 37) uX5 fX4_152 rfl rfl hs.t0 dX4_sparrowsStatement_37 ?_
    refine WP.aload_n (pc := 40) dX4_sparrowsStatement_40 rfl ?_
    refine WP.iload_n (pc := 41) dX4_sparrowsStatement_41 rfl ?_
    refine WP.pI (pc := 42) uX5 fX4_154 rfl rfl hs.t0 dX4_sparrowsStatement_42 ?_
    refine WP.vret (pc := 45) rfl dX4_sparrowsStatement_45 ?_
    rw [if_pos (h5.er.mp hE)]
    have fb : ∀ J : Nat → Nat → Int32, ∀ j v, fr J (up J b j v) b 25 := fun J j v => fr_up1.mono (by omega) (by omega)
    exact ⟨rfl, _, rfl, F5.L.trans ((fb _ _ _).trans (fb _ _ _)).Lb, (hst5.z 5 v2 (by omega) (by omega)).z 4 v3 (by omega) (by omega), h5.kpB ((fb _ _ _).trans (fb _ _ _)) hd⟩
set_option maxRecDepth 4000 in
theorem LX4_hours (hx : shX σ x) (hs : shS σ b) (hd : b + 25 ≤ x + 51) {n T : Nat} (hT : T ≤ 2147483647) {l : mLd} (hl : l.1 = 0) {N : Nat} (hN : N ≤ 60) {s' : mS} {I0 : Nat → Nat → Int32} : ∀ m i C s (I : Nat → Nat → Int32), i + m = N → hrsN m s = s' → C + 300 * m < 2147483648 → wf T C s → stAt I b s → ldAt I x n l → frL I0 I b x → WP Γ (5, 126, 0, 0) MX4_hoursStatement (rW σ (fun I' => frL I0 I' b x ∧ stAt I' b s' ∧ ldAt I' x n l)) 21 [some (.ref (x + 57)), some (.ref b), some (.int (nI N)), some (.int (nI i))] [] (wI σ I) := by
  intro m
  induction m with
  | zero =>
    intro i C s I hi hs' hC hw hst h F
    refine WP.iload_n (pc := 21) dX4_hoursStatement_21 rfl ?_
    refine WP.iload_n (pc := 22) dX4_hoursStatement_22 rfl ?_
    refine WP.icmp_ge (pc := 23) (tgt := 43) dX4_hoursStatement_23 (by decide) (fun h1 => ?_) (fun h1 => ?_)
    · refine WP.vret (pc := 43) rfl dX4_hoursStatement_43 ?_
      rw [← hs']
      exact ⟨rfl, _, rfl, F, hst, h⟩
    · exact absurd (nI_le (by omega) (by omega)) h1
  | succ m ih =>
    intro i C s I hi hs' hC hw hst h F
    refine WP.iload_n (pc := 21) dX4_hoursStatement_21 rfl ?_
    refine WP.iload_n (pc := 22) dX4_hoursStatement_22 rfl ?_
    refine WP.icmp_ge (pc := 23) (tgt := 43) dX4_hoursStatement_23 (by decide) (fun h1 => ?_) (fun h1 => ?_)
    · exact absurd h1 (nI_ge (by omega) (by omega))
    · refine WP.aload_n (pc := 26) dX4_hoursStatement_26 rfl ?_
      refine WP.gIv (pc := 27) (v := (nI l.1)) uX4 fX4_24 hx.t57 (by simp [up_eq, h.1]) dX4_hoursStatement_27 ?_
      refine WP.if_ne (pc := 30) (tgt := 43) dX4_hoursStatement_30 (by decide) (fun h2 => ?_) (fun h2 => ?_)
      · exact absurd (h.er.mpr hl) h2
      · refine WP.aload_n (pc := 33) dX4_hoursStatement_33 rfl ?_
        refine WP.cVw (pc := 34) (mc2 := 0) (ms2 := 0) (ci := 5) kX4_157 (CX5_passHour Γ hs hst (hrOut_cap hw)) (by decide) rfl hs.t0 rfl ⟨Nat.le_of_ble_eq_true rfl, Nat.le_of_ble_eq_true rfl⟩ (Nat.le_of_ble_eq_true rfl) (Nat.le_of_ble_eq_true rfl) (Nat.le_of_ble_eq_true rfl) rfl dX4_hoursStatement_34 (fun I1 ⟨f1, g1⟩ => ?_)
        have hw' : wf T (C + 300) (hrOut s) := hrOut_wf (T := T) (C := C) (s := s) hT (by omega) hw
        refine WP.iinc (pc := 37) dX4_hoursStatement_37 rfl (nI_1 _) (by decide) rfl ?_
        refine WP.goto (pc := 40) (tgt := 21) dX4_hoursStatement_40 (by decide) ?_
        exact ih (i + 1) (C + 300) (hrOut s) I1 (by omega) hs' (by omega) hw' g1 (h.kpB f1 hd) (F.trans f1.Lb)
theorem CX4_hours (hx : shX σ x) (hs : shS σ b) (hd : b + 25 ≤ x + 51) {n T C : Nat} (hT : T ≤ 2147483647) (hC : C + 18000 < 2147483648) {l : mLd} {s : mS} {I : Nat → Nat → Int32} (hw : wf T C s) (hst : stAt I b s) (h : ldAt I x n l) : Ctr Γ (5, 126, 0, 0) MX4_hoursStatement [.ref (x + 57), .ref b] (wI σ I) (rW σ (fun I' => frL I I' b x ∧ stAt I' b (sdHour (I (x + 56)) n s l).1 ∧ ldAt I' x n (sdHour (I (x + 56)) n s l).2)) := by
  refine Ctr.go rfl (by decide) rfl rfl ?_
  refine WP.aload_n (pc := 0) dX4_hoursStatement_0 rfl ?_
  refine WP.gR (pc := 1) uX4 fX4_14 hx.t57 hx.r57_0 dX4_hoursStatement_1 ?_
  refine WP.cVw (pc := 4) (mc2 := 0) (ms2 := 0) (ci := 7) kX4_85 (NX7 Γ hx h) (by decide) rfl hx.t58 rfl ⟨Nat.le_of_ble_eq_true rfl, Nat.le_of_ble_eq_true rfl⟩ (Nat.le_of_ble_eq_true rfl) (Nat.le_of_ble_eq_true rfl) (Nat.le_of_ble_eq_true rfl) rfl dX4_hoursStatement_4 (fun I1 ⟨f1, g1⟩ => ?_)
  have h1 := h.nx f1 g1
  have F1 : fr I I1 (x + 57) 2 := f1.mono (by omega) (by omega)
  refine WP.aload_n (pc := 7) dX4_hoursStatement_7 rfl ?_
  refine WP.iconst (pc := 8) (v := 0) dX4_hoursStatement_8 (by decide) ?_
  refine WP.bipush (pc := 9) (v := 60) dX4_hoursStatement_9 (by decide) ?_
  refine WP.cVp (pc := 11) (mc2 := 0) (ms2 := 0) (ci := 4) kX4_88 (CX4_number Γ hx 0 60 h1) (by decide) rfl hx.t57 rfl ⟨Nat.le_of_ble_eq_true rfl, Nat.le_of_ble_eq_true rfl⟩ (Nat.le_of_ble_eq_true rfl) (Nat.le_of_ble_eq_true rfl) (Nat.le_of_ble_eq_true rfl) rfl dX4_hoursStatement_11 (fun v2 I2 ⟨e2, f2, h2⟩ => ?_)
  rw [F1 (x + 56) (by omega)] at e2 h2
  have F2 := F1.trans f2
  refine WP.istore_n (pc := 14) dX4_hoursStatement_14 (by decide) rfl ?_
  refine WP.aload_n (pc := 15) dX4_hoursStatement_15 rfl ?_
  refine WP.cVw (pc := 16) (mc2 := 0) (ms2 := 0) (ci := 4) kX4_92 (CX4_semicolon Γ hx h2) (by decide) rfl hx.t57 rfl ⟨Nat.le_of_ble_eq_true rfl, Nat.le_of_ble_eq_true rfl⟩ (Nat.le_of_ble_eq_true rfl) (Nat.le_of_ble_eq_true rfl) (Nat.le_of_ble_eq_true rfl) rfl dX4_hoursStatement_16 (fun I5 ⟨f5, h5⟩ => ?_)
  rw [F2 (x + 56) (by omega)] at h5
  have F5 := F2.trans f5
  have hst5 := hst.kp F5 (by omega)
  unfold sdHour
  dsimp only
  rw [← e2]
  have hin : (ldSemi (I (x + 56)) n (ldNum (I (x + 56)) n 0 60 (ldX (I (x + 56)) n l)).2).1 = 0 → inR v2 0 60 := fun q => by
    rw [e2]
    exact ldNum_in (lo := 0) (hi := 60) 0 60 rfl rfl (by decide) (by decide) (ldSemi_0 q).1
  generalize ldSemi (I (x + 56)) n _ = l5 at h5 hin ⊢
  by_cases hE : l5.1 = 0
  · rw [if_pos hE]
    obtain ⟨N, rfl, -, hN⟩ := hin hE
    rw [nI_clamp (by omega)]
    refine WP.iconst (pc := 19) (v := 0) dX4_hoursStatement_19 (by decide) ?_
    refine WP.istore_n (pc := 20) dX4_hoursStatement_20 (by decide) rfl ?_
    exact LX4_hours Γ hx hs hd hT hE hN N 0 C s I5 (by omega) rfl (by omega) hw hst5 h5 F5.L
  · rw [if_neg hE]
    refine WP.iconst (pc := 19) (v := 0) dX4_hoursStatement_19 (by decide) ?_
    refine WP.istore_n (pc := 20) dX4_hoursStatement_20 (by decide) rfl ?_
    refine WP.iload_n (pc := 21) dX4_hoursStatement_21 rfl ?_
    refine WP.iload_n (pc := 22) dX4_hoursStatement_22 rfl ?_
    refine WP.icmp_ge (pc := 23) (tgt := 43) dX4_hoursStatement_23 (by decide) (fun h6 => ?_) (fun h6 => ?_)
    · refine WP.vret (pc := 43) rfl dX4_hoursStatement_43 ?_
      exact ⟨rfl, _, rfl, F5.L, hst5, h5⟩
    · refine WP.aload_n (pc := 26) dX4_hoursStatement_26 rfl ?_
      refine WP.gIv (pc := 27) (v := (nI l5.1)) uX4 fX4_24 hx.t57 (by simp [up_eq, h5.1]) dX4_hoursStatement_27 ?_
      refine WP.if_ne (pc := 30) (tgt := 43) dX4_hoursStatement_30 (by decide) (fun h7 => ?_) (fun h7 => ?_)
      · refine WP.vret (pc := 43) rfl dX4_hoursStatement_43 ?_
        exact ⟨rfl, _, rfl, F5.L, hst5, h5⟩
      · exact absurd (h5.er.mp h7) hE
end T
