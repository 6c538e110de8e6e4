-- behind: 30
def ldAt (I : Nat → Nat → Int32) (x n : Nat) (l : mLd) : Prop := I (x + 57) 2 = nI l.1 ∧ I (x + 57) 3 = l.2.1 ∧ tkAt I x n l.2.2 ∧ tkOk n l.2.2 ∧ l.1 ≤ 6
theorem ldAt.kp {I I' : Nat → Nat → Int32} {x n lo m : Nat} {l : mLd} (h : ldAt I x n l) (hf : fr I I' lo m) (h1 : lo + m ≤ x + 57 ∨ x + 59 ≤ lo) : ldAt I' x n l := by
  refine ⟨?_, ?_, h.2.2.1.kp hf (by omega), h.2.2.2⟩
  · rw [hf (x + 57) (by omega)]; exact h.1
  · rw [hf (x + 57) (by omega)]; exact h.2.1
theorem bI_0 {b : Bool} (h : bI b = 0) : b = false := by
  cases b
  · rfl
  · exact absurd h (by decide)
theorem bI_1 {b : Bool} (h : ¬ bI b = 0) : b = true := by
  cases b
  · exact absurd rfl h
  · rfl
section T
variable (Γ : cG) {σ : cAS} {x b : Nat}
theorem CX4_fail (hx : shX σ x) {n c : Nat} {l : mLd} {I : Nat → Nat → Int32} (hc : c ≤ 6) (h : ldAt I x n l) : Ctr Γ (0, 0, 0, 0) MX4_fail [.ref (x + 57), .int (nI c)] (wI σ I) (rW σ (fun I' => fr I I' (x + 57) 1 ∧ ldAt I' x n (ldF c l))) := by
  obtain ⟨a1, a2, a3, a4, a5⟩ := h
  refine Ctr.go rfl (by decide) rfl rfl ?_
  refine WP.aload_n (pc := 0) dX4_fail_0 rfl ?_
  refine WP.iload_n (pc := 1) dX4_fail_1 rfl ?_
  refine WP.pI (pc := 2) uX4 fX4_24 rfl rfl hx.t57 dX4_fail_2 ?_
  refine WP.aload_n (pc := 5) dX4_fail_5 rfl ?_
  refine WP.aload_n (pc := 6) dX4_fail_6 rfl ?_
  refine WP.gR (pc := 7) uX4 fX4_14 hx.t57 hx.r57_0 dX4_fail_7 ?_
  refine WP.gIv (pc := 10) (v := (nI l.2.2.2.1)) uX7 fX4_160 hx.t58 (by simp [up_eq, a3.2.2.1]) dX4_fail_10 ?_
  refine WP.pI (pc := 13) uX4 fX4_28 rfl rfl hx.t57 dX4_fail_13 ?_
  refine WP.vret (pc := 16) rfl dX4_fail_16 ?_
  refine ⟨rfl, _, rfl, (fr.rf.up (by omega) (by omega)).up (by omega) (by omega), by simp [up_eq, ldF], by simp [up_eq, ldF], ?_, a4, hc⟩
  exact a3.kp (lo := x + 57) (m := 1) ((fr.rf.up (by omega) (by omega)).up (by omega) (by omega)) (by omega)
theorem ldAt.nx {n : Nat} {l : mLd} {I I' : Nat → Nat → Int32} (h : ldAt I x n l) (h3 : fr I I' (x + 58) 1) (h4 : tkAt I' x n (tkN (I (x + 56)) n (l.2.2.2.1 + l.2.2.2.2))) : ldAt I' x n (ldX (I (x + 56)) n l) := by
  obtain ⟨a1, a2, a3, a4, a5⟩ := h
  refine ⟨?_, ?_, h4, tkN_tk a4.2.1, a5⟩
  · rw [h3 (x + 57) (by omega)]; exact a1
  · rw [h3 (x + 57) (by omega)]; exact a2
theorem NX7 (hx : shX σ x) {n : Nat} {l : mLd} {I : Nat → Nat → Int32} (h : ldAt I x n l) : Ctr Γ (1, 20, 0, 0) MX7_next [.ref (x + 58)] (wI σ I) (rW σ (fun I' => fr I I' (x + 58) 1 ∧ tkAt I' x n (tkN (I (x + 56)) n (l.2.2.2.1 + l.2.2.2.2)))) :=
  CX7_next Γ hx h.2.2.1.2.2.2.2.1 h.2.2.2.1.2.1 h.2.2.1.1 h.2.2.1.2.2.2.1
theorem ldAt.er {n : Nat} {l : mLd} {I : Nat → Nat → Int32} (h : ldAt I x n l) : (nI l.1 = 0 ↔ l.1 = 0) := by
  have := h.2.2.2.2
  exact nI_eq (b := 0) (by omega) (by omega)
theorem ldAt.lt3 {n : Nat} {l : mLd} {I : Nat → Nat → Int32} (h : ldAt I x n l) : l.2.2.1 = 3 → l.2.2.2.1 < n := fun q => by
  obtain ⟨-, -, -, h4, -⟩ := h
  have := h4.2.2 (by omega)
  have := h4.2.1
  omega
theorem CX4_semicolon (hx : shX σ x) {n : Nat} {l : mLd} {I : Nat → Nat → Int32} (h : ldAt I x n l) : Ctr Γ (2, 41, 0, 0) MX4_semicolon [.ref (x + 57)] (wI σ I) (rW σ (fun I' => fr I I' (x + 57) 2 ∧ ldAt I' x n (ldSemi (I (x + 56)) n l))) := by
  refine Ctr.go rfl (by decide) rfl rfl ?_
  refine WP.aload_n (pc := 0) dX4_semicolon_0 rfl ?_
  refine WP.gIv (pc := 1) (v := (nI l.1)) uX4 fX4_24 hx.t57 (by simp [up_eq, h.1]) dX4_semicolon_1 ?_
  unfold ldSemi
  refine WP.if_ne (pc := 4) (tgt := 32) dX4_semicolon_4 (by decide) (fun h1 => ?_) (fun h1 => ?_)
  · skip
    refine WP.vret (pc := 32) rfl dX4_semicolon_32 ?_
    rw [if_neg (fun q => h1 (h.er.mpr q))]
    exact ⟨rfl, _, rfl, fr.rf, h⟩
  · rw [if_pos (h.er.mp h1)]
    refine WP.aload_n (pc := 7) dX4_semicolon_7 rfl ?_
    refine WP.gR (pc := 8) uX4 fX4_14 hx.t57 hx.r57_0 dX4_semicolon_8 ?_
    refine WP.cV1 (pc := 11) (mc2 := 0) (ms2 := 0) (ci := 7) kX4_124 (CX7_isSemicolon Γ hx h.2.2.1 h.lt3) (by decide) rfl hx.t58 rfl ⟨Nat.le_of_ble_eq_true rfl, Nat.le_of_ble_eq_true rfl⟩ (Nat.le_of_ble_eq_true rfl) (Nat.le_of_ble_eq_true rfl) (Nat.le_of_ble_eq_true rfl) rfl dX4_semicolon_11 ?_
    refine WP.if_eq (pc := 14) (tgt := 27) dX4_semicolon_14 (by decide) (fun h2 => ?_) (fun h2 => ?_)
    · refine WP.aload_n (pc := 27) dX4_semicolon_27 rfl ?_
      refine WP.iconst (pc := 28) (v := 1) dX4_semicolon_28 (by decide) ?_
      refine WP.cVw (pc := 29) (mc2 := 0) (ms2 := 0) (ci := 4) kX4_50 (CX4_fail Γ hx (c := 1) (by decide) h) (by decide) rfl hx.t57 rfl ⟨Nat.le_of_ble_eq_true rfl, Nat.le_of_ble_eq_true rfl⟩ (Nat.le_of_ble_eq_true rfl) (Nat.le_of_ble_eq_true rfl) (Nat.le_of_ble_eq_true rfl) rfl dX4_semicolon_29 (fun I1 ⟨f1, g1⟩ => ?_)
      refine WP.vret (pc := 32) rfl dX4_semicolon_32 ?_
      rw [if_neg (by rw [bI_0 h2]; decide)]
      exact ⟨rfl, _, rfl, f1.mono (by omega) (by omega), g1⟩
    · refine WP.aload_n (pc := 17) dX4_semicolon_17 rfl ?_
      refine WP.gR (pc := 18) uX4 fX4_14 hx.t57 hx.r57_0 dX4_semicolon_18 ?_
      refine WP.cVw (pc := 21) (mc2 := 0) (ms2 := 0) (ci := 7) kX4_85 (NX7 Γ hx h) (by decide) rfl hx.t58 rfl ⟨Nat.le_of_ble_eq_true rfl, Nat.le_of_ble_eq_true rfl⟩ (Nat.le_of_ble_eq_true rfl) (Nat.le_of_ble_eq_true rfl) (Nat.le_of_ble_eq_true rfl) rfl dX4_semicolon_21 (fun I1 ⟨f1, g1⟩ => ?_)
      refine WP.goto (pc := 24) (tgt := 32) dX4_semicolon_24 (by decide) ?_
      refine WP.vret (pc := 32) rfl dX4_semicolon_32 ?_
      rw [if_pos (bI_1 h2)]
      exact ⟨rfl, _, rfl, f1.mono (by omega) (by omega), h.nx f1 g1⟩
theorem CX4_number (hx : shX σ x) {n : Nat} {l : mLd} {I : Nat → Nat → Int32} (lo hi : Int32) (h : ldAt I x n l) : Ctr Γ (2, 41, 0, 0) MX4_number [.ref (x + 57), .int lo, .int hi] (wI σ I) (rP σ (fun v I' => v = (ldNum (I (x + 56)) n lo hi l).1 ∧ fr I I' (x + 57) 2 ∧ ldAt I' x n (ldNum (I (x + 56)) n lo hi l).2)) := by
  refine Ctr.go rfl (by decide) rfl rfl ?_
  refine WP.aload_n (pc := 0) dX4_number_0 rfl ?_
  refine WP.gIv (pc := 1) (v := (nI l.1)) uX4 fX4_24 hx.t57 (by simp [up_eq, h.1]) dX4_number_1 ?_
  unfold ldNum
  have h3 := h.2.2.2.1.1
  refine WP.if_eq (pc := 4) (tgt := 9) dX4_number_4 (by decide) (fun h1 => ?_) (fun h1 => ?_)
  · rw [if_pos (h.er.mp h1)]
    refine WP.aload_n (pc := 9) dX4_number_9 rfl ?_
    refine WP.gR (pc := 10) uX4 fX4_14 hx.t57 hx.r57_0 dX4_number_10 ?_
    refine WP.gIv (pc := 13) (v := (nI l.2.2.1)) uX7 fX4_53 hx.t58 (by simp [up_eq, h.2.2.1.2.1]) dX4_number_13 ?_
    refine WP.iconst (pc := 16) (v := 2) dX4_number_16 (by decide) ?_
    refine WP.icmp_eq (pc := 17) (tgt := 27) dX4_number_17 (by decide) (fun h2 => ?_) (fun h2 => ?_)
    · rw [if_pos ((nI_eq (b := 2) (by omega) (by omega)).mp h2)]
      refine WP.aload_n (pc := 27) dX4_number_27 rfl ?_
      refine WP.gR (pc := 28) uX4 fX4_14 hx.t57 hx.r57_0 dX4_number_28 ?_
      refine WP.cV1 (pc := 31) (mc2 := 0) (ms2 := 0) (ci := 7) kX4_163 (CX7_value Γ hx h.2.2.1) (by decide) rfl hx.t58 rfl ⟨Nat.le_of_ble_eq_true rfl, Nat.le_of_ble_eq_true rfl⟩ (Nat.le_of_ble_eq_true rfl) (Nat.le_of_ble_eq_true rfl) (Nat.le_of_ble_eq_true rfl) rfl dX4_number_31 ?_
      refine WP.istore_n (pc := 34) dX4_number_34 (by decide) rfl ?_
      refine WP.iload_n (pc := 35) dX4_number_35 rfl ?_
      refine WP.iload_n (pc := 36) dX4_number_36 rfl ?_
      have hbad : (ldNumV (I (x + 56)) l < lo ∨ hi < ldNumV (I (x + 56)) l) → WP Γ (2, 41, 0, 0) MX4_number (rP σ (fun v I' => v = (ldNumV (I (x + 56)) l, if ldNumV (I (x + 56)) l < lo ∨ hi < ldNumV (I (x + 56)) l then ldF 2 l else ldX (I (x + 56)) n l).1 ∧ fr I I' (x + 57) 2 ∧ ldAt I' x n (ldNumV (I (x + 56)) l, if ldNumV (I (x + 56)) l < lo ∨ hi < ldNumV (I (x + 56)) l then ldF 2 l else ldX (I (x + 56)) n l).2)) 45 [some (.ref (x + 57)), some (.int lo), some (.int hi), some (.int (ldNumV (I (x + 56)) l))] [] (wI σ I) := by
        intro hb
        rw [if_pos hb]
        refine WP.aload_n (pc := 45) dX4_number_45 rfl ?_
        refine WP.iconst (pc := 46) (v := 2) dX4_number_46 (by decide) ?_
        refine WP.cVw (pc := 47) (mc2 := 0) (ms2 := 0) (ci := 4) kX4_50 (CX4_fail Γ hx (c := 2) (by decide) h) (by decide) rfl hx.t57 rfl ⟨Nat.le_of_ble_eq_true rfl, Nat.le_of_ble_eq_true rfl⟩ (Nat.le_of_ble_eq_true rfl) (Nat.le_of_ble_eq_true rfl) (Nat.le_of_ble_eq_true rfl) rfl dX4_number_47 (fun I1 ⟨f1, g1⟩ => ?_)
        refine WP.goto (pc := 50) (tgt := 60) dX4_number_50 (by decide) ?_
        refine WP.iload_n (pc := 60) dX4_number_60 rfl ?_
        refine WP.iret (pc := 61) rfl dX4_number_61 ?_
        exact ⟨_, _, rfl, rfl, rfl, f1.mono (by omega) (by omega), g1⟩
      refine WP.icmp_lt (pc := 37) (tgt := 45) dX4_number_37 (by decide) (fun h4 => ?_) (fun h4 => ?_)
      · exact hbad (Or.inl h4)
      · refine WP.iload_n (pc := 40) dX4_number_40 rfl ?_
        refine WP.iload_n (pc := 41) dX4_number_41 rfl ?_
        refine WP.icmp_le (pc := 42) (tgt := 53) dX4_number_42 (by decide) (fun h5 => ?_) (fun h5 => ?_)
        · rw [if_neg (show ¬ (ldNumV (I (x + 56)) l < lo ∨ hi < ldNumV (I (x + 56)) l) from fun q => q.elim h4 (Int32.not_lt.mpr h5))]
          refine WP.aload_n (pc := 53) dX4_number_53 rfl ?_
          refine WP.gR (pc := 54) uX4 fX4_14 hx.t57 hx.r57_0 dX4_number_54 ?_
          refine WP.cVw (pc := 57) (mc2 := 0) (ms2 := 0) (ci := 7) kX4_85 (NX7 Γ hx h) (by decide) rfl hx.t58 rfl ⟨Nat.le_of_ble_eq_true rfl, Nat.le_of_ble_eq_true rfl⟩ (Nat.le_of_ble_eq_true rfl) (Nat.le_of_ble_eq_true rfl) (Nat.le_of_ble_eq_true rfl) rfl dX4_number_57 (fun I1 ⟨f1, g1⟩ => ?_)
          refine WP.iload_n (pc := 60) dX4_number_60 rfl ?_
          refine WP.iret (pc := 61) rfl dX4_number_61 ?_
          exact ⟨_, _, rfl, rfl, rfl, f1.mono (by omega) (by omega), h.nx f1 g1⟩
        · exact hbad (Or.inr (Int32.not_le.mp h5))
    · rw [if_neg (fun q => h2 (by rw [q]; rfl))]
      refine WP.aload_n (pc := 20) dX4_number_20 rfl ?_
      refine WP.iconst (pc := 21) (v := 1) dX4_number_21 (by decide) ?_
      refine WP.cVw (pc := 22) (mc2 := 0) (ms2 := 0) (ci := 4) kX4_50 (CX4_fail Γ hx (c := 1) (by decide) h) (by decide) rfl hx.t57 rfl ⟨Nat.le_of_ble_eq_true rfl, Nat.le_of_ble_eq_true rfl⟩ (Nat.le_of_ble_eq_true rfl) (Nat.le_of_ble_eq_true rfl) (Nat.le_of_ble_eq_true rfl) rfl dX4_number_22 (fun I1 ⟨f1, g1⟩ => ?_)
      refine WP.iload_n (pc := 25) dX4_number_25 rfl ?_
      refine WP.iret (pc := 26) rfl dX4_number_26 ?_
      exact ⟨_, _, rfl, rfl, rfl, f1.mono (by omega) (by omega), g1⟩
  · rw [if_neg (fun q => h1 (h.er.mpr q))]
    refine WP.iload_n (pc := 7) dX4_number_7 rfl ?_
    refine WP.iret (pc := 8) rfl dX4_number_8 ?_
    exact ⟨_, _, rfl, rfl, rfl, fr.rf, h⟩
theorem CX4_kind (hx : shX σ x) {n : Nat} {l : mLd} {I : Nat → Nat → Int32} (h : ldAt I x n l) : Ctr Γ (6, 128, 0, 0) MX4_kind [.ref (x + 57)] (wI σ I) (rP σ (fun v I' => v = (ldKind (I (x + 56)) n l).1 ∧ fr I I' (x + 57) 2 ∧ ldAt I' x n (ldKind (I (x + 56)) n l).2)) := by
  refine Ctr.go rfl (by decide) rfl rfl ?_
  refine WP.aload_n (pc := 0) dX4_kind_0 rfl ?_
  refine WP.gIv (pc := 1) (v := (nI l.1)) uX4 fX4_24 hx.t57 (by simp [up_eq, h.1]) dX4_kind_1 ?_
  unfold ldKind
  refine WP.if_eq (pc := 4) (tgt := 9) dX4_kind_4 (by decide) (fun h1 => ?_) (fun h1 => ?_)
  · rw [if_pos (h.er.mp h1)]
    have hend : WP Γ (6, 128, 0, 0) MX4_kind (rP σ (fun v I' => v = (ldKindV (I (x + 56)) l, if ldKindV (I (x + 56)) l = -1 then ldF 1 l else ldX (I (x + 56)) n l).1 ∧ fr I I' (x + 57) 2 ∧ ldAt I' x n (ldKindV (I (x + 56)) l, if ldKindV (I (x + 56)) l = -1 then ldF 1 l else ldX (I (x + 56)) n l).2)) 58 [some (.ref (x + 57)), none] [.int (ldKindV (I (x + 56)) l)] (wI σ I) := by
      refine WP.istore_n (pc := 58) dX4_kind_58 (by decide) rfl ?_
      refine WP.iload_n (pc := 59) dX4_kind_59 rfl ?_
      refine WP.iconst (pc := 60) (v := (-1)) dX4_kind_60 (by decide) ?_
      refine WP.icmp_ne (pc := 61) (tgt := 72) dX4_kind_61 (by decide) (fun h2 => ?_) (fun h2 => ?_)
      · rw [if_neg h2]
        refine WP.aload_n (pc := 72) dX4_kind_72 rfl ?_
        refine WP.gR (pc := 73) uX4 fX4_14 hx.t57 hx.r57_0 dX4_kind_73 ?_
        refine WP.cVw (pc := 76) (mc2 := 0) (ms2 := 0) (ci := 7) kX4_85 (NX7 Γ hx h) (by decide) rfl hx.t58 rfl ⟨Nat.le_of_ble_eq_true rfl, Nat.le_of_ble_eq_true rfl⟩ (Nat.le_of_ble_eq_true rfl) (Nat.le_of_ble_eq_true rfl) (Nat.le_of_ble_eq_true rfl) rfl dX4_kind_76 (fun I1 ⟨f1, g1⟩ => ?_)
        refine WP.iload_n (pc := 79) dX4_kind_79 rfl ?_
        refine WP.iret (pc := 80) rfl dX4_kind_80 ?_
        exact ⟨_, _, rfl, rfl, rfl, f1.mono (by omega) (by omega), h.nx f1 g1⟩
      · rw [if_pos h2]
        refine WP.aload_n (pc := 64) dX4_kind_64 rfl ?_
        refine WP.iconst (pc := 65) (v := 1) dX4_kind_65 (by decide) ?_
        refine WP.cVw (pc := 66) (mc2 := 0) (ms2 := 0) (ci := 4) kX4_50 (CX4_fail Γ hx (c := 1) (by decide) h) (by decide) rfl hx.t57 rfl ⟨Nat.le_of_ble_eq_true rfl, Nat.le_of_ble_eq_true rfl⟩ (Nat.le_of_ble_eq_true rfl) (Nat.le_of_ble_eq_true rfl) (Nat.le_of_ble_eq_true rfl) rfl dX4_kind_66 (fun I1 ⟨f1, g1⟩ => ?_)
        refine WP.goto (pc := 69) (tgt := 79) dX4_kind_69 (by decide) ?_
        refine WP.iload_n (pc := 79) dX4_kind_79 rfl ?_
        refine WP.iret (pc := 80) rfl dX4_kind_80 ?_
        exact ⟨_, _, rfl, rfl, rfl, f1.mono (by omega) (by omega), g1⟩
    refine WP.aload_n (pc := 9) dX4_kind_9 rfl ?_
    refine WP.gR (pc := 10) uX4 fX4_14 hx.t57 hx.r57_0 dX4_kind_10 ?_
    refine WP.ldcS (pc := 13) (j := 4) (tx := "rye") (by decide) dX4_kind_13 ?_
    refine WP.cV1 (pc := 15) (mc2 := 0) (ms2 := 0) (ci := 7) kX4_42 (CX7_isWord Γ hx (j := 4) (by decide) h.2.2.1) (by decide) rfl hx.t58 rfl ⟨Nat.le_of_ble_eq_true rfl, Nat.le_of_ble_eq_true rfl⟩ (Nat.le_of_ble_eq_true rfl) (Nat.le_of_ble_eq_true rfl) (Nat.le_of_ble_eq_true rfl) rfl dX4_kind_15 ?_
    refine WP.if_eq (pc := 18) (tgt := 25) dX4_kind_18 (by decide) (fun h2 => ?_) (fun h2 => ?_)
    · refine WP.aload_n (pc := 25) dX4_kind_25 rfl ?_
      refine WP.gR (pc := 26) uX4 fX4_14 hx.t57 hx.r57_0 dX4_kind_26 ?_
      refine WP.ldcS (pc := 29) (j := 5) (tx := "wheat") (by decide) dX4_kind_29 ?_
      refine WP.cV1 (pc := 31) (mc2 := 0) (ms2 := 0) (ci := 7) kX4_42 (CX7_isWord Γ hx (j := 5) (by decide) h.2.2.1) (by decide) rfl hx.t58 rfl ⟨Nat.le_of_ble_eq_true rfl, Nat.le_of_ble_eq_true rfl⟩ (Nat.le_of_ble_eq_true rfl) (Nat.le_of_ble_eq_true rfl) (Nat.le_of_ble_eq_true rfl) rfl dX4_kind_31 ?_
      refine WP.if_eq (pc := 34) (tgt := 41) dX4_kind_34 (by decide) (fun h3 => ?_) (fun h3 => ?_)
      · refine WP.aload_n (pc := 41) dX4_kind_41 rfl ?_
        refine WP.gR (pc := 42) uX4 fX4_14 hx.t57 hx.r57_0 dX4_kind_42 ?_
        refine WP.ldcS (pc := 45) (j := 6) (tx := "roll") (by decide) dX4_kind_45 ?_
        refine WP.cV1 (pc := 47) (mc2 := 0) (ms2 := 0) (ci := 7) kX4_42 (CX7_isWord Γ hx (j := 6) (by decide) h.2.2.1) (by decide) rfl hx.t58 rfl ⟨Nat.le_of_ble_eq_true rfl, Nat.le_of_ble_eq_true rfl⟩ (Nat.le_of_ble_eq_true rfl) (Nat.le_of_ble_eq_true rfl) (Nat.le_of_ble_eq_true rfl) rfl dX4_kind_47 ?_
        refine WP.if_eq (pc := 50) (tgt := 57) dX4_kind_50 (by decide) (fun h4 => ?_) (fun h4 => ?_)
        · have e : ldKindV (I (x + 56)) l = -1 := by simp [ldKindV, bI_0 h2, bI_0 h3, bI_0 h4]
          rw [e] at hend ⊢
          refine WP.iconst (pc := 57) (v := (-1)) dX4_kind_57 (by decide) ?_
          exact hend
        · have e : ldKindV (I (x + 56)) l = 2 := by simp [ldKindV, bI_0 h2, bI_0 h3, bI_1 h4]
          rw [e] at hend ⊢
          refine WP.iconst (pc := 53) (v := 2) dX4_kind_53 (by decide) ?_
          refine WP.goto (pc := 54) (tgt := 58) dX4_kind_54 (by decide) ?_
          exact hend
      · have e : ldKindV (I (x + 56)) l = 1 := by simp [ldKindV, bI_0 h2, bI_1 h3]
        rw [e] at hend ⊢
        refine WP.iconst (pc := 37) (v := 1) dX4_kind_37 (by decide) ?_
        refine WP.goto (pc := 38) (tgt := 58) dX4_kind_38 (by decide) ?_
        exact hend
    · have e : ldKindV (I (x + 56)) l = 0 := by simp [ldKindV, bI_1 h2]
      rw [e] at hend ⊢
      refine WP.iconst (pc := 21) (v := 0) dX4_kind_21 (by decide) ?_
      refine WP.goto (pc := 22) (tgt := 58) dX4_kind_22 (by decide) ?_
      exact hend
  · rw [if_neg (fun q => h1 (h.er.mpr q))]
    refine WP.iconst (pc := 7) (v := (-1)) dX4_kind_7 (by decide) ?_
    refine WP.iret (pc := 8) rfl dX4_kind_8 ?_
    exact ⟨_, _, rfl, rfl, rfl, fr.rf, h⟩
theorem CX4_newName (hx : shX σ x) (hs : shS σ b) {n : Nat} {l : mLd} {s : mS} {I : Nat → Nat → Int32} (hst : stAt I b s) (h : ldAt I x n l) : Ctr Γ (3, 64, 0, 0) MX4_newName [.ref (x + 57), .ref b] (wI σ I) (rP σ (fun v I' => v = ldNm (I (x + 56)) l ∧ fr I I' (x + 57) 2 ∧ ldAt I' x n (ldName (I (x + 56)) n s l))) := by
  refine Ctr.go rfl (by decide) rfl rfl ?_
  refine WP.aload_n (pc := 0) dX4_newName_0 rfl ?_
  refine WP.gR (pc := 1) uX4 fX4_14 hx.t57 hx.r57_0 dX4_newName_1 ?_
  unfold ldName
  have h3 := h.2.2.2.1.1
  refine WP.cV1 (pc := 4) (mc2 := 0) (ms2 := 0) (ci := 7) kX4_172 (CX7_name Γ hx h.2.2.1) (by decide) rfl hx.t58 rfl ⟨Nat.le_of_ble_eq_true rfl, Nat.le_of_ble_eq_true rfl⟩ (Nat.le_of_ble_eq_true rfl) (Nat.le_of_ble_eq_true rfl) (Nat.le_of_ble_eq_true rfl) rfl dX4_newName_4 ?_
  refine WP.istore_n (pc := 7) dX4_newName_7 (by decide) rfl ?_
  refine WP.aload_n (pc := 8) dX4_newName_8 rfl ?_
  refine WP.gR (pc := 9) uX4 fX4_14 hx.t57 hx.r57_0 dX4_newName_9 ?_
  refine WP.gIv (pc := 12) (v := (nI l.2.2.1)) uX7 fX4_53 hx.t58 (by simp [up_eq, h.2.2.1.2.1]) dX4_newName_12 ?_
  refine WP.iconst (pc := 15) (v := 1) dX4_newName_15 (by decide) ?_
  refine WP.icmp_eq (pc := 16) (tgt := 27) dX4_newName_16 (by decide) (fun h1 => ?_) (fun h1 => ?_)
  · rw [if_pos ((nI_eq (b := 1) (by omega) (by omega)).mp h1)]
    refine WP.iload_n (pc := 27) dX4_newName_27 rfl ?_
    refine WP.iconst (pc := 28) (v := (-1)) dX4_newName_28 (by decide) ?_
    refine WP.icmp_ne (pc := 29) (tgt := 40) dX4_newName_29 (by decide) (fun h2 => ?_) (fun h2 => ?_)
    · rw [if_neg (show ¬ ldNm (I (x + 56)) l = -1 from h2)]
      refine WP.aload_n (pc := 40) dX4_newName_40 rfl ?_
      refine WP.iload_n (pc := 41) dX4_newName_41 rfl ?_
      refine WP.cV1 (pc := 42) (mc2 := 0) (ms2 := 0) (ci := 5) kX4_175 (CX5_hasName Γ hs hst _) (by decide) rfl hs.t0 rfl ⟨Nat.le_of_ble_eq_true rfl, Nat.le_of_ble_eq_true rfl⟩ (Nat.le_of_ble_eq_true rfl) (Nat.le_of_ble_eq_true rfl) (Nat.le_of_ble_eq_true rfl) rfl dX4_newName_42 ?_
      refine WP.if_eq (pc := 45) (tgt := 56) dX4_newName_45 (by decide) (fun h4 => ?_) (fun h4 => ?_)
      · rw [if_neg (by rw [show hasN s (ldNm (I (x + 56)) l) = false from bI_0 h4]; decide)]
        refine WP.aload_n (pc := 56) dX4_newName_56 rfl ?_
        refine WP.gR (pc := 57) uX4 fX4_14 hx.t57 hx.r57_0 dX4_newName_57 ?_
        refine WP.cVw (pc := 60) (mc2 := 0) (ms2 := 0) (ci := 7) kX4_85 (NX7 Γ hx h) (by decide) rfl hx.t58 rfl ⟨Nat.le_of_ble_eq_true rfl, Nat.le_of_ble_eq_true rfl⟩ (Nat.le_of_ble_eq_true rfl) (Nat.le_of_ble_eq_true rfl) (Nat.le_of_ble_eq_true rfl) rfl dX4_newName_60 (fun I1 ⟨f1, g1⟩ => ?_)
        refine WP.iload_n (pc := 63) dX4_newName_63 rfl ?_
        refine WP.iret (pc := 64) rfl dX4_newName_64 ?_
        exact ⟨_, _, rfl, rfl, rfl, f1.mono (by omega) (by omega), h.nx f1 g1⟩
      · rw [if_pos (show hasN s (ldNm (I (x + 56)) l) = true from bI_1 h4)]
        refine WP.aload_n (pc := 48) dX4_newName_48 rfl ?_
        refine WP.iconst (pc := 49) (v := 3) dX4_newName_49 (by decide) ?_
        refine WP.cVw (pc := 50) (mc2 := 0) (ms2 := 0) (ci := 4) kX4_50 (CX4_fail Γ hx (c := 3) (by decide) h) (by decide) rfl hx.t57 rfl ⟨Nat.le_of_ble_eq_true rfl, Nat.le_of_ble_eq_true rfl⟩ (Nat.le_of_ble_eq_true rfl) (Nat.le_of_ble_eq_true rfl) (Nat.le_of_ble_eq_true rfl) rfl dX4_newName_50 (fun I1 ⟨f1, g1⟩ => ?_)
        refine WP.goto (pc := 53) (tgt := 63) dX4_newName_53 (by decide) ?_
        refine WP.iload_n (pc := 63) dX4_newName_63 rfl ?_
        refine WP.iret (pc := 64) rfl dX4_newName_64 ?_
        exact ⟨_, _, rfl, rfl, rfl, f1.mono (by omega) (by omega), g1⟩
    · rw [if_pos (show ldNm (I (x + 56)) l = -1 from h2)]
      refine WP.aload_n (pc := 32) dX4_newName_32 rfl ?_
      refine WP.iconst (pc := 33) (v := 2) dX4_newName_33 (by decide) ?_
      refine WP.cVw (pc := 34) (mc2 := 0) (ms2 := 0) (ci := 4) kX4_50 (CX4_fail Γ hx (c := 2) (by decide) h) (by decide) rfl hx.t57 rfl ⟨Nat.le_of_ble_eq_true rfl, Nat.le_of_ble_eq_true rfl⟩ (Nat.le_of_ble_eq_true rfl) (Nat.le_of_ble_eq_true rfl) (Nat.le_of_ble_eq_true rfl) rfl dX4_newName_34 (fun I1 ⟨f1, g1⟩ => ?_)
      refine WP.goto (pc := 37) (tgt := 63) dX4_newName_37 (by decide) ?_
      refine WP.iload_n (pc := 63) dX4_newName_63 rfl ?_
      refine WP.iret (pc := 64) rfl dX4_newName_64 ?_
      exact ⟨_, _, rfl, rfl, rfl, f1.mono (by omega) (by omega), g1⟩
  · rw [if_neg (fun q => h1 (by rw [q]; rfl))]
    refine WP.aload_n (pc := 19) dX4_newName_19 rfl ?_
    refine WP.iconst (pc := 20) (v := 1) dX4_newName_20 (by decide) ?_
    refine WP.cVw (pc := 21) (mc2 := 0) (ms2 := 0) (ci := 4) kX4_50 (CX4_fail Γ hx (c := 1) (by decide) h) (by decide) rfl hx.t57 rfl ⟨Nat.le_of_ble_eq_true rfl, Nat.le_of_ble_eq_true rfl⟩ (Nat.le_of_ble_eq_true rfl) (Nat.le_of_ble_eq_true rfl) (Nat.le_of_ble_eq_true rfl) rfl dX4_newName_21 (fun I1 ⟨f1, g1⟩ => ?_)
    refine WP.goto (pc := 24) (tgt := 63) dX4_newName_24 (by decide) ?_
    refine WP.iload_n (pc := 63) dX4_newName_63 rfl ?_
    refine WP.iret (pc := 64) rfl dX4_newName_64 ?_
    exact ⟨_, _, rfl, rfl, rfl, f1.mono (by omega) (by omega), g1⟩
theorem fndI_ext {f g : Nat → Int32} {v : Int32} : ∀ n i, (∀ j, i ≤ j → j < i + n → f j = g j) → fndI f v n i = fndI g v n i
  | 0, _, _ => rfl
  | n + 1, i, h => by
    unfold fndI
    rw [h i (by omega) (by omega), fndI_ext n (i + 1) (fun j h1 h2 => h j (by omega) (by omega))]
theorem CX4_knownBaker (hx : shX σ x) (hs : shS σ b) {n : Nat} {l : mLd} {s : mS} {I : Nat → Nat → Int32} (hst : stAt I b s) (h : ldAt I x n l) : Ctr Γ (3, 64, 0, 0) MX4_knownBaker [.ref (x + 57), .ref (b + 2)] (wI σ I) (rP σ (fun v I' => v = bkIx s.2.1 (ldNm (I (x + 56)) l) ∧ fr I I' (x + 57) 2 ∧ ldAt I' x n (ldBkr (I (x + 56)) n s l))) := by
  have hb := hst.2.1
  refine Ctr.go rfl (by decide) rfl rfl ?_
  refine WP.aload_n (pc := 0) dX4_knownBaker_0 rfl ?_
  refine WP.gR (pc := 1) uX1 fX4_179 hs.t2 hs.r2_1 dX4_knownBaker_1 ?_
  refine WP.aload_n (pc := 4) dX4_knownBaker_4 rfl ?_
  refine WP.gIv (pc := 5) (v := (nI s.2.1.length)) uX1 fX4_103 hs.t2 (by simp [up_eq, hb.1]) dX4_knownBaker_5 ?_
  refine WP.aload_n (pc := 8) dX4_knownBaker_8 rfl ?_
  refine WP.gR (pc := 9) uX4 fX4_14 hx.t57 hx.r57_0 dX4_knownBaker_9 ?_
  unfold ldBkr
  have h3 := h.2.2.2.1.1
  refine WP.cV1 (pc := 12) (mc2 := 0) (ms2 := 0) (ci := 7) kX4_172 (CX7_name Γ hx h.2.2.1) (by decide) rfl hx.t58 rfl ⟨Nat.le_of_ble_eq_true rfl, Nat.le_of_ble_eq_true rfl⟩ (Nat.le_of_ble_eq_true rfl) (Nat.le_of_ble_eq_true rfl) (Nat.le_of_ble_eq_true rfl) rfl dX4_knownBaker_12 ?_
  refine WP.cN1 (pc := 15) (mc2 := 0) (ms2 := 0) kX4_181 (CX8_find Γ σ I (a := b + 3) hs.t3 (by decide) hb.2.1 _) rfl ⟨Nat.le_of_ble_eq_true rfl, Nat.le_of_ble_eq_true rfl⟩ (Nat.le_of_ble_eq_true rfl) (Nat.le_of_ble_eq_true rfl) (Nat.le_of_ble_eq_true rfl) rfl dX4_knownBaker_15 ?_
  have e : fndI (I (b + 3)) (pkN (I (x + 56)) l.2.2.2.1 l.2.2.2.2) s.2.1.length 0 = bkIx s.2.1 (ldNm (I (x + 56)) l) := by
    unfold bkIx
    refine fndI_ext _ _ (fun j _ hj => ?_)
    have hg : s.2.1[j]? = some (s.2.1[j]'(by omega)) := List.getElem?_eq_getElem (by omega)
    rw [hg]
    exact (hb.2.2 j _ hg).1
  rw [e]
  refine WP.istore_n (pc := 18) dX4_knownBaker_18 (by decide) rfl ?_
  refine WP.aload_n (pc := 19) dX4_knownBaker_19 rfl ?_
  refine WP.gR (pc := 20) uX4 fX4_14 hx.t57 hx.r57_0 dX4_knownBaker_20 ?_
  refine WP.gIv (pc := 23) (v := (nI l.2.2.1)) uX7 fX4_53 hx.t58 (by simp [up_eq, h.2.2.1.2.1]) dX4_knownBaker_23 ?_
  refine WP.iconst (pc := 26) (v := 1) dX4_knownBaker_26 (by decide) ?_
  refine WP.icmp_eq (pc := 27) (tgt := 38) dX4_knownBaker_27 (by decide) (fun h1 => ?_) (fun h1 => ?_)
  · rw [if_pos ((nI_eq (b := 1) (by omega) (by omega)).mp h1)]
    refine WP.iload_n (pc := 38) dX4_knownBaker_38 rfl ?_
    refine WP.iconst (pc := 39) (v := (-1)) dX4_knownBaker_39 (by decide) ?_
    refine WP.icmp_ne (pc := 40) (tgt := 51) dX4_knownBaker_40 (by decide) (fun h2 => ?_) (fun h2 => ?_)
    · rw [if_neg h2]
      refine WP.aload_n (pc := 51) dX4_knownBaker_51 rfl ?_
      refine WP.gR (pc := 52) uX4 fX4_14 hx.t57 hx.r57_0 dX4_knownBaker_52 ?_
      refine WP.cVw (pc := 55) (mc2 := 0) (ms2 := 0) (ci := 7) kX4_85 (NX7 Γ hx h) (by decide) rfl hx.t58 rfl ⟨Nat.le_of_ble_eq_true rfl, Nat.le_of_ble_eq_true rfl⟩ (Nat.le_of_ble_eq_true rfl) (Nat.le_of_ble_eq_true rfl) (Nat.le_of_ble_eq_true rfl) rfl dX4_knownBaker_55 (fun I1 ⟨f1, g1⟩ => ?_)
      refine WP.iload_n (pc := 58) dX4_knownBaker_58 rfl ?_
      refine WP.iret (pc := 59) rfl dX4_knownBaker_59 ?_
      exact ⟨_, _, rfl, rfl, rfl, f1.mono (by omega) (by omega), h.nx f1 g1⟩
    · rw [if_pos h2]
      refine WP.aload_n (pc := 43) dX4_knownBaker_43 rfl ?_
      refine WP.iconst (pc := 44) (v := 4) dX4_knownBaker_44 (by decide) ?_
      refine WP.cVw (pc := 45) (mc2 := 0) (ms2 := 0) (ci := 4) kX4_50 (CX4_fail Γ hx (c := 4) (by decide) h) (by decide) rfl hx.t57 rfl ⟨Nat.le_of_ble_eq_true rfl, Nat.le_of_ble_eq_true rfl⟩ (Nat.le_of_ble_eq_true rfl) (Nat.le_of_ble_eq_true rfl) (Nat.le_of_ble_eq_true rfl) rfl dX4_knownBaker_45 (fun I1 ⟨f1, g1⟩ => ?_)
      refine WP.goto (pc := 48) (tgt := 58) dX4_knownBaker_48 (by decide) ?_
      refine WP.iload_n (pc := 58) dX4_knownBaker_58 rfl ?_
      refine WP.iret (pc := 59) rfl dX4_knownBaker_59 ?_
      exact ⟨_, _, rfl, rfl, rfl, f1.mono (by omega) (by omega), g1⟩
  · rw [if_neg (fun q => h1 (by rw [q]; rfl))]
    refine WP.aload_n (pc := 30) dX4_knownBaker_30 rfl ?_
    refine WP.iconst (pc := 31) (v := 1) dX4_knownBaker_31 (by decide) ?_
    refine WP.cVw (pc := 32) (mc2 := 0) (ms2 := 0) (ci := 4) kX4_50 (CX4_fail Γ hx (c := 1) (by decide) h) (by decide) rfl hx.t57 rfl ⟨Nat.le_of_ble_eq_true rfl, Nat.le_of_ble_eq_true rfl⟩ (Nat.le_of_ble_eq_true rfl) (Nat.le_of_ble_eq_true rfl) (Nat.le_of_ble_eq_true rfl) rfl dX4_knownBaker_32 (fun I1 ⟨f1, g1⟩ => ?_)
    refine WP.goto (pc := 35) (tgt := 58) dX4_knownBaker_35 (by decide) ?_
    refine WP.iload_n (pc := 58) dX4_knownBaker_58 rfl ?_
    refine WP.iret (pc := 59) rfl dX4_knownBaker_59 ?_
    exact ⟨_, _, rfl, rfl, rfl, f1.mono (by omega) (by omega), g1⟩
end T
