section T
variable (Γ : cG) {σ : cAS} {b : Nat}
def rowsBk (I : Nat → Nat → Int32) (b i : Nat) (e : mBk) : Prop := I (b + 3) i = nmA e.1 ∧ I (b + 4) i = e.2.1 ∧ I (b + 5) i = e.2.2.1 ∧ I (b + 6) i = e.2.2.2.1 ∧ I (b + 7) i = e.2.2.2.2.1 ∧ I (b + 8) i = e.2.2.2.2.2
theorem gE_set {α : Type} {l : List α} {x e : α} {i j : Nat} (h : (l.set j x)[i]? = some e) : (i = j ∧ e = x) ∨ (i ≠ j ∧ l[i]? = some e) := by
  rw [List.getElem?_set] at h
  by_cases q : j = i
  · rw [if_pos q] at h
    split at h
    · exact Or.inl ⟨q.symm, (Option.some.inj h).symm⟩
    · cases h
  · rw [if_neg q] at h
    exact Or.inr ⟨fun z => q z.symm, h⟩
theorem CX1_copyFrom {o : Nat} (hs : shS σ b) (ho : shS σ o) (hd : b + 25 ≤ o ∨ o + 25 ≤ b) {I : Nat → Nat → Int32} {l : List mBk} (h : bkAt I o l) : Ctr Γ (2, 62, 0, 0) MX1_copyFrom [.ref (b + 2), .ref (o + 2)] (wI σ I) (rW σ (fun I' => fr I I' (b + 2) 7 ∧ bkAt I' b l)) := by
  refine Ctr.go rfl (by decide) rfl rfl ?_
  refine WP.aload_n (pc := 0) dX1_copyFrom_0 rfl ?_
  refine WP.aload_n (pc := 1) dX1_copyFrom_1 rfl ?_
  refine WP.gI (pc := 2) uX1 fX1_30 ho.t2 dX1_copyFrom_2 ?_
  refine WP.pI (pc := 5) uX1 fX1_30 rfl rfl hs.t2 dX1_copyFrom_5 ?_
  refine WP.aload_n (pc := 8) dX1_copyFrom_8 rfl ?_
  refine WP.gR (pc := 9) uX1 fX1_9 ho.t2 ho.r2_1 dX1_copyFrom_9 ?_
  refine WP.aload_n (pc := 12) dX1_copyFrom_12 rfl ?_
  refine WP.gR (pc := 13) uX1 fX1_9 hs.t2 hs.r2_1 dX1_copyFrom_13 ?_
  refine WP.cN0 (pc := 16) (mc2 := 0) (ms2 := 0) kX1_34 (CX8_copyRow Γ σ _ ho.t3 hs.t3 (by decide)) rfl ⟨Nat.le_of_ble_eq_true rfl, Nat.le_of_ble_eq_true rfl⟩ (Nat.le_of_ble_eq_true rfl) (Nat.le_of_ble_eq_true rfl) (Nat.le_of_ble_eq_true rfl) rfl dX1_copyFrom_16 ?_
  refine WP.aload_n (pc := 19) dX1_copyFrom_19 rfl ?_
  refine WP.gR (pc := 20) uX1 fX1_15 ho.t2 ho.r2_2 dX1_copyFrom_20 ?_
  refine WP.aload_n (pc := 23) dX1_copyFrom_23 rfl ?_
  refine WP.gR (pc := 24) uX1 fX1_15 hs.t2 hs.r2_2 dX1_copyFrom_24 ?_
  refine WP.cN0 (pc := 27) (mc2 := 0) (ms2 := 0) kX1_34 (CX8_copyRow Γ σ _ ho.t4 hs.t4 (by decide)) rfl ⟨Nat.le_of_ble_eq_true rfl, Nat.le_of_ble_eq_true rfl⟩ (Nat.le_of_ble_eq_true rfl) (Nat.le_of_ble_eq_true rfl) (Nat.le_of_ble_eq_true rfl) rfl dX1_copyFrom_27 ?_
  refine WP.aload_n (pc := 30) dX1_copyFrom_30 rfl ?_
  refine WP.gR (pc := 31) uX1 fX1_18 ho.t2 ho.r2_3 dX1_copyFrom_31 ?_
  refine WP.aload_n (pc := 34) dX1_copyFrom_34 rfl ?_
  refine WP.gR (pc := 35) uX1 fX1_18 hs.t2 hs.r2_3 dX1_copyFrom_35 ?_
  refine WP.cN0 (pc := 38) (mc2 := 0) (ms2 := 0) kX1_34 (CX8_copyRow Γ σ _ ho.t5 hs.t5 (by decide)) rfl ⟨Nat.le_of_ble_eq_true rfl, Nat.le_of_ble_eq_true rfl⟩ (Nat.le_of_ble_eq_true rfl) (Nat.le_of_ble_eq_true rfl) (Nat.le_of_ble_eq_true rfl) rfl dX1_copyFrom_38 ?_
  refine WP.aload_n (pc := 41) dX1_copyFrom_41 rfl ?_
  refine WP.gR (pc := 42) uX1 fX1_21 ho.t2 ho.r2_4 dX1_copyFrom_42 ?_
  refine WP.aload_n (pc := 45) dX1_copyFrom_45 rfl ?_
  refine WP.gR (pc := 46) uX1 fX1_21 hs.t2 hs.r2_4 dX1_copyFrom_46 ?_
  refine WP.cN0 (pc := 49) (mc2 := 0) (ms2 := 0) kX1_34 (CX8_copyRow Γ σ _ ho.t6 hs.t6 (by decide)) rfl ⟨Nat.le_of_ble_eq_true rfl, Nat.le_of_ble_eq_true rfl⟩ (Nat.le_of_ble_eq_true rfl) (Nat.le_of_ble_eq_true rfl) (Nat.le_of_ble_eq_true rfl) rfl dX1_copyFrom_49 ?_
  refine WP.aload_n (pc := 52) dX1_copyFrom_52 rfl ?_
  refine WP.gR (pc := 53) uX1 fX1_24 ho.t2 ho.r2_5 dX1_copyFrom_53 ?_
  refine WP.aload_n (pc := 56) dX1_copyFrom_56 rfl ?_
  refine WP.gR (pc := 57) uX1 fX1_24 hs.t2 hs.r2_5 dX1_copyFrom_57 ?_
  refine WP.cN0 (pc := 60) (mc2 := 0) (ms2 := 0) kX1_34 (CX8_copyRow Γ σ _ ho.t7 hs.t7 (by decide)) rfl ⟨Nat.le_of_ble_eq_true rfl, Nat.le_of_ble_eq_true rfl⟩ (Nat.le_of_ble_eq_true rfl) (Nat.le_of_ble_eq_true rfl) (Nat.le_of_ble_eq_true rfl) rfl dX1_copyFrom_60 ?_
  refine WP.aload_n (pc := 63) dX1_copyFrom_63 rfl ?_
  refine WP.gR (pc := 64) uX1 fX1_27 ho.t2 ho.r2_6 dX1_copyFrom_64 ?_
  refine WP.aload_n (pc := 67) dX1_copyFrom_67 rfl ?_
  refine WP.gR (pc := 68) uX1 fX1_27 hs.t2 hs.r2_6 dX1_copyFrom_68 ?_
  refine WP.cN0 (pc := 71) (mc2 := 0) (ms2 := 0) kX1_34 (CX8_copyRow Γ σ _ ho.t8 hs.t8 (by decide)) rfl ⟨Nat.le_of_ble_eq_true rfl, Nat.le_of_ble_eq_true rfl⟩ (Nat.le_of_ble_eq_true rfl) (Nat.le_of_ble_eq_true rfl) (Nat.le_of_ble_eq_true rfl) rfl dX1_copyFrom_71 ?_
  skip
  refine WP.vret (pc := 74) rfl dX1_copyFrom_74 ?_
  refine ⟨rfl, _, rfl, (((((((fr.rf.up (by omega) (by omega)).cpy (by omega) (by omega)).cpy (by omega) (by omega)).cpy (by omega) (by omega)).cpy (by omega) (by omega)).cpy (by omega) (by omega)).cpy (by omega) (by omega)), ?_⟩
  have hn := h.2.1
  refine ⟨?_, hn, fun i e he => ?_⟩
  · repeat rw [cpy_ne (by omega)]
    simp [up_eq, h.1]
  · have hi := gE_lt he
    obtain ⟨a1, a2, a3, a4, a5, a6⟩ := h.2.2 i e he
    refine ⟨?_, ?_, ?_, ?_, ?_, ?_⟩
    · rw [cpy_ne (by omega), cpy_ne (by omega), cpy_ne (by omega), cpy_ne (by omega), cpy_ne (by omega), cpy_row (by omega), up_eq, if_neg (by omega), a1]
    · rw [cpy_ne (by omega), cpy_ne (by omega), cpy_ne (by omega), cpy_ne (by omega), cpy_row (by omega), cpy_ne (by omega), up_eq, if_neg (by omega), a2]
    · rw [cpy_ne (by omega), cpy_ne (by omega), cpy_ne (by omega), cpy_row (by omega), cpy_ne (by omega), cpy_ne (by omega), up_eq, if_neg (by omega), a3]
    · rw [cpy_ne (by omega), cpy_ne (by omega), cpy_row (by omega), cpy_ne (by omega), cpy_ne (by omega), cpy_ne (by omega), up_eq, if_neg (by omega), a4]
    · rw [cpy_ne (by omega), cpy_row (by omega), cpy_ne (by omega), cpy_ne (by omega), cpy_ne (by omega), cpy_ne (by omega), up_eq, if_neg (by omega), a5]
    · rw [cpy_row (by omega), cpy_ne (by omega), cpy_ne (by omega), cpy_ne (by omega), cpy_ne (by omega), cpy_ne (by omega), up_eq, if_neg (by omega), a6]
theorem CX1_add (hs : shS σ b) {I : Nat → Nat → Int32} {l : List mBk} (nm : Nat) (size hours : Int32) (hl : l.length < 4) (h : bkAt I b l) : Ctr Γ (0, 0, 0, 0) MX1_add [.ref (b + 2), .int (nmA nm), .int size, .int hours] (wI σ I) (rW σ (fun I' => fr I I' (b + 2) 7 ∧ bkAt I' b (l ++ [(nm, size, hours, -1, 0, 0)]))) := by
  refine Ctr.go rfl (by decide) rfl rfl ?_
  have hc := h.1
  refine WP.aload_n (pc := 0) dX1_add_0 rfl ?_
  refine WP.gIv (pc := 1) (v := (nI l.length)) uX1 fX1_30 hs.t2 (by simp [up_eq, hc]) dX1_add_1 ?_
  refine WP.iconst (pc := 4) (v := 4) dX1_add_4 (by decide) ?_
  refine WP.icmp_ge (pc := 5) (tgt := 78) dX1_add_5 (by decide) (fun h1 => ?_) (fun h1 => ?_)
  · exact absurd h1 (nI_ge (b := 4) (by omega) (by omega))
  · refine WP.aload_n (pc := 8) dX1_add_8 rfl ?_
    refine WP.gR (pc := 9) uX1 fX1_9 hs.t2 hs.r2_1 dX1_add_9 ?_
    refine WP.aload_n (pc := 12) dX1_add_12 rfl ?_
    refine WP.gIv (pc := 13) (v := (nI l.length)) uX1 fX1_30 hs.t2 (by simp [up_eq, hc]) dX1_add_13 ?_
    refine WP.iload_n (pc := 16) dX1_add_16 rfl ?_
    refine WP.iast (pc := 17) hs.t3 (by omega) (by decide) dX1_add_17 ?_
    refine WP.aload_n (pc := 18) dX1_add_18 rfl ?_
    refine WP.gR (pc := 19) uX1 fX1_15 hs.t2 hs.r2_2 dX1_add_19 ?_
    refine WP.aload_n (pc := 22) dX1_add_22 rfl ?_
    refine WP.gIv (pc := 23) (v := (nI l.length)) uX1 fX1_30 hs.t2 (by simp [up_eq, hc]) dX1_add_23 ?_
    refine WP.iload_n (pc := 26) dX1_add_26 rfl ?_
    refine WP.iast (pc := 27) hs.t4 (by omega) (by decide) dX1_add_27 ?_
    refine WP.aload_n (pc := 28) dX1_add_28 rfl ?_
    refine WP.gR (pc := 29) uX1 fX1_18 hs.t2 hs.r2_3 dX1_add_29 ?_
    refine WP.aload_n (pc := 32) dX1_add_32 rfl ?_
    refine WP.gIv (pc := 33) (v := (nI l.length)) uX1 fX1_30 hs.t2 (by simp [up_eq, hc]) dX1_add_33 ?_
    refine WP.iload_n (pc := 36) dX1_add_36 rfl ?_
    refine WP.iast (pc := 37) hs.t5 (by omega) (by decide) dX1_add_37 ?_
    refine WP.aload_n (pc := 38) dX1_add_38 rfl ?_
    refine WP.gR (pc := 39) uX1 fX1_21 hs.t2 hs.r2_4 dX1_add_39 ?_
    refine WP.aload_n (pc := 42) dX1_add_42 rfl ?_
    refine WP.gIv (pc := 43) (v := (nI l.length)) uX1 fX1_30 hs.t2 (by simp [up_eq, hc]) dX1_add_43 ?_
    refine WP.iconst (pc := 46) (v := (-1)) dX1_add_46 (by decide) ?_
    refine WP.iast (pc := 47) hs.t6 (by omega) (by decide) dX1_add_47 ?_
    refine WP.aload_n (pc := 48) dX1_add_48 rfl ?_
    refine WP.gR (pc := 49) uX1 fX1_24 hs.t2 hs.r2_5 dX1_add_49 ?_
    refine WP.aload_n (pc := 52) dX1_add_52 rfl ?_
    refine WP.gIv (pc := 53) (v := (nI l.length)) uX1 fX1_30 hs.t2 (by simp [up_eq, hc]) dX1_add_53 ?_
    refine WP.iconst (pc := 56) (v := 0) dX1_add_56 (by decide) ?_
    refine WP.iast (pc := 57) hs.t7 (by omega) (by decide) dX1_add_57 ?_
    refine WP.aload_n (pc := 58) dX1_add_58 rfl ?_
    refine WP.gR (pc := 59) uX1 fX1_27 hs.t2 hs.r2_6 dX1_add_59 ?_
    refine WP.aload_n (pc := 62) dX1_add_62 rfl ?_
    refine WP.gIv (pc := 63) (v := (nI l.length)) uX1 fX1_30 hs.t2 (by simp [up_eq, hc]) dX1_add_63 ?_
    refine WP.iconst (pc := 66) (v := 0) dX1_add_66 (by decide) ?_
    refine WP.iast (pc := 67) hs.t8 (by omega) (by decide) dX1_add_67 ?_
    refine WP.aload_n (pc := 68) dX1_add_68 rfl ?_
    refine WP.dup (pc := 69) dX1_add_69 rfl ?_
    refine WP.gIv (pc := 70) (v := (nI l.length)) uX1 fX1_30 hs.t2 (by simp [up_eq, hc]) dX1_add_70 ?_
    refine WP.iconst (pc := 73) (v := 1) dX1_add_73 (by decide) ?_
    refine WP.iadd (pc := 74) dX1_add_74 ?_
    rw [nI_1]
    refine WP.pI (pc := 75) uX1 fX1_30 rfl rfl hs.t2 dX1_add_75 ?_
    refine WP.vret (pc := 78) rfl dX1_add_78 ?_
    refine ⟨rfl, _, rfl, ((((((fr.rf.up (by omega) (by omega)).up (by omega) (by omega)).up (by omega) (by omega)).up (by omega) (by omega)).up (by omega) (by omega)).up (by omega) (by omega)).up (by omega) (by omega), ⟨by simp [up_eq], by simp; omega, fun i x hx => ?_⟩⟩
    rcases gE_app hx with ⟨h1, h2⟩ | ⟨rfl, rfl⟩
    · obtain ⟨a1, a2, a3, a4, a5, a6⟩ := h.2.2 i x h2
      have : i ≠ l.length := by omega
      simp [up_eq, this, a1, a2, a3, a4, a5, a6]
    · simp [up_eq]
theorem CX1_begin (hs : shS σ b) {I : Nat → Nat → Int32} {l : List mBk} {i : Nat} {e : mBk} (kind : Int32) (he : l[i]? = some e) (h : bkAt I b l) : Ctr Γ (0, 0, 0, 0) MX1_begin [.ref (b + 2), .int (nI i), .int kind] (wI σ I) (rW σ (fun I' => fr I I' (b + 2) 7 ∧ bkAt I' b (l.set i (e.1, e.2.1, e.2.2.1, kind, e.2.2.1, e.2.2.2.2.2)))) := by
  refine Ctr.go rfl (by decide) rfl rfl ?_
  have hc := h.1
  have hl := h.2.1
  have hi := gE_lt he
  refine WP.iload_n (pc := 0) dX1_begin_0 rfl ?_
  refine WP.if_lt (pc := 1) (tgt := 31) dX1_begin_1 (by decide) (fun h1 => ?_) (fun h1 => ?_)
  · exact absurd h1 (nI_pos (by omega))
  · refine WP.iload_n (pc := 4) dX1_begin_4 rfl ?_
    refine WP.aload_n (pc := 5) dX1_begin_5 rfl ?_
    refine WP.gIv (pc := 6) (v := (nI l.length)) uX1 fX1_30 hs.t2 (by simp [up_eq, hc]) dX1_begin_6 ?_
    refine WP.icmp_ge (pc := 9) (tgt := 31) dX1_begin_9 (by decide) (fun h2 => ?_) (fun h2 => ?_)
    · exact absurd h2 (nI_ge (by omega) (by omega))
    · refine WP.aload_n (pc := 12) dX1_begin_12 rfl ?_
      refine WP.gR (pc := 13) uX1 fX1_21 hs.t2 hs.r2_4 dX1_begin_13 ?_
      refine WP.iload_n (pc := 16) dX1_begin_16 rfl ?_
      refine WP.iload_n (pc := 17) dX1_begin_17 rfl ?_
      refine WP.iast (pc := 18) hs.t6 (by omega) (by decide) dX1_begin_18 ?_
      refine WP.aload_n (pc := 19) dX1_begin_19 rfl ?_
      refine WP.gR (pc := 20) uX1 fX1_24 hs.t2 hs.r2_5 dX1_begin_20 ?_
      refine WP.iload_n (pc := 23) dX1_begin_23 rfl ?_
      refine WP.aload_n (pc := 24) dX1_begin_24 rfl ?_
      refine WP.gR (pc := 25) uX1 fX1_18 hs.t2 hs.r2_3 dX1_begin_25 ?_
      refine WP.iload_n (pc := 28) dX1_begin_28 rfl ?_
      refine WP.iald (pc := 29) hs.t5 (by omega) (by decide) dX1_begin_29 ?_
      refine WP.iast (pc := 30) hs.t7 (by omega) (by decide) dX1_begin_30 ?_
      refine WP.vret (pc := 31) rfl dX1_begin_31 ?_
      refine ⟨rfl, _, rfl, (fr.rf.up (by omega) (by omega)).up (by omega) (by omega), ⟨by simp [up_eq, hc], by simpa using hl, fun j x hx => ?_⟩⟩
      obtain ⟨b1, b2, b3, b4, b5, b6⟩ := h.2.2 i e he
      rcases gE_set hx with ⟨rfl, rfl⟩ | ⟨h1, h2⟩
      · simp [up_eq, b1, b2, b3, b6]
      · obtain ⟨a1, a2, a3, a4, a5, a6⟩ := h.2.2 j x h2
        simp [up_eq, h1, a1, a2, a3, a4, a5, a6]
theorem CX1_rest (hs : shS σ b) {I : Nat → Nat → Int32} {l : List mBk} {i : Nat} {e : mBk} (he : l[i]? = some e) (h : bkAt I b l) : Ctr Γ (0, 0, 0, 0) MX1_rest [.ref (b + 2), .int (nI i)] (wI σ I) (rW σ (fun I' => fr I I' (b + 2) 7 ∧ bkAt I' b (l.set i (e.1, e.2.1, e.2.2.1, -1, 0, e.2.2.2.2.2)))) := by
  refine Ctr.go rfl (by decide) rfl rfl ?_
  have hc := h.1
  have hl := h.2.1
  have hi := gE_lt he
  refine WP.iload_n (pc := 0) dX1_rest_0 rfl ?_
  refine WP.if_lt (pc := 1) (tgt := 26) dX1_rest_1 (by decide) (fun h1 => ?_) (fun h1 => ?_)
  · exact absurd h1 (nI_pos (by omega))
  · refine WP.iload_n (pc := 4) dX1_rest_4 rfl ?_
    refine WP.aload_n (pc := 5) dX1_rest_5 rfl ?_
    refine WP.gIv (pc := 6) (v := (nI l.length)) uX1 fX1_30 hs.t2 (by simp [up_eq, hc]) dX1_rest_6 ?_
    refine WP.icmp_ge (pc := 9) (tgt := 26) dX1_rest_9 (by decide) (fun h2 => ?_) (fun h2 => ?_)
    · exact absurd h2 (nI_ge (by omega) (by omega))
    · refine WP.aload_n (pc := 12) dX1_rest_12 rfl ?_
      refine WP.gR (pc := 13) uX1 fX1_21 hs.t2 hs.r2_4 dX1_rest_13 ?_
      refine WP.iload_n (pc := 16) dX1_rest_16 rfl ?_
      refine WP.iconst (pc := 17) (v := (-1)) dX1_rest_17 (by decide) ?_
      refine WP.iast (pc := 18) hs.t6 (by omega) (by decide) dX1_rest_18 ?_
      refine WP.aload_n (pc := 19) dX1_rest_19 rfl ?_
      refine WP.gR (pc := 20) uX1 fX1_24 hs.t2 hs.r2_5 dX1_rest_20 ?_
      refine WP.iload_n (pc := 23) dX1_rest_23 rfl ?_
      refine WP.iconst (pc := 24) (v := 0) dX1_rest_24 (by decide) ?_
      refine WP.iast (pc := 25) hs.t7 (by omega) (by decide) dX1_rest_25 ?_
      refine WP.vret (pc := 26) rfl dX1_rest_26 ?_
      refine ⟨rfl, _, rfl, (fr.rf.up (by omega) (by omega)).up (by omega) (by omega), ⟨by simp [up_eq, hc], by simpa using hl, fun j x hx => ?_⟩⟩
      obtain ⟨b1, b2, b3, b4, b5, b6⟩ := h.2.2 i e he
      rcases gE_set hx with ⟨rfl, rfl⟩ | ⟨h1, h2⟩
      · simp [up_eq, b1, b2, b3, b6]
      · obtain ⟨a1, a2, a3, a4, a5, a6⟩ := h.2.2 j x h2
        simp [up_eq, h1, a1, a2, a3, a4, a5, a6]
theorem CX1_earn (hs : shS σ b) {I : Nat → Nat → Int32} {l : List mBk} {i : Nat} {e : mBk} (coins : Int32) (he : l[i]? = some e) (h : bkAt I b l) : Ctr Γ (0, 0, 0, 0) MX1_earn [.ref (b + 2), .int (nI i), .int coins] (wI σ I) (rW σ (fun I' => fr I I' (b + 2) 7 ∧ bkAt I' b (l.set i (e.1, e.2.1, e.2.2.1, e.2.2.2.1, e.2.2.2.2.1, e.2.2.2.2.2 + coins)))) := by
  refine Ctr.go rfl (by decide) rfl rfl ?_
  have hc := h.1
  have hl := h.2.1
  have hi := gE_lt he
  refine WP.iload_n (pc := 0) dX1_earn_0 rfl ?_
  refine WP.if_lt (pc := 1) (tgt := 22) dX1_earn_1 (by decide) (fun h1 => ?_) (fun h1 => ?_)
  · exact absurd h1 (nI_pos (by omega))
  · refine WP.iload_n (pc := 4) dX1_earn_4 rfl ?_
    refine WP.aload_n (pc := 5) dX1_earn_5 rfl ?_
    refine WP.gIv (pc := 6) (v := (nI l.length)) uX1 fX1_30 hs.t2 (by simp [up_eq, hc]) dX1_earn_6 ?_
    refine WP.icmp_ge (pc := 9) (tgt := 22) dX1_earn_9 (by decide) (fun h2 => ?_) (fun h2 => ?_)
    · exact absurd h2 (nI_ge (by omega) (by omega))
    · refine WP.aload_n (pc := 12) dX1_earn_12 rfl ?_
      refine WP.gR (pc := 13) uX1 fX1_27 hs.t2 hs.r2_6 dX1_earn_13 ?_
      refine WP.iload_n (pc := 16) dX1_earn_16 rfl ?_
      refine WP.dup2 (pc := 17) dX1_earn_17 rfl rfl ?_
      refine WP.iald (pc := 18) hs.t8 (by omega) (by decide) dX1_earn_18 ?_
      refine WP.iload_n (pc := 19) dX1_earn_19 rfl ?_
      refine WP.iadd (pc := 20) dX1_earn_20 ?_
      refine WP.iast (pc := 21) hs.t8 (by omega) (by decide) dX1_earn_21 ?_
      refine WP.vret (pc := 22) rfl dX1_earn_22 ?_
      refine ⟨rfl, _, rfl, (fr.rf.up (by omega) (by omega)), ⟨by simp [up_eq, hc], by simpa using hl, fun j x hx => ?_⟩⟩
      obtain ⟨b1, b2, b3, b4, b5, b6⟩ := h.2.2 i e he
      rcases gE_set hx with ⟨rfl, rfl⟩ | ⟨h1, h2⟩
      · simp [up_eq, b1, b2, b3, b4, b5, b6]
      · obtain ⟨a1, a2, a3, a4, a5, a6⟩ := h.2.2 j x h2
        simp [up_eq, h1, a1, a2, a3, a4, a5, a6]
/-- the loaves in the ovens of the first n bakers -/
def ovN (l : List mBk) : Nat → Int32
  | 0 => 0
  | n + 1 => match l[n]? with
    | some e => if e.2.2.2.1 = -1 then ovN l n else ovN l n + e.2.1
    | none => ovN l n
theorem CX1_loavesInOvens (hs : shS σ b) {I : Nat → Nat → Int32} {l : List mBk} (h : bkAt I b l) : Ctr Γ (0, 0, 0, 0) MX1_loavesInOvens [.ref (b + 2)] (wI σ I) (rV (some (.int (ovN l l.length))) (wI σ I)) := by
  refine Ctr.go rfl (by decide) rfl rfl ?_
  have hc := h.1
  have hl := h.2.1
  refine WP.iconst (pc := 0) (v := 0) dX1_loavesInOvens_0 (by decide) ?_
  refine WP.istore_n (pc := 1) dX1_loavesInOvens_1 (by decide) rfl ?_
  refine WP.iconst (pc := 2) (v := 0) dX1_loavesInOvens_2 (by decide) ?_
  refine WP.istore_n (pc := 3) dX1_loavesInOvens_3 (by decide) rfl ?_
  suffices H : ∀ n i, i + n = l.length → WP Γ (0, 0, 0, 0) MX1_loavesInOvens (rV (some (.int (ovN l l.length))) (wI σ I)) 4 [some (.ref (b + 2)), some (.int (ovN l i)), some (.int (nI i))] [] (wI σ I) from H l.length 0 (by omega)
  intro n
  induction n with
  | zero =>
    intro i hi
    refine WP.iload_n (pc := 4) dX1_loavesInOvens_4 rfl ?_
    refine WP.aload_n (pc := 5) dX1_loavesInOvens_5 rfl ?_
    refine WP.gIv (pc := 6) (v := (nI l.length)) uX1 fX1_30 hs.t2 (by simp [up_eq, hc]) dX1_loavesInOvens_6 ?_
    refine WP.icmp_ge (pc := 9) (tgt := 37) dX1_loavesInOvens_9 (by decide) (fun h1 => ?_) (fun h1 => ?_)
    · refine WP.iload_n (pc := 37) dX1_loavesInOvens_37 rfl ?_
      refine WP.iret (pc := 38) rfl dX1_loavesInOvens_38 ?_
      rw [show i = l.length by omega]
      exact ⟨rfl, rfl⟩
    · exact absurd (by rw [show l.length = i by omega]; exact Int32.le_refl _) h1
  | succ n ih =>
    intro i hi
    obtain ⟨e, he⟩ : ∃ e, l[i]? = some e := ⟨l[i]'(by omega), List.getElem?_eq_getElem (by omega)⟩
    obtain ⟨b1, b2, b3, b4, b5, b6⟩ := h.2.2 i e he
    refine WP.iload_n (pc := 4) dX1_loavesInOvens_4 rfl ?_
    refine WP.aload_n (pc := 5) dX1_loavesInOvens_5 rfl ?_
    refine WP.gIv (pc := 6) (v := (nI l.length)) uX1 fX1_30 hs.t2 (by simp [up_eq, hc]) dX1_loavesInOvens_6 ?_
    refine WP.icmp_ge (pc := 9) (tgt := 37) dX1_loavesInOvens_9 (by decide) (fun h1 => ?_) (fun h1 => ?_)
    · exact absurd h1 (nI_ge (by omega) (by omega))
    · refine WP.aload_n (pc := 12) dX1_loavesInOvens_12 rfl ?_
      refine WP.gR (pc := 13) uX1 fX1_21 hs.t2 hs.r2_4 dX1_loavesInOvens_13 ?_
      refine WP.iload_n (pc := 16) dX1_loavesInOvens_16 rfl ?_
      refine WP.iald (pc := 17) hs.t6 (by omega) (by decide) dX1_loavesInOvens_17 ?_
      refine WP.iconst (pc := 18) (v := (-1)) dX1_loavesInOvens_18 (by decide) ?_
      rw [b4]
      refine WP.icmp_eq (pc := 19) (tgt := 31) dX1_loavesInOvens_19 (by decide) (fun h2 => ?_) (fun h2 => ?_)
      · refine WP.iinc (pc := 31) dX1_loavesInOvens_31 rfl (nI_1 _) (by decide) rfl ?_
        refine WP.goto (pc := 34) (tgt := 4) dX1_loavesInOvens_34 (by decide) ?_
        have e1 : ovN l (i + 1) = ovN l i := by simp [ovN, he, h2]
        have := ih (i + 1) (by omega)
        rw [e1] at this
        exact this
      · refine WP.iload_n (pc := 22) dX1_loavesInOvens_22 rfl ?_
        refine WP.aload_n (pc := 23) dX1_loavesInOvens_23 rfl ?_
        refine WP.gR (pc := 24) uX1 fX1_15 hs.t2 hs.r2_2 dX1_loavesInOvens_24 ?_
        refine WP.iload_n (pc := 27) dX1_loavesInOvens_27 rfl ?_
        refine WP.iald (pc := 28) hs.t4 (by omega) (by decide) dX1_loavesInOvens_28 ?_
        rw [b2]
        refine WP.iadd (pc := 29) dX1_loavesInOvens_29 ?_
        refine WP.istore_n (pc := 30) dX1_loavesInOvens_30 (by decide) rfl ?_
        refine WP.iinc (pc := 31) dX1_loavesInOvens_31 rfl (nI_1 _) (by decide) rfl ?_
        refine WP.goto (pc := 34) (tgt := 4) dX1_loavesInOvens_34 (by decide) ?_
        have e1 : ovN l (i + 1) = ovN l i + e.2.1 := by simp [ovN, he, h2]
        have := ih (i + 1) (by omega)
        rw [e1] at this
        exact this
end T
