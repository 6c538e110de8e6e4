section T
variable (Γ : cG) {σ : cAS} {b : Nat}
def rowsCu (I : Nat → Nat → Int32) (b i : Nat) (e : mCu) : Prop := I (b + 14) i = nmA e.1 ∧ I (b + 15) i = e.2.1 ∧ I (b + 16) i = e.2.2.1 ∧ I (b + 17) i = e.2.2.2.1 ∧ I (b + 18) i = e.2.2.2.2.1 ∧ I (b + 19) i = e.2.2.2.2.2.1 ∧ I (b + 20) i = e.2.2.2.2.2.2
theorem CX2_copyFrom {o : Nat} (hs : shS σ b) (ho : shS σ o) (hd : b + 25 ≤ o ∨ o + 25 ≤ b) {I : Nat → Nat → Int32} {l : List mCu} (h : cuAt I o l) : Ctr Γ (2, 62, 0, 0) MX2_copyFrom [.ref (b + 13), .ref (o + 13)] (wI σ I) (rW σ (fun I' => fr I I' (b + 13) 8 ∧ cuAt I' b l ∧ I' (b + 13) 1 = I (o + 13) 1)) := by
  refine Ctr.go rfl (by decide) rfl rfl ?_
  refine WP.aload_n (pc := 0) dX2_copyFrom_0 rfl ?_
  refine WP.aload_n (pc := 1) dX2_copyFrom_1 rfl ?_
  refine WP.gI (pc := 2) uX2 fX2_33 ho.t13 dX2_copyFrom_2 ?_
  refine WP.pI (pc := 5) uX2 fX2_33 rfl rfl hs.t13 dX2_copyFrom_5 ?_
  refine WP.aload_n (pc := 8) dX2_copyFrom_8 rfl ?_
  refine WP.aload_n (pc := 9) dX2_copyFrom_9 rfl ?_
  refine WP.gI (pc := 10) uX2 fX2_37 ho.t13 dX2_copyFrom_10 ?_
  refine WP.pI (pc := 13) uX2 fX2_37 rfl rfl hs.t13 dX2_copyFrom_13 ?_
  refine WP.aload_n (pc := 16) dX2_copyFrom_16 rfl ?_
  refine WP.gR (pc := 17) uX2 fX2_9 ho.t13 ho.r13_2 dX2_copyFrom_17 ?_
  refine WP.aload_n (pc := 20) dX2_copyFrom_20 rfl ?_
  refine WP.gR (pc := 21) uX2 fX2_9 hs.t13 hs.r13_2 dX2_copyFrom_21 ?_
  refine WP.cN0 (pc := 24) (mc2 := 0) (ms2 := 0) kX2_40 (CX8_copyRow Γ σ _ ho.t14 hs.t14 (by decide)) rfl ⟨Nat.le_of_ble_eq_true rfl, Nat.le_of_ble_eq_true rfl⟩ (Nat.le_of_ble_eq_true rfl) (Nat.le_of_ble_eq_true rfl) (Nat.le_of_ble_eq_true rfl) rfl dX2_copyFrom_24 ?_
  refine WP.aload_n (pc := 27) dX2_copyFrom_27 rfl ?_
  refine WP.gR (pc := 28) uX2 fX2_15 ho.t13 ho.r13_3 dX2_copyFrom_28 ?_
  refine WP.aload_n (pc := 31) dX2_copyFrom_31 rfl ?_
  refine WP.gR (pc := 32) uX2 fX2_15 hs.t13 hs.r13_3 dX2_copyFrom_32 ?_
  refine WP.cN0 (pc := 35) (mc2 := 0) (ms2 := 0) kX2_40 (CX8_copyRow Γ σ _ ho.t15 hs.t15 (by decide)) rfl ⟨Nat.le_of_ble_eq_true rfl, Nat.le_of_ble_eq_true rfl⟩ (Nat.le_of_ble_eq_true rfl) (Nat.le_of_ble_eq_true rfl) (Nat.le_of_ble_eq_true rfl) rfl dX2_copyFrom_35 ?_
  refine WP.aload_n (pc := 38) dX2_copyFrom_38 rfl ?_
  refine WP.gR (pc := 39) uX2 fX2_18 ho.t13 ho.r13_4 dX2_copyFrom_39 ?_
  refine WP.aload_n (pc := 42) dX2_copyFrom_42 rfl ?_
  refine WP.gR (pc := 43) uX2 fX2_18 hs.t13 hs.r13_4 dX2_copyFrom_43 ?_
  refine WP.cN0 (pc := 46) (mc2 := 0) (ms2 := 0) kX2_40 (CX8_copyRow Γ σ _ ho.t16 hs.t16 (by decide)) rfl ⟨Nat.le_of_ble_eq_true rfl, Nat.le_of_ble_eq_true rfl⟩ (Nat.le_of_ble_eq_true rfl) (Nat.le_of_ble_eq_true rfl) (Nat.le_of_ble_eq_true rfl) rfl dX2_copyFrom_46 ?_
  refine WP.aload_n (pc := 49) dX2_copyFrom_49 rfl ?_
  refine WP.gR (pc := 50) uX2 fX2_21 ho.t13 ho.r13_5 dX2_copyFrom_50 ?_
  refine WP.aload_n (pc := 53) dX2_copyFrom_53 rfl ?_
  refine WP.gR (pc := 54) uX2 fX2_21 hs.t13 hs.r13_5 dX2_copyFrom_54 ?_
  refine WP.cN0 (pc := 57) (mc2 := 0) (ms2 := 0) kX2_40 (CX8_copyRow Γ σ _ ho.t17 hs.t17 (by decide)) rfl ⟨Nat.le_of_ble_eq_true rfl, Nat.le_of_ble_eq_true rfl⟩ (Nat.le_of_ble_eq_true rfl) (Nat.le_of_ble_eq_true rfl) (Nat.le_of_ble_eq_true rfl) rfl dX2_copyFrom_57 ?_
  refine WP.aload_n (pc := 60) dX2_copyFrom_60 rfl ?_
  refine WP.gR (pc := 61) uX2 fX2_24 ho.t13 ho.r13_6 dX2_copyFrom_61 ?_
  refine WP.aload_n (pc := 64) dX2_copyFrom_64 rfl ?_
  refine WP.gR (pc := 65) uX2 fX2_24 hs.t13 hs.r13_6 dX2_copyFrom_65 ?_
  refine WP.cN0 (pc := 68) (mc2 := 0) (ms2 := 0) kX2_40 (CX8_copyRow Γ σ _ ho.t18 hs.t18 (by decide)) rfl ⟨Nat.le_of_ble_eq_true rfl, Nat.le_of_ble_eq_true rfl⟩ (Nat.le_of_ble_eq_true rfl) (Nat.le_of_ble_eq_true rfl) (Nat.le_of_ble_eq_true rfl) rfl dX2_copyFrom_68 ?_
  refine WP.aload_n (pc := 71) dX2_copyFrom_71 rfl ?_
  refine WP.gR (pc := 72) uX2 fX2_27 ho.t13 ho.r13_7 dX2_copyFrom_72 ?_
  refine WP.aload_n (pc := 75) dX2_copyFrom_75 rfl ?_
  refine WP.gR (pc := 76) uX2 fX2_27 hs.t13 hs.r13_7 dX2_copyFrom_76 ?_
  refine WP.cN0 (pc := 79) (mc2 := 0) (ms2 := 0) kX2_40 (CX8_copyRow Γ σ _ ho.t19 hs.t19 (by decide)) rfl ⟨Nat.le_of_ble_eq_true rfl, Nat.le_of_ble_eq_true rfl⟩ (Nat.le_of_ble_eq_true rfl) (Nat.le_of_ble_eq_true rfl) (Nat.le_of_ble_eq_true rfl) rfl dX2_copyFrom_79 ?_
  refine WP.aload_n (pc := 82) dX2_copyFrom_82 rfl ?_
  refine WP.gR (pc := 83) uX2 fX2_30 ho.t13 ho.r13_8 dX2_copyFrom_83 ?_
  refine WP.aload_n (pc := 86) dX2_copyFrom_86 rfl ?_
  refine WP.gR (pc := 87) uX2 fX2_30 hs.t13 hs.r13_8 dX2_copyFrom_87 ?_
  refine WP.cN0 (pc := 90) (mc2 := 0) (ms2 := 0) kX2_40 (CX8_copyRow Γ σ _ ho.t20 hs.t20 (by decide)) rfl ⟨Nat.le_of_ble_eq_true rfl, Nat.le_of_ble_eq_true rfl⟩ (Nat.le_of_ble_eq_true rfl) (Nat.le_of_ble_eq_true rfl) (Nat.le_of_ble_eq_true rfl) rfl dX2_copyFrom_90 ?_
  skip
  refine WP.vret (pc := 93) rfl dX2_copyFrom_93 ?_
  refine ⟨rfl, _, rfl, (((((((((fr.rf.up (by omega) (by omega)).up (by omega) (by omega)).cpy (by omega) (by omega)).cpy (by omega) (by omega)).cpy (by omega) (by omega)).cpy (by omega) (by omega)).cpy (by omega) (by omega)).cpy (by omega) (by omega)).cpy (by omega) (by omega)), ?_, ?_⟩
  · have hn := h.2.1
    refine ⟨?_, hn, fun i e he => ?_⟩
    · repeat rw [cpy_ne (by omega)]
      simp [up_eq, h.1]
    · have hi := gE_lt he
      obtain ⟨a1, a2, a3, a4, a5, a6, a7⟩ := h.2.2 i e he
      refine ⟨?_, ?_, ?_, ?_, ?_, ?_, ?_⟩
      · rw [cpy_ne (by omega), cpy_ne (by omega), cpy_ne (by omega), cpy_ne (by omega), cpy_ne (by omega), cpy_ne (by omega), cpy_row (by omega), up_eq, if_neg (by omega), up_eq, if_neg (by omega), a1]
      · rw [cpy_ne (by omega), cpy_ne (by omega), cpy_ne (by omega), cpy_ne (by omega), cpy_ne (by omega), cpy_row (by omega), cpy_ne (by omega), up_eq, if_neg (by omega), up_eq, if_neg (by omega), a2]
      · rw [cpy_ne (by omega), cpy_ne (by omega), cpy_ne (by omega), cpy_ne (by omega), cpy_row (by omega), cpy_ne (by omega), cpy_ne (by omega), up_eq, if_neg (by omega), up_eq, if_neg (by omega), a3]
      · rw [cpy_ne (by omega), cpy_ne (by omega), cpy_ne (by omega), cpy_row (by omega), cpy_ne (by omega), cpy_ne (by omega), cpy_ne (by omega), up_eq, if_neg (by omega), up_eq, if_neg (by omega), a4]
      · rw [cpy_ne (by omega), cpy_ne (by omega), cpy_row (by omega), cpy_ne (by omega), cpy_ne (by omega), cpy_ne (by omega), cpy_ne (by omega), up_eq, if_neg (by omega), up_eq, if_neg (by omega), a5]
      · rw [cpy_ne (by omega), cpy_row (by omega), cpy_ne (by omega), cpy_ne (by omega), cpy_ne (by omega), cpy_ne (by omega), cpy_ne (by omega), up_eq, if_neg (by omega), up_eq, if_neg (by omega), a6]
      · rw [cpy_row (by omega), cpy_ne (by omega), cpy_ne (by omega), cpy_ne (by omega), cpy_ne (by omega), cpy_ne (by omega), cpy_ne (by omega), up_eq, if_neg (by omega), up_eq, if_neg (by omega), a7]
  · repeat rw [cpy_ne (by omega)]
    rw [up_eq, if_pos ⟨rfl, rfl⟩, up_eq, if_neg (by omega)]
theorem CX2_add (hs : shS σ b) {I : Nat → Nat → Int32} {l : List mCu} (nm : Nat) (kind wanted limit purse patience : Int32) (hl : l.length < 10) (h : cuAt I b l) : Ctr Γ (0, 0, 0, 0) MX2_add [.ref (b + 13), .int (nmA nm), .int kind, .int wanted, .int limit, .int purse, .int patience] (wI σ I) (rP σ (fun x I' => x = I (b + 13) 1 ∧ fr I I' (b + 13) 8 ∧ cuAt I' b (l ++ [(nm, I (b + 13) 1, kind, wanted, limit, purse, patience)]) ∧ I' (b + 13) 1 = I (b + 13) 1 + 1)) := by
  refine Ctr.go rfl (by decide) rfl rfl ?_
  have hc := h.1
  refine WP.aload_n (pc := 0) dX2_add_0 rfl ?_
  refine WP.gIv (pc := 1) (v := (nI l.length)) uX2 fX2_33 hs.t13 (by simp [up_eq, hc]) dX2_add_1 ?_
  refine WP.bipush (pc := 4) (v := 10) dX2_add_4 (by decide) ?_
  refine WP.icmp_lt (pc := 6) (tgt := 11) dX2_add_6 (by decide) (fun h1 => ?_) (fun h1 => ?_)
  · refine WP.aload_n (pc := 11) dX2_add_11 rfl ?_
    refine WP.gIv (pc := 12) (v := (nI l.length)) uX2 fX2_33 hs.t13 (by simp [up_eq, hc]) dX2_add_12 ?_
    refine WP.istore (pc := 15) dX2_add_15 (by decide) rfl ?_
    refine WP.aload_n (pc := 17) dX2_add_17 rfl ?_
    refine WP.gR (pc := 18) uX2 fX2_9 hs.t13 hs.r13_2 dX2_add_18 ?_
    refine WP.iload (pc := 21) dX2_add_21 rfl ?_
    refine WP.iload_n (pc := 23) dX2_add_23 rfl ?_
    refine WP.iast (pc := 24) hs.t14 (by omega) (by decide) dX2_add_24 ?_
    refine WP.aload_n (pc := 25) dX2_add_25 rfl ?_
    refine WP.gR (pc := 26) uX2 fX2_15 hs.t13 hs.r13_3 dX2_add_26 ?_
    refine WP.iload (pc := 29) dX2_add_29 rfl ?_
    refine WP.aload_n (pc := 31) dX2_add_31 rfl ?_
    refine WP.gI (pc := 32) uX2 fX2_37 hs.t13 dX2_add_32 ?_
    refine WP.iast (pc := 35) hs.t15 (by omega) (by decide) dX2_add_35 ?_
    refine WP.aload_n (pc := 36) dX2_add_36 rfl ?_
    refine WP.gR (pc := 37) uX2 fX2_18 hs.t13 hs.r13_4 dX2_add_37 ?_
    refine WP.iload (pc := 40) dX2_add_40 rfl ?_
    refine WP.iload_n (pc := 42) dX2_add_42 rfl ?_
    refine WP.iast (pc := 43) hs.t16 (by omega) (by decide) dX2_add_43 ?_
    refine WP.aload_n (pc := 44) dX2_add_44 rfl ?_
    refine WP.gR (pc := 45) uX2 fX2_21 hs.t13 hs.r13_5 dX2_add_45 ?_
    refine WP.iload (pc := 48) dX2_add_48 rfl ?_
    refine WP.iload_n (pc := 50) dX2_add_50 rfl ?_
    refine WP.iast (pc := 51) hs.t17 (by omega) (by decide) dX2_add_51 ?_
    refine WP.aload_n (pc := 52) dX2_add_52 rfl ?_
    refine WP.gR (pc := 53) uX2 fX2_24 hs.t13 hs.r13_6 dX2_add_53 ?_
    refine WP.iload (pc := 56) dX2_add_56 rfl ?_
    refine WP.iload (pc := 58) dX2_add_58 rfl ?_
    refine WP.iast (pc := 60) hs.t18 (by omega) (by decide) dX2_add_60 ?_
    refine WP.aload_n (pc := 61) dX2_add_61 rfl ?_
    refine WP.gR (pc := 62) uX2 fX2_27 hs.t13 hs.r13_7 dX2_add_62 ?_
    refine WP.iload (pc := 65) dX2_add_65 rfl ?_
    refine WP.iload (pc := 67) dX2_add_67 rfl ?_
    refine WP.iast (pc := 69) hs.t19 (by omega) (by decide) dX2_add_69 ?_
    refine WP.aload_n (pc := 70) dX2_add_70 rfl ?_
    refine WP.gR (pc := 71) uX2 fX2_30 hs.t13 hs.r13_8 dX2_add_71 ?_
    refine WP.iload (pc := 74) dX2_add_74 rfl ?_
    refine WP.iload (pc := 76) dX2_add_76 rfl ?_
    refine WP.iast (pc := 78) hs.t20 (by omega) (by decide) dX2_add_78 ?_
    refine WP.aload_n (pc := 79) dX2_add_79 rfl ?_
    refine WP.dup (pc := 80) dX2_add_80 rfl ?_
    refine WP.gIv (pc := 81) (v := (nI l.length)) uX2 fX2_33 hs.t13 (by simp [up_eq, hc]) dX2_add_81 ?_
    refine WP.iconst (pc := 84) (v := 1) dX2_add_84 (by decide) ?_
    refine WP.iadd (pc := 85) dX2_add_85 ?_
    rw [nI_1]
    refine WP.pI (pc := 86) uX2 fX2_33 rfl rfl hs.t13 dX2_add_86 ?_
    refine WP.aload_n (pc := 89) dX2_add_89 rfl ?_
    refine WP.dup (pc := 90) dX2_add_90 rfl ?_
    refine WP.gI (pc := 91) uX2 fX2_37 hs.t13 dX2_add_91 ?_
    refine WP.iconst (pc := 94) (v := 1) dX2_add_94 (by decide) ?_
    refine WP.iadd (pc := 95) dX2_add_95 ?_
    refine WP.pI (pc := 96) uX2 fX2_37 rfl rfl hs.t13 dX2_add_96 ?_
    refine WP.aload_n (pc := 99) dX2_add_99 rfl ?_
    refine WP.gR (pc := 100) uX2 fX2_15 hs.t13 hs.r13_3 dX2_add_100 ?_
    refine WP.iload (pc := 103) dX2_add_103 rfl ?_
    refine WP.iald (pc := 105) hs.t15 (by omega) (by decide) dX2_add_105 ?_
    refine WP.iret (pc := 106) rfl dX2_add_106 ?_
    refine ⟨_, _, rfl, rfl, ?_, (((((((((fr.rf.up (by omega) (by omega)).up (by omega) (by omega)).up (by omega) (by omega)).up (by omega) (by omega)).up (by omega) (by omega)).up (by omega) (by omega)).up (by omega) (by omega)).up (by omega) (by omega)).up (by omega) (by omega)), ⟨by simp [up_eq], by simp; omega, fun i x hx => ?_⟩, by simp [up_eq]⟩
    · simp [up_eq]
    · rcases gE_app hx with ⟨h1, h2⟩ | ⟨rfl, rfl⟩
      · obtain ⟨a1, a2, a3, a4, a5, a6, a7⟩ := h.2.2 i x h2
        have : i ≠ l.length := by omega
        simp [up_eq, this, a1, a2, a3, a4, a5, a6, a7]
      · simp [up_eq]
  · exact absurd (nI_lt (b := 10) hl (by omega)) h1
theorem CX2_pay (hs : shS σ b) {I : Nat → Nat → Int32} {l : List mCu} {i : Nat} {e : mCu} (price : Int32) (he : l[i]? = some e) (h : cuAt I b l) : Ctr Γ (0, 0, 0, 0) MX2_pay [.ref (b + 13), .int (nI i), .int price] (wI σ I) (rW σ (fun I' => fr I I' (b + 14) 7 ∧ cuAt I' b (l.set i (e.1, e.2.1, e.2.2.1, e.2.2.2.1 - 1, e.2.2.2.2.1, e.2.2.2.2.2.1 - price, e.2.2.2.2.2.2)))) := by
  refine Ctr.go rfl (by decide) rfl rfl ?_
  have hc := h.1
  have hl := h.2.1
  have hi := gE_lt he
  refine WP.iload_n (pc := 0) dX2_pay_0 rfl ?_
  refine WP.if_lt (pc := 1) (tgt := 32) dX2_pay_1 (by decide) (fun h1 => ?_) (fun h1 => ?_)
  · exact absurd h1 (nI_pos (by omega))
  · refine WP.iload_n (pc := 4) dX2_pay_4 rfl ?_
    refine WP.aload_n (pc := 5) dX2_pay_5 rfl ?_
    refine WP.gIv (pc := 6) (v := (nI l.length)) uX2 fX2_33 hs.t13 (by simp [up_eq, hc]) dX2_pay_6 ?_
    refine WP.icmp_ge (pc := 9) (tgt := 32) dX2_pay_9 (by decide) (fun h2 => ?_) (fun h2 => ?_)
    · exact absurd h2 (nI_ge (by omega) (by omega))
    · refine WP.aload_n (pc := 12) dX2_pay_12 rfl ?_
      refine WP.gR (pc := 13) uX2 fX2_27 hs.t13 hs.r13_7 dX2_pay_13 ?_
      refine WP.iload_n (pc := 16) dX2_pay_16 rfl ?_
      refine WP.dup2 (pc := 17) dX2_pay_17 rfl rfl ?_
      refine WP.iald (pc := 18) hs.t19 (by omega) (by decide) dX2_pay_18 ?_
      refine WP.iload_n (pc := 19) dX2_pay_19 rfl ?_
      refine WP.isub (pc := 20) dX2_pay_20 ?_
      refine WP.iast (pc := 21) hs.t19 (by omega) (by decide) dX2_pay_21 ?_
      refine WP.aload_n (pc := 22) dX2_pay_22 rfl ?_
      refine WP.gR (pc := 23) uX2 fX2_21 hs.t13 hs.r13_5 dX2_pay_23 ?_
      refine WP.iload_n (pc := 26) dX2_pay_26 rfl ?_
      refine WP.dup2 (pc := 27) dX2_pay_27 rfl rfl ?_
      refine WP.iald (pc := 28) hs.t17 (by omega) (by decide) dX2_pay_28 ?_
      refine WP.iconst (pc := 29) (v := 1) dX2_pay_29 (by decide) ?_
      refine WP.isub (pc := 30) dX2_pay_30 ?_
      refine WP.iast (pc := 31) hs.t17 (by omega) (by decide) dX2_pay_31 ?_
      refine WP.vret (pc := 32) rfl dX2_pay_32 ?_
      refine ⟨rfl, _, rfl, (fr.rf.up (by omega) (by omega)).up (by omega) (by omega), ⟨by simp [up_eq, hc], by simpa using hl, fun j x hx => ?_⟩⟩
      obtain ⟨b1, b2, b3, b4, b5, b6, b7⟩ := h.2.2 i e he
      rcases gE_set hx with ⟨rfl, rfl⟩ | ⟨h1, h2⟩
      · simp [up_eq, b1, b2, b3, b4, b5, b6, b7]
      · obtain ⟨a1, a2, a3, a4, a5, a6, a7⟩ := h.2.2 j x h2
        simp [up_eq, h1, a1, a2, a3, a4, a5, a6, a7]
/-- how many bids a customer makes in an auction of the kind -/
def bdI (e : mCu) (kind : Int32) : Int32 := if e.2.2.1 = kind then (if e.2.2.2.2.2.1 / e.2.2.2.2.1 < e.2.2.2.1 then e.2.2.2.2.2.1 / e.2.2.2.2.1 else e.2.2.2.1) else 0
theorem CX2_bidsOf (hs : shS σ b) {I : Nat → Nat → Int32} {l : List mCu} {i : Nat} {e : mCu} (kind : Int32) (he : l[i]? = some e) (hlim : 0 < e.2.2.2.2.1) (h : cuAt I b l) : Ctr Γ (0, 0, 0, 0) MX2_bidsOf [.ref (b + 13), .int (nI i), .int kind] (wI σ I) (rV (some (.int (bdI e kind))) (wI σ I)) := by
  refine Ctr.go rfl (by decide) rfl rfl ?_
  have hc := h.1
  have hl := h.2.1
  have hi := gE_lt he
  obtain ⟨b1, b2, b3, b4, b5, b6, b7⟩ := h.2.2 i e he
  refine WP.iload_n (pc := 0) dX2_bidsOf_0 rfl ?_
  refine WP.if_lt (pc := 1) (tgt := 31) dX2_bidsOf_1 (by decide) (fun h1 => ?_) (fun h1 => ?_)
  · exact absurd h1 (nI_pos (by omega))
  · refine WP.iload_n (pc := 4) dX2_bidsOf_4 rfl ?_
    refine WP.aload_n (pc := 5) dX2_bidsOf_5 rfl ?_
    refine WP.gIv (pc := 6) (v := (nI l.length)) uX2 fX2_33 hs.t13 (by simp [up_eq, hc]) dX2_bidsOf_6 ?_
    refine WP.icmp_ge (pc := 9) (tgt := 31) dX2_bidsOf_9 (by decide) (fun h2 => ?_) (fun h2 => ?_)
    · exact absurd h2 (nI_ge (by omega) (by omega))
    · refine WP.aload_n (pc := 12) dX2_bidsOf_12 rfl ?_
      refine WP.gR (pc := 13) uX2 fX2_18 hs.t13 hs.r13_4 dX2_bidsOf_13 ?_
      refine WP.iload_n (pc := 16) dX2_bidsOf_16 rfl ?_
      refine WP.iald (pc := 17) hs.t16 (by omega) (by decide) dX2_bidsOf_17 ?_
      refine WP.iload_n (pc := 18) dX2_bidsOf_18 rfl ?_
      rw [b3]
      refine WP.icmp_ne (pc := 19) (tgt := 31) dX2_bidsOf_19 (by decide) (fun h3 => ?_) (fun h3 => ?_)
      · refine WP.iconst (pc := 31) (v := 0) dX2_bidsOf_31 (by decide) ?_
        refine WP.iret (pc := 32) rfl dX2_bidsOf_32 ?_
        exact ⟨by simp [bdI, h3], rfl⟩
      · refine WP.aload_n (pc := 22) dX2_bidsOf_22 rfl ?_
        refine WP.gR (pc := 23) uX2 fX2_24 hs.t13 hs.r13_6 dX2_bidsOf_23 ?_
        refine WP.iload_n (pc := 26) dX2_bidsOf_26 rfl ?_
        refine WP.iald (pc := 27) hs.t18 (by omega) (by decide) dX2_bidsOf_27 ?_
        rw [b5]
        refine WP.if_gt (pc := 28) (tgt := 33) dX2_bidsOf_28 (by decide) (fun h4 => ?_) (fun h4 => ?_)
        · refine WP.aload_n (pc := 33) dX2_bidsOf_33 rfl ?_
          refine WP.gR (pc := 34) uX2 fX2_27 hs.t13 hs.r13_7 dX2_bidsOf_34 ?_
          refine WP.iload_n (pc := 37) dX2_bidsOf_37 rfl ?_
          refine WP.iald (pc := 38) hs.t19 (by omega) (by decide) dX2_bidsOf_38 ?_
          refine WP.aload_n (pc := 39) dX2_bidsOf_39 rfl ?_
          refine WP.gR (pc := 40) uX2 fX2_24 hs.t13 hs.r13_6 dX2_bidsOf_40 ?_
          refine WP.iload_n (pc := 43) dX2_bidsOf_43 rfl ?_
          refine WP.iald (pc := 44) hs.t18 (by omega) (by decide) dX2_bidsOf_44 ?_
          rw [b6, b5]
          refine WP.idiv (pc := 45) dX2_bidsOf_45 (fun q => by rw [q] at hlim; exact absurd hlim (by decide)) ?_
          refine WP.istore_n (pc := 46) dX2_bidsOf_46 (by decide) rfl ?_
          refine WP.iload_n (pc := 47) dX2_bidsOf_47 rfl ?_
          refine WP.aload_n (pc := 48) dX2_bidsOf_48 rfl ?_
          refine WP.gR (pc := 49) uX2 fX2_21 hs.t13 hs.r13_5 dX2_bidsOf_49 ?_
          refine WP.iload_n (pc := 52) dX2_bidsOf_52 rfl ?_
          refine WP.iald (pc := 53) hs.t17 (by omega) (by decide) dX2_bidsOf_53 ?_
          rw [b4]
          refine WP.icmp_ge (pc := 54) (tgt := 61) dX2_bidsOf_54 (by decide) (fun h5 => ?_) (fun h5 => ?_)
          · refine WP.aload_n (pc := 61) dX2_bidsOf_61 rfl ?_
            refine WP.gR (pc := 62) uX2 fX2_21 hs.t13 hs.r13_5 dX2_bidsOf_62 ?_
            refine WP.iload_n (pc := 65) dX2_bidsOf_65 rfl ?_
            refine WP.iald (pc := 66) hs.t17 (by omega) (by decide) dX2_bidsOf_66 ?_
            refine WP.iret (pc := 67) rfl dX2_bidsOf_67 ?_
            rw [b4]
            exact ⟨by simp [bdI, h3, Int32.not_lt.mpr h5], rfl⟩
          · refine WP.iload_n (pc := 57) dX2_bidsOf_57 rfl ?_
            refine WP.goto (pc := 58) (tgt := 67) dX2_bidsOf_58 (by decide) ?_
            refine WP.iret (pc := 67) rfl dX2_bidsOf_67 ?_
            exact ⟨by simp [bdI, h3, Int32.not_le.mp h5], rfl⟩
        · exact absurd hlim h4
theorem CX2_move (hs : shS σ b) {I : Nat → Nat → Int32} {f t : Nat} (hf : f < 10) (ht : t < 10) : Ctr Γ (0, 0, 0, 0) MX2_move [.ref (b + 13), .int (nI f), .int (nI t)] (wI σ I) (rW σ (fun I' => fr I I' (b + 14) 7 ∧ ∀ k j, 14 ≤ k → k ≤ 20 → I' (b + k) j = if j = t then I (b + k) f else I (b + k) j)) := by
  refine Ctr.go rfl (by decide) rfl rfl ?_
  refine WP.iload_n (pc := 0) dX2_move_0 rfl ?_
  refine WP.if_lt (pc := 1) (tgt := 20) dX2_move_1 (by decide) (fun h1 => ?_) (fun h1 => ?_)
  · exact absurd h1 (nI_pos (by omega))
  · refine WP.iload_n (pc := 4) dX2_move_4 rfl ?_
    refine WP.bipush (pc := 5) (v := 10) dX2_move_5 (by decide) ?_
    refine WP.icmp_ge (pc := 7) (tgt := 20) dX2_move_7 (by decide) (fun h2 => ?_) (fun h2 => ?_)
    · exact absurd h2 (nI_ge (b := 10) (by omega) (by omega))
    · refine WP.iload_n (pc := 10) dX2_move_10 rfl ?_
      refine WP.if_lt (pc := 11) (tgt := 20) dX2_move_11 (by decide) (fun h3 => ?_) (fun h3 => ?_)
      · exact absurd h3 (nI_pos (by omega))
      · refine WP.iload_n (pc := 14) dX2_move_14 rfl ?_
        refine WP.bipush (pc := 15) (v := 10) dX2_move_15 (by decide) ?_
        refine WP.icmp_lt (pc := 17) (tgt := 21) dX2_move_17 (by decide) (fun h4 => ?_) (fun h4 => ?_)
        · refine WP.aload_n (pc := 21) dX2_move_21 rfl ?_
          refine WP.gR (pc := 22) uX2 fX2_9 hs.t13 hs.r13_2 dX2_move_22 ?_
          refine WP.iload_n (pc := 25) dX2_move_25 rfl ?_
          refine WP.aload_n (pc := 26) dX2_move_26 rfl ?_
          refine WP.gR (pc := 27) uX2 fX2_9 hs.t13 hs.r13_2 dX2_move_27 ?_
          refine WP.iload_n (pc := 30) dX2_move_30 rfl ?_
          refine WP.iald (pc := 31) hs.t14 (by omega) (by decide) dX2_move_31 ?_
          refine WP.iast (pc := 32) hs.t14 (by omega) (by decide) dX2_move_32 ?_
          refine WP.aload_n (pc := 33) dX2_move_33 rfl ?_
          refine WP.gR (pc := 34) uX2 fX2_15 hs.t13 hs.r13_3 dX2_move_34 ?_
          refine WP.iload_n (pc := 37) dX2_move_37 rfl ?_
          refine WP.aload_n (pc := 38) dX2_move_38 rfl ?_
          refine WP.gR (pc := 39) uX2 fX2_15 hs.t13 hs.r13_3 dX2_move_39 ?_
          refine WP.iload_n (pc := 42) dX2_move_42 rfl ?_
          refine WP.iald (pc := 43) hs.t15 (by omega) (by decide) dX2_move_43 ?_
          refine WP.iast (pc := 44) hs.t15 (by omega) (by decide) dX2_move_44 ?_
          refine WP.aload_n (pc := 45) dX2_move_45 rfl ?_
          refine WP.gR (pc := 46) uX2 fX2_18 hs.t13 hs.r13_4 dX2_move_46 ?_
          refine WP.iload_n (pc := 49) dX2_move_49 rfl ?_
          refine WP.aload_n (pc := 50) dX2_move_50 rfl ?_
          refine WP.gR (pc := 51) uX2 fX2_18 hs.t13 hs.r13_4 dX2_move_51 ?_
          refine WP.iload_n (pc := 54) dX2_move_54 rfl ?_
          refine WP.iald (pc := 55) hs.t16 (by omega) (by decide) dX2_move_55 ?_
          refine WP.iast (pc := 56) hs.t16 (by omega) (by decide) dX2_move_56 ?_
          refine WP.aload_n (pc := 57) dX2_move_57 rfl ?_
          refine WP.gR (pc := 58) uX2 fX2_21 hs.t13 hs.r13_5 dX2_move_58 ?_
          refine WP.iload_n (pc := 61) dX2_move_61 rfl ?_
          refine WP.aload_n (pc := 62) dX2_move_62 rfl ?_
          refine WP.gR (pc := 63) uX2 fX2_21 hs.t13 hs.r13_5 dX2_move_63 ?_
          refine WP.iload_n (pc := 66) dX2_move_66 rfl ?_
          refine WP.iald (pc := 67) hs.t17 (by omega) (by decide) dX2_move_67 ?_
          refine WP.iast (pc := 68) hs.t17 (by omega) (by decide) dX2_move_68 ?_
          refine WP.aload_n (pc := 69) dX2_move_69 rfl ?_
          refine WP.gR (pc := 70) uX2 fX2_24 hs.t13 hs.r13_6 dX2_move_70 ?_
          refine WP.iload_n (pc := 73) dX2_move_73 rfl ?_
          refine WP.aload_n (pc := 74) dX2_move_74 rfl ?_
          refine WP.gR (pc := 75) uX2 fX2_24 hs.t13 hs.r13_6 dX2_move_75 ?_
          refine WP.iload_n (pc := 78) dX2_move_78 rfl ?_
          refine WP.iald (pc := 79) hs.t18 (by omega) (by decide) dX2_move_79 ?_
          refine WP.iast (pc := 80) hs.t18 (by omega) (by decide) dX2_move_80 ?_
          refine WP.aload_n (pc := 81) dX2_move_81 rfl ?_
          refine WP.gR (pc := 82) uX2 fX2_27 hs.t13 hs.r13_7 dX2_move_82 ?_
          refine WP.iload_n (pc := 85) dX2_move_85 rfl ?_
          refine WP.aload_n (pc := 86) dX2_move_86 rfl ?_
          refine WP.gR (pc := 87) uX2 fX2_27 hs.t13 hs.r13_7 dX2_move_87 ?_
          refine WP.iload_n (pc := 90) dX2_move_90 rfl ?_
          refine WP.iald (pc := 91) hs.t19 (by omega) (by decide) dX2_move_91 ?_
          refine WP.iast (pc := 92) hs.t19 (by omega) (by decide) dX2_move_92 ?_
          refine WP.aload_n (pc := 93) dX2_move_93 rfl ?_
          refine WP.gR (pc := 94) uX2 fX2_30 hs.t13 hs.r13_8 dX2_move_94 ?_
          refine WP.iload_n (pc := 97) dX2_move_97 rfl ?_
          refine WP.aload_n (pc := 98) dX2_move_98 rfl ?_
          refine WP.gR (pc := 99) uX2 fX2_30 hs.t13 hs.r13_8 dX2_move_99 ?_
          refine WP.iload_n (pc := 102) dX2_move_102 rfl ?_
          refine WP.iald (pc := 103) hs.t20 (by omega) (by decide) dX2_move_103 ?_
          refine WP.iast (pc := 104) hs.t20 (by omega) (by decide) dX2_move_104 ?_
          refine WP.vret (pc := 105) rfl dX2_move_105 ?_
          refine ⟨rfl, _, rfl, ((((((fr.rf.up (by omega) (by omega)).up (by omega) (by omega)).up (by omega) (by omega)).up (by omega) (by omega)).up (by omega) (by omega)).up (by omega) (by omega)).up (by omega) (by omega), fun k j h1 h2 => ?_⟩
          rcases (show k = 14 ∨ k = 15 ∨ k = 16 ∨ k = 17 ∨ k = 18 ∨ k = 19 ∨ k = 20 by omega) with rfl | rfl | rfl | rfl | rfl | rfl | rfl <;> simp [up_eq]
        · exact absurd (nI_lt (b := 10) ht (by omega)) h4
def pC (e : mCu) : Bool := decide (e.2.1 ≠ -1)
theorem LX2_closeGaps (hs : shS σ b) {Φ : cRes → cAS → Prop} (l : List mCu) (hl : l.length ≤ 10) : ∀ n i (I : Nat → Nat → Int32), i + n = l.length → I (b + 13) 0 = nI l.length → (∀ j e, ((l.take i).filter pC)[j]? = some e → rowsCu I b j e) → (∀ j e, i ≤ j → l[j]? = some e → rowsCu I b j e) →
    (∀ I', fr I I' (b + 13) 8 → I' (b + 13) 1 = I (b + 13) 1 → cuAt I' b (l.filter pC) → Φ (.inl none) (wI σ I')) → WP Γ (1, 22, 0, 0) MX2_closeGaps Φ 4 [some (.ref (b + 13)), some (.int (nI ((l.take i).filter pC).length)), some (.int (nI i))] [] (wI σ I) := by
  intro n
  induction n with
  | zero =>
    intro i I hi hc hk hr H
    refine WP.iload_n (pc := 4) dX2_closeGaps_4 rfl ?_
    refine WP.aload_n (pc := 5) dX2_closeGaps_5 rfl ?_
    refine WP.gIv (pc := 6) (v := (nI l.length)) uX2 fX2_33 hs.t13 (by simp [up_eq, hc]) dX2_closeGaps_6 ?_
    refine WP.icmp_ge (pc := 9) (tgt := 37) dX2_closeGaps_9 (by decide) (fun h1 => ?_) (fun h1 => ?_)
    · refine WP.aload_n (pc := 37) dX2_closeGaps_37 rfl ?_
      refine WP.iload_n (pc := 38) dX2_closeGaps_38 rfl ?_
      refine WP.pI (pc := 39) uX2 fX2_33 rfl rfl hs.t13 dX2_closeGaps_39 ?_
      refine WP.vret (pc := 42) rfl dX2_closeGaps_42 ?_
      rw [List.take_of_length_le (by omega)] at hk ⊢
      refine H _ (fr.rf.up (by omega) (by omega)) (by simp [up_eq]) ⟨by simp [up_eq], Nat.le_trans (List.length_filter_le _ _) hl, fun j e he => ?_⟩
      obtain ⟨a1, a2, a3, a4, a5, a6, a7⟩ := hk j e he
      simp [up_eq, a1, a2, a3, a4, a5, a6, a7]
    · exact absurd (by rw [show l.length = i by omega]; exact Int32.le_refl _) h1
  | succ n ih =>
    intro i I hi hc hk hr H
    have hkl := ft_le pC l i
    obtain ⟨e, he⟩ : ∃ e, l[i]? = some e := ⟨l[i]'(by omega), List.getElem?_eq_getElem (by omega)⟩
    obtain ⟨e1, e2, e3, e4, e5, e6, e7⟩ := hr i e (Nat.le_refl _) he
    have ht := tk_app he
    refine WP.iload_n (pc := 4) dX2_closeGaps_4 rfl ?_
    refine WP.aload_n (pc := 5) dX2_closeGaps_5 rfl ?_
    refine WP.gIv (pc := 6) (v := (nI l.length)) uX2 fX2_33 hs.t13 (by simp [up_eq, hc]) dX2_closeGaps_6 ?_
    refine WP.icmp_ge (pc := 9) (tgt := 37) dX2_closeGaps_9 (by decide) (fun h1 => ?_) (fun h1 => ?_)
    · exact absurd h1 (nI_ge (by omega) (by omega))
    · refine WP.aload_n (pc := 12) dX2_closeGaps_12 rfl ?_
      refine WP.gR (pc := 13) uX2 fX2_15 hs.t13 hs.r13_3 dX2_closeGaps_13 ?_
      refine WP.iload_n (pc := 16) dX2_closeGaps_16 rfl ?_
      refine WP.iald (pc := 17) hs.t15 (by omega) (by decide) dX2_closeGaps_17 ?_
      refine WP.iconst (pc := 18) (v := (-1)) dX2_closeGaps_18 (by decide) ?_
      refine WP.icmp_eq (pc := 19) (tgt := 31) dX2_closeGaps_19 (by decide) (fun h2 => ?_) (fun h2 => ?_)
      · have hp : pC e = false := by simp [pC, ← e2, h2]
        have hf : (l.take (i + 1)).filter pC = (l.take i).filter pC := by rw [ht, List.filter_append]; simp [hp]
        refine WP.iinc (pc := 31) dX2_closeGaps_31 rfl (nI_1 _) (by decide) rfl ?_
        refine WP.goto (pc := 34) (tgt := 4) dX2_closeGaps_34 (by decide) ?_
        rw [← hf]
        exact ih (i + 1) I (by omega) hc (by rw [hf]; exact hk) (fun j x hj hx => hr j x (by omega) hx) H
      · have hp : pC e = true := by simp [pC, ← e2, h2]
        have hf : (l.take (i + 1)).filter pC = (l.take i).filter pC ++ [e] := by rw [ht, List.filter_append]; simp [hp]
        have hfl : ((l.take (i + 1)).filter pC).length = ((l.take i).filter pC).length + 1 := by rw [hf]; simp
        refine WP.aload_n (pc := 22) dX2_closeGaps_22 rfl ?_
        refine WP.iload_n (pc := 23) dX2_closeGaps_23 rfl ?_
        refine WP.iload_n (pc := 24) dX2_closeGaps_24 rfl ?_
        refine WP.cVw (pc := 25) (mc2 := 0) (ms2 := 0) (ci := 2) kX2_44 (CX2_move Γ hs (by omega) (by omega)) (by decide) rfl hs.t13 rfl ⟨Nat.le_of_ble_eq_true rfl, Nat.le_of_ble_eq_true rfl⟩ (Nat.le_of_ble_eq_true rfl) (Nat.le_of_ble_eq_true rfl) (Nat.le_of_ble_eq_true rfl) rfl dX2_closeGaps_25 (fun I1 ⟨g1, g2⟩ => ?_)
        refine WP.iinc (pc := 28) dX2_closeGaps_28 rfl (nI_1 _) (by decide) rfl ?_
        refine WP.iinc (pc := 31) dX2_closeGaps_31 rfl (nI_1 _) (by decide) rfl ?_
        refine WP.goto (pc := 34) (tgt := 4) dX2_closeGaps_34 (by decide) ?_
        rw [← hfl]
        refine ih (i + 1) _ (by omega) (by rw [g1 _ (by omega)]; exact hc) (fun j x hj => ?_) (fun j x hj hx => ?_) (fun I' q1 q2 q3 => H I' (fr.trans (g1.mono (by omega) (by omega)) q1) (by rw [q2, g1 _ (by omega)]) q3)
        · unfold rowsCu
          rw [g2 14 j (by omega) (by omega), g2 15 j (by omega) (by omega), g2 16 j (by omega) (by omega), g2 17 j (by omega) (by omega), g2 18 j (by omega) (by omega), g2 19 j (by omega) (by omega), g2 20 j (by omega) (by omega)]
          rw [hf] at hj
          rcases gE_app hj with ⟨k1, k2⟩ | ⟨rfl, rfl⟩
          · obtain ⟨a1, a2, a3, a4, a5, a6, a7⟩ := hk j x k2
            have : j ≠ ((l.take i).filter pC).length := by omega
            simp [this, a1, a2, a3, a4, a5, a6, a7]
          · simp [e1, e2, e3, e4, e5, e6, e7]
        · unfold rowsCu
          rw [g2 14 j (by omega) (by omega), g2 15 j (by omega) (by omega), g2 16 j (by omega) (by omega), g2 17 j (by omega) (by omega), g2 18 j (by omega) (by omega), g2 19 j (by omega) (by omega), g2 20 j (by omega) (by omega)]
          obtain ⟨a1, a2, a3, a4, a5, a6, a7⟩ := hr j x (by omega) hx
          have : j ≠ ((l.take i).filter pC).length := by omega
          simp [this, a1, a2, a3, a4, a5, a6, a7]
theorem CX2_closeGaps (hs : shS σ b) {I : Nat → Nat → Int32} {l : List mCu} (h : cuAt I b l) : Ctr Γ (1, 22, 0, 0) MX2_closeGaps [.ref (b + 13)] (wI σ I) (rW σ (fun I' => fr I I' (b + 13) 8 ∧ I' (b + 13) 1 = I (b + 13) 1 ∧ cuAt I' b (l.filter pC))) := by
  refine Ctr.go rfl (by decide) rfl rfl ?_
  refine WP.iconst (pc := 0) (v := 0) dX2_closeGaps_0 (by decide) ?_
  refine WP.istore_n (pc := 1) dX2_closeGaps_1 (by decide) rfl ?_
  refine WP.iconst (pc := 2) (v := 0) dX2_closeGaps_2 (by decide) ?_
  refine WP.istore_n (pc := 3) dX2_closeGaps_3 (by decide) rfl ?_
  exact LX2_closeGaps Γ hs l h.2.1 l.length 0 I (by omega) h.1 (fun j e he => by simp at he) (fun j e _ he => h.2.2 j e he) (fun I' a c d => ⟨rfl, I', rfl, a, c, d⟩)
end T
