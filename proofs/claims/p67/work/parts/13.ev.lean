section T
variable (Γ : cG) {σ : cAS} {b : Nat}
def evAdd (l : List mEv) (e : mEv) : List mEv := (if 30 ≤ l.length then l.tail else l) ++ [e]
theorem evAdd_le {l : List mEv} (h : l.length ≤ 30) (e : mEv) : (evAdd l e).length ≤ 30 := by
  unfold evAdd
  split <;> simp <;> omega
theorem cpy_sh {I : Nat → Nat → Int32} {a0 a sp n k : Nat} (hk : k < n) : cpy I a0 a sp 0 n a k = I a0 (sp + k) := by
  unfold cpy va_cpy
  rw [if_pos rfl, if_pos ⟨by omega, by omega⟩]
  congr 1
theorem LX3_add (hs : shS σ b) {r : cRm} {Φ : cRes → cAS → Prop} {I : Nat → Nat → Int32} {l : List mEv} (t f s : Int32) (hl : l.length < 30) (h : evAt I b l) (H : ∀ I', fr I I' (b + 21) 4 → evAt I' b (l ++ [(t, f, s)]) → Φ (.inl none) (wI σ I')) : WP Γ r MX3_add Φ 60 [some (.ref (b + 21)), some (.int t), some (.int f), some (.int s)] [] (wI σ I) := by
  have hc := h.1
  refine WP.aload_n (pc := 60) dX3_add_60 rfl ?_
  refine WP.gR (pc := 61) uX3 fX3_9 hs.t21 hs.r21_1 dX3_add_61 ?_
  refine WP.aload_n (pc := 64) dX3_add_64 rfl ?_
  refine WP.gIv (pc := 65) (v := (nI l.length)) uX3 fX3_21 hs.t21 (by simp [up_eq, hc]) dX3_add_65 ?_
  refine WP.iload_n (pc := 68) dX3_add_68 rfl ?_
  refine WP.iast (pc := 69) hs.t22 (by omega) (by decide) dX3_add_69 ?_
  refine WP.aload_n (pc := 70) dX3_add_70 rfl ?_
  refine WP.gR (pc := 71) uX3 fX3_15 hs.t21 hs.r21_2 dX3_add_71 ?_
  refine WP.aload_n (pc := 74) dX3_add_74 rfl ?_
  refine WP.gIv (pc := 75) (v := (nI l.length)) uX3 fX3_21 hs.t21 (by simp [up_eq, hc]) dX3_add_75 ?_
  refine WP.iload_n (pc := 78) dX3_add_78 rfl ?_
  refine WP.iast (pc := 79) hs.t23 (by omega) (by decide) dX3_add_79 ?_
  refine WP.aload_n (pc := 80) dX3_add_80 rfl ?_
  refine WP.gR (pc := 81) uX3 fX3_18 hs.t21 hs.r21_3 dX3_add_81 ?_
  refine WP.aload_n (pc := 84) dX3_add_84 rfl ?_
  refine WP.gIv (pc := 85) (v := (nI l.length)) uX3 fX3_21 hs.t21 (by simp [up_eq, hc]) dX3_add_85 ?_
  refine WP.iload_n (pc := 88) dX3_add_88 rfl ?_
  refine WP.iast (pc := 89) hs.t24 (by omega) (by decide) dX3_add_89 ?_
  refine WP.aload_n (pc := 90) dX3_add_90 rfl ?_
  refine WP.dup (pc := 91) dX3_add_91 rfl ?_
  refine WP.gIv (pc := 92) (v := (nI l.length)) uX3 fX3_21 hs.t21 (by simp [up_eq, hc]) dX3_add_92 ?_
  refine WP.iconst (pc := 95) (v := 1) dX3_add_95 (by decide) ?_
  refine WP.iadd (pc := 96) dX3_add_96 ?_
  rw [nI_1]
  refine WP.pI (pc := 97) uX3 fX3_21 rfl rfl hs.t21 dX3_add_97 ?_
  refine WP.vret (pc := 100) rfl dX3_add_100 ?_
  refine H _ (((fr.rf.up (by omega) (by omega)).up (by omega) (by omega)).up (by omega) (by omega) |>.up (by omega) (by omega)) ⟨by simp [up_eq], by simp; omega, fun i x hx => ?_⟩
  rcases gE_app hx with ⟨h1, h2⟩ | ⟨rfl, rfl⟩
  · obtain ⟨a1, a2, a3⟩ := h.2.2 i x h2
    have : i ≠ l.length := by omega
    simp [up_eq, this, a1, a2, a3]
  · simp [up_eq]
theorem CX3_add (hs : shS σ b) {I : Nat → Nat → Int32} {l : List mEv} (t f s : Int32) (h : evAt I b l) : Ctr Γ (1, 40, 0, 0) MX3_add [.ref (b + 21), .int t, .int f, .int s] (wI σ I) (rW σ (fun I' => fr I I' (b + 21) 4 ∧ evAt I' b (evAdd l (t, f, s)))) := by
  refine Ctr.go rfl (by decide) rfl rfl ?_
  have hc := h.1
  have hl := h.2.1
  refine WP.aload_n (pc := 0) dX3_add_0 rfl ?_
  refine WP.gIv (pc := 1) (v := (nI l.length)) uX3 fX3_21 hs.t21 (by simp [up_eq, hc]) dX3_add_1 ?_
  refine WP.bipush (pc := 4) (v := 30) dX3_add_4 (by decide) ?_
  refine WP.icmp_lt (pc := 6) (tgt := 60) dX3_add_6 (by decide) (fun h1 => ?_) (fun h1 => ?_)
  · have hlt : l.length < 30 := (nI_ltI (b := 30) (by omega) (by omega)).mp h1
    refine LX3_add Γ hs t f s hlt h (fun I' a c => ⟨rfl, I', rfl, a, ?_⟩)
    unfold evAdd
    rw [if_neg (by omega)]
    exact c
  · have hge : l.length = 30 := by
      have : ¬ l.length < 30 := fun q => h1 (nI_lt (b := 30) q (by omega))
      omega
    refine WP.aload_n (pc := 9) dX3_add_9 rfl ?_
    refine WP.gR (pc := 10) uX3 fX3_9 hs.t21 hs.r21_1 dX3_add_10 ?_
    refine WP.iconst (pc := 13) (v := 1) dX3_add_13 (by decide) ?_
    refine WP.aload_n (pc := 14) dX3_add_14 rfl ?_
    refine WP.gR (pc := 15) uX3 fX3_9 hs.t21 hs.r21_1 dX3_add_15 ?_
    refine WP.iconst (pc := 18) (v := 0) dX3_add_18 (by decide) ?_
    refine WP.bipush (pc := 19) (v := 29) dX3_add_19 (by decide) ?_
    refine WP.cpy (pc := 21) (sp := 1) (dp := 0) (n := 29) aX3_29 hs.t22 hs.t22 (by omega) (by omega) (by first | decide | omega) (by first | decide | omega) aN1 aN2 aN3 (Nat.le_of_ble_eq_true rfl) (Nat.le_of_ble_eq_true rfl) dX3_add_21 ?_
    refine WP.aload_n (pc := 24) dX3_add_24 rfl ?_
    refine WP.gR (pc := 25) uX3 fX3_15 hs.t21 hs.r21_2 dX3_add_25 ?_
    refine WP.iconst (pc := 28) (v := 1) dX3_add_28 (by decide) ?_
    refine WP.aload_n (pc := 29) dX3_add_29 rfl ?_
    refine WP.gR (pc := 30) uX3 fX3_15 hs.t21 hs.r21_2 dX3_add_30 ?_
    refine WP.iconst (pc := 33) (v := 0) dX3_add_33 (by decide) ?_
    refine WP.bipush (pc := 34) (v := 29) dX3_add_34 (by decide) ?_
    refine WP.cpy (pc := 36) (sp := 1) (dp := 0) (n := 29) aX3_29 hs.t23 hs.t23 (by omega) (by omega) (by first | decide | omega) (by first | decide | omega) aN1 aN2 aN3 (Nat.le_of_ble_eq_true rfl) (Nat.le_of_ble_eq_true rfl) dX3_add_36 ?_
    refine WP.aload_n (pc := 39) dX3_add_39 rfl ?_
    refine WP.gR (pc := 40) uX3 fX3_18 hs.t21 hs.r21_3 dX3_add_40 ?_
    refine WP.iconst (pc := 43) (v := 1) dX3_add_43 (by decide) ?_
    refine WP.aload_n (pc := 44) dX3_add_44 rfl ?_
    refine WP.gR (pc := 45) uX3 fX3_18 hs.t21 hs.r21_3 dX3_add_45 ?_
    refine WP.iconst (pc := 48) (v := 0) dX3_add_48 (by decide) ?_
    refine WP.bipush (pc := 49) (v := 29) dX3_add_49 (by decide) ?_
    refine WP.cpy (pc := 51) (sp := 1) (dp := 0) (n := 29) aX3_29 hs.t24 hs.t24 (by omega) (by omega) (by first | decide | omega) (by first | decide | omega) aN1 aN2 aN3 (Nat.le_of_ble_eq_true rfl) (Nat.le_of_ble_eq_true rfl) dX3_add_51 ?_
    refine WP.aload_n (pc := 54) dX3_add_54 rfl ?_
    refine WP.bipush (pc := 55) (v := 29) dX3_add_55 (by decide) ?_
    refine WP.pI (pc := 57) uX3 fX3_21 rfl rfl hs.t21 dX3_add_57 ?_
    refine LX3_add Γ hs (l := l.tail) t f s (by simp; omega) ⟨by simp [up_eq, hge]; rfl, by simp; omega, fun i e he => ?_⟩ (fun I' a c => ⟨rfl, I', rfl, fr.trans (((fr.rf.cpy (by omega) (by omega)).cpy (by omega) (by omega)).cpy (by omega) (by omega) |>.up (by omega) (by omega)) a, ?_⟩)
    · have hi := gE_lt he
      rw [List.length_tail] at hi
      rw [List.getElem?_tail] at he
      obtain ⟨a1, a2, a3⟩ := h.2.2 _ _ he
      refine ⟨?_, ?_, ?_⟩
      · rw [up_eq, if_neg (by omega), cpy_ne (by omega), cpy_ne (by omega), cpy_sh (by omega), Nat.add_comm 1 i, a1]
      · rw [up_eq, if_neg (by omega), cpy_ne (by omega), cpy_sh (by omega), cpy_ne (by omega), Nat.add_comm 1 i, a2]
      · rw [up_eq, if_neg (by omega), cpy_sh (by omega), cpy_ne (by omega), cpy_ne (by omega), Nat.add_comm 1 i, a3]
    · unfold evAdd
      rw [if_pos (by omega)]
      exact c
theorem CX3_copyFrom {o : Nat} (hs : shS σ b) (ho : shS σ o) (hd : b + 25 ≤ o ∨ o + 25 ≤ b) {I : Nat → Nat → Int32} {l : List mEv} (h : evAt I o l) : Ctr Γ (2, 62, 0, 0) MX3_copyFrom [.ref (b + 21), .ref (o + 21)] (wI σ I) (rW σ (fun I' => fr I I' (b + 21) 4 ∧ evAt I' b l)) := by
  refine Ctr.go rfl (by decide) rfl rfl ?_
  refine WP.aload_n (pc := 0) dX3_copyFrom_0 rfl ?_
  refine WP.aload_n (pc := 1) dX3_copyFrom_1 rfl ?_
  refine WP.gI (pc := 2) uX3 fX3_21 ho.t21 dX3_copyFrom_2 ?_
  refine WP.pI (pc := 5) uX3 fX3_21 rfl rfl hs.t21 dX3_copyFrom_5 ?_
  refine WP.aload_n (pc := 8) dX3_copyFrom_8 rfl ?_
  refine WP.gR (pc := 9) uX3 fX3_9 ho.t21 ho.r21_1 dX3_copyFrom_9 ?_
  refine WP.aload_n (pc := 12) dX3_copyFrom_12 rfl ?_
  refine WP.gR (pc := 13) uX3 fX3_9 hs.t21 hs.r21_1 dX3_copyFrom_13 ?_
  refine WP.cN0 (pc := 16) (mc2 := 0) (ms2 := 0) kX3_25 (CX8_copyRow Γ σ _ ho.t22 hs.t22 (by decide)) rfl ⟨Nat.le_of_ble_eq_true rfl, Nat.le_of_ble_eq_true rfl⟩ (Nat.le_of_ble_eq_true rfl) (Nat.le_of_ble_eq_true rfl) (Nat.le_of_ble_eq_true rfl) rfl dX3_copyFrom_16 ?_
  refine WP.aload_n (pc := 19) dX3_copyFrom_19 rfl ?_
  refine WP.gR (pc := 20) uX3 fX3_15 ho.t21 ho.r21_2 dX3_copyFrom_20 ?_
  refine WP.aload_n (pc := 23) dX3_copyFrom_23 rfl ?_
  refine WP.gR (pc := 24) uX3 fX3_15 hs.t21 hs.r21_2 dX3_copyFrom_24 ?_
  refine WP.cN0 (pc := 27) (mc2 := 0) (ms2 := 0) kX3_25 (CX8_copyRow Γ σ _ ho.t23 hs.t23 (by decide)) rfl ⟨Nat.le_of_ble_eq_true rfl, Nat.le_of_ble_eq_true rfl⟩ (Nat.le_of_ble_eq_true rfl) (Nat.le_of_ble_eq_true rfl) (Nat.le_of_ble_eq_true rfl) rfl dX3_copyFrom_27 ?_
  refine WP.aload_n (pc := 30) dX3_copyFrom_30 rfl ?_
  refine WP.gR (pc := 31) uX3 fX3_18 ho.t21 ho.r21_3 dX3_copyFrom_31 ?_
  refine WP.aload_n (pc := 34) dX3_copyFrom_34 rfl ?_
  refine WP.gR (pc := 35) uX3 fX3_18 hs.t21 hs.r21_3 dX3_copyFrom_35 ?_
  refine WP.cN0 (pc := 38) (mc2 := 0) (ms2 := 0) kX3_25 (CX8_copyRow Γ σ _ ho.t24 hs.t24 (by decide)) rfl ⟨Nat.le_of_ble_eq_true rfl, Nat.le_of_ble_eq_true rfl⟩ (Nat.le_of_ble_eq_true rfl) (Nat.le_of_ble_eq_true rfl) (Nat.le_of_ble_eq_true rfl) rfl dX3_copyFrom_38 ?_
  skip
  refine WP.vret (pc := 41) rfl dX3_copyFrom_41 ?_
  refine ⟨rfl, _, rfl, ((((fr.rf.up (by omega) (by omega)).cpy (by omega) (by omega)).cpy (by omega) (by omega)).cpy (by omega) (by omega)), ?_⟩
  have hn := h.2.1
  refine ⟨?_, hn, fun i e he => ?_⟩
  · rw [cpy_ne (by omega), cpy_ne (by omega), cpy_ne (by omega)]
    simp [up_eq, h.1]
  · have hi := gE_lt he
    obtain ⟨a1, a2, a3⟩ := h.2.2 i e he
    refine ⟨?_, ?_, ?_⟩
    · rw [cpy_ne (by omega), cpy_ne (by omega), cpy_row (by omega), up_eq, if_neg (by omega), a1]
    · rw [cpy_ne (by omega), cpy_row (by omega), cpy_ne (by omega), up_eq, if_neg (by omega), a2]
    · rw [cpy_row (by omega), cpy_ne (by omega), cpy_ne (by omega), up_eq, if_neg (by omega), a3]
end T
