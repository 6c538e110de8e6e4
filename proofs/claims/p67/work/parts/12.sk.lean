section T
variable (Γ : cG) {σ : cAS} {b : Nat}
theorem skAt.app {I : Nat → Nat → Int32} {l : List mLf} {e : mLf} (h : skAt I b l) (hl : l.length < 60) : skAt (up (up (up (up I (b + 10) l.length e.1) (b + 11) l.length e.2.1) (b + 12) l.length e.2.2) (b + 9) 0 (nI (l.length + 1))) b (l ++ [e]) := by
  refine ⟨by simp [up_eq], by simp; omega, fun i x hx => ?_⟩
  rcases gE_app hx with ⟨h1, h2⟩ | ⟨rfl, rfl⟩
  · obtain ⟨a1, a2, a3⟩ := h.2.2 i x h2
    have : i ≠ l.length := by omega
    simp [up_eq, this, a1, a2, a3]
  · simp [up_eq]
theorem LX6_add (hs : shS σ b) {r : cRm} {Φ : cRes → cAS → Prop} (kind baker hour : Int32) : ∀ n i m (I : Nat → Nat → Int32) (l : List mLf), i + n = m → m ≤ 60 → l.length + n ≤ 60 → skAt I b l → (∀ I', fr I I' (b + 9) 4 → skAt I' b (l ++ List.replicate n (kind, baker, hour)) → Φ (.inl none) (wI σ I')) →
    WP Γ r MX6_add Φ 3 [some (.ref (b + 9)), some (.int (nI m)), some (.int kind), some (.int baker), some (.int hour), some (.int (nI i))] [] (wI σ I) := by
  intro n
  induction n with
  | zero =>
    intro i m I l hi hm hl h H
    refine WP.iload (pc := 3) dX6_add_3 rfl ?_
    refine WP.iload_n (pc := 5) dX6_add_5 rfl ?_
    refine WP.icmp_ge (pc := 6) (tgt := 65) dX6_add_6 (by decide) (fun h1 => ?_) (fun h1 => ?_)
    · skip
      refine WP.vret (pc := 65) rfl dX6_add_65 ?_
      exact H I fr.rf (by simpa using h)
    · exact absurd (by rw [show m = i by omega]; exact Int32.le_refl _) h1
  | succ n ih =>
    intro i m I l hi hm hl h H
    have hc := h.1
    refine WP.iload (pc := 3) dX6_add_3 rfl ?_
    refine WP.iload_n (pc := 5) dX6_add_5 rfl ?_
    refine WP.icmp_ge (pc := 6) (tgt := 65) dX6_add_6 (by decide) (fun h1 => ?_) (fun h1 => ?_)
    · exact absurd h1 (nI_ge (by omega) (by omega))
    · refine WP.aload_n (pc := 9) dX6_add_9 rfl ?_
      refine WP.gIv (pc := 10) (v := (nI l.length)) uX6 fX6_21 hs.t9 (by simp [up_eq, hc]) dX6_add_10 ?_
      refine WP.bipush (pc := 13) (v := 60) dX6_add_13 (by decide) ?_
      refine WP.icmp_ge (pc := 15) (tgt := 65) dX6_add_15 (by decide) (fun h2 => ?_) (fun h2 => ?_)
      · exact absurd h2 (nI_ge (b := 60) (by omega) (by omega))
      · refine WP.aload_n (pc := 18) dX6_add_18 rfl ?_
        refine WP.gR (pc := 19) uX6 fX6_9 hs.t9 hs.r9_1 dX6_add_19 ?_
        refine WP.aload_n (pc := 22) dX6_add_22 rfl ?_
        refine WP.gIv (pc := 23) (v := (nI l.length)) uX6 fX6_21 hs.t9 (by simp [up_eq, hc]) dX6_add_23 ?_
        refine WP.iload_n (pc := 26) dX6_add_26 rfl ?_
        refine WP.iast (pc := 27) hs.t10 (by omega) (by decide) dX6_add_27 ?_
        refine WP.aload_n (pc := 28) dX6_add_28 rfl ?_
        refine WP.gR (pc := 29) uX6 fX6_15 hs.t9 hs.r9_2 dX6_add_29 ?_
        refine WP.aload_n (pc := 32) dX6_add_32 rfl ?_
        refine WP.gIv (pc := 33) (v := (nI l.length)) uX6 fX6_21 hs.t9 (by simp [up_eq, hc]) dX6_add_33 ?_
        refine WP.iload_n (pc := 36) dX6_add_36 rfl ?_
        refine WP.iast (pc := 37) hs.t11 (by omega) (by decide) dX6_add_37 ?_
        refine WP.aload_n (pc := 38) dX6_add_38 rfl ?_
        refine WP.gR (pc := 39) uX6 fX6_18 hs.t9 hs.r9_3 dX6_add_39 ?_
        refine WP.aload_n (pc := 42) dX6_add_42 rfl ?_
        refine WP.gIv (pc := 43) (v := (nI l.length)) uX6 fX6_21 hs.t9 (by simp [up_eq, hc]) dX6_add_43 ?_
        refine WP.iload (pc := 46) dX6_add_46 rfl ?_
        refine WP.iast (pc := 48) hs.t12 (by omega) (by decide) dX6_add_48 ?_
        refine WP.aload_n (pc := 49) dX6_add_49 rfl ?_
        refine WP.dup (pc := 50) dX6_add_50 rfl ?_
        refine WP.gIv (pc := 51) (v := (nI l.length)) uX6 fX6_21 hs.t9 (by simp [up_eq, hc]) dX6_add_51 ?_
        refine WP.iconst (pc := 54) (v := 1) dX6_add_54 (by decide) ?_
        refine WP.iadd (pc := 55) dX6_add_55 ?_
        rw [nI_1]
        refine WP.pI (pc := 56) uX6 fX6_21 rfl rfl hs.t9 dX6_add_56 ?_
        refine WP.iinc (pc := 59) dX6_add_59 rfl (nI_1 _) (by decide) rfl ?_
        refine WP.goto (pc := 62) (tgt := 3) dX6_add_62 (by decide) ?_
        refine ih (i + 1) m _ (l ++ [(kind, baker, hour)]) (by omega) hm (by simp; omega) (skAt.app (e := (kind, baker, hour)) h (by omega)) (fun I' hf hk => H I' (fr.trans (((fr.rf.up (by omega) (by omega)).up (by omega) (by omega)).up (by omega) (by omega) |>.up (by omega) (by omega)) hf) ?_)
        rw [List.append_assoc] at hk
        exact hk
theorem CX6_add (hs : shS σ b) {I : Nat → Nat → Int32} {l : List mLf} {n : Nat} (kind baker hour : Int32) (hl : l.length + n ≤ 60) (h : skAt I b l) : Ctr Γ (0, 0, 0, 0) MX6_add [.ref (b + 9), .int (nI n), .int kind, .int baker, .int hour] (wI σ I) (rW σ (fun I' => fr I I' (b + 9) 4 ∧ skAt I' b (l ++ List.replicate n (kind, baker, hour)))) := by
  refine Ctr.go rfl (by decide) rfl rfl ?_
  refine WP.iconst (pc := 0) (v := 0) dX6_add_0 (by decide) ?_
  refine WP.istore (pc := 1) dX6_add_1 (by decide) rfl ?_
  exact LX6_add Γ hs kind baker hour n 0 n I l (by omega) (by omega) hl h (fun I' a c => ⟨rfl, I', rfl, a, c⟩)
def pK (e : mLf) : Bool := decide (e.1 ≠ -1)
theorem tk_app {α : Type} {l : List α} {i : Nat} {e : α} (h : l[i]? = some e) : l.take (i + 1) = l.take i ++ [e] := by
  rw [List.take_add_one, h]
  rfl
theorem ft_le {α : Type} (p : α → Bool) (l : List α) (i : Nat) : ((l.take i).filter p).length ≤ i := Nat.le_trans (List.length_filter_le _ _) (by rw [List.length_take]; omega)
theorem LX6_closeGaps (hs : shS σ b) {r : cRm} {Φ : cRes → cAS → Prop} (l : List mLf) (hl : l.length ≤ 60) : ∀ n i (I : Nat → Nat → Int32), i + n = l.length → I (b + 9) 0 = nI l.length → (∀ j e, ((l.take i).filter pK)[j]? = some e → I (b + 10) j = e.1 ∧ I (b + 11) j = e.2.1 ∧ I (b + 12) j = e.2.2) → (∀ j e, i ≤ j → l[j]? = some e → I (b + 10) j = e.1 ∧ I (b + 11) j = e.2.1 ∧ I (b + 12) j = e.2.2) →
    (∀ I', fr I I' (b + 9) 4 → skAt I' b (l.filter pK) → Φ (.inl none) (wI σ I')) → WP Γ r MX6_closeGaps Φ 4 [some (.ref (b + 9)), some (.int (nI ((l.take i).filter pK).length)), some (.int (nI i))] [] (wI σ I) := by
  intro n
  induction n with
  | zero =>
    intro i I hi hc hk hr H
    refine WP.iload_n (pc := 4) dX6_closeGaps_4 rfl ?_
    refine WP.aload_n (pc := 5) dX6_closeGaps_5 rfl ?_
    refine WP.gIv (pc := 6) (v := (nI l.length)) uX6 fX6_21 hs.t9 (by simp [up_eq, hc]) dX6_closeGaps_6 ?_
    refine WP.icmp_ge (pc := 9) (tgt := 67) dX6_closeGaps_9 (by decide) (fun h1 => ?_) (fun h1 => ?_)
    · refine WP.aload_n (pc := 67) dX6_closeGaps_67 rfl ?_
      refine WP.iload_n (pc := 68) dX6_closeGaps_68 rfl ?_
      refine WP.pI (pc := 69) uX6 fX6_21 rfl rfl hs.t9 dX6_closeGaps_69 ?_
      refine WP.vret (pc := 72) rfl dX6_closeGaps_72 ?_
      rw [List.take_of_length_le (by omega)] at hk ⊢
      refine H _ (fr.rf.up (by omega) (by omega)) ⟨by simp [up_eq], Nat.le_trans (List.length_filter_le _ _) hl, fun j e he => ?_⟩
      obtain ⟨a1, a2, a3⟩ := hk j e he
      simp [up_eq, a1, a2, a3]
    · exact absurd (by rw [show l.length = i by omega]; exact Int32.le_refl _) h1
  | succ n ih =>
    intro i I hi hc hk hr H
    have hkl := ft_le pK l i
    obtain ⟨e, he⟩ : ∃ e, l[i]? = some e := ⟨l[i]'(by omega), List.getElem?_eq_getElem (by omega)⟩
    obtain ⟨e1, e2, e3⟩ := hr i e (Nat.le_refl _) he
    have ht := tk_app he
    refine WP.iload_n (pc := 4) dX6_closeGaps_4 rfl ?_
    refine WP.aload_n (pc := 5) dX6_closeGaps_5 rfl ?_
    refine WP.gIv (pc := 6) (v := (nI l.length)) uX6 fX6_21 hs.t9 (by simp [up_eq, hc]) dX6_closeGaps_6 ?_
    refine WP.icmp_ge (pc := 9) (tgt := 67) dX6_closeGaps_9 (by decide) (fun h1 => ?_) (fun h1 => ?_)
    · exact absurd h1 (nI_ge (by omega) (by omega))
    · refine WP.aload_n (pc := 12) dX6_closeGaps_12 rfl ?_
      refine WP.gR (pc := 13) uX6 fX6_9 hs.t9 hs.r9_1 dX6_closeGaps_13 ?_
      refine WP.iload_n (pc := 16) dX6_closeGaps_16 rfl ?_
      refine WP.iald (pc := 17) hs.t10 (by omega) (by decide) dX6_closeGaps_17 ?_
      refine WP.iconst (pc := 18) (v := (-1)) dX6_closeGaps_18 (by decide) ?_
      refine WP.icmp_eq (pc := 19) (tgt := 61) dX6_closeGaps_19 (by decide) (fun h2 => ?_) (fun h2 => ?_)
      · have hp : pK e = false := by simp [pK, ← e1, h2]
        have hf : (l.take (i + 1)).filter pK = (l.take i).filter pK := by rw [ht, List.filter_append]; simp [hp]
        refine WP.iinc (pc := 61) dX6_closeGaps_61 rfl (nI_1 _) (by decide) rfl ?_
        refine WP.goto (pc := 64) (tgt := 4) dX6_closeGaps_64 (by decide) ?_
        rw [← hf]
        exact ih (i + 1) I (by omega) hc (by rw [hf]; exact hk) (fun j x hj hx => hr j x (by omega) hx) H
      · have hp : pK e = true := by simp [pK, ← e1, h2]
        have hf : (l.take (i + 1)).filter pK = (l.take i).filter pK ++ [e] := by rw [ht, List.filter_append]; simp [hp]
        have hfl : ((l.take (i + 1)).filter pK).length = ((l.take i).filter pK).length + 1 := by rw [hf]; simp
        refine WP.aload_n (pc := 22) dX6_closeGaps_22 rfl ?_
        refine WP.gR (pc := 23) uX6 fX6_9 hs.t9 hs.r9_1 dX6_closeGaps_23 ?_
        refine WP.iload_n (pc := 26) dX6_closeGaps_26 rfl ?_
        refine WP.aload_n (pc := 27) dX6_closeGaps_27 rfl ?_
        refine WP.gR (pc := 28) uX6 fX6_9 hs.t9 hs.r9_1 dX6_closeGaps_28 ?_
        refine WP.iload_n (pc := 31) dX6_closeGaps_31 rfl ?_
        refine WP.iald (pc := 32) hs.t10 (by omega) (by decide) dX6_closeGaps_32 ?_
        refine WP.iast (pc := 33) hs.t10 (by omega) (by decide) dX6_closeGaps_33 ?_
        refine WP.aload_n (pc := 34) dX6_closeGaps_34 rfl ?_
        refine WP.gR (pc := 35) uX6 fX6_15 hs.t9 hs.r9_2 dX6_closeGaps_35 ?_
        refine WP.iload_n (pc := 38) dX6_closeGaps_38 rfl ?_
        refine WP.aload_n (pc := 39) dX6_closeGaps_39 rfl ?_
        refine WP.gR (pc := 40) uX6 fX6_15 hs.t9 hs.r9_2 dX6_closeGaps_40 ?_
        refine WP.iload_n (pc := 43) dX6_closeGaps_43 rfl ?_
        refine WP.iald (pc := 44) hs.t11 (by omega) (by decide) dX6_closeGaps_44 ?_
        refine WP.iast (pc := 45) hs.t11 (by omega) (by decide) dX6_closeGaps_45 ?_
        refine WP.aload_n (pc := 46) dX6_closeGaps_46 rfl ?_
        refine WP.gR (pc := 47) uX6 fX6_18 hs.t9 hs.r9_3 dX6_closeGaps_47 ?_
        refine WP.iload_n (pc := 50) dX6_closeGaps_50 rfl ?_
        refine WP.aload_n (pc := 51) dX6_closeGaps_51 rfl ?_
        refine WP.gR (pc := 52) uX6 fX6_18 hs.t9 hs.r9_3 dX6_closeGaps_52 ?_
        refine WP.iload_n (pc := 55) dX6_closeGaps_55 rfl ?_
        refine WP.iald (pc := 56) hs.t12 (by omega) (by decide) dX6_closeGaps_56 ?_
        refine WP.iast (pc := 57) hs.t12 (by omega) (by decide) dX6_closeGaps_57 ?_
        refine WP.iinc (pc := 58) dX6_closeGaps_58 rfl (nI_1 _) (by decide) rfl ?_
        refine WP.iinc (pc := 61) dX6_closeGaps_61 rfl (nI_1 _) (by decide) rfl ?_
        refine WP.goto (pc := 64) (tgt := 4) dX6_closeGaps_64 (by decide) ?_
        rw [← hfl]
        refine ih (i + 1) _ (by omega) (by simp [up_eq, hc]) (fun j x hj => ?_) (fun j x hj hx => ?_) (fun I' q1 q2 => H I' (fr.trans (((fr.rf.up (by omega) (by omega)).up (by omega) (by omega)).up (by omega) (by omega)) q1) q2)
        · rw [hf] at hj
          rcases gE_app hj with ⟨g1, g2⟩ | ⟨rfl, rfl⟩
          · obtain ⟨a1, a2, a3⟩ := hk j x g2
            have : j ≠ ((l.take i).filter pK).length := by omega
            simp [up_eq, this, a1, a2, a3]
          · simp [up_eq, e1, e2, e3]
        · obtain ⟨a1, a2, a3⟩ := hr j x (by omega) hx
          have : j ≠ ((l.take i).filter pK).length := by omega
          simp [up_eq, this, a1, a2, a3]
theorem CX6_closeGaps (hs : shS σ b) {I : Nat → Nat → Int32} {l : List mLf} (h : skAt I b l) : Ctr Γ (0, 0, 0, 0) MX6_closeGaps [.ref (b + 9)] (wI σ I) (rW σ (fun I' => fr I I' (b + 9) 4 ∧ skAt I' b (l.filter pK))) := by
  refine Ctr.go rfl (by decide) rfl rfl ?_
  refine WP.iconst (pc := 0) (v := 0) dX6_closeGaps_0 (by decide) ?_
  refine WP.istore_n (pc := 1) dX6_closeGaps_1 (by decide) rfl ?_
  refine WP.iconst (pc := 2) (v := 0) dX6_closeGaps_2 (by decide) ?_
  refine WP.istore_n (pc := 3) dX6_closeGaps_3 (by decide) rfl ?_
  exact LX6_closeGaps Γ hs l h.2.1 l.length 0 I (by omega) h.1 (fun j e he => by simp at he) (fun j e _ he => h.2.2 j e he) (fun I' a c => ⟨rfl, I', rfl, a, c⟩)
theorem cpy_row {I : Nat → Nat → Int32} {a0 a n k : Nat} (hk : k < n) : cpy I a0 a 0 0 n a k = I a0 k := by
  unfold cpy va_cpy
  rw [if_pos rfl, if_pos ⟨by omega, by omega⟩]
  congr 1
  omega
theorem cpy_ne {I : Nat → Nat → Int32} {a0 a sp dp n c : Nat} (h : c ≠ a) : cpy I a0 a sp dp n c = I c := by
  funext j
  show (if c = a then _ else _) = _
  rw [if_neg h]
theorem CX6_copyFrom {o : Nat} (hs : shS σ b) (ho : shS σ o) (hd : b + 25 ≤ o ∨ o + 25 ≤ b) {I : Nat → Nat → Int32} {l : List mLf} (h : skAt I o l) : Ctr Γ (2, 62, 0, 0) MX6_copyFrom [.ref (b + 9), .ref (o + 9)] (wI σ I) (rW σ (fun I' => fr I I' (b + 9) 4 ∧ skAt I' b l)) := by
  refine Ctr.go rfl (by decide) rfl rfl ?_
  refine WP.aload_n (pc := 0) dX6_copyFrom_0 rfl ?_
  refine WP.aload_n (pc := 1) dX6_copyFrom_1 rfl ?_
  refine WP.gI (pc := 2) uX6 fX6_21 ho.t9 dX6_copyFrom_2 ?_
  refine WP.pI (pc := 5) uX6 fX6_21 rfl rfl hs.t9 dX6_copyFrom_5 ?_
  refine WP.aload_n (pc := 8) dX6_copyFrom_8 rfl ?_
  refine WP.gR (pc := 9) uX6 fX6_9 ho.t9 ho.r9_1 dX6_copyFrom_9 ?_
  refine WP.aload_n (pc := 12) dX6_copyFrom_12 rfl ?_
  refine WP.gR (pc := 13) uX6 fX6_9 hs.t9 hs.r9_1 dX6_copyFrom_13 ?_
  refine WP.cN0 (pc := 16) (mc2 := 0) (ms2 := 0) kX6_25 (CX8_copyRow Γ σ _ ho.t10 hs.t10 (by decide)) rfl ⟨Nat.le_of_ble_eq_true rfl, Nat.le_of_ble_eq_true rfl⟩ (Nat.le_of_ble_eq_true rfl) (Nat.le_of_ble_eq_true rfl) (Nat.le_of_ble_eq_true rfl) rfl dX6_copyFrom_16 ?_
  refine WP.aload_n (pc := 19) dX6_copyFrom_19 rfl ?_
  refine WP.gR (pc := 20) uX6 fX6_15 ho.t9 ho.r9_2 dX6_copyFrom_20 ?_
  refine WP.aload_n (pc := 23) dX6_copyFrom_23 rfl ?_
  refine WP.gR (pc := 24) uX6 fX6_15 hs.t9 hs.r9_2 dX6_copyFrom_24 ?_
  refine WP.cN0 (pc := 27) (mc2 := 0) (ms2 := 0) kX6_25 (CX8_copyRow Γ σ _ ho.t11 hs.t11 (by decide)) rfl ⟨Nat.le_of_ble_eq_true rfl, Nat.le_of_ble_eq_true rfl⟩ (Nat.le_of_ble_eq_true rfl) (Nat.le_of_ble_eq_true rfl) (Nat.le_of_ble_eq_true rfl) rfl dX6_copyFrom_27 ?_
  refine WP.aload_n (pc := 30) dX6_copyFrom_30 rfl ?_
  refine WP.gR (pc := 31) uX6 fX6_18 ho.t9 ho.r9_3 dX6_copyFrom_31 ?_
  refine WP.aload_n (pc := 34) dX6_copyFrom_34 rfl ?_
  refine WP.gR (pc := 35) uX6 fX6_18 hs.t9 hs.r9_3 dX6_copyFrom_35 ?_
  refine WP.cN0 (pc := 38) (mc2 := 0) (ms2 := 0) kX6_25 (CX8_copyRow Γ σ _ ho.t12 hs.t12 (by decide)) rfl ⟨Nat.le_of_ble_eq_true rfl, Nat.le_of_ble_eq_true rfl⟩ (Nat.le_of_ble_eq_true rfl) (Nat.le_of_ble_eq_true rfl) (Nat.le_of_ble_eq_true rfl) rfl dX6_copyFrom_38 ?_
  skip
  refine WP.vret (pc := 41) rfl dX6_copyFrom_41 ?_
  refine ⟨rfl, _, rfl, ((((fr.rf.up (by omega) (by omega)).cpy (by omega) (by omega)).cpy (by omega) (by omega)).cpy (by omega) (by omega)), ?_⟩
  have hn := h.2.1
  refine ⟨?_, hn, fun i e he => ?_⟩
  · rw [cpy_ne (by omega), cpy_ne (by omega), cpy_ne (by omega)]
    simp [up_eq, h.1]
  · have hi := gE_lt he
    obtain ⟨a1, a2, a3⟩ := h.2.2 i e he
    refine ⟨?_, ?_, ?_⟩
    · rw [cpy_ne (by omega), cpy_ne (by omega), cpy_row (by omega), up_eq, if_neg (by omega), a1]
    · rw [cpy_ne (by omega), cpy_row (by omega), cpy_ne (by omega), up_eq, if_neg (by omega), a2]
    · rw [cpy_row (by omega), cpy_ne (by omega), cpy_ne (by omega), up_eq, if_neg (by omega), a3]
end T
