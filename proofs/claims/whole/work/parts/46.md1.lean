-- behind: 29 30 45
-- the model's hours
section T
variable (Γ : cG) {σ : cAS} {a : Nat}
theorem LX9_halve {r : cRm} (hg : aT σ a = (11, 380)) {ag b : Nat} (ha : ag ≤ 2000) (hb : b ≤ 99) {Φ : cRes → cAS → Prop} {I : Nat → Nat → Int32} (H : Φ (.inl (some (.int (nI (b / 2 ^ (ag / 4)))))) (wI σ I)) : ∀ d i, i + d = ag / 4 →
    WP Γ r MX9_reserveOf Φ 56 [some (.ref a), some (.int (nI 2)), some (.int (nI ag)), some (.int (nI b)), some (.int (nI (b / 2 ^ i))), some (.int (nI i))] [] (wI σ I) := by
  have e4 : nI ag / 4 = nI (ag / 4) := by rw [show (4 : Int32) = nI 4 from rfl, pk_div (by omega) (by omega) (by omega)]
  have hle : ∀ i, b / 2 ^ i ≤ 99 := fun i => Nat.le_trans (Nat.div_le_self _ _) hb
  intro d
  induction d with
  | zero =>
    intro i hi
    refine WP.iload (pc := 56) dX9_reserveOf_56 rfl ?_
    refine WP.iload_n (pc := 58) dX9_reserveOf_58 rfl ?_
    refine WP.iconst (pc := 59) (v := 4) dX9_reserveOf_59 (by decide) ?_
    refine WP.idiv (pc := 60) dX9_reserveOf_60 (by decide) ?_
    rw [e4]
    refine WP.icmp_ge (pc := 61) (tgt := 81) dX9_reserveOf_61 (by decide) (fun h1 => ?_) (fun h1 => ?_)
    · refine WP.iload (pc := 81) dX9_reserveOf_81 rfl ?_
      refine WP.iret (pc := 83) rfl dX9_reserveOf_83 ?_
      rw [show i = ag / 4 by omega]
      exact H
    · exact absurd (by rw [show i = ag / 4 by omega]; exact Int32.le_refl _) h1
  | succ d ih =>
    intro i hi
    refine WP.iload (pc := 56) dX9_reserveOf_56 rfl ?_
    refine WP.iload_n (pc := 58) dX9_reserveOf_58 rfl ?_
    refine WP.iconst (pc := 59) (v := 4) dX9_reserveOf_59 (by decide) ?_
    refine WP.idiv (pc := 60) dX9_reserveOf_60 (by decide) ?_
    rw [e4]
    refine WP.icmp_ge (pc := 61) (tgt := 81) dX9_reserveOf_61 (by decide) (fun h1 => ?_) (fun h1 => ?_)
    · exact absurd h1 (nI_ge (by omega) (by omega))
    · refine WP.iload (pc := 64) dX9_reserveOf_64 rfl ?_
      refine WP.if_le (pc := 66) (tgt := 81) dX9_reserveOf_66 (by decide) (fun h2 => ?_) (fun h2 => ?_)
      · refine WP.iload (pc := 81) dX9_reserveOf_81 rfl ?_
        refine WP.iret (pc := 83) rfl dX9_reserveOf_83 ?_
        have h0 : b / 2 ^ i = 0 := Nat.eq_zero_of_not_pos fun q => nI_nle q (by have := hle i; omega) h2
        have h3 : b / 2 ^ (ag / 4) = 0 := by
          have : b / 2 ^ (ag / 4) ≤ b / 2 ^ i := Nat.div_le_div_left (Nat.pow_le_pow_right (by decide) (by omega)) (Nat.two_pow_pos i)
          rw [h0] at this
          exact Nat.eq_zero_of_le_zero this
        rw [h0, ← h3]
        exact H
      · refine WP.iload (pc := 69) dX9_reserveOf_69 rfl ?_
        refine WP.iconst (pc := 71) (v := 2) dX9_reserveOf_71 (by decide) ?_
        refine WP.idiv (pc := 72) dX9_reserveOf_72 (by decide) ?_
        have e2 : nI (b / 2 ^ i) / 2 = nI (b / 2 ^ (i + 1)) := by
          rw [show (2 : Int32) = nI 2 from rfl, pk_div (by have := hle i; omega) (by omega) (by omega), Nat.div_div_eq_div_mul, Nat.pow_succ]
        rw [e2]
        refine WP.istore (pc := 73) dX9_reserveOf_73 (by decide) rfl ?_
        refine WP.iinc (pc := 75) dX9_reserveOf_75 rfl (nI_1 _) (by decide) rfl ?_
        refine WP.goto (pc := 78) (tgt := 56) dX9_reserveOf_78 (by decide) ?_
        exact ih (i + 1) (by omega)
theorem CX9_reserveOf (hg : aT σ a = (11, 380)) {k b ag : Nat} (hk : k < 3) (hb : b ≤ 99) (ha : ag ≤ 2000) {I : Nat → Nat → Int32} (hI : I a (13 + k) = nI b) : Ctr Γ (1, 20, 0, 0) MX9_reserveOf [.ref a, .int (nI k), .int (nI ag)] (wI σ I) (rV (some (.int (nI (rsvN k b ag)))) (wI σ I)) := by
  have hr := rsv_N hk hb ha
  have hba : b * ag ≤ 99 * 2000 := Nat.mul_le_mul hb ha
  refine Ctr.go rfl (by decide) rfl rfl ?_
  refine WP.aload_n (pc := 0) dX9_reserveOf_0 rfl ?_
  refine WP.bipush (pc := 1) (v := 13) dX9_reserveOf_1 (by decide) ?_
  refine WP.iload_n (pc := 3) dX9_reserveOf_3 rfl ?_
  refine WP.iaN (pc := 4) (a := 13) dX9_reserveOf_4 ?_
  refine WP.ialdv (pc := 5) hg (by omega) (by omega) (v := (nI b)) (hI) dX9_reserveOf_5 ?_
  refine WP.istore_n (pc := 6) dX9_reserveOf_6 (by decide) rfl ?_
  refine WP.iload_n (pc := 7) dX9_reserveOf_7 rfl ?_
  refine WP.if_ne (pc := 8) (tgt := 33) dX9_reserveOf_8 (by decide) (fun h1 => ?_) (fun h1 => ?_)
  · refine WP.iload_n (pc := 33) dX9_reserveOf_33 rfl ?_
    refine WP.iconst (pc := 34) (v := 1) dX9_reserveOf_34 (by decide) ?_
    refine WP.icmp_ne (pc := 35) (tgt := 50) dX9_reserveOf_35 (by decide) (fun h2 => ?_) (fun h2 => ?_)
    · have hk2 : k = 2 := by
        have q0 : k ≠ 0 := fun q => h1 (by rw [q]; rfl)
        have q1 : k ≠ 1 := fun q => h2 (by rw [q]; rfl)
        omega
      subst hk2
      refine WP.iload_n (pc := 50) dX9_reserveOf_50 rfl ?_
      refine WP.istore (pc := 51) dX9_reserveOf_51 (by decide) rfl ?_
      refine WP.iconst (pc := 53) (v := 0) dX9_reserveOf_53 (by decide) ?_
      refine WP.istore (pc := 54) dX9_reserveOf_54 (by decide) rfl ?_
      have hh := fun H => LX9_halve (I := I) (r := (1, 20, 0, 0)) (Φ := rV (some (.int (nI (rsvN 2 b ag)))) (wI σ I)) Γ hg ha hb H (ag / 4) 0 (by omega)
      rw [Nat.pow_zero, Nat.div_one] at hh
      refine hh ?_
      have e : b / 2 ^ (ag / 4) = rsvN 2 b ag := by
        unfold rsvN
        rw [if_neg (by decide), if_neg (by decide)]
        by_cases q : 7 < ag / 4
        · rw [if_pos q, Nat.div_eq_of_lt]
          have : 2 ^ 7 ≤ 2 ^ (ag / 4) := Nat.pow_le_pow_right (by decide) (by omega)
          have e7 : 2 ^ 7 = 128 := by decide
          omega
        · rw [if_neg q]
      rw [e]
      exact ⟨rfl, rfl⟩
    · have hk1 : k = 1 := (nI_eq (b := 1) (by omega) (by decide)).mp h2
      subst hk1
      refine WP.iload_n (pc := 38) dX9_reserveOf_38 rfl ?_
      refine WP.iload_n (pc := 39) dX9_reserveOf_39 rfl ?_
      refine WP.iload_n (pc := 40) dX9_reserveOf_40 rfl ?_
      refine WP.imN (pc := 41) dX9_reserveOf_41 ?_
      refine WP.bipush (pc := 42) (v := 20) dX9_reserveOf_42 (by decide) ?_
      refine WP.idiv (pc := 44) dX9_reserveOf_44 (by decide) ?_
      refine WP.isub (pc := 45) dX9_reserveOf_45 ?_
      refine WP.cS1 (pc := 46) (mc2 := 0) (ms2 := 0) kX9_86 (CX9_positive Γ (nI b - nI (b * ag) / 20)) rfl ⟨Nat.le_of_ble_eq_true rfl, Nat.le_of_ble_eq_true rfl⟩ (Nat.le_of_ble_eq_true rfl) (Nat.le_of_ble_eq_true rfl) (Nat.le_of_ble_eq_true rfl) rfl dX9_reserveOf_46 ?_
      refine WP.iret (pc := 49) rfl dX9_reserveOf_49 ?_
      unfold rsv at hr
      rw [if_neg (by decide), if_pos (by decide)] at hr
      dsimp only at hr
      rw [pk_mul] at hr
      rw [hr]
      exact ⟨rfl, rfl⟩
  · have hk0 : k = 0 := (nI_eq (b := 0) (by omega) (by decide)).mp h1
    subst hk0
    unfold rsv at hr
    rw [if_pos (by decide)] at hr
    dsimp only at hr
    refine WP.iload_n (pc := 11) dX9_reserveOf_11 rfl ?_
    refine WP.bipush (pc := 12) (v := 24) dX9_reserveOf_12 (by decide) ?_
    refine WP.icmp_gt (pc := 14) (tgt := 21) dX9_reserveOf_14 (by decide) (fun h2 => ?_) (fun h2 => ?_)
    · rw [if_neg (Int32.not_le.mpr h2)] at hr
      refine WP.iload_n (pc := 21) dX9_reserveOf_21 rfl ?_
      refine WP.iconst (pc := 22) (v := 2) dX9_reserveOf_22 (by decide) ?_
      refine WP.iload_n (pc := 23) dX9_reserveOf_23 rfl ?_
      refine WP.bipush (pc := 24) (v := 24) dX9_reserveOf_24 (by decide) ?_
      refine WP.isub (pc := 26) dX9_reserveOf_26 ?_
      refine WP.imul (pc := 27) dX9_reserveOf_27 ?_
      refine WP.isub (pc := 28) dX9_reserveOf_28 ?_
      refine WP.cS1 (pc := 29) (mc2 := 0) (ms2 := 0) kX9_86 (CX9_positive Γ (nI b - 2 * (nI ag - 24))) rfl ⟨Nat.le_of_ble_eq_true rfl, Nat.le_of_ble_eq_true rfl⟩ (Nat.le_of_ble_eq_true rfl) (Nat.le_of_ble_eq_true rfl) (Nat.le_of_ble_eq_true rfl) rfl dX9_reserveOf_29 ?_
      refine WP.iret (pc := 32) rfl dX9_reserveOf_32 ?_
      rw [hr]
      exact ⟨rfl, rfl⟩
    · rw [if_pos (Int32.not_lt.mp h2), if_neg (nI_pos (by omega))] at hr
      refine WP.iload_n (pc := 17) dX9_reserveOf_17 rfl ?_
      refine WP.goto (pc := 18) (tgt := 32) dX9_reserveOf_18 (by decide) ?_
      refine WP.iret (pc := 32) rfl dX9_reserveOf_32 ?_
      rw [hr]
      exact ⟨rfl, rfl⟩
theorem CX9_ageOf (hg : aT σ a = (11, 380)) {i : Nat} (hi : i < 60) {I : Nat → Nat → Int32} : Ctr Γ (1, 20, 0, 0) MX9_ageOf [.ref a, .int (nI i)] (wI σ I) (rV (some (.int (I a 0 - I a (110 + 3 * i + 2)))) (wI σ I)) := by
  refine Ctr.go rfl (by decide) rfl rfl ?_
  refine WP.aload_n (pc := 0) dX9_ageOf_0 rfl ?_
  refine WP.iconst (pc := 1) (v := 0) dX9_ageOf_1 (by decide) ?_
  refine WP.iald (pc := 2) (k := 0) hg (by decide) (by omega) dX9_ageOf_2 ?_
  refine WP.aload_n (pc := 3) dX9_ageOf_3 rfl ?_
  refine WP.iload_n (pc := 4) dX9_ageOf_4 rfl ?_
  refine WP.cS1 (pc := 5) (mc2 := 0) (ms2 := 0) kX9_89 (CX9_ofLoaf Γ i) rfl ⟨Nat.le_of_ble_eq_true rfl, Nat.le_of_ble_eq_true rfl⟩ (Nat.le_of_ble_eq_true rfl) (Nat.le_of_ble_eq_true rfl) (Nat.le_of_ble_eq_true rfl) rfl dX9_ageOf_5 ?_
  refine WP.iconst (pc := 8) (v := 2) dX9_ageOf_8 (by decide) ?_
  refine WP.iaN (pc := 9) (b := 2) dX9_ageOf_9 ?_
  refine WP.iald (pc := 10) hg (by omega) (by omega) dX9_ageOf_10 ?_
  refine WP.isub (pc := 11) dX9_ageOf_11 ?_
  refine WP.iret (pc := 12) rfl dX9_ageOf_12 ?_
  exact ⟨rfl, rfl⟩
def rsOk (z : Nat → Int32) (e : mLf) : Prop := ∃ j b g, e.1 = nI j ∧ j < 3 ∧ z j = nI b ∧ b ≤ 99 ∧ z 3 - e.2.2 = nI g ∧ g ≤ 2000 ∧ rsE z e = nI (rsvN j b g)
theorem rsOk.of {A T C nb : Nat} {z : Nat → Int32} {e : mLf} (h : okZ T C z) (hA : A ≤ 2000) (he : okL A z nb e) : rsOk z e := by
  obtain ⟨j, b, h1, h2, h3, h4, h5⟩ := rsE_N h hA he
  exact ⟨j, b, _, h1, h2, h3, h4, he.2.2.1, by have := he.2.2.2; omega, h5⟩
theorem rsOk.z {z z' : Nat → Int32} {e : mLf} (h : rsOk z e) (hz : ∀ j, j < 4 → z' j = z j) : rsOk z' e := by
  obtain ⟨j, b, g, h1, h2, h3, h4, h5, h6, h7⟩ := h
  refine ⟨j, b, g, h1, h2, by rw [hz j (by omega)]; exact h3, h4, by rw [hz 3 (by omega)]; exact h5, h6, ?_⟩
  rw [← h7]
  unfold rsE bsO
  rw [hz 3 (by omega), h1, if_pos ⟨nI_pos' (by omega), nI_lt (b := 3) (by omega) (by decide)⟩, nI_clamp (by omega), hz j (by omega), if_pos ⟨nI_pos' (by omega), nI_lt (b := 3) (by omega) (by decide)⟩]
theorem CX9_reserve (hg : aT σ a = (11, 380)) {I : Nat → Nat → Int32} {s : mS} (h : gAt (I a) s) {i : Nat} {e : mLf} (he : s.2.2.1[i]? = some e) (hr : rsOk s.1 e) : Ctr Γ (2, 45, 0, 0) MX9_reserve [.ref a, .int (nI i)] (wI σ I) (rV (some (.int (rsE s.1 e))) (wI σ I)) := by
  obtain ⟨j, b, g, h1, h2, h3, h4, h5, h6, h7⟩ := hr
  have hi := gE_lt he
  have hl := h.2.2.1.2.1
  obtain ⟨c1, c2, c3⟩ := h.2.2.1.2.2 i e he
  have hb : I a (13 + j) = nI b := by
    rw [← h3, ← h.1 j (by omega)]
    rcases (by omega : j = 0 ∨ j = 1 ∨ j = 2) with rfl | rfl | rfl <;> rfl
  refine Ctr.go rfl (by decide) rfl rfl ?_
  refine WP.aload_n (pc := 0) dX9_reserve_0 rfl ?_
  refine WP.aload_n (pc := 1) dX9_reserve_1 rfl ?_
  refine WP.iload_n (pc := 2) dX9_reserve_2 rfl ?_
  refine WP.cS1 (pc := 3) (mc2 := 0) (ms2 := 0) kX9_89 (CX9_ofLoaf Γ i) rfl ⟨Nat.le_of_ble_eq_true rfl, Nat.le_of_ble_eq_true rfl⟩ (Nat.le_of_ble_eq_true rfl) (Nat.le_of_ble_eq_true rfl) (Nat.le_of_ble_eq_true rfl) rfl dX9_reserve_3 ?_
  refine WP.iconst (pc := 6) (v := 0) dX9_reserve_6 (by decide) ?_
  refine WP.ia0 (pc := 7) dX9_reserve_7 ?_
  refine WP.ialdv (pc := 8) hg (by omega) (by omega) (v := (nI j)) (c1.trans h1) dX9_reserve_8 ?_
  refine WP.aload_n (pc := 9) dX9_reserve_9 rfl ?_
  refine WP.iload_n (pc := 10) dX9_reserve_10 rfl ?_
  refine WP.cS1 (pc := 11) (mc2 := 0) (ms2 := 0) kX9_92 (CX9_ageOf Γ hg (i := i) (by omega)) rfl ⟨Nat.le_of_ble_eq_true rfl, Nat.le_of_ble_eq_true rfl⟩ (Nat.le_of_ble_eq_true rfl) (Nat.le_of_ble_eq_true rfl) (Nat.le_of_ble_eq_true rfl) rfl dX9_reserve_11 ?_
  have e0 : I a 0 - I a (110 + 3 * i + 2) = nI g := by
    rw [c3, ← h5, ← h.1 3 (by omega)]
    rfl
  rw [e0]
  refine WP.cS1 (pc := 14) (mc2 := 0) (ms2 := 0) kX9_96 (CX9_reserveOf Γ hg h2 h4 h6 hb) rfl ⟨Nat.le_of_ble_eq_true rfl, Nat.le_of_ble_eq_true rfl⟩ (Nat.le_of_ble_eq_true rfl) (Nat.le_of_ble_eq_true rfl) (Nat.le_of_ble_eq_true rfl) rfl dX9_reserve_14 ?_
  refine WP.iret (pc := 17) rfl dX9_reserve_17 ?_
  rw [h7]
  exact ⟨rfl, rfl⟩
theorem LX9_inOvens (hg : aT σ a = (11, 380)) {I : Nat → Nat → Int32} {l : List mBk} (h : gBs (I a) l) (hb : ∀ e ∈ l, okB e) {Φ : cRes → cAS → Prop} (H : Φ (.inl (some (.int (ovN l l.length)))) (wI σ I)) : ∀ n i, i + n = l.length →
    WP Γ (1, 20, 0, 0) MX9_inOvens Φ 4 [some (.ref a), some (.int (ovN l i)), some (.int (nI i))] [] (wI σ I) := by
  have hl := h.2.1
  intro n
  induction n with
  | zero =>
    intro i hi
    refine WP.iload_n (pc := 4) dX9_inOvens_4 rfl ?_
    refine WP.aload_n (pc := 5) dX9_inOvens_5 rfl ?_
    refine WP.iconst (pc := 6) (v := 1) dX9_inOvens_6 (by decide) ?_
    refine WP.ialdv (pc := 7) (k := 1) hg (by decide) (by omega) (v := (nI l.length)) (h.1) dX9_inOvens_7 ?_
    refine WP.icmp_ge (pc := 8) (tgt := 43) dX9_inOvens_8 (by decide) (fun h1 => ?_) (fun h1 => ?_)
    · refine WP.iload_n (pc := 43) dX9_inOvens_43 rfl ?_
      refine WP.iret (pc := 44) rfl dX9_inOvens_44 ?_
      rw [show i = l.length by omega]
      exact H
    · exact absurd (by rw [show i = l.length by omega]; exact Int32.le_refl _) h1
  | succ n ih =>
    intro i hi
    obtain ⟨e, he⟩ : ∃ e, l[i]? = some e := ⟨l[i]'(by omega), List.getElem?_eq_getElem (by omega)⟩
    obtain ⟨c1, c2, c3, c4, c5, c6⟩ := h.2.2.1 i e he
    have ho := hb e (List.mem_of_getElem? he)
    refine WP.iload_n (pc := 4) dX9_inOvens_4 rfl ?_
    refine WP.aload_n (pc := 5) dX9_inOvens_5 rfl ?_
    refine WP.iconst (pc := 6) (v := 1) dX9_inOvens_6 (by decide) ?_
    refine WP.ialdv (pc := 7) (k := 1) hg (by decide) (by omega) (v := (nI l.length)) (h.1) dX9_inOvens_7 ?_
    refine WP.icmp_ge (pc := 8) (tgt := 43) dX9_inOvens_8 (by decide) (fun h1 => ?_) (fun h1 => ?_)
    · exact absurd h1 (nI_ge (by omega) (by omega))
    · skip
      refine WP.iload_n (pc := 11) dX9_inOvens_11 rfl ?_
      refine WP.aload_n (pc := 12) dX9_inOvens_12 rfl ?_
      refine WP.iload_n (pc := 13) dX9_inOvens_13 rfl ?_
      refine WP.cS1 (pc := 14) (mc2 := 0) (ms2 := 0) kX9_100 (CX9_ofBaker Γ i) rfl ⟨Nat.le_of_ble_eq_true rfl, Nat.le_of_ble_eq_true rfl⟩ (Nat.le_of_ble_eq_true rfl) (Nat.le_of_ble_eq_true rfl) (Nat.le_of_ble_eq_true rfl) rfl dX9_inOvens_14 ?_
      refine WP.iconst (pc := 17) (v := 4) dX9_inOvens_17 (by decide) ?_
      refine WP.iaN (pc := 18) (b := 4) dX9_inOvens_18 ?_
      refine WP.ialdv (pc := 19) hg (by omega) (by omega) (v := (e.2.2.2.2.1)) (c5) dX9_inOvens_19 ?_
      refine WP.if_le (pc := 20) (tgt := 34) dX9_inOvens_20 (by decide) (fun h2 => ?_) (fun h2 => ?_)
      · have hk : e.2.2.2.1 = -1 := by
          rcases ho.2.2.2 with q | q
          · exact q.1
          · obtain ⟨v, hv, v1, v2⟩ := q.2
            rw [hv] at h2
            exact absurd h2 (nI_nle (by omega) (by omega))
        have e1 : ovN l (i + 1) = ovN l i := by simp [ovN, he, hk]
        refine WP.iconst (pc := 34) (v := 0) dX9_inOvens_34 (by decide) ?_
        refine WP.iadd (pc := 35) dX9_inOvens_35 ?_
        rw [Int32.add_zero, ← e1]
        refine WP.istore_n (pc := 36) dX9_inOvens_36 (by decide) rfl ?_
        refine WP.iinc (pc := 37) dX9_inOvens_37 rfl (nI_1 _) (by decide) rfl ?_
        refine WP.goto (pc := 40) (tgt := 4) dX9_inOvens_40 (by decide) ?_
        exact ih (i + 1) (by omega)
      · have hk : e.2.2.2.1 ≠ -1 := fun q => by
          rcases ho.2.2.2 with q' | q'
          · rw [q'.2] at h2
            exact h2 (Int32.le_refl _)
          · exact q'.1.ne (by decide) q
        have e1 : ovN l (i + 1) = ovN l i + e.2.1 := by simp [ovN, he, hk]
        refine WP.aload_n (pc := 23) dX9_inOvens_23 rfl ?_
        refine WP.iload_n (pc := 24) dX9_inOvens_24 rfl ?_
        refine WP.cS1 (pc := 25) (mc2 := 0) (ms2 := 0) kX9_100 (CX9_ofBaker Γ i) rfl ⟨Nat.le_of_ble_eq_true rfl, Nat.le_of_ble_eq_true rfl⟩ (Nat.le_of_ble_eq_true rfl) (Nat.le_of_ble_eq_true rfl) (Nat.le_of_ble_eq_true rfl) rfl dX9_inOvens_25 ?_
        refine WP.iconst (pc := 28) (v := 1) dX9_inOvens_28 (by decide) ?_
        refine WP.iaN (pc := 29) (b := 1) dX9_inOvens_29 ?_
        refine WP.ialdv (pc := 30) hg (by omega) (by omega) (v := (e.2.1)) (c2) dX9_inOvens_30 ?_
        refine WP.goto (pc := 31) (tgt := 35) dX9_inOvens_31 (by decide) ?_
        refine WP.iadd (pc := 35) dX9_inOvens_35 ?_
        rw [← e1]
        refine WP.istore_n (pc := 36) dX9_inOvens_36 (by decide) rfl ?_
        refine WP.iinc (pc := 37) dX9_inOvens_37 rfl (nI_1 _) (by decide) rfl ?_
        refine WP.goto (pc := 40) (tgt := 4) dX9_inOvens_40 (by decide) ?_
        exact ih (i + 1) (by omega)
theorem CX9_inOvens (hg : aT σ a = (11, 380)) {I : Nat → Nat → Int32} {l : List mBk} (h : gBs (I a) l) (hb : ∀ e ∈ l, okB e) : Ctr Γ (1, 20, 0, 0) MX9_inOvens [.ref a] (wI σ I) (rV (some (.int (ovN l l.length))) (wI σ I)) := by
  refine Ctr.go rfl (by decide) rfl rfl ?_
  refine WP.iconst (pc := 0) (v := 0) dX9_inOvens_0 (by decide) ?_
  refine WP.istore_n (pc := 1) dX9_inOvens_1 (by decide) rfl ?_
  refine WP.iconst (pc := 2) (v := 0) dX9_inOvens_2 (by decide) ?_
  refine WP.istore_n (pc := 3) dX9_inOvens_3 (by decide) rfl ?_
  exact LX9_inOvens Γ hg h hb ⟨rfl, rfl⟩ l.length 0 (by omega)
theorem CX9_whyNotBake (hg : aT σ a = (11, 380)) {I : Nat → Nat → Int32} {s : mS} (h : gAt (I a) s) (hb : ∀ e ∈ s.2.1, okB e) {i : Nat} {e : mBk} (he : s.2.1[i]? = some e) : Ctr Γ (2, 42, 0, 0) MX9_whyNotBake [.ref a, .int (nI i)] (wI σ I) (rV (some (.int (rfU s e))) (wI σ I)) := by
  have hi := gE_lt he
  have hl := h.2.1.2.1
  obtain ⟨c1, c2, c3, c4, c5, c6⟩ := h.2.1.2.2.1 i e he
  have ho := hb e (List.mem_of_getElem? he)
  refine Ctr.go rfl (by decide) rfl rfl ?_
  refine WP.aload_n (pc := 0) dX9_whyNotBake_0 rfl ?_
  refine WP.iload_n (pc := 1) dX9_whyNotBake_1 rfl ?_
  refine WP.cS1 (pc := 2) (mc2 := 0) (ms2 := 0) kX9_100 (CX9_ofBaker Γ i) rfl ⟨Nat.le_of_ble_eq_true rfl, Nat.le_of_ble_eq_true rfl⟩ (Nat.le_of_ble_eq_true rfl) (Nat.le_of_ble_eq_true rfl) (Nat.le_of_ble_eq_true rfl) rfl dX9_whyNotBake_2 ?_
  refine WP.iconst (pc := 5) (v := 4) dX9_whyNotBake_5 (by decide) ?_
  refine WP.iaN (pc := 6) (b := 4) dX9_whyNotBake_6 ?_
  refine WP.ialdv (pc := 7) hg (by omega) (by omega) (v := (e.2.2.2.2.1)) (c5) dX9_whyNotBake_7 ?_
  refine WP.if_le (pc := 8) (tgt := 13) dX9_whyNotBake_8 (by decide) (fun h2 => ?_) (fun h2 => ?_)
  · have hk : e.2.2.2.1 = -1 := by
      rcases ho.2.2.2 with q | q
      · exact q.1
      · obtain ⟨v, hv, v1, v2⟩ := q.2
        rw [hv] at h2
        exact absurd h2 (nI_nle (by omega) (by omega))
    refine WP.aload_n (pc := 13) dX9_whyNotBake_13 rfl ?_
    refine WP.iconst (pc := 14) (v := 3) dX9_whyNotBake_14 (by decide) ?_
    refine WP.ialdv (pc := 15) (k := 3) hg (by decide) (by omega) (v := (nI s.2.2.1.length)) (h.2.2.1.1) dX9_whyNotBake_15 ?_
    refine WP.aload_n (pc := 16) dX9_whyNotBake_16 rfl ?_
    refine WP.cS1 (pc := 17) (mc2 := 0) (ms2 := 0) kX9_103 (CX9_inOvens Γ hg h.2.1 hb) rfl ⟨Nat.le_of_ble_eq_true rfl, Nat.le_of_ble_eq_true rfl⟩ (Nat.le_of_ble_eq_true rfl) (Nat.le_of_ble_eq_true rfl) (Nat.le_of_ble_eq_true rfl) rfl dX9_whyNotBake_17 ?_
    refine WP.iadd (pc := 20) dX9_whyNotBake_20 ?_
    refine WP.aload_n (pc := 21) dX9_whyNotBake_21 rfl ?_
    refine WP.iload_n (pc := 22) dX9_whyNotBake_22 rfl ?_
    refine WP.cS1 (pc := 23) (mc2 := 0) (ms2 := 0) kX9_100 (CX9_ofBaker Γ i) rfl ⟨Nat.le_of_ble_eq_true rfl, Nat.le_of_ble_eq_true rfl⟩ (Nat.le_of_ble_eq_true rfl) (Nat.le_of_ble_eq_true rfl) (Nat.le_of_ble_eq_true rfl) rfl dX9_whyNotBake_23 ?_
    refine WP.iconst (pc := 26) (v := 1) dX9_whyNotBake_26 (by decide) ?_
    refine WP.iaN (pc := 27) (b := 1) dX9_whyNotBake_27 ?_
    refine WP.ialdv (pc := 28) hg (by omega) (by omega) (v := (e.2.1)) (c2) dX9_whyNotBake_28 ?_
    refine WP.iadd (pc := 29) dX9_whyNotBake_29 ?_
    refine WP.bipush (pc := 30) (v := 60) dX9_whyNotBake_30 (by decide) ?_
    unfold rfU
    rw [if_pos hk]
    refine WP.icmp_le (pc := 32) (tgt := 39) dX9_whyNotBake_32 (by decide) (fun h3 => ?_) (fun h3 => ?_)
    · rw [if_neg (Int32.not_lt.mpr h3)]
      refine WP.iconst (pc := 39) (v := 0) dX9_whyNotBake_39 (by decide) ?_
      refine WP.iret (pc := 40) rfl dX9_whyNotBake_40 ?_
      exact ⟨rfl, rfl⟩
    · rw [if_pos (Int32.not_le.mp h3)]
      refine WP.iconst (pc := 35) (v := 2) dX9_whyNotBake_35 (by decide) ?_
      refine WP.goto (pc := 36) (tgt := 40) dX9_whyNotBake_36 (by decide) ?_
      refine WP.iret (pc := 40) rfl dX9_whyNotBake_40 ?_
      exact ⟨rfl, rfl⟩
  · have hk : e.2.2.2.1 ≠ -1 := fun q => by
      rcases ho.2.2.2 with q' | q'
      · rw [q'.2] at h2
        exact h2 (Int32.le_refl _)
      · exact q'.1.ne (by decide) q
    unfold rfU
    rw [if_neg hk]
    refine WP.iconst (pc := 11) (v := 1) dX9_whyNotBake_11 (by decide) ?_
    refine WP.iret (pc := 12) rfl dX9_whyNotBake_12 ?_
    exact ⟨rfl, rfl⟩
theorem gBs.set {g g' : Nat → Int32} {l : List mBk} {i : Nat} {e : mBk} (h : gBs g l) (hi : i < l.length) (hk : gBk g' i e) (hf : ∀ k, k < 16 + 6 * i ∨ 22 + 6 * i ≤ k → g' k = g k) : gBs g' (l.set i e) := by
  obtain ⟨h1, h2, h3, h4⟩ := h
  refine ⟨by rw [hf 1 (by omega), List.length_set]; exact h1, by rw [List.length_set]; exact h2, fun j x hx => ?_, fun j c1 c2 => ?_⟩
  · rcases gE_set hx with ⟨rfl, rfl⟩ | ⟨q1, q2⟩
    · exact hk
    · exact (h3 j x q2).kp (fun k c1 c2 => hf k (by omega))
  · rw [List.length_set] at c1
    rw [hf _ (by omega), hf _ (by omega)]
    exact h4 j c1 c2
theorem gCs.set {g g' : Nat → Int32} {l : List mCu} {i : Nat} {e : mCu} (h : gCs g l) (hk : gC g' i e) (hf : ∀ k, k < 40 + 7 * i ∨ 47 + 7 * i ≤ k → g' k = g k) : gCs g' (l.set i e) := by
  obtain ⟨h1, h2, h3⟩ := h
  refine ⟨by rw [hf 2 (by omega), List.length_set]; exact h1, by rw [List.length_set]; exact h2, fun j x hx => ?_⟩
  rcases gE_set hx with ⟨rfl, rfl⟩ | ⟨q1, q2⟩
  · exact hk
  · exact (h3 j x q2).kp (by have := gE_lt q2; omega) (fun k c1 c2 => hf k (by omega))
theorem gLs.app {g : Nat → Int32} {l : List mLf} (h : gLs g l) (hl : l.length < 60) (x y z : Int32) : gLs (uw (uw (uw (uw g (110 + 3 * l.length) x) (110 + 3 * l.length + 1) y) (110 + 3 * l.length + 2) z) 3 (nI (l.length + 1))) (l ++ [(x, y, z)]) := by
  refine ⟨by simp [uw_at], by simp; omega, fun j e he => ?_⟩
  rcases gE_app he with ⟨c, q⟩ | ⟨rfl, rfl⟩
  · exact (h.2.2 j e q).kp (fun k c1 c2 => by simp (disch := omega) only [uw_ne])
  · unfold gL
    simp (disch := omega) only [uw_ne, uw_at]
    trivial
theorem CX9_fire (hg : aT σ a = (11, 380)) {I : Nat → Nat → Int32} {s : mS} (h : gAt (I a) s) {i : Nat} {e : mBk} (he : s.2.1[i]? = some e) (k : Int32) : Ctr Γ (1, 20, 0, 0) MX9_fire [.ref a, .int (nI i), .int k] (wI σ I) (rP σ (fun v I' => v = e.2.1 ∧ frB I I' a ∧ gAt (I' a) (bgB s i k))) := by
  have hi := gE_lt he
  have hl := h.2.1.2.1
  obtain ⟨c1, c2, c3, c4, c5, c6⟩ := h.2.1.2.2.1 i e he
  refine Ctr.go rfl (by decide) rfl rfl ?_
  refine WP.iload_n (pc := 0) dX9_fire_0 rfl ?_
  refine WP.cS1 (pc := 1) (mc2 := 0) (ms2 := 0) kX9_100 (CX9_ofBaker Γ i) rfl ⟨Nat.le_of_ble_eq_true rfl, Nat.le_of_ble_eq_true rfl⟩ (Nat.le_of_ble_eq_true rfl) (Nat.le_of_ble_eq_true rfl) (Nat.le_of_ble_eq_true rfl) rfl dX9_fire_1 ?_
  refine WP.istore_n (pc := 4) dX9_fire_4 (by decide) rfl ?_
  refine WP.aload_n (pc := 5) dX9_fire_5 rfl ?_
  refine WP.iload_n (pc := 6) dX9_fire_6 rfl ?_
  refine WP.iconst (pc := 7) (v := 3) dX9_fire_7 (by decide) ?_
  refine WP.iaN (pc := 8) (b := 3) dX9_fire_8 ?_
  refine WP.iload_n (pc := 9) dX9_fire_9 rfl ?_
  refine WP.iast (pc := 10) hg (by omega) (by omega) dX9_fire_10 ?_
  refine WP.aload_n (pc := 11) dX9_fire_11 rfl ?_
  refine WP.iload_n (pc := 12) dX9_fire_12 rfl ?_
  refine WP.iconst (pc := 13) (v := 4) dX9_fire_13 (by decide) ?_
  refine WP.iaN (pc := 14) (b := 4) dX9_fire_14 ?_
  refine WP.aload_n (pc := 15) dX9_fire_15 rfl ?_
  refine WP.iload_n (pc := 16) dX9_fire_16 rfl ?_
  refine WP.iconst (pc := 17) (v := 2) dX9_fire_17 (by decide) ?_
  refine WP.iaN (pc := 18) (b := 2) dX9_fire_18 ?_
  refine WP.ialdv (pc := 19) hg (by omega) (by omega) (v := (e.2.2.1)) (by simp (disch := omega) only [up_row, uw_ne]; exact c3) dX9_fire_19 ?_
  refine WP.iast (pc := 20) hg (by omega) (by omega) dX9_fire_20 ?_
  refine WP.aload_n (pc := 21) dX9_fire_21 rfl ?_
  refine WP.iload_n (pc := 22) dX9_fire_22 rfl ?_
  refine WP.iconst (pc := 23) (v := 1) dX9_fire_23 (by decide) ?_
  refine WP.iaN (pc := 24) (b := 1) dX9_fire_24 ?_
  refine WP.ialdv (pc := 25) hg (by omega) (by omega) (v := (e.2.1)) (by simp (disch := omega) only [up_row, uw_ne]; exact c2) dX9_fire_25 ?_
  refine WP.iret (pc := 26) rfl dX9_fire_26 ?_
  refine ⟨_, _, rfl, rfl, rfl, frB.rf.up.up, ?_⟩
  unfold bgB
  rw [he]
  simp only [up_row]
  refine h.bk (fun k c1 c2 c3 => by simp (disch := omega) only [uw_ne]) (h.2.1.set hi ?_ (fun k c => by simp (disch := omega) only [uw_ne]))
  refine ⟨?_, ?_, ?_, fun _ => ?_, ?_, ?_⟩ <;> simp (disch := omega) only [uw_ne, uw_at] <;> assumption
end T
