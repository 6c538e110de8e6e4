-- behind: 39 61
-- names' letters
theorem ltAt_A {n k : Nat} (hk : k < 4) : ltAt (nmA n) (nI k) = nI (nmB n k) := by
  have h0 := nmB_lt n 0
  have h1 := nmB_lt n 1
  have h2 := nmB_lt n 2
  have h3 := nmB_lt n 3
  have hs : ∀ q, q ≤ 3 → ((8 * nI q &&& 31).toBitVec.smod 32).toNat = 8 * q := by decide +kernel
  unfold ltAt nmA
  rw [pk_shrN (nmA_bound n) _ (8 * k) (hs k (by omega)), pk_andN (by have := nmA_bound n; exact Nat.lt_of_le_of_lt (Nat.div_le_self _ _) (by omega)) 8 (by decide)]
  congr 1
  rcases (by omega : k = 0 ∨ k = 1 ∨ k = 2 ∨ k = 3) with rfl | rfl | rfl | rfl
  · show _ / 1 % 256 = _
    omega
  · show _ / 256 % 256 = _
    omega
  · show _ / 65536 % 256 = _
    omega
  · show _ / 16777216 % 256 = _
    omega
theorem nmLen_in {n : Nat} : ∀ d i k, i + d = 4 → i ≤ k → k < nmLen (nmA n) d i → nmB n k ≠ 0
  | 0, i, k, hi, h1, h2 => by
    have : k < i := h2
    omega
  | d + 1, i, k, hi, h1, h2 => by
    unfold nmLen at h2
    rw [ltAt_A (by omega)] at h2
    by_cases q : nI (nmB n i) = 0
    · rw [if_pos q] at h2
      omega
    · rw [if_neg q] at h2
      rcases Nat.lt_or_eq_of_le h1 with z | z
      · exact nmLen_in d (i + 1) k (by omega) z h2
      · rw [← z]
        exact fun w => q (by rw [w]; rfl)
section T
variable (Γ : cG) {σ : cAS} {m : Nat} {I : Nat → Nat → Int32} {mm : mX} {T C : Nat}
theorem LX9_letterOf {nm k : Nat} (hn : nm < 531441) (hk : k ≤ 3) : ∀ d i, i = k + d → i ≤ 3 → WP Γ (0, 0, 0, 0) MX9_letterOf (rV (some (.int (nI (nmD nm k)))) σ) 4 [some (.int (nI nm)), some (.int (nI k)), some (.int (nI (nm / 27 ^ (3 - i)))), some (.int (nI i))] [] σ := by
  have hle : ∀ q, nm / 27 ^ q < 531441 := fun q => Nat.lt_of_le_of_lt (Nat.div_le_self _ _) hn
  intro d
  induction d with
  | zero =>
    intro i hi h3
    refine WP.iload_n (pc := 4) dX9_letterOf_4 rfl ?_
    refine WP.iload_n (pc := 5) dX9_letterOf_5 rfl ?_
    refine WP.icmp_le (pc := 6) (tgt := 20) dX9_letterOf_6 (by decide) (fun h1 => ?_) (fun h1 => ?_)
    · have e : nI (nm / 27 ^ (3 - i)) - nI (nm / 27 ^ (3 - i)) / 27 * 27 = nI (nmD nm k) := by
        rw [show (27 : Int32) = nI 27 from rfl, pk_rem (by have := hle (3 - i); omega) (by omega) (by omega), show i = k by omega]
        rfl
      refine WP.iload_n (pc := 20) dX9_letterOf_20 rfl ?_
      refine WP.bipush (pc := 21) (v := 27) dX9_letterOf_21 (by decide) ?_
      refine WP.irem (pc := 23) dX9_letterOf_23 (by decide) ?_
      rw [e]
      refine WP.iret (pc := 24) rfl dX9_letterOf_24 ?_
      exact ⟨rfl, rfl⟩
    · exact absurd (by rw [show i = k by omega]; exact Int32.le_refl _) h1
  | succ d ih =>
    intro i hi h3
    refine WP.iload_n (pc := 4) dX9_letterOf_4 rfl ?_
    refine WP.iload_n (pc := 5) dX9_letterOf_5 rfl ?_
    refine WP.icmp_le (pc := 6) (tgt := 20) dX9_letterOf_6 (by decide) (fun h1 => ?_) (fun h1 => ?_)
    · exact absurd h1 (nI_ge (by omega) (by omega))
    · obtain ⟨i', rfl⟩ : ∃ i', i = i' + 1 := ⟨i - 1, by omega⟩
      have e : nI (nm / 27 ^ (3 - (i' + 1))) / 27 = nI (nm / 27 ^ (3 - i')) := by
        rw [show (27 : Int32) = nI 27 from rfl, pk_div (by have := hle (3 - (i' + 1)); omega) (by omega) (by omega), Nat.div_div_eq_div_mul, ← Nat.pow_succ, show (3 - (i' + 1)).succ = 3 - i' by omega]
      refine WP.iload_n (pc := 9) dX9_letterOf_9 rfl ?_
      refine WP.bipush (pc := 10) (v := 27) dX9_letterOf_10 (by decide) ?_
      refine WP.idiv (pc := 12) dX9_letterOf_12 (by decide) ?_
      rw [e]
      refine WP.istore_n (pc := 13) dX9_letterOf_13 (by decide) rfl ?_
      refine WP.iinc (pc := 14) dX9_letterOf_14 rfl (pk_m1 _) (by decide) rfl ?_
      refine WP.goto (pc := 17) (tgt := 4) dX9_letterOf_17 (by decide) ?_
      exact ih i' (by omega) (by omega)
theorem CX9_letterOf {nm k : Nat} (hn : nmOk nm) (hk : k ≤ 3) : Ctr Γ (0, 0, 0, 0) MX9_letterOf [.int (nI nm), .int (nI k)] σ (rV (some (.int (nI (nmD nm k)))) σ) := by
  refine Ctr.go rfl (by decide) rfl rfl ?_
  refine WP.iload_n (pc := 0) dX9_letterOf_0 rfl ?_
  refine WP.istore_n (pc := 1) dX9_letterOf_1 (by decide) rfl ?_
  refine WP.iconst (pc := 2) (v := 3) dX9_letterOf_2 (by decide) ?_
  refine WP.istore_n (pc := 3) dX9_letterOf_3 (by decide) rfl ?_
  have := LX9_letterOf Γ (σ := σ) hn hk (3 - k) 3 (by omega) (Nat.le_refl _)
  rw [Nat.sub_self, Nat.pow_zero, Nat.div_one] at this
  exact this
theorem LX9_lettersOf {nm : Nat} (hn : nmOk nm) : ∀ d i, i + d = 4 → WP Γ (1, 23, 0, 0) MX9_lettersOf (rV (some (.int (nI (nmLen (nmA nm) d i)))) σ) 2 [some (.int (nI nm)), some (.int (nI i))] [] σ := by
  intro d
  induction d with
  | zero =>
    intro i hi
    refine WP.iload_n (pc := 2) dX9_lettersOf_2 rfl ?_
    refine WP.iconst (pc := 3) (v := 4) dX9_lettersOf_3 (by decide) ?_
    refine WP.icmp_ge (pc := 4) (tgt := 21) dX9_lettersOf_4 (by decide) (fun h1 => ?_) (fun h1 => ?_)
    · refine WP.iload_n (pc := 21) dX9_lettersOf_21 rfl ?_
      refine WP.iret (pc := 22) rfl dX9_lettersOf_22 ?_
      exact ⟨rfl, rfl⟩
    · exact absurd (nI_le (a := 4) (by omega) (by omega)) h1
  | succ d ih =>
    intro i hi
    have hD := nmD_lt nm i
    refine WP.iload_n (pc := 2) dX9_lettersOf_2 rfl ?_
    refine WP.iconst (pc := 3) (v := 4) dX9_lettersOf_3 (by decide) ?_
    refine WP.icmp_ge (pc := 4) (tgt := 21) dX9_lettersOf_4 (by decide) (fun h1 => ?_) (fun h1 => ?_)
    · exact absurd h1 (nI_ge (b := 4) (by omega) (by omega))
    · refine WP.iload_n (pc := 7) dX9_lettersOf_7 rfl ?_
      refine WP.iload_n (pc := 8) dX9_lettersOf_8 rfl ?_
      refine WP.cS1 (pc := 9) (mc2 := 0) (ms2 := 0) kX9_314 (CX9_letterOf Γ hn (k := i) (by omega)) rfl ⟨Nat.le_of_ble_eq_true rfl, Nat.le_of_ble_eq_true rfl⟩ (Nat.le_of_ble_eq_true rfl) (Nat.le_of_ble_eq_true rfl) (Nat.le_of_ble_eq_true rfl) rfl dX9_lettersOf_9 ?_
      unfold nmLen
      rw [ltAt_A (by omega)]
      refine WP.if_le (pc := 12) (tgt := 21) dX9_lettersOf_12 (by decide) (fun h2 => ?_) (fun h2 => ?_)
      · have h0 : nmD nm i = 0 := Nat.eq_zero_of_not_pos fun q => nI_nle q (by omega) h2
        have hB : nmB nm i = 0 := by unfold nmB; rw [if_pos h0]
        rw [hB, if_pos (by decide)]
        refine WP.iload_n (pc := 21) dX9_lettersOf_21 rfl ?_
        refine WP.iret (pc := 22) rfl dX9_lettersOf_22 ?_
        exact ⟨rfl, rfl⟩
      · have h0 : nmD nm i ≠ 0 := fun q => h2 (by rw [q]; decide)
        have hB : nmB nm i = nmD nm i + 96 := by unfold nmB; rw [if_neg h0]
        rw [hB, if_neg (nI_ne0 (by omega) (by omega))]
        refine WP.iinc (pc := 15) dX9_lettersOf_15 rfl (nI_1 _) (by decide) rfl ?_
        refine WP.goto (pc := 18) (tgt := 2) dX9_lettersOf_18 (by decide) ?_
        exact ih (i + 1) (by omega)
theorem CX9_lettersOf {nm : Nat} (hn : nmOk nm) : Ctr Γ (1, 23, 0, 0) MX9_lettersOf [.int (nI nm)] σ (rV (some (.int (nI (nmLen (nmA nm) 4 0)))) σ) := by
  refine Ctr.go rfl (by decide) rfl rfl ?_
  refine WP.iconst (pc := 0) (v := 0) dX9_lettersOf_0 (by decide) ?_
  refine WP.istore_n (pc := 1) dX9_lettersOf_1 (by decide) rfl ?_
  exact LX9_lettersOf Γ hn 4 0 (by omega)
theorem CX9_letter (hm : shM σ m) {nm : Nat} (hn : nmOk nm) (p : Int32) {I : Nat → Nat → Int32} (h8 : I m 8 = 0) : Ctr Γ (2, 45, 0, 0) MX9_letter [.ref m, .int (nI nm), .int p] (wI σ I) (rP σ (fun v I' => fr_j I I' m 8 8 ∧ I' m 8 = nI (if ixB p (nmLen (nmA nm) 4 0) then 2 else 0) ∧ (¬ ixB p (nmLen (nmA nm) 4 0) → v = ltAt (nmA nm) p))) := by
  have hl := nmLen_le (nmA nm) 4 0
  have hix := out_ix (p := p) (n := nmLen (nmA nm) 4 0) (by omega)
  refine Ctr.go rfl (by decide) rfl rfl ?_
  refine WP.aload_n (pc := 0) dX9_letter_0 rfl ?_
  refine WP.iload_n (pc := 1) dX9_letter_1 rfl ?_
  refine WP.iconst (pc := 2) (v := 0) dX9_letter_2 (by decide) ?_
  refine WP.iload_n (pc := 3) dX9_letter_3 rfl ?_
  refine WP.cS1 (pc := 4) (mc2 := 0) (ms2 := 0) kX9_317 (CX9_lettersOf Γ hn) rfl ⟨Nat.le_of_ble_eq_true rfl, Nat.le_of_ble_eq_true rfl⟩ (Nat.le_of_ble_eq_true rfl) (Nat.le_of_ble_eq_true rfl) (Nat.le_of_ble_eq_true rfl) rfl dX9_letter_4 ?_
  refine WP.iconst (pc := 7) (v := 1) dX9_letter_7 (by decide) ?_
  refine WP.isub (pc := 8) dX9_letter_8 ?_
  refine WP.cVp (pc := 9) (mc2 := 0) (ms2 := 0) (ci := 9) kX9_320 (CX9_out Γ hm p 0 (nI (nmLen (nmA nm) 4 0) - 1) h8) (by decide) rfl hm.t0 rfl ⟨Nat.le_of_ble_eq_true rfl, Nat.le_of_ble_eq_true rfl⟩ (Nat.le_of_ble_eq_true rfl) (Nat.le_of_ble_eq_true rfl) (Nat.le_of_ble_eq_true rfl) rfl dX9_letter_9 (fun v I1 ⟨hv, f1, g1⟩ => ?_)
  rw [hv]
  by_cases q : ixB p (nmLen (nmA nm) 4 0)
  · have q2 : ¬ (decide (0 ≤ p) && decide (p ≤ nI (nmLen (nmA nm) 4 0) - 1)) = true := fun z => hix.mp z q
    rw [if_neg q2] at g1
    rw [Bool.not_eq_true] at q2
    rw [q2]
    refine WP.if_eq (pc := 12) (tgt := 19) dX9_letter_12 (by decide) (fun h1 => ?_) (fun h1 => ?_)
    · exact absurd h1 (by decide)
    · refine WP.iconst (pc := 15) (v := 0) dX9_letter_15 (by decide) ?_
      refine WP.goto (pc := 16) (tgt := 27) dX9_letter_16 (by decide) ?_
      refine WP.iret (pc := 27) rfl dX9_letter_27 ?_
      exact ⟨_, I1, rfl, rfl, f1, by rw [if_pos q]; exact g1, fun z => absurd q z⟩
  · have q2 := hix.mpr q
    rw [if_pos q2] at g1
    rw [q2]
    obtain ⟨k, rfl, hk⟩ := ixN q (by omega)
    have hB := nmLen_in 4 0 k (by omega) (Nat.zero_le _) hk
    have hBD : nmB nm k = nmD nm k + 96 := by
      unfold nmB at hB ⊢
      split
      · next z => rw [if_pos z] at hB; exact absurd rfl hB
      · rfl
    refine WP.if_eq (pc := 12) (tgt := 19) dX9_letter_12 (by decide) (fun h1 => ?_) (fun h1 => ?_)
    · refine WP.bipush (pc := 19) (v := 96) dX9_letter_19 (by decide) ?_
      refine WP.iload_n (pc := 21) dX9_letter_21 rfl ?_
      refine WP.iload_n (pc := 22) dX9_letter_22 rfl ?_
      refine WP.cS1 (pc := 23) (mc2 := 0) (ms2 := 0) kX9_314 (CX9_letterOf Γ hn (k := k) (by omega)) rfl ⟨Nat.le_of_ble_eq_true rfl, Nat.le_of_ble_eq_true rfl⟩ (Nat.le_of_ble_eq_true rfl) (Nat.le_of_ble_eq_true rfl) (Nat.le_of_ble_eq_true rfl) rfl dX9_letter_23 ?_
      refine WP.iaN (pc := 26) (a := 96) dX9_letter_26 ?_
      refine WP.iret (pc := 27) rfl dX9_letter_27 ?_
      exact ⟨_, I1, rfl, rfl, f1, by rw [if_neg q]; exact g1, fun _ => by rw [ltAt_A (by omega), hBD, Nat.add_comm]⟩
    · exact absurd rfl h1
theorem CX9_bakerNameByte (hm : shM σ m) (h : mdI I m mm) (hw : wf T C mm.s) (i p : Int32) : Ctr Γ (3, 67, 0, 0) MX9_bakerNameByte [.ref m, .int i, .int p] (wI σ I) (mO σ I m (q_bakerNameByte mm i p)) := by
  have hlen := h.1.2.1.2.1
  refine Ctr.go rfl (by decide) rfl rfl ?_
  refine WP.aload_n (pc := 0) dX9_bakerNameByte_0 rfl ?_
  refine WP.iload_n (pc := 1) dX9_bakerNameByte_1 rfl ?_
  refine WP.cVp (pc := 2) (mc2 := 0) (ms2 := 0) (ci := 9) kX9_323 (CX9_noBaker Γ hm h i) (by decide) rfl hm.t0 rfl ⟨Nat.le_of_ble_eq_true rfl, Nat.le_of_ble_eq_true rfl⟩ (Nat.le_of_ble_eq_true rfl) (Nat.le_of_ble_eq_true rfl) (Nat.le_of_ble_eq_true rfl) rfl dX9_bakerNameByte_2 (fun v I1 ⟨hv, f1, g1⟩ => ?_)
  rw [hv]
  have h1 := h.j f1
  unfold q_bakerNameByte
  by_cases hb : ixB i mm.s.2.1.length
  · rw [if_pos hb] at g1 ⊢
    rw [decide_eq_true hb]
    refine WP.if_eq (pc := 5) (tgt := 12) dX9_bakerNameByte_5 (by decide) (fun h2 => ?_) (fun h2 => ?_)
    · exact absurd h2 (by decide)
    · refine WP.iconst (pc := 8) (v := 0) dX9_bakerNameByte_8 (by decide) ?_
      refine WP.goto (pc := 9) (tgt := 28) dX9_bakerNameByte_9 (by decide) ?_
      refine WP.iret (pc := 28) rfl dX9_bakerNameByte_28 ?_
      exact mO.err (by decide) g1 h1 f1.T
  · rw [if_neg hb] at g1 ⊢
    rw [decide_eq_false hb]
    obtain ⟨j, rfl, hj⟩ := ixN hb (by omega)
    have hg := gD_of (l := mm.s.2.1) dB hj
    rw [nI_clamp (by omega)]
    refine WP.if_eq (pc := 5) (tgt := 12) dX9_bakerNameByte_5 (by decide) (fun h2 => ?_) (fun h2 => ?_)
    · obtain ⟨c0, c1, c2, c3, c4, c5⟩ := h1.1.2.1.2.2.1 j _ hg
      have hok := (hw.2.1.2 _ (List.mem_of_getElem? hg)).1
      generalize mm.s.2.1.getD j dB = e at *
      refine WP.aload_n (pc := 12) dX9_bakerNameByte_12 rfl ?_
      refine WP.aload_n (pc := 13) dX9_bakerNameByte_13 rfl ?_
      refine WP.gR (pc := 14) uX9 fX9_7 hm.t0 hm.r0_0 dX9_bakerNameByte_14 ?_
      refine WP.iload_n (pc := 17) dX9_bakerNameByte_17 rfl ?_
      refine WP.cS1 (pc := 18) (mc2 := 0) (ms2 := 0) kX9_100 (CX9_ofBaker Γ j) rfl ⟨Nat.le_of_ble_eq_true rfl, Nat.le_of_ble_eq_true rfl⟩ (Nat.le_of_ble_eq_true rfl) (Nat.le_of_ble_eq_true rfl) (Nat.le_of_ble_eq_true rfl) rfl dX9_bakerNameByte_18 ?_
      refine WP.iconst (pc := 21) (v := 0) dX9_bakerNameByte_21 (by decide) ?_
      refine WP.ia0 (pc := 22) dX9_bakerNameByte_22 ?_
      refine WP.ialdv (pc := 23) hm.t1 (by omega) (by decide) (v := (nI e.1)) (c0) dX9_bakerNameByte_23 ?_
      refine WP.iload_n (pc := 24) dX9_bakerNameByte_24 rfl ?_
      refine WP.cVp (pc := 25) (mc2 := 0) (ms2 := 0) (ci := 9) kX9_326 (CX9_letter Γ hm hok p (by rw [g1]; rfl)) (by decide) rfl hm.t0 rfl ⟨Nat.le_of_ble_eq_true rfl, Nat.le_of_ble_eq_true rfl⟩ (Nat.le_of_ble_eq_true rfl) (Nat.le_of_ble_eq_true rfl) (Nat.le_of_ble_eq_true rfl) rfl dX9_bakerNameByte_25 (fun v2 I2 ⟨f2, g2, r2⟩ => ?_)
      refine WP.iret (pc := 28) rfl dX9_bakerNameByte_28 ?_
      by_cases q : ixB p (nmLen (nmA e.1) 4 0)
      · rw [if_pos q] at g2 ⊢
        exact mO.err (by decide) g2 (h1.j f2) (f1.trans f2).T
      · rw [if_neg q] at g2 ⊢
        exact mO.ok g2 (r2 q) (h1.j f2) (f1.trans f2).T
    · exact absurd rfl h2
theorem CX9_customerNameByte (hm : shM σ m) (h : mdI I m mm) (hw : wf T C mm.s) (i p : Int32) : Ctr Γ (3, 67, 0, 0) MX9_customerNameByte [.ref m, .int i, .int p] (wI σ I) (mO σ I m (q_customerNameByte mm i p)) := by
  have hlen := h.1.2.2.2.1.2.1
  refine Ctr.go rfl (by decide) rfl rfl ?_
  refine WP.aload_n (pc := 0) dX9_customerNameByte_0 rfl ?_
  refine WP.iload_n (pc := 1) dX9_customerNameByte_1 rfl ?_
  refine WP.cVp (pc := 2) (mc2 := 0) (ms2 := 0) (ci := 9) kX9_332 (CX9_noCustomer Γ hm h i) (by decide) rfl hm.t0 rfl ⟨Nat.le_of_ble_eq_true rfl, Nat.le_of_ble_eq_true rfl⟩ (Nat.le_of_ble_eq_true rfl) (Nat.le_of_ble_eq_true rfl) (Nat.le_of_ble_eq_true rfl) rfl dX9_customerNameByte_2 (fun v I1 ⟨hv, f1, g1⟩ => ?_)
  rw [hv]
  have h1 := h.j f1
  unfold q_customerNameByte
  by_cases hb : ixB i mm.s.2.2.2.1.length
  · rw [if_pos hb] at g1 ⊢
    rw [decide_eq_true hb]
    refine WP.if_eq (pc := 5) (tgt := 12) dX9_customerNameByte_5 (by decide) (fun h2 => ?_) (fun h2 => ?_)
    · exact absurd h2 (by decide)
    · refine WP.iconst (pc := 8) (v := 0) dX9_customerNameByte_8 (by decide) ?_
      refine WP.goto (pc := 9) (tgt := 28) dX9_customerNameByte_9 (by decide) ?_
      refine WP.iret (pc := 28) rfl dX9_customerNameByte_28 ?_
      exact mO.err (by decide) g1 h1 f1.T
  · rw [if_neg hb] at g1 ⊢
    rw [decide_eq_false hb]
    obtain ⟨j, rfl, hj⟩ := ixN hb (by omega)
    have hg := gD_of (l := mm.s.2.2.2.1) dC hj
    rw [nI_clamp (by omega)]
    refine WP.if_eq (pc := 5) (tgt := 12) dX9_customerNameByte_5 (by decide) (fun h2 => ?_) (fun h2 => ?_)
    · obtain ⟨c0, c1, c2, c3, c4, c5, c6⟩ := h1.1.2.2.2.1.2.2 j _ hg
      have hok := (hw.2.2.2.2.1.2 _ (List.mem_of_getElem? hg)).1
      generalize mm.s.2.2.2.1.getD j dC = e at *
      refine WP.aload_n (pc := 12) dX9_customerNameByte_12 rfl ?_
      refine WP.aload_n (pc := 13) dX9_customerNameByte_13 rfl ?_
      refine WP.gR (pc := 14) uX9 fX9_7 hm.t0 hm.r0_0 dX9_customerNameByte_14 ?_
      refine WP.iload_n (pc := 17) dX9_customerNameByte_17 rfl ?_
      refine WP.cS1 (pc := 18) (mc2 := 0) (ms2 := 0) kX9_111 (CX9_ofCustomer Γ j) rfl ⟨Nat.le_of_ble_eq_true rfl, Nat.le_of_ble_eq_true rfl⟩ (Nat.le_of_ble_eq_true rfl) (Nat.le_of_ble_eq_true rfl) (Nat.le_of_ble_eq_true rfl) rfl dX9_customerNameByte_18 ?_
      refine WP.iconst (pc := 21) (v := 0) dX9_customerNameByte_21 (by decide) ?_
      refine WP.ia0 (pc := 22) dX9_customerNameByte_22 ?_
      refine WP.ialdv (pc := 23) hm.t1 (by omega) (by decide) (v := (nI e.1)) (c0) dX9_customerNameByte_23 ?_
      refine WP.iload_n (pc := 24) dX9_customerNameByte_24 rfl ?_
      refine WP.cVp (pc := 25) (mc2 := 0) (ms2 := 0) (ci := 9) kX9_326 (CX9_letter Γ hm hok p (by rw [g1]; rfl)) (by decide) rfl hm.t0 rfl ⟨Nat.le_of_ble_eq_true rfl, Nat.le_of_ble_eq_true rfl⟩ (Nat.le_of_ble_eq_true rfl) (Nat.le_of_ble_eq_true rfl) (Nat.le_of_ble_eq_true rfl) rfl dX9_customerNameByte_25 (fun v2 I2 ⟨f2, g2, r2⟩ => ?_)
      refine WP.iret (pc := 28) rfl dX9_customerNameByte_28 ?_
      by_cases q : ixB p (nmLen (nmA e.1) 4 0)
      · rw [if_pos q] at g2 ⊢
        exact mO.err (by decide) g2 (h1.j f2) (f1.trans f2).T
      · rw [if_neg q] at g2 ⊢
        exact mO.ok g2 (r2 q) (h1.j f2) (f1.trans f2).T
    · exact absurd rfl h2
theorem LX9_hus (hm : shM σ m) {J : Nat → Nat → Int32} (h : gAt (J (m + 1)) mm.s) (hw : wf T C mm.s) {j : Nat} {e : mLf} (hg : mm.s.2.2.1[j]? = some e) {Φ : cRes → cAS → Prop} : ∀ d i, i + d = 101 → Φ (.inl (some (.int (husN e.1 (bsO mm.s.1 e.1) (mm.s.1 3 - e.2.2) d i)))) (wI σ J) → WP Γ (3, 66, 0, 0) MX9_hoursUntilStale Φ 12 [some (.ref m), some (.int (nI j)), some (.int (nI i))] [] (wI σ J) := by
  have hj := gE_lt hg
  have hl := h.2.2.1.2.1
  have hoe := hw.2.2.2.1.1 e (List.mem_of_getElem? hg)
  obtain ⟨k, b, g', h1, h2, h3, h4, -, -, -⟩ := rsOk.of hw.1 (by decide) hoe
  have h5 := hoe.2.2.1
  have h6 := hoe.2.2.2
  obtain ⟨c0, c1, c2⟩ := h.2.2.1.2.2 j e hg
  have hbs : bsO mm.s.1 e.1 = nI b := by
    rw [h1, ← h3]
    unfold bsO
    rw [if_pos ⟨nI_pos' (by omega), nI_lt (b := 3) (by omega) (by decide)⟩, nI_clamp (by omega)]
  have hb13 : J (m + 1) (13 + k) = nI b := by rw [bs_at h.1 h2, ← h1, hbs]
  have hage : J (m + 1) 0 - J (m + 1) (110 + 3 * j + 2) = nI (ag mm.s.1 e) := by
    rw [c2, ← h5, ← h.1 3 (by omega)]
    rfl
  intro d
  induction d with
  | zero =>
    intro i hi H
    refine WP.iload_n (pc := 12) dX9_hoursUntilStale_12 rfl ?_
    refine WP.bipush (pc := 13) (v := 100) dX9_hoursUntilStale_13 (by decide) ?_
    refine WP.icmp_gt (pc := 15) (tgt := 57) dX9_hoursUntilStale_15 (by decide) (fun h7 => ?_) (fun h7 => ?_)
    · refine WP.iconst (pc := 57) (v := (-1)) dX9_hoursUntilStale_57 (by decide) ?_
      refine WP.iret (pc := 58) rfl dX9_hoursUntilStale_58 ?_
      exact H
    · exact absurd (nI_lt (a := 100) (by omega) (by omega)) h7
  | succ d ih =>
    intro i hi H
    unfold husN at H
    rw [hbs, h5, nI_add, h1, rsv_N h2 h4 (by omega)] at H
    refine WP.iload_n (pc := 12) dX9_hoursUntilStale_12 rfl ?_
    refine WP.bipush (pc := 13) (v := 100) dX9_hoursUntilStale_13 (by decide) ?_
    refine WP.icmp_gt (pc := 15) (tgt := 57) dX9_hoursUntilStale_15 (by decide) (fun h7 => ?_) (fun h7 => ?_)
    · exact absurd h7 (nI_nlt (b := i) (a := 100) (by omega) (by omega))
    · refine WP.aload_n (pc := 18) dX9_hoursUntilStale_18 rfl ?_
      refine WP.gR (pc := 19) uX9 fX9_7 hm.t0 hm.r0_0 dX9_hoursUntilStale_19 ?_
      refine WP.aload_n (pc := 22) dX9_hoursUntilStale_22 rfl ?_
      refine WP.gR (pc := 23) uX9 fX9_7 hm.t0 hm.r0_0 dX9_hoursUntilStale_23 ?_
      refine WP.iload_n (pc := 26) dX9_hoursUntilStale_26 rfl ?_
      refine WP.cS1 (pc := 27) (mc2 := 0) (ms2 := 0) kX9_89 (CX9_ofLoaf Γ j) rfl ⟨Nat.le_of_ble_eq_true rfl, Nat.le_of_ble_eq_true rfl⟩ (Nat.le_of_ble_eq_true rfl) (Nat.le_of_ble_eq_true rfl) (Nat.le_of_ble_eq_true rfl) rfl dX9_hoursUntilStale_27 ?_
      refine WP.iconst (pc := 30) (v := 0) dX9_hoursUntilStale_30 (by decide) ?_
      refine WP.ia0 (pc := 31) dX9_hoursUntilStale_31 ?_
      refine WP.ialdv (pc := 32) hm.t1 (by omega) (by decide) (v := (nI k)) (c0.trans h1) dX9_hoursUntilStale_32 ?_
      refine WP.aload_n (pc := 33) dX9_hoursUntilStale_33 rfl ?_
      refine WP.gR (pc := 34) uX9 fX9_7 hm.t0 hm.r0_0 dX9_hoursUntilStale_34 ?_
      refine WP.iload_n (pc := 37) dX9_hoursUntilStale_37 rfl ?_
      refine WP.cS1 (pc := 38) (mc2 := 0) (ms2 := 0) kX9_92 (CX9_ageOf Γ hm.t1 (i := j) (by omega)) rfl ⟨Nat.le_of_ble_eq_true rfl, Nat.le_of_ble_eq_true rfl⟩ (Nat.le_of_ble_eq_true rfl) (Nat.le_of_ble_eq_true rfl) (Nat.le_of_ble_eq_true rfl) rfl dX9_hoursUntilStale_38 ?_
      rw [hage]
      refine WP.iload_n (pc := 41) dX9_hoursUntilStale_41 rfl ?_
      refine WP.iaN (pc := 42) dX9_hoursUntilStale_42 ?_
      refine WP.cS1 (pc := 43) (mc2 := 0) (ms2 := 0) kX9_96 (CX9_reserveOf Γ hm.t1 h2 h4 (by omega) hb13) rfl ⟨Nat.le_of_ble_eq_true rfl, Nat.le_of_ble_eq_true rfl⟩ (Nat.le_of_ble_eq_true rfl) (Nat.le_of_ble_eq_true rfl) (Nat.le_of_ble_eq_true rfl) rfl dX9_hoursUntilStale_43 ?_
      refine WP.if_ne (pc := 46) (tgt := 51) dX9_hoursUntilStale_46 (by decide) (fun h8 => ?_) (fun h8 => ?_)
      · rw [if_neg h8, ← h1, ← hbs, ← h5] at H
        refine WP.iinc (pc := 51) dX9_hoursUntilStale_51 rfl (nI_1 _) (by decide) rfl ?_
        refine WP.goto (pc := 54) (tgt := 12) dX9_hoursUntilStale_54 (by decide) ?_
        exact ih (i + 1) (by omega) H
      · rw [if_pos h8] at H
        refine WP.iload_n (pc := 49) dX9_hoursUntilStale_49 rfl ?_
        refine WP.iret (pc := 50) rfl dX9_hoursUntilStale_50 ?_
        exact H
theorem CX9_hoursUntilStale (hm : shM σ m) (h : mdI I m mm) (hw : wf T C mm.s) (i : Int32) : Ctr Γ (3, 66, 0, 0) MX9_hoursUntilStale [.ref m, .int i] (wI σ I) (mO σ I m (q_hoursUntilStale mm i)) := by
  have hlen := h.1.2.2.1.2.1
  refine Ctr.go rfl (by decide) rfl rfl ?_
  refine WP.aload_n (pc := 0) dX9_hoursUntilStale_0 rfl ?_
  refine WP.iload_n (pc := 1) dX9_hoursUntilStale_1 rfl ?_
  refine WP.cVp (pc := 2) (mc2 := 0) (ms2 := 0) (ci := 9) kX9_338 (CX9_noLoaf Γ hm h i) (by decide) rfl hm.t0 rfl ⟨Nat.le_of_ble_eq_true rfl, Nat.le_of_ble_eq_true rfl⟩ (Nat.le_of_ble_eq_true rfl) (Nat.le_of_ble_eq_true rfl) (Nat.le_of_ble_eq_true rfl) rfl dX9_hoursUntilStale_2 (fun v I1 ⟨hv, f1, g1⟩ => ?_)
  rw [hv]
  have h1 := h.j f1
  unfold q_hoursUntilStale
  by_cases hb : ixB i mm.s.2.2.1.length
  · rw [if_pos hb] at g1 ⊢
    rw [decide_eq_true hb]
    refine WP.if_eq (pc := 5) (tgt := 10) dX9_hoursUntilStale_5 (by decide) (fun h2 => ?_) (fun h2 => ?_)
    · exact absurd h2 (by decide)
    · refine WP.iconst (pc := 8) (v := 0) dX9_hoursUntilStale_8 (by decide) ?_
      refine WP.iret (pc := 9) rfl dX9_hoursUntilStale_9 ?_
      exact mO.err (by decide) g1 h1 f1.T
  · rw [if_neg hb] at g1 ⊢
    rw [decide_eq_false hb]
    obtain ⟨j, rfl, hj⟩ := ixN hb (by omega)
    have hg := gD_of (l := mm.s.2.2.1) dL hj
    rw [nI_clamp (by omega)]
    refine WP.if_eq (pc := 5) (tgt := 10) dX9_hoursUntilStale_5 (by decide) (fun h2 => ?_) (fun h2 => ?_)
    · refine WP.iconst (pc := 10) (v := 0) dX9_hoursUntilStale_10 (by decide) ?_
      refine WP.istore_n (pc := 11) dX9_hoursUntilStale_11 (by decide) rfl ?_
      exact LX9_hus Γ hm h1.1 hw hg 101 0 (by omega) (mO.ok g1 rfl h1 f1.T)
    · exact absurd rfl h2
theorem CX9_noAuction (hm : shM σ m) (h : mdI I m mm) (hw : wf T C mm.s) (k : Int32) : Ctr Γ (5, 112, 0, 0) MX9_noAuction [.ref m, .int k] (wI σ I) (rP σ (fun v I' => v = bI (decide (ixB k 3)) ∧ mdI I' m mm ∧ fr I I' m 12 ∧ I' m 8 = nI (if ixB k 3 then 1 else 0) ∧ (¬ ixB k 3 → auM I' m mm.s k))) := by
  refine Ctr.go rfl (by decide) rfl rfl ?_
  refine WP.aload_n (pc := 0) dX9_noAuction_0 rfl ?_
  refine WP.iload_n (pc := 1) dX9_noAuction_1 rfl ?_
  refine WP.cVp (pc := 2) (mc2 := 0) (ms2 := 0) (ci := 9) kX9_329 (CX9_noKind Γ hm k) (by decide) rfl hm.t0 rfl ⟨Nat.le_of_ble_eq_true rfl, Nat.le_of_ble_eq_true rfl⟩ (Nat.le_of_ble_eq_true rfl) (Nat.le_of_ble_eq_true rfl) (Nat.le_of_ble_eq_true rfl) rfl dX9_noAuction_2 (fun v I1 ⟨hv, f1, g1⟩ => ?_)
  rw [hv]
  have h1 := h.j f1
  by_cases hb : ixB k 3
  · rw [decide_eq_true hb]
    refine WP.if_eq (pc := 5) (tgt := 10) dX9_noAuction_5 (by decide) (fun h2 => ?_) (fun h2 => ?_)
    · exact absurd h2 (by decide)
    · refine WP.iconst (pc := 8) (v := 1) dX9_noAuction_8 (by decide) ?_
      refine WP.zret (pc := 9) rfl (by decide) dX9_noAuction_9 ?_
      exact ⟨_, I1, rfl, rfl, rfl, h1, f1.T, g1, fun z => absurd hb z⟩
  · rw [decide_eq_false hb]
    refine WP.if_eq (pc := 5) (tgt := 10) dX9_noAuction_5 (by decide) (fun h2 => ?_) (fun h2 => ?_)
    · refine WP.aload_n (pc := 10) dX9_noAuction_10 rfl ?_
      refine WP.aload_n (pc := 11) dX9_noAuction_11 rfl ?_
      refine WP.gR (pc := 12) uX9 fX9_7 hm.t0 hm.r0_0 dX9_noAuction_12 ?_
      refine WP.iload_n (pc := 15) dX9_noAuction_15 rfl ?_
      refine WP.cVw (pc := 16) (mc2 := 0) (ms2 := 0) (ci := 9) kX9_142 (CX9_settle Γ hm hm.t1 (by omega) (A := 73) (by decide) hw k h1.1) (by decide) rfl hm.t0 rfl ⟨Nat.le_of_ble_eq_true rfl, Nat.le_of_ble_eq_true rfl⟩ (Nat.le_of_ble_eq_true rfl) (Nat.le_of_ble_eq_true rfl) (Nat.le_of_ble_eq_true rfl) rfl dX9_noAuction_16 (fun I2 ⟨f2, a2⟩ => ?_)
      refine WP.iconst (pc := 19) (v := 0) dX9_noAuction_19 (by decide) ?_
      refine WP.zret (pc := 20) rfl (by decide) dX9_noAuction_20 ?_
      exact ⟨_, I2, rfl, rfl, rfl, h1.M f2, fr.trans f1.T f2.T, by rw [f2.2 8 (by omega)]; exact g1, fun _ => a2⟩
    · exact absurd rfl h2
theorem CX9_bidCount (hm : shM σ m) (h : mdI I m mm) (hw : wf T C mm.s) (k : Int32) : Ctr Γ (6, 133, 0, 0) MX9_bidCount [.ref m, .int k] (wI σ I) (mO σ I m (q_bidCount mm k)) := by
  have ⟨t1, t2⟩ := trN_le (plB mm.s k) (plL mm.s k)
  have eT : plT mm.s k = trN (plB mm.s k) (plL mm.s k) := rfl
  refine Ctr.go rfl (by decide) rfl rfl ?_
  refine WP.aload_n (pc := 0) dX9_bidCount_0 rfl ?_
  refine WP.iload_n (pc := 1) dX9_bidCount_1 rfl ?_
  refine WP.cVp (pc := 2) (mc2 := 0) (ms2 := 0) (ci := 9) kX9_341 (CX9_noAuction Γ hm h hw k) (by decide) rfl hm.t0 rfl ⟨Nat.le_of_ble_eq_true rfl, Nat.le_of_ble_eq_true rfl⟩ (Nat.le_of_ble_eq_true rfl) (Nat.le_of_ble_eq_true rfl) (Nat.le_of_ble_eq_true rfl) rfl dX9_bidCount_2 (fun v I1 ⟨hv, h1, f1, g1, a1⟩ => ?_)
  rw [hv]
  unfold q_bidCount
  by_cases hb : ixB k 3
  · rw [if_pos hb] at g1 ⊢
    rw [decide_eq_true hb]
    refine WP.if_eq (pc := 5) (tgt := 12) dX9_bidCount_5 (by decide) (fun h2 => ?_) (fun h2 => ?_)
    · exact absurd h2 (by decide)
    · refine WP.iconst (pc := 8) (v := 0) dX9_bidCount_8 (by decide) ?_
      refine WP.goto (pc := 9) (tgt := 16) dX9_bidCount_9 (by decide) ?_
      refine WP.iret (pc := 16) rfl dX9_bidCount_16 ?_
      exact mO.err (by decide) g1 h1 f1
  · rw [if_neg hb] at g1 ⊢
    rw [decide_eq_false hb]
    have a1 := a1 hb
    have hb90 := a1.1.2.1
    have hl60 := a1.2.1.2.1
    have p11 := a1.1.1
    have p12 := a1.2.1.1
    have p13 := a1.2.2.1
    have p14 := a1.2.2.2
    refine WP.if_eq (pc := 5) (tgt := 12) dX9_bidCount_5 (by decide) (fun h2 => ?_) (fun h2 => ?_)
    · refine WP.aload_n (pc := 12) dX9_bidCount_12 rfl ?_
      refine WP.gIv (pc := 13) (v := nI (plB mm.s k).length) uX9 fX9_114 hm.t0 (by simp [up_eq, p11]) dX9_bidCount_13 ?_
      refine WP.iret (pc := 16) rfl dX9_bidCount_16 ?_
      exact mO.ok g1 rfl h1 f1
    · exact absurd rfl h2
theorem CX9_tradeCount (hm : shM σ m) (h : mdI I m mm) (hw : wf T C mm.s) (k : Int32) : Ctr Γ (6, 133, 0, 0) MX9_tradeCount [.ref m, .int k] (wI σ I) (mO σ I m (q_tradeCount mm k)) := by
  have ⟨t1, t2⟩ := trN_le (plB mm.s k) (plL mm.s k)
  have eT : plT mm.s k = trN (plB mm.s k) (plL mm.s k) := rfl
  refine Ctr.go rfl (by decide) rfl rfl ?_
  refine WP.aload_n (pc := 0) dX9_tradeCount_0 rfl ?_
  refine WP.iload_n (pc := 1) dX9_tradeCount_1 rfl ?_
  refine WP.cVp (pc := 2) (mc2 := 0) (ms2 := 0) (ci := 9) kX9_341 (CX9_noAuction Γ hm h hw k) (by decide) rfl hm.t0 rfl ⟨Nat.le_of_ble_eq_true rfl, Nat.le_of_ble_eq_true rfl⟩ (Nat.le_of_ble_eq_true rfl) (Nat.le_of_ble_eq_true rfl) (Nat.le_of_ble_eq_true rfl) rfl dX9_tradeCount_2 (fun v I1 ⟨hv, h1, f1, g1, a1⟩ => ?_)
  rw [hv]
  unfold q_tradeCount
  by_cases hb : ixB k 3
  · rw [if_pos hb] at g1 ⊢
    rw [decide_eq_true hb]
    refine WP.if_eq (pc := 5) (tgt := 12) dX9_tradeCount_5 (by decide) (fun h2 => ?_) (fun h2 => ?_)
    · exact absurd h2 (by decide)
    · refine WP.iconst (pc := 8) (v := 0) dX9_tradeCount_8 (by decide) ?_
      refine WP.goto (pc := 9) (tgt := 16) dX9_tradeCount_9 (by decide) ?_
      refine WP.iret (pc := 16) rfl dX9_tradeCount_16 ?_
      exact mO.err (by decide) g1 h1 f1
  · rw [if_neg hb] at g1 ⊢
    rw [decide_eq_false hb]
    have a1 := a1 hb
    have hb90 := a1.1.2.1
    have hl60 := a1.2.1.2.1
    have p11 := a1.1.1
    have p12 := a1.2.1.1
    have p13 := a1.2.2.1
    have p14 := a1.2.2.2
    refine WP.if_eq (pc := 5) (tgt := 12) dX9_tradeCount_5 (by decide) (fun h2 => ?_) (fun h2 => ?_)
    · refine WP.aload_n (pc := 12) dX9_tradeCount_12 rfl ?_
      refine WP.gIv (pc := 13) (v := nI (plT mm.s k)) uX9 fX9_133 hm.t0 (by simp [up_eq, p13]) dX9_tradeCount_13 ?_
      refine WP.iret (pc := 16) rfl dX9_tradeCount_16 ?_
      exact mO.ok g1 rfl h1 f1
    · exact absurd rfl h2
theorem CX9_clearingPrice (hm : shM σ m) (h : mdI I m mm) (hw : wf T C mm.s) (k : Int32) : Ctr Γ (6, 133, 0, 0) MX9_clearingPrice [.ref m, .int k] (wI σ I) (mO σ I m (q_clearingPrice mm k)) := by
  have ⟨t1, t2⟩ := trN_le (plB mm.s k) (plL mm.s k)
  have eT : plT mm.s k = trN (plB mm.s k) (plL mm.s k) := rfl
  refine Ctr.go rfl (by decide) rfl rfl ?_
  refine WP.aload_n (pc := 0) dX9_clearingPrice_0 rfl ?_
  refine WP.iload_n (pc := 1) dX9_clearingPrice_1 rfl ?_
  refine WP.cVp (pc := 2) (mc2 := 0) (ms2 := 0) (ci := 9) kX9_341 (CX9_noAuction Γ hm h hw k) (by decide) rfl hm.t0 rfl ⟨Nat.le_of_ble_eq_true rfl, Nat.le_of_ble_eq_true rfl⟩ (Nat.le_of_ble_eq_true rfl) (Nat.le_of_ble_eq_true rfl) (Nat.le_of_ble_eq_true rfl) rfl dX9_clearingPrice_2 (fun v I1 ⟨hv, h1, f1, g1, a1⟩ => ?_)
  rw [hv]
  unfold q_clearingPrice
  by_cases hb : ixB k 3
  · rw [if_pos hb] at g1 ⊢
    rw [decide_eq_true hb]
    refine WP.if_eq (pc := 5) (tgt := 12) dX9_clearingPrice_5 (by decide) (fun h2 => ?_) (fun h2 => ?_)
    · exact absurd h2 (by decide)
    · refine WP.iconst (pc := 8) (v := 0) dX9_clearingPrice_8 (by decide) ?_
      refine WP.goto (pc := 9) (tgt := 16) dX9_clearingPrice_9 (by decide) ?_
      refine WP.iret (pc := 16) rfl dX9_clearingPrice_16 ?_
      exact mO.err (by decide) g1 h1 f1
  · rw [if_neg hb] at g1 ⊢
    rw [decide_eq_false hb]
    have a1 := a1 hb
    have hb90 := a1.1.2.1
    have hl60 := a1.2.1.2.1
    have p11 := a1.1.1
    have p12 := a1.2.1.1
    have p13 := a1.2.2.1
    have p14 := a1.2.2.2
    refine WP.if_eq (pc := 5) (tgt := 12) dX9_clearingPrice_5 (by decide) (fun h2 => ?_) (fun h2 => ?_)
    · refine WP.aload_n (pc := 12) dX9_clearingPrice_12 rfl ?_
      refine WP.gIv (pc := 13) (v := (if plT mm.s k = 0 then -1 else plP mm.s k)) uX9 fX9_139 hm.t0 (by simp [up_eq, p14]) dX9_clearingPrice_13 ?_
      refine WP.iret (pc := 16) rfl dX9_clearingPrice_16 ?_
      exact mO.ok g1 rfl h1 f1
    · exact absurd rfl h2
theorem CX9_reasonNoTrades (hm : shM σ m) (h : mdI I m mm) (hw : wf T C mm.s) (k : Int32) : Ctr Γ (6, 133, 0, 0) MX9_reasonNoTrades [.ref m, .int k] (wI σ I) (mO σ I m (q_reasonNoTrades mm k)) := by
  have ⟨t1, t2⟩ := trN_le (plB mm.s k) (plL mm.s k)
  have eT : plT mm.s k = trN (plB mm.s k) (plL mm.s k) := rfl
  refine Ctr.go rfl (by decide) rfl rfl ?_
  refine WP.aload_n (pc := 0) dX9_reasonNoTrades_0 rfl ?_
  refine WP.iload_n (pc := 1) dX9_reasonNoTrades_1 rfl ?_
  refine WP.cVp (pc := 2) (mc2 := 0) (ms2 := 0) (ci := 9) kX9_341 (CX9_noAuction Γ hm h hw k) (by decide) rfl hm.t0 rfl ⟨Nat.le_of_ble_eq_true rfl, Nat.le_of_ble_eq_true rfl⟩ (Nat.le_of_ble_eq_true rfl) (Nat.le_of_ble_eq_true rfl) (Nat.le_of_ble_eq_true rfl) rfl dX9_reasonNoTrades_2 (fun v I1 ⟨hv, h1, f1, g1, a1⟩ => ?_)
  rw [hv]
  unfold q_reasonNoTrades
  by_cases hb : ixB k 3
  · rw [if_pos hb] at g1 ⊢
    rw [decide_eq_true hb]
    refine WP.if_ne (pc := 5) (tgt := 15) dX9_reasonNoTrades_5 (by decide) (fun h2 => ?_) (fun h2 => ?_)
    · refine WP.iconst (pc := 15) (v := 0) dX9_reasonNoTrades_15 (by decide) ?_
      refine WP.iret (pc := 16) rfl dX9_reasonNoTrades_16 ?_
      exact mO.err (by decide) g1 h1 f1
    · exact absurd h2 (by decide)
  · rw [if_neg hb] at g1 ⊢
    rw [decide_eq_false hb]
    have a1 := a1 hb
    have hb90 := a1.1.2.1
    have hl60 := a1.2.1.2.1
    have p11 := a1.1.1
    have p12 := a1.2.1.1
    have p13 := a1.2.2.1
    have p14 := a1.2.2.2
    refine WP.if_ne (pc := 5) (tgt := 15) dX9_reasonNoTrades_5 (by decide) (fun h2 => ?_) (fun h2 => ?_)
    · exact absurd rfl h2
    · refine WP.aload_n (pc := 8) dX9_reasonNoTrades_8 rfl ?_
      refine WP.gIv (pc := 9) (v := nI (plT mm.s k)) uX9 fX9_133 hm.t0 (by simp [up_eq, p13]) dX9_reasonNoTrades_9 ?_
      refine WP.if_le (pc := 12) (tgt := 17) dX9_reasonNoTrades_12 (by decide) (fun h3 => ?_) (fun h3 => ?_)
      · have h0 : ¬ 0 < plT mm.s k := fun q => nI_nle q (by omega) h3
        rw [if_neg h0]
        refine WP.aload_n (pc := 17) dX9_reasonNoTrades_17 rfl ?_
        refine WP.gIv (pc := 18) (v := nI (plL mm.s k).length) uX9 fX9_120 hm.t0 (by simp [up_eq, p12]) dX9_reasonNoTrades_18 ?_
        refine WP.if_ne (pc := 21) (tgt := 28) dX9_reasonNoTrades_21 (by decide) (fun h4 => ?_) (fun h4 => ?_)
        · have h5 : (plL mm.s k).length ≠ 0 := fun q => h4 (by rw [q]; rfl)
          rw [if_neg h5]
          refine WP.aload_n (pc := 28) dX9_reasonNoTrades_28 rfl ?_
          refine WP.gIv (pc := 29) (v := nI (plB mm.s k).length) uX9 fX9_114 hm.t0 (by simp [up_eq, p11]) dX9_reasonNoTrades_29 ?_
          refine WP.if_ne (pc := 32) (tgt := 39) dX9_reasonNoTrades_32 (by decide) (fun h6 => ?_) (fun h6 => ?_)
          · have h7 : (plB mm.s k).length ≠ 0 := fun q => h6 (by rw [q]; rfl)
            rw [if_neg h7]
            refine WP.iconst (pc := 39) (v := 3) dX9_reasonNoTrades_39 (by decide) ?_
            refine WP.iret (pc := 40) rfl dX9_reasonNoTrades_40 ?_
            exact mO.ok g1 rfl h1 f1
          · have h7 : (plB mm.s k).length = 0 := (nI_eq (b := 0) (by omega) (by decide)).mp h6
            rw [if_pos h7]
            refine WP.iconst (pc := 35) (v := 2) dX9_reasonNoTrades_35 (by decide) ?_
            refine WP.goto (pc := 36) (tgt := 40) dX9_reasonNoTrades_36 (by decide) ?_
            refine WP.iret (pc := 40) rfl dX9_reasonNoTrades_40 ?_
            exact mO.ok g1 rfl h1 f1
        · have h5 : (plL mm.s k).length = 0 := (nI_eq (b := 0) (by omega) (by decide)).mp h4
          rw [if_pos h5]
          refine WP.iconst (pc := 24) (v := 1) dX9_reasonNoTrades_24 (by decide) ?_
          refine WP.goto (pc := 25) (tgt := 40) dX9_reasonNoTrades_25 (by decide) ?_
          refine WP.iret (pc := 40) rfl dX9_reasonNoTrades_40 ?_
          exact mO.ok g1 rfl h1 f1
      · have h0 : 0 < plT mm.s k := Nat.pos_of_ne_zero fun q => h3 (by rw [q]; decide)
        rw [if_pos h0]
        refine WP.iconst (pc := 15) (v := 0) dX9_reasonNoTrades_15 (by decide) ?_
        refine WP.iret (pc := 16) rfl dX9_reasonNoTrades_16 ?_
        exact mO.ok g1 rfl h1 f1
theorem CX9_buyerOf (hm : shM σ m) (h : mdI I m mm) (hw : wf T C mm.s) (k t : Int32) : Ctr Γ (6, 133, 0, 0) MX9_buyerOf [.ref m, .int k, .int t] (wI σ I) (mO σ I m (q_buyerOf mm k t)) := by
  have ⟨t1, t2⟩ := trN_le (plB mm.s k) (plL mm.s k)
  have eT : plT mm.s k = trN (plB mm.s k) (plL mm.s k) := rfl
  refine Ctr.go rfl (by decide) rfl rfl ?_
  refine WP.aload_n (pc := 0) dX9_buyerOf_0 rfl ?_
  refine WP.iload_n (pc := 1) dX9_buyerOf_1 rfl ?_
  refine WP.cVp (pc := 2) (mc2 := 0) (ms2 := 0) (ci := 9) kX9_341 (CX9_noAuction Γ hm h hw k) (by decide) rfl hm.t0 rfl ⟨Nat.le_of_ble_eq_true rfl, Nat.le_of_ble_eq_true rfl⟩ (Nat.le_of_ble_eq_true rfl) (Nat.le_of_ble_eq_true rfl) (Nat.le_of_ble_eq_true rfl) rfl dX9_buyerOf_2 (fun v I1 ⟨hv, h1, f1, g1, a1⟩ => ?_)
  rw [hv]
  unfold q_buyerOf
  by_cases hb : ixB k 3
  · rw [if_pos hb] at g1 ⊢
    rw [decide_eq_true hb]
    refine WP.if_ne (pc := 5) (tgt := 23) dX9_buyerOf_5 (by decide) (fun h2 => ?_) (fun h2 => ?_)
    · refine WP.iconst (pc := 23) (v := 0) dX9_buyerOf_23 (by decide) ?_
      refine WP.goto (pc := 24) (tgt := 33) dX9_buyerOf_24 (by decide) ?_
      refine WP.iret (pc := 33) rfl dX9_buyerOf_33 ?_
      exact mO.err (by decide) g1 h1 f1
    · exact absurd h2 (by decide)
  · rw [if_neg hb] at g1 ⊢
    rw [decide_eq_false hb]
    have a1 := a1 hb
    have hb90 := a1.1.2.1
    have hl60 := a1.2.1.2.1
    have p11 := a1.1.1
    have p12 := a1.2.1.1
    have p13 := a1.2.2.1
    have p14 := a1.2.2.2
    refine WP.if_ne (pc := 5) (tgt := 23) dX9_buyerOf_5 (by decide) (fun h2 => ?_) (fun h2 => ?_)
    · exact absurd rfl h2
    · have hix := out_ix (p := t) (n := plT mm.s k) (by omega)
      refine WP.aload_n (pc := 8) dX9_buyerOf_8 rfl ?_
      refine WP.iload_n (pc := 9) dX9_buyerOf_9 rfl ?_
      refine WP.iconst (pc := 10) (v := 0) dX9_buyerOf_10 (by decide) ?_
      refine WP.aload_n (pc := 11) dX9_buyerOf_11 rfl ?_
      refine WP.gIv (pc := 12) (v := nI (plT mm.s k)) uX9 fX9_133 hm.t0 (by simp [up_eq, p13]) dX9_buyerOf_12 ?_
      refine WP.iconst (pc := 15) (v := 1) dX9_buyerOf_15 (by decide) ?_
      refine WP.isub (pc := 16) dX9_buyerOf_16 ?_
      refine WP.cVp (pc := 17) (mc2 := 0) (ms2 := 0) (ci := 9) kX9_320 (CX9_out Γ hm t 0 (nI (plT mm.s k) - 1) (by rw [g1]; rfl)) (by decide) rfl hm.t0 rfl ⟨Nat.le_of_ble_eq_true rfl, Nat.le_of_ble_eq_true rfl⟩ (Nat.le_of_ble_eq_true rfl) (Nat.le_of_ble_eq_true rfl) (Nat.le_of_ble_eq_true rfl) rfl dX9_buyerOf_17 (fun w I2 ⟨hw2, f2, g2⟩ => ?_)
      rw [hw2]
      have h3 := h1.j f2
      by_cases q : ixB t (plT mm.s k)
      · have q2 : ¬ (decide (0 ≤ t) && decide (t ≤ nI (plT mm.s k) - 1)) = true := fun z => hix.mp z q
        rw [if_neg q2] at g2
        rw [Bool.not_eq_true] at q2
        rw [q2, if_pos q]
        refine WP.if_eq (pc := 20) (tgt := 27) dX9_buyerOf_20 (by decide) (fun h4 => ?_) (fun h4 => ?_)
        · exact absurd h4 (by decide)
        · refine WP.iconst (pc := 23) (v := 0) dX9_buyerOf_23 (by decide) ?_
          refine WP.goto (pc := 24) (tgt := 33) dX9_buyerOf_24 (by decide) ?_
          refine WP.iret (pc := 33) rfl dX9_buyerOf_33 ?_
          exact mO.err (by decide) g2 h3 (fr.trans f1 f2.T)
      · have q2 := hix.mpr q
        rw [if_pos q2] at g2
        rw [q2, if_neg q]
        obtain ⟨j, rfl, hj⟩ := ixN q (by omega)
        have hg := gD_of (l := plB mm.s k) dP (j := j) (by omega)
        rw [nI_clamp (by omega)]
        refine WP.if_eq (pc := 20) (tgt := 27) dX9_buyerOf_20 (by decide) (fun h4 => ?_) (fun h4 => ?_)
        · skip
          refine WP.aload_n (pc := 27) dX9_buyerOf_27 rfl ?_
          refine WP.gR (pc := 28) uX9 fX9_29 hm.t0 hm.r0_9 dX9_buyerOf_28 ?_
          refine WP.iload_n (pc := 31) dX9_buyerOf_31 rfl ?_
          refine WP.ialdv (pc := 32) hm.t7 (by omega) (by decide) (v := ((plB mm.s k).getD j dP).1) (by rw [f2.1 _ (by omega)]; exact a1.1.2.2 j _ hg) dX9_buyerOf_32 ?_
          refine WP.iret (pc := 33) rfl dX9_buyerOf_33 ?_
          exact mO.ok g2 rfl h3 (fr.trans f1 f2.T)
        · exact absurd rfl h4
theorem CX9_loafOf (hm : shM σ m) (h : mdI I m mm) (hw : wf T C mm.s) (k t : Int32) : Ctr Γ (6, 133, 0, 0) MX9_loafOf [.ref m, .int k, .int t] (wI σ I) (mO σ I m (q_loafOf mm k t)) := by
  have ⟨t1, t2⟩ := trN_le (plB mm.s k) (plL mm.s k)
  have eT : plT mm.s k = trN (plB mm.s k) (plL mm.s k) := rfl
  refine Ctr.go rfl (by decide) rfl rfl ?_
  refine WP.aload_n (pc := 0) dX9_loafOf_0 rfl ?_
  refine WP.iload_n (pc := 1) dX9_loafOf_1 rfl ?_
  refine WP.cVp (pc := 2) (mc2 := 0) (ms2 := 0) (ci := 9) kX9_341 (CX9_noAuction Γ hm h hw k) (by decide) rfl hm.t0 rfl ⟨Nat.le_of_ble_eq_true rfl, Nat.le_of_ble_eq_true rfl⟩ (Nat.le_of_ble_eq_true rfl) (Nat.le_of_ble_eq_true rfl) (Nat.le_of_ble_eq_true rfl) rfl dX9_loafOf_2 (fun v I1 ⟨hv, h1, f1, g1, a1⟩ => ?_)
  rw [hv]
  unfold q_loafOf
  by_cases hb : ixB k 3
  · rw [if_pos hb] at g1 ⊢
    rw [decide_eq_true hb]
    refine WP.if_ne (pc := 5) (tgt := 23) dX9_loafOf_5 (by decide) (fun h2 => ?_) (fun h2 => ?_)
    · refine WP.iconst (pc := 23) (v := 0) dX9_loafOf_23 (by decide) ?_
      refine WP.goto (pc := 24) (tgt := 33) dX9_loafOf_24 (by decide) ?_
      refine WP.iret (pc := 33) rfl dX9_loafOf_33 ?_
      exact mO.err (by decide) g1 h1 f1
    · exact absurd h2 (by decide)
  · rw [if_neg hb] at g1 ⊢
    rw [decide_eq_false hb]
    have a1 := a1 hb
    have hb90 := a1.1.2.1
    have hl60 := a1.2.1.2.1
    have p11 := a1.1.1
    have p12 := a1.2.1.1
    have p13 := a1.2.2.1
    have p14 := a1.2.2.2
    refine WP.if_ne (pc := 5) (tgt := 23) dX9_loafOf_5 (by decide) (fun h2 => ?_) (fun h2 => ?_)
    · exact absurd rfl h2
    · have hix := out_ix (p := t) (n := plT mm.s k) (by omega)
      refine WP.aload_n (pc := 8) dX9_loafOf_8 rfl ?_
      refine WP.iload_n (pc := 9) dX9_loafOf_9 rfl ?_
      refine WP.iconst (pc := 10) (v := 0) dX9_loafOf_10 (by decide) ?_
      refine WP.aload_n (pc := 11) dX9_loafOf_11 rfl ?_
      refine WP.gIv (pc := 12) (v := nI (plT mm.s k)) uX9 fX9_133 hm.t0 (by simp [up_eq, p13]) dX9_loafOf_12 ?_
      refine WP.iconst (pc := 15) (v := 1) dX9_loafOf_15 (by decide) ?_
      refine WP.isub (pc := 16) dX9_loafOf_16 ?_
      refine WP.cVp (pc := 17) (mc2 := 0) (ms2 := 0) (ci := 9) kX9_320 (CX9_out Γ hm t 0 (nI (plT mm.s k) - 1) (by rw [g1]; rfl)) (by decide) rfl hm.t0 rfl ⟨Nat.le_of_ble_eq_true rfl, Nat.le_of_ble_eq_true rfl⟩ (Nat.le_of_ble_eq_true rfl) (Nat.le_of_ble_eq_true rfl) (Nat.le_of_ble_eq_true rfl) rfl dX9_loafOf_17 (fun w I2 ⟨hw2, f2, g2⟩ => ?_)
      rw [hw2]
      have h3 := h1.j f2
      by_cases q : ixB t (plT mm.s k)
      · have q2 : ¬ (decide (0 ≤ t) && decide (t ≤ nI (plT mm.s k) - 1)) = true := fun z => hix.mp z q
        rw [if_neg q2] at g2
        rw [Bool.not_eq_true] at q2
        rw [q2, if_pos q]
        refine WP.if_eq (pc := 20) (tgt := 27) dX9_loafOf_20 (by decide) (fun h4 => ?_) (fun h4 => ?_)
        · exact absurd h4 (by decide)
        · refine WP.iconst (pc := 23) (v := 0) dX9_loafOf_23 (by decide) ?_
          refine WP.goto (pc := 24) (tgt := 33) dX9_loafOf_24 (by decide) ?_
          refine WP.iret (pc := 33) rfl dX9_loafOf_33 ?_
          exact mO.err (by decide) g2 h3 (fr.trans f1 f2.T)
      · have q2 := hix.mpr q
        rw [if_pos q2] at g2
        rw [q2, if_neg q]
        obtain ⟨j, rfl, hj⟩ := ixN q (by omega)
        have hg := gD_of (l := plL mm.s k) dP (j := j) (by omega)
        rw [nI_clamp (by omega)]
        refine WP.if_eq (pc := 20) (tgt := 27) dX9_loafOf_20 (by decide) (fun h4 => ?_) (fun h4 => ?_)
        · skip
          refine WP.aload_n (pc := 27) dX9_loafOf_27 rfl ?_
          refine WP.gR (pc := 28) uX9 fX9_32 hm.t0 hm.r0_10 dX9_loafOf_28 ?_
          refine WP.iload_n (pc := 31) dX9_loafOf_31 rfl ?_
          refine WP.ialdv (pc := 32) hm.t8 (by omega) (by decide) (v := ((plL mm.s k).getD j dP).1) (by rw [f2.1 _ (by omega)]; exact a1.2.1.2.2 j _ hg) dX9_loafOf_32 ?_
          refine WP.iret (pc := 33) rfl dX9_loafOf_33 ?_
          exact mO.ok g2 rfl h3 (fr.trans f1 f2.T)
        · exact absurd rfl h4
theorem i32_gain (a b c d : Int32) : a - c + (b - d) = a + b - (c + d) := by
  rw [Int32.sub_eq_add_neg, Int32.sub_eq_add_neg, Int32.sub_eq_add_neg, Int32.neg_add, Int32.sub_eq_add_neg]
  ac_rfl
theorem LX9_gain (hm : shM σ m) {J : Nat → Nat → Int32} (h : gAt (J (m + 1)) mm.s) (hw : wf T C mm.s) {k : Int32} (ha : auM J m mm.s k) {Φ : cRes → cAS → Prop} (H : Φ (.inl (some (.int (smI (fun i => ((plB mm.s k).getD i dP).2) (plT mm.s k) - smI (fun i => ((plL mm.s k).getD i dP).2) (plT mm.s k))))) (wI σ J)) : ∀ d i, i + d = plT mm.s k → WP Γ (6, 133, 0, 0) MX9_gain Φ 14 [some (.ref m), some (.int k), some (.int (smI (fun i => ((plB mm.s k).getD i dP).2) i - smI (fun i => ((plL mm.s k).getD i dP).2) i)), some (.int (nI i))] [] (wI σ J) := by
  have ⟨t1, t2⟩ := trN_le (plB mm.s k) (plL mm.s k)
  have eT : plT mm.s k = trN (plB mm.s k) (plL mm.s k) := rfl
  have hb90 := ha.1.2.1
  have hl60 := ha.2.1.2.1
  have p13 := ha.2.2.1
  intro d
  induction d with
  | zero =>
    intro i hi
    refine WP.iload_n (pc := 14) dX9_gain_14 rfl ?_
    refine WP.aload_n (pc := 15) dX9_gain_15 rfl ?_
    refine WP.gIv (pc := 16) (v := nI (plT mm.s k)) uX9 fX9_133 hm.t0 (by simp [up_eq, p13]) dX9_gain_16 ?_
    refine WP.icmp_ge (pc := 19) (tgt := 54) dX9_gain_19 (by decide) (fun h1 => ?_) (fun h1 => ?_)
    · refine WP.iload_n (pc := 54) dX9_gain_54 rfl ?_
      refine WP.iret (pc := 55) rfl dX9_gain_55 ?_
      rw [show i = plT mm.s k by omega]
      exact H
    · exact absurd (by rw [show i = plT mm.s k by omega]; exact Int32.le_refl _) h1
  | succ d ih =>
    intro i hi
    have hgb := gD_of (l := plB mm.s k) dP (j := i) (by omega)
    have hgl := gD_of (l := plL mm.s k) dP (j := i) (by omega)
    obtain ⟨j, ej, w1, w2, w3, w4⟩ := lvF_mem _ (List.mem_of_getElem? hgl)
    have hr := ha.2.1.2.2 i _ hgl
    rw [w4] at hr
    refine WP.iload_n (pc := 14) dX9_gain_14 rfl ?_
    refine WP.aload_n (pc := 15) dX9_gain_15 rfl ?_
    refine WP.gIv (pc := 16) (v := nI (plT mm.s k)) uX9 fX9_133 hm.t0 (by simp [up_eq, p13]) dX9_gain_16 ?_
    refine WP.icmp_ge (pc := 19) (tgt := 54) dX9_gain_19 (by decide) (fun h1 => ?_) (fun h1 => ?_)
    · exact absurd h1 (nI_ge (by omega) (by omega))
    · refine WP.iload_n (pc := 22) dX9_gain_22 rfl ?_
      refine WP.aload_n (pc := 23) dX9_gain_23 rfl ?_
      refine WP.aload_n (pc := 24) dX9_gain_24 rfl ?_
      refine WP.gR (pc := 25) uX9 fX9_7 hm.t0 hm.r0_0 dX9_gain_25 ?_
      refine WP.iload_n (pc := 28) dX9_gain_28 rfl ?_
      refine WP.cV1 (pc := 29) (mc2 := 0) (ms2 := 0) (ci := 9) kX9_136 (CX9_bidAt Γ hm hm.t1 h ha.1 hgb) (by decide) rfl hm.t0 rfl ⟨Nat.le_of_ble_eq_true rfl, Nat.le_of_ble_eq_true rfl⟩ (Nat.le_of_ble_eq_true rfl) (Nat.le_of_ble_eq_true rfl) (Nat.le_of_ble_eq_true rfl) rfl dX9_gain_29 ?_
      refine WP.aload_n (pc := 32) dX9_gain_32 rfl ?_
      refine WP.gR (pc := 33) uX9 fX9_7 hm.t0 hm.r0_0 dX9_gain_33 ?_
      refine WP.aload_n (pc := 36) dX9_gain_36 rfl ?_
      refine WP.gR (pc := 37) uX9 fX9_32 hm.t0 hm.r0_10 dX9_gain_37 ?_
      refine WP.iload_n (pc := 40) dX9_gain_40 rfl ?_
      refine WP.ialdv (pc := 41) hm.t8 (by omega) (by decide) (v := (nI j)) (hr) dX9_gain_41 ?_
      refine WP.cS1 (pc := 42) (mc2 := 0) (ms2 := 0) kX9_123 (CX9_reserve Γ hm.t1 h w2 (rsOk.of hw.1 (by decide) (hw.2.2.2.1.1 ej (List.mem_of_getElem? w2)))) rfl ⟨Nat.le_of_ble_eq_true rfl, Nat.le_of_ble_eq_true rfl⟩ (Nat.le_of_ble_eq_true rfl) (Nat.le_of_ble_eq_true rfl) (Nat.le_of_ble_eq_true rfl) rfl dX9_gain_42 ?_
      refine WP.isub (pc := 45) dX9_gain_45 ?_
      refine WP.iadd (pc := 46) dX9_gain_46 ?_
      have e : smI (fun i => ((plB mm.s k).getD i dP).2) i - smI (fun i => ((plL mm.s k).getD i dP).2) i + (((plB mm.s k).getD i dP).2 - rsE mm.s.1 ej) = smI (fun i => ((plB mm.s k).getD i dP).2) (i + 1) - smI (fun i => ((plL mm.s k).getD i dP).2) (i + 1) := by
        rw [i32_gain]
        show _ = (smI _ i + _) - (smI _ i + ((plL mm.s k).getD i dP).2)
        rw [w4]
      rw [e]
      refine WP.istore_n (pc := 47) dX9_gain_47 (by decide) rfl ?_
      refine WP.iinc (pc := 48) dX9_gain_48 rfl (nI_1 _) (by decide) rfl ?_
      refine WP.goto (pc := 51) (tgt := 14) dX9_gain_51 (by decide) ?_
      exact ih (i + 1) (by omega)
theorem CX9_gain (hm : shM σ m) (h : mdI I m mm) (hw : wf T C mm.s) (k : Int32) : Ctr Γ (6, 133, 0, 0) MX9_gain [.ref m, .int k] (wI σ I) (mO σ I m (q_gain mm k)) := by
  have ⟨t1, t2⟩ := trN_le (plB mm.s k) (plL mm.s k)
  have eT : plT mm.s k = trN (plB mm.s k) (plL mm.s k) := rfl
  refine Ctr.go rfl (by decide) rfl rfl ?_
  refine WP.aload_n (pc := 0) dX9_gain_0 rfl ?_
  refine WP.iload_n (pc := 1) dX9_gain_1 rfl ?_
  refine WP.cVp (pc := 2) (mc2 := 0) (ms2 := 0) (ci := 9) kX9_341 (CX9_noAuction Γ hm h hw k) (by decide) rfl hm.t0 rfl ⟨Nat.le_of_ble_eq_true rfl, Nat.le_of_ble_eq_true rfl⟩ (Nat.le_of_ble_eq_true rfl) (Nat.le_of_ble_eq_true rfl) (Nat.le_of_ble_eq_true rfl) rfl dX9_gain_2 (fun v I1 ⟨hv, h1, f1, g1, a1⟩ => ?_)
  rw [hv]
  unfold q_gain
  by_cases hb : ixB k 3
  · rw [if_pos hb] at g1 ⊢
    rw [decide_eq_true hb]
    refine WP.if_eq (pc := 5) (tgt := 10) dX9_gain_5 (by decide) (fun h2 => ?_) (fun h2 => ?_)
    · exact absurd h2 (by decide)
    · refine WP.iconst (pc := 8) (v := 0) dX9_gain_8 (by decide) ?_
      refine WP.iret (pc := 9) rfl dX9_gain_9 ?_
      exact mO.err (by decide) g1 h1 f1
  · rw [if_neg hb] at g1 ⊢
    rw [decide_eq_false hb]
    have a1 := a1 hb
    have hb90 := a1.1.2.1
    have hl60 := a1.2.1.2.1
    have p11 := a1.1.1
    have p12 := a1.2.1.1
    have p13 := a1.2.2.1
    have p14 := a1.2.2.2
    refine WP.if_eq (pc := 5) (tgt := 10) dX9_gain_5 (by decide) (fun h2 => ?_) (fun h2 => ?_)
    · refine WP.iconst (pc := 10) (v := 0) dX9_gain_10 (by decide) ?_
      refine WP.istore_n (pc := 11) dX9_gain_11 (by decide) rfl ?_
      refine WP.iconst (pc := 12) (v := 0) dX9_gain_12 (by decide) ?_
      refine WP.istore_n (pc := 13) dX9_gain_13 (by decide) rfl ?_
      have e0 : smI (fun i => ((plB mm.s k).getD i dP).2) 0 - smI (fun i => ((plL mm.s k).getD i dP).2) 0 = 0 := by show (0 : Int32) - 0 = 0; decide
      refine WP.self ?_
      have := LX9_gain Γ hm h1.1 hw a1 (Φ := mO σ I m (0, smI (fun i => ((plB mm.s k).getD i dP).2) (plT mm.s k) - smI (fun i => ((plL mm.s k).getD i dP).2) (plT mm.s k), mm)) (mO.ok g1 rfl h1 f1) (plT mm.s k) 0 (by omega)
      rw [e0] at this
      exact this
    · exact absurd rfl h2
end T
