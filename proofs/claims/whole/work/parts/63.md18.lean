-- behind: 62
theorem gAt.ext {g g' : Nat → Int32} {s : mS} (h : gAt g s) (hf : ∀ k, k < 380 → g' k = g k) : gAt g' s :=
  ⟨h.1.kp (fun k _ _ _ _ _ => hf k (by omega)), h.2.1.kp (fun k _ => hf k (by omega)), h.2.2.1.kp (fun k _ => hf k (by omega)), h.2.2.2.1.kp (fun k _ => hf k (by omega)), h.2.2.2.2.kp (fun k _ => hf k (by omega))⟩
def cpR (g0 g : Nat → Int32) (p q n : Nat) : Nat → Int32 := fun j => if q ≤ j ∧ j < q + n then g0 (p + (j - q)) else g j
theorem hrsN_out : ∀ n (s : mS), hrOut (hrsN n s) = hrsN (n + 1) s
  | 0, _ => rfl
  | n + 1, s => hrsN_out n (hrOut s)
section T
variable (Γ : cG) {σ : cAS} {m : Nat} {I : Nat → Nat → Int32} {mm : mX} {T C : Nat}
theorem LX9_copyRow {a0 a1 N0 N1 p q : Nat} (h0 : aT σ a0 = (11, N0)) (h1 : aT σ a1 = (11, N1)) (hne : a0 ≠ a1) (hp : p + 380 ≤ N0) (hq : q + 380 ≤ N1) (hN0 : N0 ≤ 4000) (hN1 : N1 ≤ 4000) {Φ : cRes → cAS → Prop} {I0 : Nat → Nat → Int32} (H : ∀ I', frB I0 I' a1 → I' a1 = cpR (I0 a0) (I0 a1) p q 380 → Φ (.inl none) (wI σ I')) : ∀ d i (I : Nat → Nat → Int32), i + d = 380 → frB I0 I a1 → I a1 = cpR (I0 a0) (I0 a1) p q i →
    WP Γ (0, 0, 0, 0) MX9_copyRow Φ 3 [some (.ref a0), some (.int (nI p)), some (.ref a1), some (.int (nI q)), some (.int (nI i))] [] (wI σ I) := by
  intro d
  induction d with
  | zero =>
    intro i I hi f1 e1
    refine WP.iload (pc := 3) dX9_copyRow_3 rfl ?_
    refine WP.sipush (pc := 5) (v := 380) dX9_copyRow_5 (by decide) ?_
    refine WP.icmp_ge (pc := 8) (tgt := 29) dX9_copyRow_8 (by decide) (fun h2 => ?_) (fun h2 => ?_)
    · skip
      refine WP.vret (pc := 29) rfl dX9_copyRow_29 ?_
      rw [show i = 380 by omega] at e1
      exact H I f1 e1
    · exact absurd (nI_le (a := 380) (by omega) (by omega)) h2
  | succ d ih =>
    intro i I hi f1 e1
    refine WP.iload (pc := 3) dX9_copyRow_3 rfl ?_
    refine WP.sipush (pc := 5) (v := 380) dX9_copyRow_5 (by decide) ?_
    refine WP.icmp_ge (pc := 8) (tgt := 29) dX9_copyRow_8 (by decide) (fun h2 => ?_) (fun h2 => ?_)
    · exact absurd h2 (nI_ge (b := 380) (by omega) (by omega))
    · refine WP.aload_n (pc := 11) dX9_copyRow_11 rfl ?_
      refine WP.iload_n (pc := 12) dX9_copyRow_12 rfl ?_
      refine WP.iload (pc := 13) dX9_copyRow_13 rfl ?_
      refine WP.iaN (pc := 15) dX9_copyRow_15 ?_
      refine WP.aload_n (pc := 16) dX9_copyRow_16 rfl ?_
      refine WP.iload_n (pc := 17) dX9_copyRow_17 rfl ?_
      refine WP.iload (pc := 18) dX9_copyRow_18 rfl ?_
      refine WP.iaN (pc := 20) dX9_copyRow_20 ?_
      refine WP.ialdv (pc := 21) h0 (by omega) (by omega) (v := I0 a0 (p + i)) (by rw [f1 a0 hne]) dX9_copyRow_21 ?_
      refine WP.iast (pc := 22) h1 (by omega) (by omega) dX9_copyRow_22 ?_
      refine WP.iinc (pc := 23) dX9_copyRow_23 rfl (nI_1 _) (by decide) rfl ?_
      refine WP.goto (pc := 26) (tgt := 3) dX9_copyRow_26 (by decide) ?_
      refine ih (i + 1) _ (by omega) f1.up ?_
      rw [up_row, e1]
      funext j
      unfold uw cpR
      by_cases z : j = q + i
      · rw [if_pos z, if_pos (by omega), z]
        congr 1
        omega
      · rw [if_neg z]
        by_cases z2 : q ≤ j ∧ j < q + i
        · rw [if_pos z2, if_pos (by omega)]
        · rw [if_neg z2, if_neg (by omega)]
theorem CX9_copyRow {a0 a1 N0 N1 p q : Nat} (h0 : aT σ a0 = (11, N0)) (h1 : aT σ a1 = (11, N1)) (hne : a0 ≠ a1) (hp : p + 380 ≤ N0) (hq : q + 380 ≤ N1) (hN0 : N0 ≤ 4000) (hN1 : N1 ≤ 4000) {I : Nat → Nat → Int32} : Ctr Γ (0, 0, 0, 0) MX9_copyRow [.ref a0, .int (nI p), .ref a1, .int (nI q)] (wI σ I) (rW σ (fun I' => frB I I' a1 ∧ I' a1 = cpR (I a0) (I a1) p q 380)) := by
  refine Ctr.go rfl (by decide) rfl rfl ?_
  refine WP.iconst (pc := 0) (v := 0) dX9_copyRow_0 (by decide) ?_
  refine WP.istore (pc := 1) dX9_copyRow_1 (by decide) rfl ?_
  refine LX9_copyRow Γ h0 h1 hne hp hq hN0 hN1 (fun I' f e => ⟨rfl, I', rfl, f, e⟩) 380 0 I (by omega) frB.rf ?_
  funext j
  unfold cpR
  rw [if_neg (by omega)]
theorem mdI.B3 {I I' : Nat → Nat → Int32} (h : mdI I m mm) (hf : frB I I' (m + 3)) : mdI I' m mm := h.fr (fun b hb => hf b (by omega)) (fun j _ => by rw [hf m (by omega)])
theorem frB.T3 {I I' : Nat → Nat → Int32} (hf : frB I I' (m + 3)) : fr I I' m 12 := fun c hc => hf c (by omega)
theorem CX9_tries (hm : shM σ m) (h : mdI I m mm) (hw : wf T C mm.s) (hT : T ≤ 2147483647) (hC : C + 30000 < 2147483648) {n : Nat} (hn : n ≤ 100) : Ctr Γ (6, 140, 0, 0) MX9_tries [.ref m, .int (nI n)] (wI σ I) (rW σ (fun I' => frB I I' (m + 3) ∧ gAt (I' (m + 3)) (hrsN n mm.s))) := by
  refine Ctr.go rfl (by decide) rfl rfl ?_
  refine WP.aload_n (pc := 0) dX9_tries_0 rfl ?_
  refine WP.gR (pc := 1) uX9 fX9_7 hm.t0 hm.r0_0 dX9_tries_1 ?_
  refine WP.iconst (pc := 4) (v := 0) dX9_tries_4 (by decide) ?_
  refine WP.aload_n (pc := 5) dX9_tries_5 rfl ?_
  refine WP.gR (pc := 6) uX9 fX9_16 hm.t0 hm.r0_2 dX9_tries_6 ?_
  refine WP.iconst (pc := 9) (v := 0) dX9_tries_9 (by decide) ?_
  refine WP.cSw (pc := 10) (mc2 := 0) (ms2 := 0) kX9_61 (CX9_copyRow Γ hm.t1 hm.t3 (p := 0) (q := 0) (by omega) (by omega) (by omega) (by omega) (by omega)) rfl ⟨Nat.le_of_ble_eq_true rfl, Nat.le_of_ble_eq_true rfl⟩ (Nat.le_of_ble_eq_true rfl) (Nat.le_of_ble_eq_true rfl) (Nat.le_of_ble_eq_true rfl) rfl dX9_tries_10 (fun I1 ⟨f1, e1⟩ => ?_)
  have g1 : gAt (I1 (m + 3)) mm.s := h.1.ext (fun k hk => by rw [e1]; unfold cpR; rw [if_pos (by omega)]; congr 1; omega)
  refine WP.aload_n (pc := 13) dX9_tries_13 rfl ?_
  refine WP.aload_n (pc := 14) dX9_tries_14 rfl ?_
  refine WP.gR (pc := 15) uX9 fX9_16 hm.t0 hm.r0_2 dX9_tries_15 ?_
  refine WP.iload_n (pc := 18) dX9_tries_18 rfl ?_
  refine WP.cVw (pc := 19) (mc2 := 0) (ms2 := 0) (ci := 9) kX9_267 (CX9_passMany Γ hm hm.t3 (n := n) (T := T) (C := C) (by omega) hT g1 (Nat.lt_of_le_of_lt (Nat.add_le_add_left (Nat.mul_le_mul_left 300 hn) C) hC) hw) (by decide) rfl hm.t0 rfl ⟨Nat.le_of_ble_eq_true rfl, Nat.le_of_ble_eq_true rfl⟩ (Nat.le_of_ble_eq_true rfl) (Nat.le_of_ble_eq_true rfl) (Nat.le_of_ble_eq_true rfl) rfl dX9_tries_19 (fun I2 ⟨f2, g2⟩ => ?_)
  refine WP.vret (pc := 22) rfl dX9_tries_22 ?_
  exact ⟨rfl, I2, rfl, f1.trans f2, g2⟩
theorem hrsN_w (hT : T ≤ 2147483647) {s : mS} (hw : wf T C s) (hC : C + 30000 < 2147483648) {n : Nat} (hn : n ≤ 100) : wf T (C + 300 * n) (hrsN n s) := hrsN_wf hT n (Nat.lt_of_le_of_lt (Nat.add_le_add_left (Nat.mul_le_mul_left 300 hn) C) hC) hw
theorem CX9_sparrowsAfter (hm : shM σ m) (h : mdI I m mm) (hw : wf T C mm.s) (hT : T ≤ 2147483647) (hC : C + 30000 < 2147483648) (n : Int32) : Ctr Γ (7, 161, 0, 0) MX9_sparrowsAfter [.ref m, .int n] (wI σ I) (mO σ I m (q_sparrowsAfter mm n)) := by
  refine Ctr.go rfl (by decide) rfl rfl ?_
  refine WP.aload_n (pc := 0) dX9_sparrowsAfter_0 rfl ?_
  refine WP.iload_n (pc := 1) dX9_sparrowsAfter_1 rfl ?_
  refine WP.iconst (pc := 2) (v := 0) dX9_sparrowsAfter_2 (by decide) ?_
  refine WP.bipush (pc := 3) (v := 100) dX9_sparrowsAfter_3 (by decide) ?_
  refine WP.cVp (pc := 5) (mc2 := 0) (ms2 := 0) (ci := 9) kX9_176 (CX9_noNumber Γ hm n 0 100) (by decide) rfl hm.t0 rfl ⟨Nat.le_of_ble_eq_true rfl, Nat.le_of_ble_eq_true rfl⟩ (Nat.le_of_ble_eq_true rfl) (Nat.le_of_ble_eq_true rfl) (Nat.le_of_ble_eq_true rfl) rfl dX9_sparrowsAfter_5 (fun v I1 ⟨hv, f1, g1⟩ => ?_)
  rw [hv]
  have h1 := h.j f1
  unfold q_sparrowsAfter
  by_cases hq : n < 0 ∨ 100 < n
  · have hq2 : ¬ (decide (0 ≤ n) && decide (n ≤ (100 : Int32))) = true := fun z => btw_lt.mp z hq
    rw [if_neg hq2] at g1
    rw [Bool.not_eq_true] at hq2
    rw [if_pos hq, hq2]
    refine WP.if_eq (pc := 8) (tgt := 13) dX9_sparrowsAfter_8 (by decide) (fun h4 => ?_) (fun h4 => ?_)
    · exact absurd h4 (by decide)
    · refine WP.iconst (pc := 11) (v := 0) dX9_sparrowsAfter_11 (by decide) ?_
      refine WP.iret (pc := 12) rfl dX9_sparrowsAfter_12 ?_
      exact mO.err (by decide) g1 h1 f1.T
  · have hq2 := btw_lt.mpr hq
    rw [if_pos hq2] at g1
    rw [if_neg hq, hq2]
    obtain ⟨j, hj, rfl⟩ := nI_of (x := n) (fun z => hq (Or.inl z))
    have hj9 : j ≤ 100 := Nat.not_lt.mp fun z => hq (Or.inr (nI_lt (a := 100) z hj))
    rw [nI_clamp hj]
    refine WP.if_eq (pc := 8) (tgt := 13) dX9_sparrowsAfter_8 (by decide) (fun h4 => ?_) (fun h4 => ?_)
    · refine WP.aload_n (pc := 13) dX9_sparrowsAfter_13 rfl ?_
      refine WP.iload_n (pc := 14) dX9_sparrowsAfter_14 rfl ?_
      refine WP.cVw (pc := 15) (mc2 := 0) (ms2 := 0) (ci := 9) kX9_347 (CX9_tries Γ hm h1 hw hT hC hj9) (by decide) rfl hm.t0 rfl ⟨Nat.le_of_ble_eq_true rfl, Nat.le_of_ble_eq_true rfl⟩ (Nat.le_of_ble_eq_true rfl) (Nat.le_of_ble_eq_true rfl) (Nat.le_of_ble_eq_true rfl) rfl dX9_sparrowsAfter_15 (fun I2 ⟨f2, g2⟩ => ?_)
      refine WP.aload_n (pc := 18) dX9_sparrowsAfter_18 rfl ?_
      refine WP.gR (pc := 19) uX9 fX9_16 hm.t0 hm.r0_2 dX9_sparrowsAfter_19 ?_
      refine WP.iconst (pc := 22) (v := 5) dX9_sparrowsAfter_22 (by decide) ?_
      refine WP.ialdv (pc := 23) (k := 5) hm.t3 (by decide) (by decide) (v := ((hrsN j mm.s).1 5)) (g2.1 5 (by omega)) dX9_sparrowsAfter_23 ?_
      refine WP.iret (pc := 24) rfl dX9_sparrowsAfter_24 ?_
      exact mO.ok (by rw [f2 m (by omega)]; exact g1) rfl (h1.B3 f2) (fr.trans f1.T f2.T3)
    · exact absurd rfl h4
theorem CX9_loavesAfter (hm : shM σ m) (h : mdI I m mm) (hw : wf T C mm.s) (hT : T ≤ 2147483647) (hC : C + 30000 < 2147483648) (n : Int32) : Ctr Γ (7, 161, 0, 0) MX9_loavesAfter [.ref m, .int n] (wI σ I) (mO σ I m (q_loavesAfter mm n)) := by
  refine Ctr.go rfl (by decide) rfl rfl ?_
  refine WP.aload_n (pc := 0) dX9_loavesAfter_0 rfl ?_
  refine WP.iload_n (pc := 1) dX9_loavesAfter_1 rfl ?_
  refine WP.iconst (pc := 2) (v := 0) dX9_loavesAfter_2 (by decide) ?_
  refine WP.bipush (pc := 3) (v := 100) dX9_loavesAfter_3 (by decide) ?_
  refine WP.cVp (pc := 5) (mc2 := 0) (ms2 := 0) (ci := 9) kX9_176 (CX9_noNumber Γ hm n 0 100) (by decide) rfl hm.t0 rfl ⟨Nat.le_of_ble_eq_true rfl, Nat.le_of_ble_eq_true rfl⟩ (Nat.le_of_ble_eq_true rfl) (Nat.le_of_ble_eq_true rfl) (Nat.le_of_ble_eq_true rfl) rfl dX9_loavesAfter_5 (fun v I1 ⟨hv, f1, g1⟩ => ?_)
  rw [hv]
  have h1 := h.j f1
  unfold q_loavesAfter
  by_cases hq : n < 0 ∨ 100 < n
  · have hq2 : ¬ (decide (0 ≤ n) && decide (n ≤ (100 : Int32))) = true := fun z => btw_lt.mp z hq
    rw [if_neg hq2] at g1
    rw [Bool.not_eq_true] at hq2
    rw [if_pos hq, hq2]
    refine WP.if_eq (pc := 8) (tgt := 13) dX9_loavesAfter_8 (by decide) (fun h4 => ?_) (fun h4 => ?_)
    · exact absurd h4 (by decide)
    · refine WP.iconst (pc := 11) (v := 0) dX9_loavesAfter_11 (by decide) ?_
      refine WP.iret (pc := 12) rfl dX9_loavesAfter_12 ?_
      exact mO.err (by decide) g1 h1 f1.T
  · have hq2 := btw_lt.mpr hq
    rw [if_pos hq2] at g1
    rw [if_neg hq, hq2]
    obtain ⟨j, hj, rfl⟩ := nI_of (x := n) (fun z => hq (Or.inl z))
    have hj9 : j ≤ 100 := Nat.not_lt.mp fun z => hq (Or.inr (nI_lt (a := 100) z hj))
    rw [nI_clamp hj]
    refine WP.if_eq (pc := 8) (tgt := 13) dX9_loavesAfter_8 (by decide) (fun h4 => ?_) (fun h4 => ?_)
    · refine WP.aload_n (pc := 13) dX9_loavesAfter_13 rfl ?_
      refine WP.iload_n (pc := 14) dX9_loavesAfter_14 rfl ?_
      refine WP.cVw (pc := 15) (mc2 := 0) (ms2 := 0) (ci := 9) kX9_347 (CX9_tries Γ hm h1 hw hT hC hj9) (by decide) rfl hm.t0 rfl ⟨Nat.le_of_ble_eq_true rfl, Nat.le_of_ble_eq_true rfl⟩ (Nat.le_of_ble_eq_true rfl) (Nat.le_of_ble_eq_true rfl) (Nat.le_of_ble_eq_true rfl) rfl dX9_loavesAfter_15 (fun I2 ⟨f2, g2⟩ => ?_)
      refine WP.aload_n (pc := 18) dX9_loavesAfter_18 rfl ?_
      refine WP.gR (pc := 19) uX9 fX9_16 hm.t0 hm.r0_2 dX9_loavesAfter_19 ?_
      refine WP.iconst (pc := 22) (v := 3) dX9_loavesAfter_22 (by decide) ?_
      refine WP.ialdv (pc := 23) (k := 3) hm.t3 (by decide) (by decide) (v := (nI (hrsN j mm.s).2.2.1.length)) (g2.2.2.1.1) dX9_loavesAfter_23 ?_
      refine WP.iret (pc := 24) rfl dX9_loavesAfter_24 ?_
      exact mO.ok (by rw [f2 m (by omega)]; exact g1) rfl (h1.B3 f2) (fr.trans f1.T f2.T3)
    · exact absurd rfl h4
theorem CX9_tradesAfter (hm : shM σ m) (h : mdI I m mm) (hw : wf T C mm.s) (hT : T ≤ 2147483647) (hC : C + 30000 < 2147483648) (k n : Int32) : Ctr Γ (7, 161, 0, 0) MX9_tradesAfter [.ref m, .int k, .int n] (wI σ I) (mO σ I m (q_tradesAfter mm k n)) := by
  refine Ctr.go rfl (by decide) rfl rfl ?_
  refine WP.aload_n (pc := 0) dX9_tradesAfter_0 rfl ?_
  refine WP.iload_n (pc := 1) dX9_tradesAfter_1 rfl ?_
  refine WP.cVp (pc := 2) (mc2 := 0) (ms2 := 0) (ci := 9) kX9_329 (CX9_noKind Γ hm k) (by decide) rfl hm.t0 rfl ⟨Nat.le_of_ble_eq_true rfl, Nat.le_of_ble_eq_true rfl⟩ (Nat.le_of_ble_eq_true rfl) (Nat.le_of_ble_eq_true rfl) (Nat.le_of_ble_eq_true rfl) rfl dX9_tradesAfter_2 (fun v I1 ⟨hv, f1, g1⟩ => ?_)
  rw [hv]
  have h1 := h.j f1
  unfold q_tradesAfter
  by_cases hb : ixB k 3
  · rw [if_pos hb] at g1 ⊢
    rw [decide_eq_true hb]
    refine WP.if_ne (pc := 5) (tgt := 19) dX9_tradesAfter_5 (by decide) (fun h2 => ?_) (fun h2 => ?_)
    · refine WP.iconst (pc := 19) (v := 0) dX9_tradesAfter_19 (by decide) ?_
      refine WP.iret (pc := 20) rfl dX9_tradesAfter_20 ?_
      exact mO.err (by decide) g1 h1 f1.T
    · exact absurd h2 (by decide)
  · rw [if_neg hb] at g1 ⊢
    rw [decide_eq_false hb]
    refine WP.if_ne (pc := 5) (tgt := 19) dX9_tradesAfter_5 (by decide) (fun h2 => ?_) (fun h2 => ?_)
    · exact absurd rfl h2
    · refine WP.aload_n (pc := 8) dX9_tradesAfter_8 rfl ?_
      refine WP.iload_n (pc := 9) dX9_tradesAfter_9 rfl ?_
      refine WP.iconst (pc := 10) (v := 0) dX9_tradesAfter_10 (by decide) ?_
      refine WP.bipush (pc := 11) (v := 100) dX9_tradesAfter_11 (by decide) ?_
      refine WP.cVp (pc := 13) (mc2 := 0) (ms2 := 0) (ci := 9) kX9_320 (CX9_out Γ hm n 0 100 (by rw [g1]; rfl)) (by decide) rfl hm.t0 rfl ⟨Nat.le_of_ble_eq_true rfl, Nat.le_of_ble_eq_true rfl⟩ (Nat.le_of_ble_eq_true rfl) (Nat.le_of_ble_eq_true rfl) (Nat.le_of_ble_eq_true rfl) rfl dX9_tradesAfter_13 (fun v I2 ⟨hv2, f2, g2⟩ => ?_)
      rw [hv2]
      have h3 := h1.j f2
      by_cases hq : n < 0 ∨ 100 < n
      · have hq2 : ¬ (decide (0 ≤ n) && decide (n ≤ (100 : Int32))) = true := fun z => btw_lt.mp z hq
        rw [if_neg hq2] at g2
        rw [Bool.not_eq_true] at hq2
        rw [if_pos hq, hq2]
        refine WP.if_eq (pc := 16) (tgt := 21) dX9_tradesAfter_16 (by decide) (fun h4 => ?_) (fun h4 => ?_)
        · exact absurd h4 (by decide)
        · refine WP.iconst (pc := 19) (v := 0) dX9_tradesAfter_19 (by decide) ?_
          refine WP.iret (pc := 20) rfl dX9_tradesAfter_20 ?_
          exact mO.err (by decide) g2 h3 (f1.trans f2).T
      · have hq2 := btw_lt.mpr hq
        rw [if_pos hq2] at g2
        rw [if_neg hq, hq2]
        obtain ⟨j, hj, rfl⟩ := nI_of (x := n) (fun z => hq (Or.inl z))
        have hj9 : j ≤ 100 := Nat.not_lt.mp fun z => hq (Or.inr (nI_lt (a := 100) z hj))
        rw [nI_clamp hj]
        refine WP.if_eq (pc := 16) (tgt := 21) dX9_tradesAfter_16 (by decide) (fun h4 => ?_) (fun h4 => ?_)
        · refine WP.aload_n (pc := 21) dX9_tradesAfter_21 rfl ?_
          refine WP.iload_n (pc := 22) dX9_tradesAfter_22 rfl ?_
          refine WP.cVw (pc := 23) (mc2 := 0) (ms2 := 0) (ci := 9) kX9_347 (CX9_tries Γ hm h3 hw hT hC hj9) (by decide) rfl hm.t0 rfl ⟨Nat.le_of_ble_eq_true rfl, Nat.le_of_ble_eq_true rfl⟩ (Nat.le_of_ble_eq_true rfl) (Nat.le_of_ble_eq_true rfl) (Nat.le_of_ble_eq_true rfl) rfl dX9_tradesAfter_23 (fun I3 ⟨f3, g3⟩ => ?_)
          refine WP.aload_n (pc := 26) dX9_tradesAfter_26 rfl ?_
          refine WP.aload_n (pc := 27) dX9_tradesAfter_27 rfl ?_
          refine WP.gR (pc := 28) uX9 fX9_16 hm.t0 hm.r0_2 dX9_tradesAfter_28 ?_
          refine WP.iload_n (pc := 31) dX9_tradesAfter_31 rfl ?_
          refine WP.cVw (pc := 32) (mc2 := 0) (ms2 := 0) (ci := 9) kX9_142 (CX9_settle Γ hm hm.t3 (by omega) (A := 73) (by decide) (hrsN_w hT hw hC hj9) k g3) (by decide) rfl hm.t0 rfl ⟨Nat.le_of_ble_eq_true rfl, Nat.le_of_ble_eq_true rfl⟩ (Nat.le_of_ble_eq_true rfl) (Nat.le_of_ble_eq_true rfl) (Nat.le_of_ble_eq_true rfl) rfl dX9_tradesAfter_32 (fun I4 ⟨f4, a4⟩ => ?_)
          have p13 := a4.2.2.1
          refine WP.aload_n (pc := 35) dX9_tradesAfter_35 rfl ?_
          refine WP.gIv (pc := 36) (v := nI (plT (hrsN j mm.s) k)) uX9 fX9_133 hm.t0 (by simp [up_eq, p13]) dX9_tradesAfter_36 ?_
          refine WP.iret (pc := 39) rfl dX9_tradesAfter_39 ?_
          exact mO.ok (by rw [f4.2 8 (by omega), f3 m (by omega)]; exact g2) rfl ((h3.B3 f3).M f4) (fr.trans (fr.trans (f1.trans f2).T f3.T3) f4.T)
        · exact absurd rfl h4
theorem LX9_best (hm : shM σ m) {I0 : Nat → Nat → Int32} {n0 : Nat} (h0 : mdI I0 m mm) (hw : wf T C mm.s) (hT : T ≤ 2147483647) (hC : C + 30000 < 2147483648) {k V : Int32} {Φ : cRes → cAS → Prop} (H : ∀ I', frM I0 I' m ∨ True → I' m 8 = 0 → mdI I' m mm → fr I0 I' m 12 → Φ (.inl (some (.int V))) (wI σ I')) : ∀ d i b mo (I : Nat → Nat → Int32), i + d = 25 → bhN k d i b mo (hrsN i mm.s) = V → I m 8 = 0 → mdI I m mm → fr I0 I m 12 →
    WP Γ (7, 161, 0, 0) MX9_bestHour Φ 17 [some (.ref m), some (.int k), some (.int b), some (.int mo), some (.int (nI i)), none] [] (wI σ I) := by
  intro d
  induction d with
  | zero =>
    intro i b mo I hi hV h8 hI F
    refine WP.iload (pc := 17) dX9_bestHour_17 rfl ?_
    refine WP.bipush (pc := 19) (v := 24) dX9_bestHour_19 (by decide) ?_
    refine WP.icmp_gt (pc := 21) (tgt := 93) dX9_bestHour_21 (by decide) (fun h1 => ?_) (fun h1 => ?_)
    · refine WP.iload_n (pc := 93) dX9_bestHour_93 rfl ?_
      refine WP.iret (pc := 94) rfl dX9_bestHour_94 ?_
      rw [show b = V from hV]
      exact H I (Or.inr trivial) h8 hI F
    · exact absurd (show (24 : Int32) < nI i from nI_lt (a := 24) (by omega) (by omega)) h1
  | succ d ih =>
    intro i b mo I hi hV h8 hI F
    have hwi := hrsN_w hT hw hC (n := i) (by omega)
    refine WP.iload (pc := 17) dX9_bestHour_17 rfl ?_
    refine WP.bipush (pc := 19) (v := 24) dX9_bestHour_19 (by decide) ?_
    refine WP.icmp_gt (pc := 21) (tgt := 93) dX9_bestHour_21 (by decide) (fun h1 => ?_) (fun h1 => ?_)
    · exact absurd h1 (nI_nlt (b := i) (a := 24) (by omega) (by omega))
    · refine WP.aload_n (pc := 24) dX9_bestHour_24 rfl ?_
      refine WP.iload (pc := 25) dX9_bestHour_25 rfl ?_
      refine WP.cVw (pc := 27) (mc2 := 0) (ms2 := 0) (ci := 9) kX9_347 (CX9_tries Γ hm hI hw hT hC (n := i) (by omega)) (by decide) rfl hm.t0 rfl ⟨Nat.le_of_ble_eq_true rfl, Nat.le_of_ble_eq_true rfl⟩ (Nat.le_of_ble_eq_true rfl) (Nat.le_of_ble_eq_true rfl) (Nat.le_of_ble_eq_true rfl) rfl dX9_bestHour_27 (fun I1 ⟨f1, g1⟩ => ?_)
      refine WP.aload_n (pc := 30) dX9_bestHour_30 rfl ?_
      refine WP.aload_n (pc := 31) dX9_bestHour_31 rfl ?_
      refine WP.gR (pc := 32) uX9 fX9_16 hm.t0 hm.r0_2 dX9_bestHour_32 ?_
      refine WP.iload_n (pc := 35) dX9_bestHour_35 rfl ?_
      refine WP.cVw (pc := 36) (mc2 := 0) (ms2 := 0) (ci := 9) kX9_142 (CX9_settle Γ hm hm.t3 (by omega) (A := 73) (by decide) hwi k g1) (by decide) rfl hm.t0 rfl ⟨Nat.le_of_ble_eq_true rfl, Nat.le_of_ble_eq_true rfl⟩ (Nat.le_of_ble_eq_true rfl) (Nat.le_of_ble_eq_true rfl) (Nat.le_of_ble_eq_true rfl) rfl dX9_bestHour_36 (fun I2 ⟨f2, a2⟩ => ?_)
      have ⟨t1, t2⟩ := trN_le (plB (hrsN i mm.s) k) (plL (hrsN i mm.s) k)
      have eT : plT (hrsN i mm.s) k = trN (plB (hrsN i mm.s) k) (plL (hrsN i mm.s) k) := rfl
      have hb90 := a2.1.2.1
      have p13 := a2.2.2.1
      have p14 := a2.2.2.2
      have k8 : I2 m 8 = 0 := by rw [f2.2 8 (by omega), f1 m (by omega)]; exact h8
      have hI2 := (hI.B3 f1).M f2
      have F2 : fr I0 I2 m 12 := fr.trans F (fr.trans f1.T3 f2.T)
      have hVs : bhN k (d + 1) i b mo (hrsN i mm.s) = if mo < nI (plT (hrsN i mm.s) k) * plP (hrsN i mm.s) k then bhN k d (i + 1) (nI i) (nI (plT (hrsN i mm.s) k) * plP (hrsN i mm.s) k) (hrOut (hrsN i mm.s)) else bhN k d (i + 1) b mo (hrOut (hrsN i mm.s)) := rfl
      rw [hVs, hrsN_out] at hV
      have fin : WP Γ (7, 161, 0, 0) MX9_bestHour Φ 59 [some (.ref m), some (.int k), some (.int b), some (.int mo), some (.int (nI i)), none] [.int (nI (plT (hrsN i mm.s) k) * plP (hrsN i mm.s) k)] (wI σ I2) := by
        refine WP.istore (pc := 59) dX9_bestHour_59 (by decide) rfl ?_
        refine WP.iload (pc := 61) dX9_bestHour_61 rfl ?_
        refine WP.iload_n (pc := 63) dX9_bestHour_63 rfl ?_
        refine WP.icmp_le (pc := 64) (tgt := 72) dX9_bestHour_64 (by decide) (fun h3 => ?_) (fun h3 => ?_)
        · rw [if_neg (Int32.not_lt.mpr h3)] at hV
          refine WP.iload_n (pc := 72) dX9_bestHour_72 rfl ?_
          refine WP.istore_n (pc := 73) dX9_bestHour_73 (by decide) rfl ?_
          refine WP.iload (pc := 74) dX9_bestHour_74 rfl ?_
          refine WP.iload_n (pc := 76) dX9_bestHour_76 rfl ?_
          refine WP.icmp_le (pc := 77) (tgt := 85) dX9_bestHour_77 (by decide) (fun h4 => ?_) (fun h4 => ?_)
          · refine WP.iload_n (pc := 85) dX9_bestHour_85 rfl ?_
            refine WP.istore_n (pc := 86) dX9_bestHour_86 (by decide) rfl ?_
            refine WP.iinc (pc := 87) dX9_bestHour_87 rfl (nI_1 _) (by decide) rfl ?_
            refine WP.goto (pc := 90) (tgt := 17) dX9_bestHour_90 (by decide) ?_
            refine WP.drop 5 ?_
            exact ih (i + 1) b mo I2 (by omega) hV k8 hI2 F2
          · exact absurd h3 h4
        · rw [if_pos (Int32.not_le.mp h3)] at hV
          refine WP.iload (pc := 67) dX9_bestHour_67 rfl ?_
          refine WP.goto (pc := 69) (tgt := 73) dX9_bestHour_69 (by decide) ?_
          refine WP.istore_n (pc := 73) dX9_bestHour_73 (by decide) rfl ?_
          refine WP.iload (pc := 74) dX9_bestHour_74 rfl ?_
          refine WP.iload_n (pc := 76) dX9_bestHour_76 rfl ?_
          refine WP.icmp_le (pc := 77) (tgt := 85) dX9_bestHour_77 (by decide) (fun h4 => ?_) (fun h4 => ?_)
          · exact absurd h4 h3
          · refine WP.iload (pc := 80) dX9_bestHour_80 rfl ?_
            refine WP.goto (pc := 82) (tgt := 86) dX9_bestHour_82 (by decide) ?_
            refine WP.istore_n (pc := 86) dX9_bestHour_86 (by decide) rfl ?_
            refine WP.iinc (pc := 87) dX9_bestHour_87 rfl (nI_1 _) (by decide) rfl ?_
            refine WP.goto (pc := 90) (tgt := 17) dX9_bestHour_90 (by decide) ?_
            refine WP.drop 5 ?_
            exact ih (i + 1) (nI i) _ I2 (by omega) hV k8 hI2 F2
      refine WP.aload_n (pc := 39) dX9_bestHour_39 rfl ?_
      refine WP.gIv (pc := 40) (v := nI (plT (hrsN i mm.s) k)) uX9 fX9_133 hm.t0 (by simp [up_eq, p13]) dX9_bestHour_40 ?_
      refine WP.if_ne (pc := 43) (tgt := 50) dX9_bestHour_43 (by decide) (fun h2 => ?_) (fun h2 => ?_)
      · have h5 : plT (hrsN i mm.s) k ≠ 0 := fun q => h2 (by rw [q]; rfl)
        refine WP.aload_n (pc := 50) dX9_bestHour_50 rfl ?_
        refine WP.gIv (pc := 51) (v := nI (plT (hrsN i mm.s) k)) uX9 fX9_133 hm.t0 (by simp [up_eq, p13]) dX9_bestHour_51 ?_
        refine WP.aload_n (pc := 54) dX9_bestHour_54 rfl ?_
        refine WP.gIv (pc := 55) (v := (if plT (hrsN i mm.s) k = 0 then -1 else plP (hrsN i mm.s) k)) uX9 fX9_139 hm.t0 (by simp [up_eq, p14]) dX9_bestHour_55 ?_
        refine WP.imul (pc := 58) dX9_bestHour_58 ?_
        rw [if_neg h5]
        exact fin
      · have h5 : plT (hrsN i mm.s) k = 0 := (nI_eq (b := 0) (by omega) (by decide)).mp h2
        refine WP.iconst (pc := 46) (v := 0) dX9_bestHour_46 (by decide) ?_
        refine WP.goto (pc := 47) (tgt := 59) dX9_bestHour_47 (by decide) ?_
        rw [h5, show nI 0 * plP (hrsN i mm.s) k = 0 from Int32.zero_mul] at fin
        exact fin
theorem CX9_bestHour (hm : shM σ m) (h : mdI I m mm) (hw : wf T C mm.s) (hT : T ≤ 2147483647) (hC : C + 30000 < 2147483648) (k : Int32) : Ctr Γ (7, 161, 0, 0) MX9_bestHour [.ref m, .int k] (wI σ I) (mO σ I m (q_bestHour mm k)) := by
  refine Ctr.go rfl (by decide) rfl rfl ?_
  refine WP.aload_n (pc := 0) dX9_bestHour_0 rfl ?_
  refine WP.iload_n (pc := 1) dX9_bestHour_1 rfl ?_
  refine WP.cVp (pc := 2) (mc2 := 0) (ms2 := 0) (ci := 9) kX9_329 (CX9_noKind Γ hm k) (by decide) rfl hm.t0 rfl ⟨Nat.le_of_ble_eq_true rfl, Nat.le_of_ble_eq_true rfl⟩ (Nat.le_of_ble_eq_true rfl) (Nat.le_of_ble_eq_true rfl) (Nat.le_of_ble_eq_true rfl) rfl dX9_bestHour_2 (fun v I1 ⟨hv, f1, g1⟩ => ?_)
  rw [hv]
  have h1 := h.j f1
  unfold q_bestHour
  by_cases hb : ixB k 3
  · rw [if_pos hb] at g1 ⊢
    rw [decide_eq_true hb]
    refine WP.if_eq (pc := 5) (tgt := 10) dX9_bestHour_5 (by decide) (fun h2 => ?_) (fun h2 => ?_)
    · exact absurd h2 (by decide)
    · refine WP.iconst (pc := 8) (v := 0) dX9_bestHour_8 (by decide) ?_
      refine WP.iret (pc := 9) rfl dX9_bestHour_9 ?_
      exact mO.err (by decide) g1 h1 f1.T
  · rw [if_neg hb] at g1 ⊢
    rw [decide_eq_false hb]
    refine WP.if_eq (pc := 5) (tgt := 10) dX9_bestHour_5 (by decide) (fun h2 => ?_) (fun h2 => ?_)
    · refine WP.iconst (pc := 10) (v := 0) dX9_bestHour_10 (by decide) ?_
      refine WP.istore_n (pc := 11) dX9_bestHour_11 (by decide) rfl ?_
      refine WP.iconst (pc := 12) (v := 0) dX9_bestHour_12 (by decide) ?_
      refine WP.istore_n (pc := 13) dX9_bestHour_13 (by decide) rfl ?_
      refine WP.iconst (pc := 14) (v := 0) dX9_bestHour_14 (by decide) ?_
      refine WP.istore (pc := 15) dX9_bestHour_15 (by decide) rfl ?_
      exact LX9_best Γ hm (n0 := 0) h1 hw hT hC (fun I' _ k8 hI F => mO.ok k8 rfl hI (fr.trans f1.T F)) 25 0 0 0 I1 (by omega) rfl g1 h1 fr.rf
    · exact absurd rfl h2
/-- an answer that is no int: nothing thrown, nothing changed -/
def mF (σ : cAS) (I : Nat → Nat → Int32) (m : Nat) (mm : mX) (w : Value) : cRes → cAS → Prop := fun r τ => r = .inl (some w) ∧ ∃ I', τ = wI σ I' ∧ mdI I' m mm ∧ fr I I' m 12
theorem LX9_mean (hm : shM σ m) {J : Nat → Nat → Int32} (h : gAt (J (m + 1)) mm.s) {Φ : cRes → cAS → Prop} (H : WP Γ (2, 41, 0, 0) MX9_meanAge Φ 36 [some (.ref m), some (.int (smI (fun i => mm.s.1 3 - (mm.s.2.2.1.getD i dL).2.2) mm.s.2.2.1.length)), none] [] (wI σ J)) : ∀ d i, i + d = mm.s.2.2.1.length → WP Γ (2, 41, 0, 0) MX9_meanAge Φ 9 [some (.ref m), some (.int (smI (fun i => mm.s.1 3 - (mm.s.2.2.1.getD i dL).2.2) i)), some (.int (nI i))] [] (wI σ J) := by
  have h60 := h.2.2.1.2.1
  intro d
  induction d with
  | zero =>
    intro i hi
    have hil : i = mm.s.2.2.1.length := by omega
    refine WP.iload_n (pc := 9) dX9_meanAge_9 rfl ?_
    refine WP.aload_n (pc := 10) dX9_meanAge_10 rfl ?_
    refine WP.gR (pc := 11) uX9 fX9_7 hm.t0 hm.r0_0 dX9_meanAge_11 ?_
    refine WP.iconst (pc := 14) (v := 3) dX9_meanAge_14 (by decide) ?_
    refine WP.ialdv (pc := 15) (k := 3) hm.t1 (by decide) (by decide) (v := (nI mm.s.2.2.1.length)) (h.2.2.1.1) dX9_meanAge_15 ?_
    refine WP.icmp_ge (pc := 16) (tgt := 36) dX9_meanAge_16 (by decide) (fun h1 => ?_) (fun h1 => ?_)
    · refine WP.drop 2 ?_
      rw [hil]
      exact H
    · exact absurd (by rw [hil]; exact Int32.le_refl _) h1
  | succ d ih =>
    intro i hi
    have hg := gD_of (l := mm.s.2.2.1) dL (j := i) (by omega)
    obtain ⟨c0, c1, c2⟩ := h.2.2.1.2.2 i _ hg
    refine WP.iload_n (pc := 9) dX9_meanAge_9 rfl ?_
    refine WP.aload_n (pc := 10) dX9_meanAge_10 rfl ?_
    refine WP.gR (pc := 11) uX9 fX9_7 hm.t0 hm.r0_0 dX9_meanAge_11 ?_
    refine WP.iconst (pc := 14) (v := 3) dX9_meanAge_14 (by decide) ?_
    refine WP.ialdv (pc := 15) (k := 3) hm.t1 (by decide) (by decide) (v := (nI mm.s.2.2.1.length)) (h.2.2.1.1) dX9_meanAge_15 ?_
    refine WP.icmp_ge (pc := 16) (tgt := 36) dX9_meanAge_16 (by decide) (fun h1 => ?_) (fun h1 => ?_)
    · exact absurd h1 (nI_ge (by omega) (by omega))
    · refine WP.iload_n (pc := 19) dX9_meanAge_19 rfl ?_
      refine WP.aload_n (pc := 20) dX9_meanAge_20 rfl ?_
      refine WP.gR (pc := 21) uX9 fX9_7 hm.t0 hm.r0_0 dX9_meanAge_21 ?_
      refine WP.iload_n (pc := 24) dX9_meanAge_24 rfl ?_
      refine WP.cS1 (pc := 25) (mc2 := 0) (ms2 := 0) kX9_92 (CX9_ageOf Γ hm.t1 (i := i) (by omega)) rfl ⟨Nat.le_of_ble_eq_true rfl, Nat.le_of_ble_eq_true rfl⟩ (Nat.le_of_ble_eq_true rfl) (Nat.le_of_ble_eq_true rfl) (Nat.le_of_ble_eq_true rfl) rfl dX9_meanAge_25 ?_
      refine WP.iadd (pc := 28) dX9_meanAge_28 ?_
      have e : smI (fun i => mm.s.1 3 - (mm.s.2.2.1.getD i dL).2.2) i + (J (m + 1) 0 - J (m + 1) (110 + 3 * i + 2)) = smI (fun i => mm.s.1 3 - (mm.s.2.2.1.getD i dL).2.2) (i + 1) := by
        rw [c2, show J (m + 1) 0 = mm.s.1 3 from h.1 3 (by omega)]
        rfl
      rw [e]
      refine WP.istore_n (pc := 29) dX9_meanAge_29 (by decide) rfl ?_
      refine WP.iinc (pc := 30) dX9_meanAge_30 rfl (nI_1 _) (by decide) rfl ?_
      refine WP.goto (pc := 33) (tgt := 9) dX9_meanAge_33 (by decide) ?_
      exact ih (i + 1) (by omega)
theorem CX9_meanAge (hm : shM σ m) (h : mdI I m mm) : Ctr Γ (2, 41, 0, 0) MX9_meanAge [.ref m] (wI σ I) (mF σ I m mm (.double (q_meanAge mm))) := by
  have hJ : up I m 8 0 (m + 1) = I (m + 1) := up_ne (by omega)
  have h60 := h.1.2.2.1.2.1
  refine Ctr.go rfl (by decide) rfl rfl ?_
  refine WP.aload_n (pc := 0) dX9_meanAge_0 rfl ?_
  refine WP.iconst (pc := 1) (v := 0) dX9_meanAge_1 (by decide) ?_
  refine WP.pI (pc := 2) uX9 fX9_75 rfl rfl hm.t0 dX9_meanAge_2 ?_
  refine WP.iconst (pc := 5) (v := 0) dX9_meanAge_5 (by decide) ?_
  refine WP.istore_n (pc := 6) dX9_meanAge_6 (by decide) rfl ?_
  refine WP.iconst (pc := 7) (v := 0) dX9_meanAge_7 (by decide) ?_
  refine WP.istore_n (pc := 8) dX9_meanAge_8 (by decide) rfl ?_
  have hg : gAt (up I m 8 0 (m + 1)) mm.s := by rw [hJ]; exact h.1
  refine LX9_mean Γ hm hg ?_ mm.s.2.2.1.length 0 (by omega)
  unfold q_meanAge
  refine WP.aload_n (pc := 36) dX9_meanAge_36 rfl ?_
  refine WP.gR (pc := 37) uX9 fX9_7 hm.t0 hm.r0_0 dX9_meanAge_37 ?_
  refine WP.iconst (pc := 40) (v := 3) dX9_meanAge_40 (by decide) ?_
  refine WP.ialdv (pc := 41) (k := 3) hm.t1 (by decide) (by decide) (v := (nI mm.s.2.2.1.length)) (by rw [hJ]; exact h.1.2.2.1.1) dX9_meanAge_41 ?_
  refine WP.if_ne (pc := 42) (tgt := 49) dX9_meanAge_42 (by decide) (fun h1 => ?_) (fun h1 => ?_)
  · have h0 : mm.s.2.2.1.length ≠ 0 := fun q => h1 (by rw [q]; rfl)
    rw [if_neg h0]
    refine WP.iload_n (pc := 49) dX9_meanAge_49 rfl ?_
    refine WP.i2d (pc := 50) dX9_meanAge_50 ?_
    refine WP.aload_n (pc := 51) dX9_meanAge_51 rfl ?_
    refine WP.gR (pc := 52) uX9 fX9_7 hm.t0 hm.r0_0 dX9_meanAge_52 ?_
    refine WP.iconst (pc := 55) (v := 3) dX9_meanAge_55 (by decide) ?_
    refine WP.ialdv (pc := 56) (k := 3) hm.t1 (by decide) (by decide) (v := (nI mm.s.2.2.1.length)) (by rw [hJ]; exact h.1.2.2.1.1) dX9_meanAge_56 ?_
    refine WP.i2d (pc := 57) dX9_meanAge_57 ?_
    refine WP.ddiv (pc := 58) dX9_meanAge_58 (div_n64 _ _ (nI_ne0 (by omega) (by omega))) ?_
    refine WP.dret (pc := 59) rfl dX9_meanAge_59 ?_
    exact ⟨rfl, _, rfl, h.j fr_j.rf.u1, fr8⟩
  · have h0 : mm.s.2.2.1.length = 0 := (nI_eq (b := 0) (by omega) (by decide)).mp h1
    rw [if_pos h0]
    refine WP.dconst0 (pc := 45) dX9_meanAge_45 ?_
    refine WP.goto (pc := 46) (tgt := 59) dX9_meanAge_46 (by decide) ?_
    refine WP.dret (pc := 59) rfl dX9_meanAge_59 ?_
    exact ⟨rfl, _, rfl, h.j fr_j.rf.u1, fr8⟩
theorem CX9_soldShare (hm : shM σ m) (h : mdI I m mm) (hk : inR (mm.s.1 6) 0 16777216) : Ctr Γ (0, 0, 0, 0) MX9_soldShare [.ref m] (wI σ I) (mF σ I m mm (.float (q_soldShare mm))) := by
  have hJ : up I m 8 0 (m + 1) = I (m + 1) := up_ne (by omega)
  obtain ⟨b, hb, -, hb2⟩ := hk
  have k10 : up I m 8 0 (m + 1) 10 = nI b := by rw [hJ]; exact (h.1.1 6 (by omega)).trans hb
  have k11 : up I m 8 0 (m + 1) 11 = mm.s.1 7 := by rw [hJ]; exact h.1.1 7 (by omega)
  refine Ctr.go rfl (by decide) rfl rfl ?_
  refine WP.aload_n (pc := 0) dX9_soldShare_0 rfl ?_
  refine WP.iconst (pc := 1) (v := 0) dX9_soldShare_1 (by decide) ?_
  refine WP.pI (pc := 2) uX9 fX9_75 rfl rfl hm.t0 dX9_soldShare_2 ?_
  refine WP.aload_n (pc := 5) dX9_soldShare_5 rfl ?_
  refine WP.gR (pc := 6) uX9 fX9_7 hm.t0 hm.r0_0 dX9_soldShare_6 ?_
  refine WP.bipush (pc := 9) (v := 10) dX9_soldShare_9 (by decide) ?_
  refine WP.ialdv (pc := 11) (k := 10) hm.t1 (by decide) (by decide) (v := (nI b)) (k10) dX9_soldShare_11 ?_
  unfold q_soldShare
  rw [hb]
  refine WP.if_ne (pc := 12) (tgt := 19) dX9_soldShare_12 (by decide) (fun h1 => ?_) (fun h1 => ?_)
  · have h0 : b ≠ 0 := fun q => h1 (by rw [q]; rfl)
    rw [if_neg (nI_nle (by omega) (by omega))]
    refine WP.aload_n (pc := 19) dX9_soldShare_19 rfl ?_
    refine WP.gR (pc := 20) uX9 fX9_7 hm.t0 hm.r0_0 dX9_soldShare_20 ?_
    refine WP.bipush (pc := 23) (v := 11) dX9_soldShare_23 (by decide) ?_
    refine WP.ialdv (pc := 25) (k := 11) hm.t1 (by decide) (by decide) (v := (mm.s.1 7)) (k11) dX9_soldShare_25 ?_
    refine WP.i2f (pc := 26) dX9_soldShare_26 ?_
    refine WP.aload_n (pc := 27) dX9_soldShare_27 rfl ?_
    refine WP.gR (pc := 28) uX9 fX9_7 hm.t0 hm.r0_0 dX9_soldShare_28 ?_
    refine WP.bipush (pc := 31) (v := 10) dX9_soldShare_31 (by decide) ?_
    refine WP.ialdv (pc := 33) (k := 10) hm.t1 (by decide) (by decide) (v := (nI b)) (k10) dX9_soldShare_33 ?_
    refine WP.i2f (pc := 34) dX9_soldShare_34 ?_
    refine WP.fdiv (pc := 35) dX9_soldShare_35 (div_n32 _ h0 hb2) ?_
    refine WP.fret (pc := 36) rfl dX9_soldShare_36 ?_
    exact ⟨rfl, _, rfl, h.j fr_j.rf.u1, fr8⟩
  · have h0 : b = 0 := (nI_eq (b := 0) (by omega) (by decide)).mp h1
    rw [h0, if_pos (by decide)]
    refine WP.fconst0 (pc := 15) dX9_soldShare_15 ?_
    refine WP.goto (pc := 16) (tgt := 36) dX9_soldShare_16 (by decide) ?_
    refine WP.fret (pc := 36) rfl dX9_soldShare_36 ?_
    exact ⟨rfl, _, rfl, h.j fr_j.rf.u1, fr8⟩
end T
