-- behind: 44 66
-- the queue, written
def nmS (n : Nat) : List Int32 := (List.range (nmLen (nmA n) 4 0)).map (fun k => nI (nmB n k))
def nuS (n : Nat) : List Int32 := (if n < 10 then [] else [nI (48 + n / 10)]) ++ [nI (48 + n % 10)]
def kdS (k : Int32) : Int32 := if k = 0 then 114 else if k = 1 then 119 else 111
def wqE (e : mCu) : List Int32 := nmS e.1 ++ [42] ++ nuS e.2.2.2.1.toNatClampNeg ++ [kdS e.2.2.1] ++ [64] ++ nuS e.2.2.2.2.1.toNatClampNeg
def wqA (l : List mCu) : Nat → List Int32
  | 0 => []
  | i + 1 => match l[i]? with
    | some e => wqA l i ++ (if i = 0 then [] else [32]) ++ wqE e
    | none => wqA l i
def q_writeQueue (m : mX) : oR := (0, nI (wqA m.s.2.2.2.1 m.s.2.2.2.1.length).length, (mX.w_o m (wqA m.s.2.2.2.1 m.s.2.2.2.1.length)))
theorem nmS_len (n : Nat) : (nmS n).length ≤ 4 := by
  unfold nmS
  rw [List.length_map, List.length_range]
  exact nmLen_le _ 4 0
theorem nuS_len (n : Nat) : (nuS n).length ≤ 2 := by
  unfold nuS
  split <;> simp
theorem wqE_len (e : mCu) : (wqE e).length ≤ 11 := by
  have h1 := nmS_len e.1
  have h2 := nuS_len e.2.2.2.1.toNatClampNeg
  have h3 := nuS_len e.2.2.2.2.1.toNatClampNeg
  unfold wqE
  simp only [List.length_append, List.length_cons, List.length_nil]
  omega
theorem wqA_len (l : List mCu) : ∀ i, (wqA l i).length ≤ 12 * i := by
  intro i
  induction i with
  | zero => exact Nat.le_refl _
  | succ i ih =>
    simp only [wqA]
    split
    · next e he =>
      have := wqE_len e
      have h2 : (if i = 0 then ([] : List Int32) else [32]).length ≤ 1 := by split <;> simp
      rw [List.length_append, List.length_append]
      omega
    · omega
def ouA (I : Nat → Nat → Int32) (m c j0 : Nat) (L : List Int32) : Prop := I m j0 = nI L.length ∧ ∀ i v, L[i]? = some v → I c i = v
theorem ouA.app {I : Nat → Nat → Int32} {m c j0 : Nat} {L : List Int32} (h : ouA I m c j0 L) (hc : c ≠ m) (v : Int32) : ouA (up (up I c L.length v) m j0 (nI (L.length + 1))) m c j0 (L ++ [v]) := by
  refine ⟨by rw [up_eq, if_pos ⟨rfl, rfl⟩]; simp, fun i w hw => ?_⟩
  rw [up_ne hc, up_eq]
  rcases gE_app hw with ⟨z, q⟩ | ⟨rfl, rfl⟩
  · rw [if_neg (by omega)]
    exact h.2 i w q
  · rw [if_pos ⟨rfl, rfl⟩]
theorem nb8 : ∀ b, b < 128 → (nI b).toInt8.toInt32 = nI b := by decide +kernel
theorem dg10 {n : Nat} (hn : n < 100) : (48 : Int32) + nI n / 10 = nI (48 + n / 10) ∧ (48 : Int32) + (nI n - nI n / 10 * 10) = nI (48 + n % 10) := by
  rw [show (10 : Int32) = nI 10 from rfl, pk_rem (by omega) (by omega) (by omega), pk_div (by omega) (by omega) (by omega), show (48 : Int32) = nI 48 from rfl, nI_add, nI_add]
  exact ⟨rfl, rfl⟩
theorem kdS_b (k : Int32) : ∃ b, b < 128 ∧ kdS k = nI b := by
  unfold kdS
  split
  · exact ⟨114, by omega, rfl⟩
  · split
    · exact ⟨119, by omega, rfl⟩
    · exact ⟨111, by omega, rfl⟩
section T
variable (Γ : cG) {σ : cAS} {x m : Nat}
theorem CX8_write (hx : shX σ x) {L : List Int32} {b : Nat} (hb : b < 128) (hL : L.length < 120) {I : Nat → Nat → Int32} (h : ouA I x (x + 59) 10 L) : Ctr Γ (0, 0, 0, 0) MX8_write [.ref x, .int (nI b)] (wI σ I) (rW σ (fun I' => fr2 I I' x (x + 59) 10 ∧ ouA I' x (x + 59) 10 (L ++ [nI b]))) := by
  have h10 := h.1
  have hbb := nb8 b hb
  refine Ctr.go rfl (by decide) rfl rfl ?_
  refine WP.aload_n (pc := 0) dX8_write_0 rfl ?_
  refine WP.gIv (pc := 1) (v := nI L.length) uX8 fX8_320 hx.t0 (by simp [up_eq, h10]) dX8_write_1 ?_
  refine WP.bipush (pc := 4) (v := 120) dX8_write_4 (by decide) ?_
  refine WP.icmp_ge (pc := 6) (tgt := 30) dX8_write_6 (by decide) (fun h1 => ?_) (fun h1 => ?_)
  · exact absurd h1 (nI_ge (b := 120) (by omega) (by omega))
  · refine WP.aload_n (pc := 9) dX8_write_9 rfl ?_
    refine WP.gR (pc := 10) uX8 fX8_39 hx.t0 hx.r0_5 dX8_write_10 ?_
    refine WP.aload_n (pc := 13) dX8_write_13 rfl ?_
    refine WP.gIv (pc := 14) (v := nI L.length) uX8 fX8_320 hx.t0 (by simp [up_eq, h10]) dX8_write_14 ?_
    refine WP.iload_n (pc := 17) dX8_write_17 rfl ?_
    refine WP.i2b (pc := 18) dX8_write_18 ?_
    refine WP.bast (pc := 19) hx.t59 (by omega) (by decide) dX8_write_19 ?_
    refine WP.aload_n (pc := 20) dX8_write_20 rfl ?_
    refine WP.dup (pc := 21) dX8_write_21 rfl ?_
    refine WP.gIv (pc := 22) (v := nI L.length) uX8 fX8_320 hx.t0 (by simp [up_eq, h10]) dX8_write_22 ?_
    refine WP.iconst (pc := 25) (v := 1) dX8_write_25 (by decide) ?_
    refine WP.iadd (pc := 26) dX8_write_26 ?_
    rw [nI_1]
    refine WP.pI (pc := 27) uX8 fX8_320 rfl rfl hx.t0 dX8_write_27 ?_
    refine WP.vret (pc := 30) rfl dX8_write_30 ?_
    rw [hbb, hbb]
    exact ⟨rfl, _, rfl, (fr2.rf.upR (by omega)).upM, h.app (by omega) _⟩
theorem CX8_writeNumber (hx : shX σ x) {L : List Int32} {n : Nat} (hn : n < 100) (hL : L.length + 2 ≤ 120) {I : Nat → Nat → Int32} (h : ouA I x (x + 59) 10 L) : Ctr Γ (1, 21, 0, 0) MX8_writeNumber [.ref x, .int (nI n)] (wI σ I) (rW σ (fun I' => fr2 I I' x (x + 59) 10 ∧ ouA I' x (x + 59) 10 (L ++ nuS n))) := by
  obtain ⟨d1, d2⟩ := dg10 hn
  have hm10 : n % 10 < 10 := Nat.mod_lt _ (by decide)
  have last : ∀ (I1 : Nat → Nat → Int32) (L1 : List Int32), fr2 I I1 x (x + 59) 10 → L1.length < 120 → ouA I1 x (x + 59) 10 L1 → L1 ++ [nI (48 + n % 10)] = L ++ nuS n → WP Γ (1, 21, 0, 0) MX8_writeNumber (rW σ (fun I' => fr2 I I' x (x + 59) 10 ∧ ouA I' x (x + 59) 10 (L ++ nuS n))) 17 [some (.ref x), some (.int (nI n))] [] (wI σ I1) := fun I1 L1 f1 hl1 g1 e1 => by
    refine WP.aload_n (pc := 17) dX8_writeNumber_17 rfl ?_
    refine WP.bipush (pc := 18) (v := 48) dX8_writeNumber_18 (by decide) ?_
    refine WP.iload_n (pc := 20) dX8_writeNumber_20 rfl ?_
    refine WP.bipush (pc := 21) (v := 10) dX8_writeNumber_21 (by decide) ?_
    refine WP.irem (pc := 23) dX8_writeNumber_23 (by decide) ?_
    refine WP.iadd (pc := 24) dX8_writeNumber_24 ?_
    rw [d2]
    refine WP.cVw (pc := 25) (mc2 := 0) (ms2 := 0) (ci := 8) kX8_323 (CX8_write Γ hx (b := 48 + n % 10) (by omega) hl1 g1) (by decide) rfl hx.t0 rfl ⟨Nat.le_of_ble_eq_true rfl, Nat.le_of_ble_eq_true rfl⟩ (Nat.le_of_ble_eq_true rfl) (Nat.le_of_ble_eq_true rfl) (Nat.le_of_ble_eq_true rfl) rfl dX8_writeNumber_25 (fun I2 ⟨f2, g2⟩ => ?_)
    refine WP.vret (pc := 28) rfl dX8_writeNumber_28 ?_
    rw [e1] at g2
    exact ⟨rfl, I2, rfl, f1.trans f2, g2⟩
  refine Ctr.go rfl (by decide) rfl rfl ?_
  refine WP.iload_n (pc := 0) dX8_writeNumber_0 rfl ?_
  refine WP.bipush (pc := 1) (v := 10) dX8_writeNumber_1 (by decide) ?_
  refine WP.icmp_lt (pc := 3) (tgt := 17) dX8_writeNumber_3 (by decide) (fun h1 => ?_) (fun h1 => ?_)
  · have h2 : n < 10 := (nI_ltI (b := 10) (by omega) (by decide)).mp h1
    exact last I L fr2.rf (by omega) h (by unfold nuS; rw [if_pos h2]; rfl)
  · have h2 : ¬ n < 10 := fun q => h1 (nI_lt (b := 10) q (by decide))
    refine WP.aload_n (pc := 6) dX8_writeNumber_6 rfl ?_
    refine WP.bipush (pc := 7) (v := 48) dX8_writeNumber_7 (by decide) ?_
    refine WP.iload_n (pc := 9) dX8_writeNumber_9 rfl ?_
    refine WP.bipush (pc := 10) (v := 10) dX8_writeNumber_10 (by decide) ?_
    refine WP.idiv (pc := 12) dX8_writeNumber_12 (by decide) ?_
    refine WP.iadd (pc := 13) dX8_writeNumber_13 ?_
    rw [d1]
    refine WP.cVw (pc := 14) (mc2 := 0) (ms2 := 0) (ci := 8) kX8_323 (CX8_write Γ hx (b := 48 + n / 10) (by omega) (by omega) h) (by decide) rfl hx.t0 rfl ⟨Nat.le_of_ble_eq_true rfl, Nat.le_of_ble_eq_true rfl⟩ (Nat.le_of_ble_eq_true rfl) (Nat.le_of_ble_eq_true rfl) (Nat.le_of_ble_eq_true rfl) rfl dX8_writeNumber_14 (fun I1 ⟨f1, g1⟩ => ?_)
    exact last I1 _ f1 (by simp; omega) g1 (by unfold nuS; rw [if_neg h2, List.append_assoc])
theorem CX9_print (hm : shM σ m) {L : List Int32} {b : Nat} (hb : b < 128) (hL : L.length < 300) {I : Nat → Nat → Int32} (h : ouA I m (m + 11) 26 L) : Ctr Γ (0, 0, 0, 0) MX9_print [.ref m, .int (nI b)] (wI σ I) (rW σ (fun I' => fr2 I I' m (m + 11) 26 ∧ ouA I' m (m + 11) 26 (L ++ [nI b]))) := by
  have h10 := h.1
  have hbb := nb8 b hb
  refine Ctr.go rfl (by decide) rfl rfl ?_
  refine WP.aload_n (pc := 0) dX9_print_0 rfl ?_
  refine WP.gR (pc := 1) uX9 fX9_45 hm.t0 hm.r0_25 dX9_print_1 ?_
  refine WP.aload_n (pc := 4) dX9_print_4 rfl ?_
  refine WP.gIv (pc := 5) (v := nI L.length) uX9 fX9_350 hm.t0 (by simp [up_eq, h10]) dX9_print_5 ?_
  refine WP.iload_n (pc := 8) dX9_print_8 rfl ?_
  refine WP.i2b (pc := 9) dX9_print_9 ?_
  refine WP.bast (pc := 10) hm.t11 (by omega) (by decide) dX9_print_10 ?_
  refine WP.aload_n (pc := 11) dX9_print_11 rfl ?_
  refine WP.dup (pc := 12) dX9_print_12 rfl ?_
  refine WP.gIv (pc := 13) (v := nI L.length) uX9 fX9_350 hm.t0 (by simp [up_eq, h10]) dX9_print_13 ?_
  refine WP.iconst (pc := 16) (v := 1) dX9_print_16 (by decide) ?_
  refine WP.iaN (pc := 17) (b := 1) dX9_print_17 ?_
  refine WP.pI (pc := 18) uX9 fX9_350 rfl rfl hm.t0 dX9_print_18 ?_
  refine WP.vret (pc := 21) rfl dX9_print_21 ?_
  rw [hbb, hbb]
  exact ⟨rfl, _, rfl, (fr2.rf.upR (by omega)).upM, h.app (by omega) _⟩
theorem CX9_printNumber (hm : shM σ m) {L : List Int32} {n : Nat} (hn : n < 100) (hL : L.length + 2 ≤ 300) {I : Nat → Nat → Int32} (h : ouA I m (m + 11) 26 L) : Ctr Γ (1, 21, 0, 0) MX9_printNumber [.ref m, .int (nI n)] (wI σ I) (rW σ (fun I' => fr2 I I' m (m + 11) 26 ∧ ouA I' m (m + 11) 26 (L ++ nuS n))) := by
  obtain ⟨d1, d2⟩ := dg10 hn
  have hm10 : n % 10 < 10 := Nat.mod_lt _ (by decide)
  have last : ∀ (I1 : Nat → Nat → Int32) (L1 : List Int32), fr2 I I1 m (m + 11) 26 → L1.length < 300 → ouA I1 m (m + 11) 26 L1 → L1 ++ [nI (48 + n % 10)] = L ++ nuS n → WP Γ (1, 21, 0, 0) MX9_printNumber (rW σ (fun I' => fr2 I I' m (m + 11) 26 ∧ ouA I' m (m + 11) 26 (L ++ nuS n))) 17 [some (.ref m), some (.int (nI n))] [] (wI σ I1) := fun I1 L1 f1 hl1 g1 e1 => by
    refine WP.aload_n (pc := 17) dX9_printNumber_17 rfl ?_
    refine WP.bipush (pc := 18) (v := 48) dX9_printNumber_18 (by decide) ?_
    refine WP.iload_n (pc := 20) dX9_printNumber_20 rfl ?_
    refine WP.bipush (pc := 21) (v := 10) dX9_printNumber_21 (by decide) ?_
    refine WP.irem (pc := 23) dX9_printNumber_23 (by decide) ?_
    refine WP.iadd (pc := 24) dX9_printNumber_24 ?_
    rw [d2]
    refine WP.cVw (pc := 25) (mc2 := 0) (ms2 := 0) (ci := 9) kX9_353 (CX9_print Γ hm (b := 48 + n % 10) (by omega) hl1 g1) (by decide) rfl hm.t0 rfl ⟨Nat.le_of_ble_eq_true rfl, Nat.le_of_ble_eq_true rfl⟩ (Nat.le_of_ble_eq_true rfl) (Nat.le_of_ble_eq_true rfl) (Nat.le_of_ble_eq_true rfl) rfl dX9_printNumber_25 (fun I2 ⟨f2, g2⟩ => ?_)
    refine WP.vret (pc := 28) rfl dX9_printNumber_28 ?_
    rw [e1] at g2
    exact ⟨rfl, I2, rfl, f1.trans f2, g2⟩
  refine Ctr.go rfl (by decide) rfl rfl ?_
  refine WP.iload_n (pc := 0) dX9_printNumber_0 rfl ?_
  refine WP.bipush (pc := 1) (v := 9) dX9_printNumber_1 (by decide) ?_
  refine WP.icmp_le (pc := 3) (tgt := 17) dX9_printNumber_3 (by decide) (fun h1 => ?_) (fun h1 => ?_)
  · have h2 : n < 10 := by have := (nI_leI (b := 9) (by omega) (by decide)).mp h1; omega
    exact last I L fr2.rf (by omega) h (by unfold nuS; rw [if_pos h2]; rfl)
  · have h2 : ¬ n < 10 := fun q => h1 (nI_le (b := 9) (by omega) (by decide))
    refine WP.aload_n (pc := 6) dX9_printNumber_6 rfl ?_
    refine WP.bipush (pc := 7) (v := 48) dX9_printNumber_7 (by decide) ?_
    refine WP.iload_n (pc := 9) dX9_printNumber_9 rfl ?_
    refine WP.bipush (pc := 10) (v := 10) dX9_printNumber_10 (by decide) ?_
    refine WP.idiv (pc := 12) dX9_printNumber_12 (by decide) ?_
    refine WP.iadd (pc := 13) dX9_printNumber_13 ?_
    rw [d1]
    refine WP.cVw (pc := 14) (mc2 := 0) (ms2 := 0) (ci := 9) kX9_353 (CX9_print Γ hm (b := 48 + n / 10) (by omega) (by omega) h) (by decide) rfl hm.t0 rfl ⟨Nat.le_of_ble_eq_true rfl, Nat.le_of_ble_eq_true rfl⟩ (Nat.le_of_ble_eq_true rfl) (Nat.le_of_ble_eq_true rfl) (Nat.le_of_ble_eq_true rfl) rfl dX9_printNumber_14 (fun I1 ⟨f1, g1⟩ => ?_)
    exact last I1 _ f1 (by simp; omega) g1 (by unfold nuS; rw [if_neg h2, List.append_assoc])
theorem nmS_succ (n i : Nat) : ((List.range (i + 1)).map (fun k => nI (nmB n k))) = ((List.range i).map (fun k => nI (nmB n k))) ++ [nI (nmB n i)] := by
  rw [List.range_succ, List.map_append]
  rfl
theorem LX8_writeName (hx : shX σ x) {nm N : Nat} (hN : N ≤ 4) {L : List Int32} (hL : L.length + 4 ≤ 120) {Φ : cRes → cAS → Prop} {I0 : Nat → Nat → Int32} (H : ∀ I', fr2 I0 I' x (x + 59) 10 → ouA I' x (x + 59) 10 (L ++ (List.range N).map (fun k => nI (nmB nm k))) → Φ (.inl none) (wI σ I')) : ∀ d i (I : Nat → Nat → Int32), i + d = N → fr2 I0 I x (x + 59) 10 → ouA I x (x + 59) 10 (L ++ (List.range i).map (fun k => nI (nmB nm k))) → WP Γ (2, 42, 0, 0) MX8_writeName Φ 7 [some (.ref x), some (.int (nmA nm)), some (.int (nI N)), some (.int (nI i))] [] (wI σ I) := by
  intro d
  induction d with
  | zero =>
    intro i I hi f h
    refine WP.iload_n (pc := 7) dX8_writeName_7 rfl ?_
    refine WP.iload_n (pc := 8) dX8_writeName_8 rfl ?_
    refine WP.icmp_ge (pc := 9) (tgt := 27) dX8_writeName_9 (by decide) (fun h1 => ?_) (fun h1 => ?_)
    · skip
      refine WP.vret (pc := 27) rfl dX8_writeName_27 ?_
      rw [show i = N by omega] at h
      exact H I f h
    · exact absurd (by rw [show i = N by omega]; exact Int32.le_refl _) h1
  | succ d ih =>
    intro i I hi f h
    have hb := nmB_lt nm i
    refine WP.iload_n (pc := 7) dX8_writeName_7 rfl ?_
    refine WP.iload_n (pc := 8) dX8_writeName_8 rfl ?_
    refine WP.icmp_ge (pc := 9) (tgt := 27) dX8_writeName_9 (by decide) (fun h1 => ?_) (fun h1 => ?_)
    · exact absurd h1 (nI_ge (by omega) (by omega))
    · refine WP.aload_n (pc := 12) dX8_writeName_12 rfl ?_
      refine WP.iload_n (pc := 13) dX8_writeName_13 rfl ?_
      refine WP.iload_n (pc := 14) dX8_writeName_14 rfl ?_
      refine WP.cS1 (pc := 15) (mc2 := 0) (ms2 := 0) kX8_362 (CX8_letterAt Γ _ (nmA nm) (nI i)) rfl ⟨Nat.le_of_ble_eq_true rfl, Nat.le_of_ble_eq_true rfl⟩ (Nat.le_of_ble_eq_true rfl) (Nat.le_of_ble_eq_true rfl) (Nat.le_of_ble_eq_true rfl) rfl dX8_writeName_15 ?_
      rw [ltAt_A (by omega)]
      refine WP.cVw (pc := 18) (mc2 := 0) (ms2 := 0) (ci := 8) kX8_323 (CX8_write Γ hx (b := nmB nm i) (by omega) (by simp; omega) h) (by decide) rfl hx.t0 rfl ⟨Nat.le_of_ble_eq_true rfl, Nat.le_of_ble_eq_true rfl⟩ (Nat.le_of_ble_eq_true rfl) (Nat.le_of_ble_eq_true rfl) (Nat.le_of_ble_eq_true rfl) rfl dX8_writeName_18 (fun I1 ⟨f1, g1⟩ => ?_)
      refine WP.iinc (pc := 21) dX8_writeName_21 rfl (nI_1 _) (by decide) rfl ?_
      refine WP.goto (pc := 24) (tgt := 7) dX8_writeName_24 (by decide) ?_
      refine ih (i + 1) I1 (by omega) (f.trans f1) ?_
      rw [nmS_succ, ← List.append_assoc]
      exact g1
theorem CX8_writeName (hx : shX σ x) {nm : Nat} {L : List Int32} (hL : L.length + 4 ≤ 120) {I : Nat → Nat → Int32} (h : ouA I x (x + 59) 10 L) : Ctr Γ (2, 42, 0, 0) MX8_writeName [.ref x, .int (nmA nm)] (wI σ I) (rW σ (fun I' => fr2 I I' x (x + 59) 10 ∧ ouA I' x (x + 59) 10 (L ++ nmS nm))) := by
  refine Ctr.go rfl (by decide) rfl rfl ?_
  refine WP.iload_n (pc := 0) dX8_writeName_0 rfl ?_
  refine WP.cS1 (pc := 1) (mc2 := 0) (ms2 := 0) kX8_359 (CX8_nameLength Γ (wI σ I) (nmA nm)) rfl ⟨Nat.le_of_ble_eq_true rfl, Nat.le_of_ble_eq_true rfl⟩ (Nat.le_of_ble_eq_true rfl) (Nat.le_of_ble_eq_true rfl) (Nat.le_of_ble_eq_true rfl) rfl dX8_writeName_1 ?_
  refine WP.istore_n (pc := 4) dX8_writeName_4 (by decide) rfl ?_
  refine WP.iconst (pc := 5) (v := 0) dX8_writeName_5 (by decide) ?_
  refine WP.istore_n (pc := 6) dX8_writeName_6 (by decide) rfl ?_
  exact LX8_writeName Γ hx (nmLen_le _ 4 0) hL (fun I' f g => ⟨rfl, I', rfl, f, g⟩) (nmLen (nmA nm) 4 0) 0 I (by omega) fr2.rf (by simpa using h)
theorem wqA_S {l : List mCu} {i : Nat} {e : mCu} (he : l[i]? = some e) : wqA l (i + 1) = wqA l i ++ (if i = 0 then [] else [32]) ++ wqE e := by
  simp only [wqA, he]
theorem LX8_wq (hx : shX σ x) {T : Nat} {l : List mCu} (hok : ∀ e ∈ l, okC T e) {I0 : Nat → Nat → Int32} (hcu : cuAt I0 (x + 1) l) {Φ : cRes → cAS → Prop} (H : ∀ I', fr2 I0 I' x (x + 59) 10 → ouA I' x (x + 59) 10 (wqA l l.length) → Φ (.inl (some (.int (nI (wqA l l.length).length)))) (wI σ I')) : ∀ d i (I : Nat → Nat → Int32), i + d = l.length → fr2 I0 I x (x + 59) 10 → ouA I x (x + 59) 10 (wqA l i) → WP Γ (3, 65, 0, 0) MX8_writeQueue Φ 15 [some (.ref x), some (.ref (x + 1 + 13)), some (.int (nI i))] [] (wI σ I) := by
  have h10 := hcu.2.1
  have hc0 := hcu.1
  intro d
  induction d with
  | zero =>
    intro i I hi f h
    have hc : I (x + 1 + 13) 0 = nI l.length := by rw [f.1 _ (by omega) (by omega)]; exact hc0
    have k10 := h.1
    refine WP.iload_n (pc := 15) dX8_writeQueue_15 rfl ?_
    refine WP.aload_n (pc := 16) dX8_writeQueue_16 rfl ?_
    refine WP.gIv (pc := 17) (v := nI l.length) uX2 fX8_112 hx.a.t13 (by simp [up_eq, hc]) dX8_writeQueue_17 ?_
    refine WP.icmp_ge (pc := 20) (tgt := 122) dX8_writeQueue_20 (by decide) (fun h1 => ?_) (fun h1 => ?_)
    · refine WP.aload_n (pc := 122) dX8_writeQueue_122 rfl ?_
      refine WP.gIv (pc := 123) (v := nI (wqA l i).length) uX8 fX8_320 hx.t0 (by simp [up_eq, k10]) dX8_writeQueue_123 ?_
      refine WP.iret (pc := 126) rfl dX8_writeQueue_126 ?_
      rw [show i = l.length by omega] at h ⊢
      exact H I f h
    · exact absurd (by rw [show i = l.length by omega]; exact Int32.le_refl _) h1
  | succ d ih =>
    intro i I hi f h
    have hlen := wqA_len l i
    obtain ⟨e, he⟩ : ∃ e, l[i]? = some e := ⟨l[i]'(by omega), List.getElem?_eq_getElem (by omega)⟩
    obtain ⟨c0, c1, c2, c3, c4, c5, c6⟩ := hcu.2.2 i e he
    obtain ⟨o1, o2, o3, ⟨w, hw, w1, w2⟩, ⟨li, hli, l1, l2⟩, -⟩ := hok e (List.mem_of_getElem? he)
    have hc : I (x + 1 + 13) 0 = nI l.length := by rw [f.1 _ (by omega) (by omega)]; exact hc0
    have e1 : wqA l (i + 1) = (((((wqA l i ++ (if i = 0 then [] else [32])) ++ nmS e.1) ++ [42]) ++ nuS w) ++ [kdS e.2.2.1] ++ [64]) ++ nuS li := by
      rw [wqA_S he]
      unfold wqE
      rw [hw, hli, nI_clamp (by omega), nI_clamp (by omega)]
      simp only [List.append_assoc]
    have rest : ∀ (I1 : Nat → Nat → Int32), fr2 I0 I1 x (x + 59) 10 → ouA I1 x (x + 59) 10 (wqA l i ++ (if i = 0 then [] else [32])) → WP Γ (3, 65, 0, 0) MX8_writeQueue Φ 39 [some (.ref x), some (.ref (x + 1 + 13)), some (.int (nI i))] [] (wI σ I1) := fun I1 f1 g1 => by
      have hl0 : (if i = 0 then ([] : List Int32) else [32]).length ≤ 1 := by split <;> simp
      have n4 := nmS_len e.1
      have n2 := nuS_len w
      refine WP.aload_n (pc := 39) dX8_writeQueue_39 rfl ?_
      refine WP.aload_n (pc := 40) dX8_writeQueue_40 rfl ?_
      refine WP.gR (pc := 41) uX2 fX8_173 hx.a.t13 hx.a.r13_2 dX8_writeQueue_41 ?_
      refine WP.iload_n (pc := 44) dX8_writeQueue_44 rfl ?_
      refine WP.iald (pc := 45) hx.a.t14 (by omega) (by decide) dX8_writeQueue_45 ?_
      rw [f1.1 (x + 1 + 14) (by omega) (by omega), c0]
      refine WP.cVw (pc := 46) (mc2 := 0) (ms2 := 0) (ci := 8) kX8_326 (CX8_writeName Γ hx (nm := e.1) (by simp; omega) g1) (by decide) rfl hx.t0 rfl ⟨Nat.le_of_ble_eq_true rfl, Nat.le_of_ble_eq_true rfl⟩ (Nat.le_of_ble_eq_true rfl) (Nat.le_of_ble_eq_true rfl) (Nat.le_of_ble_eq_true rfl) rfl dX8_writeQueue_46 (fun I2 ⟨f2, g2⟩ => ?_)
      refine WP.aload_n (pc := 49) dX8_writeQueue_49 rfl ?_
      refine WP.bipush (pc := 50) (v := 42) dX8_writeQueue_50 (by decide) ?_
      refine WP.cVw (pc := 52) (mc2 := 0) (ms2 := 0) (ci := 8) kX8_323 (CX8_write Γ hx (b := 42) (by omega) (by simp; omega) g2) (by decide) rfl hx.t0 rfl ⟨Nat.le_of_ble_eq_true rfl, Nat.le_of_ble_eq_true rfl⟩ (Nat.le_of_ble_eq_true rfl) (Nat.le_of_ble_eq_true rfl) (Nat.le_of_ble_eq_true rfl) rfl dX8_writeQueue_52 (fun I3 ⟨f3, g3⟩ => ?_)
      have F3 := (f1.trans f2).trans f3
      refine WP.aload_n (pc := 55) dX8_writeQueue_55 rfl ?_
      refine WP.aload_n (pc := 56) dX8_writeQueue_56 rfl ?_
      refine WP.gR (pc := 57) uX2 fX8_178 hx.a.t13 hx.a.r13_5 dX8_writeQueue_57 ?_
      refine WP.iload_n (pc := 60) dX8_writeQueue_60 rfl ?_
      refine WP.iald (pc := 61) hx.a.t17 (by omega) (by decide) dX8_writeQueue_61 ?_
      rw [F3.1 (x + 1 + 17) (by omega) (by omega), c3, hw]
      refine WP.cVw (pc := 62) (mc2 := 0) (ms2 := 0) (ci := 8) kX8_329 (CX8_writeNumber Γ hx (n := w) (by omega) (by simp; omega) g3) (by decide) rfl hx.t0 rfl ⟨Nat.le_of_ble_eq_true rfl, Nat.le_of_ble_eq_true rfl⟩ (Nat.le_of_ble_eq_true rfl) (Nat.le_of_ble_eq_true rfl) (Nat.le_of_ble_eq_true rfl) rfl dX8_writeQueue_62 (fun I4 ⟨f4, g4⟩ => ?_)
      have F4 := F3.trans f4
      have tail : ∀ k, kdS e.2.2.1 = k → WP Γ (3, 65, 0, 0) MX8_writeQueue Φ 97 [some (.ref x), some (.ref (x + 1 + 13)), some (.int (nI i))] [.int k, .ref x] (wI σ I4) := fun k hk => by
        obtain ⟨b, hb, hkb⟩ := kdS_b e.2.2.1
        rw [← hk, hkb]
        refine WP.cVw (pc := 97) (mc2 := 0) (ms2 := 0) (ci := 8) kX8_323 (CX8_write Γ hx (b := b) hb (by simp; omega) g4) (by decide) rfl hx.t0 rfl ⟨Nat.le_of_ble_eq_true rfl, Nat.le_of_ble_eq_true rfl⟩ (Nat.le_of_ble_eq_true rfl) (Nat.le_of_ble_eq_true rfl) (Nat.le_of_ble_eq_true rfl) rfl dX8_writeQueue_97 (fun I5 ⟨f5, g5⟩ => ?_)
        refine WP.aload_n (pc := 100) dX8_writeQueue_100 rfl ?_
        refine WP.bipush (pc := 101) (v := 64) dX8_writeQueue_101 (by decide) ?_
        refine WP.cVw (pc := 103) (mc2 := 0) (ms2 := 0) (ci := 8) kX8_323 (CX8_write Γ hx (b := 64) (by omega) (by simp; omega) g5) (by decide) rfl hx.t0 rfl ⟨Nat.le_of_ble_eq_true rfl, Nat.le_of_ble_eq_true rfl⟩ (Nat.le_of_ble_eq_true rfl) (Nat.le_of_ble_eq_true rfl) (Nat.le_of_ble_eq_true rfl) rfl dX8_writeQueue_103 (fun I6 ⟨f6, g6⟩ => ?_)
        have F6 := (F4.trans f5).trans f6
        refine WP.aload_n (pc := 106) dX8_writeQueue_106 rfl ?_
        refine WP.aload_n (pc := 107) dX8_writeQueue_107 rfl ?_
        refine WP.gR (pc := 108) uX2 fX8_181 hx.a.t13 hx.a.r13_6 dX8_writeQueue_108 ?_
        refine WP.iload_n (pc := 111) dX8_writeQueue_111 rfl ?_
        refine WP.iald (pc := 112) hx.a.t18 (by omega) (by decide) dX8_writeQueue_112 ?_
        rw [F6.1 (x + 1 + 18) (by omega) (by omega), c4, hli]
        refine WP.cVw (pc := 113) (mc2 := 0) (ms2 := 0) (ci := 8) kX8_329 (CX8_writeNumber Γ hx (n := li) (by omega) (by simp; omega) g6) (by decide) rfl hx.t0 rfl ⟨Nat.le_of_ble_eq_true rfl, Nat.le_of_ble_eq_true rfl⟩ (Nat.le_of_ble_eq_true rfl) (Nat.le_of_ble_eq_true rfl) (Nat.le_of_ble_eq_true rfl) rfl dX8_writeQueue_113 (fun I7 ⟨f7, g7⟩ => ?_)
        refine WP.iinc (pc := 116) dX8_writeQueue_116 rfl (nI_1 _) (by decide) rfl ?_
        refine WP.goto (pc := 119) (tgt := 15) dX8_writeQueue_119 (by decide) ?_
        refine ih (i + 1) I7 (by omega) (F6.trans f7) ?_
        rw [e1, hkb]
        exact g7
      have kk : I4 (x + 1 + 16) i = e.2.2.1 := by rw [F4.1 (x + 1 + 16) (by omega) (by omega)]; exact c2
      refine WP.aload_n (pc := 65) dX8_writeQueue_65 rfl ?_
      refine WP.aload_n (pc := 66) dX8_writeQueue_66 rfl ?_
      refine WP.gR (pc := 67) uX2 fX8_177 hx.a.t13 hx.a.r13_4 dX8_writeQueue_67 ?_
      refine WP.iload_n (pc := 70) dX8_writeQueue_70 rfl ?_
      refine WP.iald (pc := 71) hx.a.t16 (by omega) (by decide) dX8_writeQueue_71 ?_
      rw [kk]
      refine WP.if_ne (pc := 72) (tgt := 80) dX8_writeQueue_72 (by decide) (fun h1 => ?_) (fun h1 => ?_)
      · refine WP.aload_n (pc := 80) dX8_writeQueue_80 rfl ?_
        refine WP.gR (pc := 81) uX2 fX8_177 hx.a.t13 hx.a.r13_4 dX8_writeQueue_81 ?_
        refine WP.iload_n (pc := 84) dX8_writeQueue_84 rfl ?_
        refine WP.iald (pc := 85) hx.a.t16 (by omega) (by decide) dX8_writeQueue_85 ?_
        rw [kk]
        refine WP.iconst (pc := 86) (v := 1) dX8_writeQueue_86 (by decide) ?_
        refine WP.icmp_ne (pc := 87) (tgt := 95) dX8_writeQueue_87 (by decide) (fun h2 => ?_) (fun h2 => ?_)
        · refine WP.bipush (pc := 95) (v := 111) dX8_writeQueue_95 (by decide) ?_
          exact tail _ (by unfold kdS; rw [if_neg h1, if_neg h2])
        · refine WP.bipush (pc := 90) (v := 119) dX8_writeQueue_90 (by decide) ?_
          refine WP.goto (pc := 92) (tgt := 97) dX8_writeQueue_92 (by decide) ?_
          exact tail _ (by unfold kdS; rw [if_neg h1, if_pos h2])
      · refine WP.bipush (pc := 75) (v := 114) dX8_writeQueue_75 (by decide) ?_
        refine WP.goto (pc := 77) (tgt := 97) dX8_writeQueue_77 (by decide) ?_
        exact tail _ (by unfold kdS; rw [if_pos h1])
    refine WP.iload_n (pc := 15) dX8_writeQueue_15 rfl ?_
    refine WP.aload_n (pc := 16) dX8_writeQueue_16 rfl ?_
    refine WP.gIv (pc := 17) (v := nI l.length) uX2 fX8_112 hx.a.t13 (by simp [up_eq, hc]) dX8_writeQueue_17 ?_
    refine WP.icmp_ge (pc := 20) (tgt := 122) dX8_writeQueue_20 (by decide) (fun h1 => ?_) (fun h1 => ?_)
    · exact absurd h1 (nI_ge (by omega) (by omega))
    · refine WP.iload_n (pc := 23) dX8_writeQueue_23 rfl ?_
      refine WP.bipush (pc := 24) (v := 10) dX8_writeQueue_24 (by decide) ?_
      refine WP.icmp_ge (pc := 26) (tgt := 122) dX8_writeQueue_26 (by decide) (fun h2 => ?_) (fun h2 => ?_)
      · exact absurd h2 (nI_ge (b := 10) (by omega) (by omega))
      · refine WP.iload_n (pc := 29) dX8_writeQueue_29 rfl ?_
        refine WP.if_le (pc := 30) (tgt := 39) dX8_writeQueue_30 (by decide) (fun h3 => ?_) (fun h3 => ?_)
        · have hi0 : i = 0 := Nat.eq_zero_of_not_pos fun q => nI_nle q (by omega) h3
          exact rest I f (by rw [if_pos hi0, List.append_nil]; exact h)
        · have hi0 : i ≠ 0 := fun q => h3 (by rw [q]; decide)
          refine WP.aload_n (pc := 33) dX8_writeQueue_33 rfl ?_
          refine WP.bipush (pc := 34) (v := 32) dX8_writeQueue_34 (by decide) ?_
          refine WP.cVw (pc := 36) (mc2 := 0) (ms2 := 0) (ci := 8) kX8_323 (CX8_write Γ hx (b := 32) (by omega) (by omega) h) (by decide) rfl hx.t0 rfl ⟨Nat.le_of_ble_eq_true rfl, Nat.le_of_ble_eq_true rfl⟩ (Nat.le_of_ble_eq_true rfl) (Nat.le_of_ble_eq_true rfl) (Nat.le_of_ble_eq_true rfl) rfl dX8_writeQueue_36 (fun I1 ⟨f1, g1⟩ => ?_)
          exact rest I1 (f.trans f1) (by rw [if_neg hi0]; exact g1)
theorem CX8_writeQueue {mm : mX} (hx : xAt σ x mm) {T C : Nat} (hw : wf T C mm.s) : Ctr Γ (3, 65, 0, 0) MX8_writeQueue [.ref x] σ (xO σ x [] (q_writeQueue mm)) := by
  have hcu := hx.2.2.1.2.2.2.1
  have h10 := hcu.2.1
  refine Ctr.go rfl (by decide) rfl rfl ?_
  refine WP.self ?_
  refine WP.aload_n (pc := 0) dX8_writeQueue_0 rfl ?_
  refine WP.gR (pc := 1) uX8 fX8_10 hx.1.t0 hx.1.r0_0 dX8_writeQueue_1 ?_
  refine WP.gR (pc := 4) uX5 fX8_108 hx.1.a.t0 hx.1.a.r0_3 dX8_writeQueue_4 ?_
  refine WP.astore_n (pc := 7) dX8_writeQueue_7 (by decide) rfl ?_
  refine WP.aload_n (pc := 8) dX8_writeQueue_8 rfl ?_
  refine WP.iconst (pc := 9) (v := 0) dX8_writeQueue_9 (by decide) ?_
  refine WP.pI (pc := 10) uX8 fX8_320 rfl rfl hx.1.t0 dX8_writeQueue_10 ?_
  refine WP.iconst (pc := 13) (v := 0) dX8_writeQueue_13 (by decide) ?_
  refine WP.istore_n (pc := 14) dX8_writeQueue_14 (by decide) rfl ?_
  refine LX8_wq Γ hx.1 (l := mm.s.2.2.2.1) (fun e he => hw.2.2.2.2.1.2 e he) (I0 := up (aI σ) x 10 0) (by
    unfold cuAt
    rw [up_ne (by omega), up_ne (by omega), up_ne (by omega), up_ne (by omega), up_ne (by omega), up_ne (by omega), up_ne (by omega), up_ne (by omega)]
    exact hcu) (fun I' f g => ?_) mm.s.2.2.2.1.length 0 _ (by omega) fr2.rf ⟨by rw [up_eq, if_pos ⟨rfl, rfl⟩]; rfl, fun i v hv => by cases hv⟩
  have F : fr2 (aI σ) I' x (x + 59) 10 := fr2.rf.upM.trans f
  have hf : fr (aI σ) I' x 62 := fun a ha => F.1 a (by omega) (by omega)
  have hle := wqA_len mm.s.2.2.2.1 mm.s.2.2.2.1.length
  refine xO.ret2 (hx.mv hf (hx.2.2.1.ext (fun a c1 c2 => F.1 a (by omega) (by omega))) ?_ rfl) (kpM.mv hf)
  obtain ⟨b1, b2, b3, b4, b5, b6, b7, b8, b9, b10, b11, b12⟩ := hx.2.2.2.1
  exact ⟨fun j' hj' => by rw [F.1 _ (by omega) (by omega)]; exact b1 j' hj', by rw [F.1 _ (by omega) (by omega)]; exact b2, by rw [F.2 _ (by omega)]; exact b3, b4, by rw [F.2 _ (by omega)]; exact b5, b6, by rw [F.2 _ (by omega)]; exact b7, g.1, by show (wqA _ _).length ≤ 120; omega, g.2, by rw [F.2 _ (by omega)]; exact b11, b12⟩
theorem LX9_pcName (hm : shM σ m) {nm j : Nat} (hn : nmOk nm) (hj : j < 10) {L : List Int32} (hL : L.length + 4 ≤ 300) {I0 : Nat → Nat → Int32} (hnm : I0 (m + 1) (40 + 7 * j) = nI nm) {Φ : cRes → cAS → Prop} (H : ∀ I', fr2 I0 I' m (m + 11) 26 → ouA I' m (m + 11) 26 (L ++ nmS nm) → WP Γ (2, 44, 0, 0) MX9_printCustomer Φ 42 [some (.ref m), some (.int (nI (40 + 7 * j))), none] [] (wI σ I')) : ∀ d i (I : Nat → Nat → Int32), i + d = nmLen (nmA nm) 4 0 → fr2 I0 I m (m + 11) 26 → ouA I m (m + 11) 26 (L ++ (List.range i).map (fun k => nI (nmB nm k))) → WP Γ (2, 44, 0, 0) MX9_printCustomer Φ 2 [some (.ref m), some (.int (nI (40 + 7 * j))), some (.int (nI i))] [] (wI σ I) := by
  have h4 := nmLen_le (nmA nm) 4 0
  intro d
  induction d with
  | zero =>
    intro i I hi f h
    have hg : I (m + 1) (40 + 7 * j) = nI nm := by rw [f.1 _ (by omega) (by omega)]; exact hnm
    refine WP.iload_n (pc := 2) dX9_printCustomer_2 rfl ?_
    refine WP.aload_n (pc := 3) dX9_printCustomer_3 rfl ?_
    refine WP.gR (pc := 4) uX9 fX9_7 hm.t0 hm.r0_0 dX9_printCustomer_4 ?_
    refine WP.iload_n (pc := 7) dX9_printCustomer_7 rfl ?_
    refine WP.iconst (pc := 8) (v := 0) dX9_printCustomer_8 (by decide) ?_
    refine WP.ia0 (pc := 9) dX9_printCustomer_9 ?_
    refine WP.ialdv (pc := 10) hm.t1 (by omega) (by decide) (v := (nI nm)) (hg) dX9_printCustomer_10 ?_
    refine WP.cS1 (pc := 11) (mc2 := 0) (ms2 := 0) kX9_317 (CX9_lettersOf Γ hn) rfl ⟨Nat.le_of_ble_eq_true rfl, Nat.le_of_ble_eq_true rfl⟩ (Nat.le_of_ble_eq_true rfl) (Nat.le_of_ble_eq_true rfl) (Nat.le_of_ble_eq_true rfl) rfl dX9_printCustomer_11 ?_
    refine WP.icmp_ge (pc := 14) (tgt := 42) dX9_printCustomer_14 (by decide) (fun h1 => ?_) (fun h1 => ?_)
    · rw [show i = nmLen (nmA nm) 4 0 by omega] at h
      exact WP.drop 2 (H I f h)
    · exact absurd (by rw [show i = nmLen (nmA nm) 4 0 by omega]; exact Int32.le_refl _) h1
  | succ d ih =>
    intro i I hi f h
    have hg : I (m + 1) (40 + 7 * j) = nI nm := by rw [f.1 _ (by omega) (by omega)]; exact hnm
    have hD := nmD_lt nm i
    have hB0 := nmLen_in (n := nm) 4 0 i (by omega) (Nat.zero_le _) (by omega)
    have hB : nmB nm i = nmD nm i + 96 := by
      unfold nmB at hB0 ⊢
      split
      · next z => rw [if_pos z] at hB0; exact absurd rfl hB0
      · rfl
    refine WP.iload_n (pc := 2) dX9_printCustomer_2 rfl ?_
    refine WP.aload_n (pc := 3) dX9_printCustomer_3 rfl ?_
    refine WP.gR (pc := 4) uX9 fX9_7 hm.t0 hm.r0_0 dX9_printCustomer_4 ?_
    refine WP.iload_n (pc := 7) dX9_printCustomer_7 rfl ?_
    refine WP.iconst (pc := 8) (v := 0) dX9_printCustomer_8 (by decide) ?_
    refine WP.ia0 (pc := 9) dX9_printCustomer_9 ?_
    refine WP.ialdv (pc := 10) hm.t1 (by omega) (by decide) (v := (nI nm)) (hg) dX9_printCustomer_10 ?_
    refine WP.cS1 (pc := 11) (mc2 := 0) (ms2 := 0) kX9_317 (CX9_lettersOf Γ hn) rfl ⟨Nat.le_of_ble_eq_true rfl, Nat.le_of_ble_eq_true rfl⟩ (Nat.le_of_ble_eq_true rfl) (Nat.le_of_ble_eq_true rfl) (Nat.le_of_ble_eq_true rfl) rfl dX9_printCustomer_11 ?_
    refine WP.icmp_ge (pc := 14) (tgt := 42) dX9_printCustomer_14 (by decide) (fun h1 => ?_) (fun h1 => ?_)
    · exact absurd h1 (nI_ge (by omega) (by omega))
    · refine WP.aload_n (pc := 17) dX9_printCustomer_17 rfl ?_
      refine WP.bipush (pc := 18) (v := 96) dX9_printCustomer_18 (by decide) ?_
      refine WP.aload_n (pc := 20) dX9_printCustomer_20 rfl ?_
      refine WP.gR (pc := 21) uX9 fX9_7 hm.t0 hm.r0_0 dX9_printCustomer_21 ?_
      refine WP.iload_n (pc := 24) dX9_printCustomer_24 rfl ?_
      refine WP.iconst (pc := 25) (v := 0) dX9_printCustomer_25 (by decide) ?_
      refine WP.ia0 (pc := 26) dX9_printCustomer_26 ?_
      refine WP.ialdv (pc := 27) hm.t1 (by omega) (by decide) (v := (nI nm)) (hg) dX9_printCustomer_27 ?_
      refine WP.iload_n (pc := 28) dX9_printCustomer_28 rfl ?_
      refine WP.cS1 (pc := 29) (mc2 := 0) (ms2 := 0) kX9_314 (CX9_letterOf Γ hn (k := i) (by omega)) rfl ⟨Nat.le_of_ble_eq_true rfl, Nat.le_of_ble_eq_true rfl⟩ (Nat.le_of_ble_eq_true rfl) (Nat.le_of_ble_eq_true rfl) (Nat.le_of_ble_eq_true rfl) rfl dX9_printCustomer_29 ?_
      refine WP.iaN (pc := 32) (a := 96) dX9_printCustomer_32 ?_
      refine WP.cVw (pc := 33) (mc2 := 0) (ms2 := 0) (ci := 9) kX9_353 (CX9_print Γ hm (b := 96 + nmD nm i) (by omega) (by simp; omega) h) (by decide) rfl hm.t0 rfl ⟨Nat.le_of_ble_eq_true rfl, Nat.le_of_ble_eq_true rfl⟩ (Nat.le_of_ble_eq_true rfl) (Nat.le_of_ble_eq_true rfl) (Nat.le_of_ble_eq_true rfl) rfl dX9_printCustomer_33 (fun I1 ⟨f1, g1⟩ => ?_)
      refine WP.iinc (pc := 36) dX9_printCustomer_36 rfl (nI_1 _) (by decide) rfl ?_
      refine WP.goto (pc := 39) (tgt := 2) dX9_printCustomer_39 (by decide) ?_
      refine ih (i + 1) I1 (by omega) (f.trans f1) ?_
      rw [nmS_succ, ← List.append_assoc, hB, Nat.add_comm (nmD nm i)]
      exact g1
theorem CX9_printCustomer (hm : shM σ m) {T j : Nat} {e : mCu} (hj : j < 10) (hok : okC T e) {I : Nat → Nat → Int32} (hc : gC (I (m + 1)) j e) {L : List Int32} (hL : L.length + 11 ≤ 300) (h : ouA I m (m + 11) 26 L) : Ctr Γ (2, 44, 0, 0) MX9_printCustomer [.ref m, .int (nI (40 + 7 * j))] (wI σ I) (rW σ (fun I' => fr2 I I' m (m + 11) 26 ∧ ouA I' m (m + 11) 26 (L ++ wqE e))) := by
  obtain ⟨c0, c1, c2, c3, c4, c5, c6⟩ := hc
  obtain ⟨o1, o2, o3, ⟨w, hw, w1, w2⟩, ⟨li, hli, l1, l2⟩, -⟩ := hok
  have n4 := nmS_len e.1
  have n2 := nuS_len w
  have e1 : L ++ wqE e = (((L ++ nmS e.1) ++ [42]) ++ nuS w) ++ [kdS e.2.2.1] ++ [64] ++ nuS li := by
    unfold wqE
    rw [hw, hli, nI_clamp (by omega), nI_clamp (by omega)]
    simp only [List.append_assoc]
  refine Ctr.go rfl (by decide) rfl rfl ?_
  refine WP.iconst (pc := 0) (v := 0) dX9_printCustomer_0 (by decide) ?_
  refine WP.istore_n (pc := 1) dX9_printCustomer_1 (by decide) rfl ?_
  refine LX9_pcName Γ hm o1 hj (L := L) (by omega) c0 (fun I2 f2 g2 => ?_) _ 0 I (Nat.zero_add _) fr2.rf (by simpa using h)
  have R : ∀ (J : Nat → Nat → Int32), fr2 I J m (m + 11) 26 → J (m + 1) = I (m + 1) := fun J f => f.1 _ (by omega) (by omega)
  refine WP.aload_n (pc := 42) dX9_printCustomer_42 rfl ?_
  refine WP.bipush (pc := 43) (v := 42) dX9_printCustomer_43 (by decide) ?_
  refine WP.cVw (pc := 45) (mc2 := 0) (ms2 := 0) (ci := 9) kX9_353 (CX9_print Γ hm (b := 42) (by omega) (by simp; omega) g2) (by decide) rfl hm.t0 rfl ⟨Nat.le_of_ble_eq_true rfl, Nat.le_of_ble_eq_true rfl⟩ (Nat.le_of_ble_eq_true rfl) (Nat.le_of_ble_eq_true rfl) (Nat.le_of_ble_eq_true rfl) rfl dX9_printCustomer_45 (fun I3 ⟨f3, g3⟩ => ?_)
  have F3 := f2.trans f3
  refine WP.aload_n (pc := 48) dX9_printCustomer_48 rfl ?_
  refine WP.aload_n (pc := 49) dX9_printCustomer_49 rfl ?_
  refine WP.gR (pc := 50) uX9 fX9_7 hm.t0 hm.r0_0 dX9_printCustomer_50 ?_
  refine WP.iload_n (pc := 53) dX9_printCustomer_53 rfl ?_
  refine WP.iconst (pc := 54) (v := 2) dX9_printCustomer_54 (by decide) ?_
  refine WP.iaN (pc := 55) (b := 2) dX9_printCustomer_55 ?_
  refine WP.ialdv (pc := 56) hm.t1 (by omega) (by decide) (v := (nI w)) (by rw [R _ F3, c2, hw]) dX9_printCustomer_56 ?_
  refine WP.cVw (pc := 57) (mc2 := 0) (ms2 := 0) (ci := 9) kX9_356 (CX9_printNumber Γ hm (n := w) (by omega) (by simp; omega) g3) (by decide) rfl hm.t0 rfl ⟨Nat.le_of_ble_eq_true rfl, Nat.le_of_ble_eq_true rfl⟩ (Nat.le_of_ble_eq_true rfl) (Nat.le_of_ble_eq_true rfl) (Nat.le_of_ble_eq_true rfl) rfl dX9_printCustomer_57 (fun I4 ⟨f4, g4⟩ => ?_)
  have F4 := F3.trans f4
  have tail : ∀ k, kdS e.2.2.1 = k → WP Γ (2, 44, 0, 0) MX9_printCustomer (rW σ (fun I' => fr2 I I' m (m + 11) 26 ∧ ouA I' m (m + 11) 26 (L ++ wqE e))) 96 [some (.ref m), some (.int (nI (40 + 7 * j))), none] [.int k, .ref m] (wI σ I4) := fun k hk => by
    obtain ⟨b, hb, hkb⟩ := kdS_b e.2.2.1
    rw [← hk, hkb]
    refine WP.cVw (pc := 96) (mc2 := 0) (ms2 := 0) (ci := 9) kX9_353 (CX9_print Γ hm (b := b) hb (by simp; omega) g4) (by decide) rfl hm.t0 rfl ⟨Nat.le_of_ble_eq_true rfl, Nat.le_of_ble_eq_true rfl⟩ (Nat.le_of_ble_eq_true rfl) (Nat.le_of_ble_eq_true rfl) (Nat.le_of_ble_eq_true rfl) rfl dX9_printCustomer_96 (fun I5 ⟨f5, g5⟩ => ?_)
    refine WP.aload_n (pc := 99) dX9_printCustomer_99 rfl ?_
    refine WP.bipush (pc := 100) (v := 64) dX9_printCustomer_100 (by decide) ?_
    refine WP.cVw (pc := 102) (mc2 := 0) (ms2 := 0) (ci := 9) kX9_353 (CX9_print Γ hm (b := 64) (by omega) (by simp; omega) g5) (by decide) rfl hm.t0 rfl ⟨Nat.le_of_ble_eq_true rfl, Nat.le_of_ble_eq_true rfl⟩ (Nat.le_of_ble_eq_true rfl) (Nat.le_of_ble_eq_true rfl) (Nat.le_of_ble_eq_true rfl) rfl dX9_printCustomer_102 (fun I6 ⟨f6, g6⟩ => ?_)
    have F6 := (F4.trans f5).trans f6
    refine WP.aload_n (pc := 105) dX9_printCustomer_105 rfl ?_
    refine WP.aload_n (pc := 106) dX9_printCustomer_106 rfl ?_
    refine WP.gR (pc := 107) uX9 fX9_7 hm.t0 hm.r0_0 dX9_printCustomer_107 ?_
    refine WP.iload_n (pc := 110) dX9_printCustomer_110 rfl ?_
    refine WP.iconst (pc := 111) (v := 3) dX9_printCustomer_111 (by decide) ?_
    refine WP.iaN (pc := 112) (b := 3) dX9_printCustomer_112 ?_
    refine WP.ialdv (pc := 113) hm.t1 (by omega) (by decide) (v := (nI li)) (by rw [R _ F6, c3, hli]) dX9_printCustomer_113 ?_
    refine WP.cVw (pc := 114) (mc2 := 0) (ms2 := 0) (ci := 9) kX9_356 (CX9_printNumber Γ hm (n := li) (by omega) (by simp; omega) g6) (by decide) rfl hm.t0 rfl ⟨Nat.le_of_ble_eq_true rfl, Nat.le_of_ble_eq_true rfl⟩ (Nat.le_of_ble_eq_true rfl) (Nat.le_of_ble_eq_true rfl) (Nat.le_of_ble_eq_true rfl) rfl dX9_printCustomer_114 (fun I7 ⟨f7, g7⟩ => ?_)
    refine WP.vret (pc := 117) rfl dX9_printCustomer_117 ?_
    refine ⟨rfl, I7, rfl, F6.trans f7, ?_⟩
    rw [e1, hkb]
    exact g7
  refine WP.aload_n (pc := 60) dX9_printCustomer_60 rfl ?_
  refine WP.aload_n (pc := 61) dX9_printCustomer_61 rfl ?_
  refine WP.gR (pc := 62) uX9 fX9_7 hm.t0 hm.r0_0 dX9_printCustomer_62 ?_
  refine WP.iload_n (pc := 65) dX9_printCustomer_65 rfl ?_
  refine WP.iconst (pc := 66) (v := 1) dX9_printCustomer_66 (by decide) ?_
  refine WP.iaN (pc := 67) (b := 1) dX9_printCustomer_67 ?_
  refine WP.ialdv (pc := 68) hm.t1 (by omega) (by decide) (v := (e.2.2.1)) (by rw [R _ F4, c1]) dX9_printCustomer_68 ?_
  refine WP.if_ne (pc := 69) (tgt := 77) dX9_printCustomer_69 (by decide) (fun h1 => ?_) (fun h1 => ?_)
  · refine WP.aload_n (pc := 77) dX9_printCustomer_77 rfl ?_
    refine WP.gR (pc := 78) uX9 fX9_7 hm.t0 hm.r0_0 dX9_printCustomer_78 ?_
    refine WP.iload_n (pc := 81) dX9_printCustomer_81 rfl ?_
    refine WP.iconst (pc := 82) (v := 1) dX9_printCustomer_82 (by decide) ?_
    refine WP.iaN (pc := 83) (b := 1) dX9_printCustomer_83 ?_
    refine WP.ialdv (pc := 84) hm.t1 (by omega) (by decide) (v := (e.2.2.1)) (by rw [R _ F4, c1]) dX9_printCustomer_84 ?_
    refine WP.iconst (pc := 85) (v := 1) dX9_printCustomer_85 (by decide) ?_
    refine WP.icmp_ne (pc := 86) (tgt := 94) dX9_printCustomer_86 (by decide) (fun h2 => ?_) (fun h2 => ?_)
    · refine WP.bipush (pc := 94) (v := 111) dX9_printCustomer_94 (by decide) ?_
      exact tail _ (by unfold kdS; rw [if_neg h1, if_neg h2])
    · refine WP.bipush (pc := 89) (v := 119) dX9_printCustomer_89 (by decide) ?_
      refine WP.goto (pc := 91) (tgt := 96) dX9_printCustomer_91 (by decide) ?_
      exact tail _ (by unfold kdS; rw [if_neg h1, if_pos h2])
  · refine WP.bipush (pc := 72) (v := 114) dX9_printCustomer_72 (by decide) ?_
    refine WP.goto (pc := 74) (tgt := 96) dX9_printCustomer_74 (by decide) ?_
    exact tail _ (by unfold kdS; rw [if_pos h1])
theorem LX9_wq (hm : shM σ m) {T : Nat} {l : List mCu} (hok : ∀ e ∈ l, okC T e) {I0 : Nat → Nat → Int32} (hcu : gCs (I0 (m + 1)) l) {Φ : cRes → cAS → Prop} (H : ∀ I', fr2 I0 I' m (m + 11) 26 → ouA I' m (m + 11) 26 (wqA l l.length) → Φ (.inl (some (.int (nI (wqA l l.length).length)))) (wI σ I')) : ∀ d i (I : Nat → Nat → Int32), i + d = l.length → fr2 I0 I m (m + 11) 26 → ouA I m (m + 11) 26 (wqA l i) → WP Γ (3, 66, 0, 0) MX9_writeQueue Φ 12 [some (.ref m), some (.int (nI i))] [] (wI σ I) := by
  have h10 := hcu.2.1
  intro d
  induction d with
  | zero =>
    intro i I hi f h
    have hc : I (m + 1) 2 = nI l.length := by rw [f.1 _ (by omega) (by omega)]; exact hcu.1
    have k26 := h.1
    refine WP.iload_n (pc := 12) dX9_writeQueue_12 rfl ?_
    refine WP.aload_n (pc := 13) dX9_writeQueue_13 rfl ?_
    refine WP.gR (pc := 14) uX9 fX9_7 hm.t0 hm.r0_0 dX9_writeQueue_14 ?_
    refine WP.iconst (pc := 17) (v := 2) dX9_writeQueue_17 (by decide) ?_
    refine WP.ialdv (pc := 18) (k := 2) hm.t1 (by decide) (by decide) (v := (nI l.length)) (hc) dX9_writeQueue_18 ?_
    refine WP.icmp_ge (pc := 19) (tgt := 46) dX9_writeQueue_19 (by decide) (fun h1 => ?_) (fun h1 => ?_)
    · refine WP.aload_n (pc := 46) dX9_writeQueue_46 rfl ?_
      refine WP.gIv (pc := 47) (v := nI (wqA l i).length) uX9 fX9_350 hm.t0 (by simp [up_eq, k26]) dX9_writeQueue_47 ?_
      refine WP.iret (pc := 50) rfl dX9_writeQueue_50 ?_
      rw [show i = l.length by omega] at h ⊢
      exact H I f h
    · exact absurd (by rw [show i = l.length by omega]; exact Int32.le_refl _) h1
  | succ d ih =>
    intro i I hi f h
    have hlen := wqA_len l i
    obtain ⟨e, he⟩ : ∃ e, l[i]? = some e := ⟨l[i]'(by omega), List.getElem?_eq_getElem (by omega)⟩
    have hce := hcu.2.2 i e he
    have hc : I (m + 1) 2 = nI l.length := by rw [f.1 _ (by omega) (by omega)]; exact hcu.1
    have rest : ∀ (I1 : Nat → Nat → Int32), fr2 I0 I1 m (m + 11) 26 → ouA I1 m (m + 11) 26 (wqA l i ++ (if i = 0 then [] else [32])) → WP Γ (3, 66, 0, 0) MX9_writeQueue Φ 32 [some (.ref m), some (.int (nI i))] [] (wI σ I1) := fun I1 f1 g1 => by
      have hl0 : (if i = 0 then ([] : List Int32) else [32]).length ≤ 1 := by split <;> simp
      refine WP.aload_n (pc := 32) dX9_writeQueue_32 rfl ?_
      refine WP.iload_n (pc := 33) dX9_writeQueue_33 rfl ?_
      refine WP.cS1 (pc := 34) (mc2 := 0) (ms2 := 0) kX9_111 (CX9_ofCustomer Γ i) rfl ⟨Nat.le_of_ble_eq_true rfl, Nat.le_of_ble_eq_true rfl⟩ (Nat.le_of_ble_eq_true rfl) (Nat.le_of_ble_eq_true rfl) (Nat.le_of_ble_eq_true rfl) rfl dX9_writeQueue_34 ?_
      refine WP.cVw (pc := 37) (mc2 := 0) (ms2 := 0) (ci := 9) kX9_359 (CX9_printCustomer Γ hm (j := i) (by omega) (hok e (List.mem_of_getElem? he)) (by rw [f1.1 _ (by omega) (by omega)]; exact hce) (by simp; omega) g1) (by decide) rfl hm.t0 rfl ⟨Nat.le_of_ble_eq_true rfl, Nat.le_of_ble_eq_true rfl⟩ (Nat.le_of_ble_eq_true rfl) (Nat.le_of_ble_eq_true rfl) (Nat.le_of_ble_eq_true rfl) rfl dX9_writeQueue_37 (fun I2 ⟨f2, g2⟩ => ?_)
      refine WP.iinc (pc := 40) dX9_writeQueue_40 rfl (nI_1 _) (by decide) rfl ?_
      refine WP.goto (pc := 43) (tgt := 12) dX9_writeQueue_43 (by decide) ?_
      refine ih (i + 1) I2 (by omega) (f1.trans f2) ?_
      rw [wqA_S he]
      exact g2
    refine WP.iload_n (pc := 12) dX9_writeQueue_12 rfl ?_
    refine WP.aload_n (pc := 13) dX9_writeQueue_13 rfl ?_
    refine WP.gR (pc := 14) uX9 fX9_7 hm.t0 hm.r0_0 dX9_writeQueue_14 ?_
    refine WP.iconst (pc := 17) (v := 2) dX9_writeQueue_17 (by decide) ?_
    refine WP.ialdv (pc := 18) (k := 2) hm.t1 (by decide) (by decide) (v := (nI l.length)) (hc) dX9_writeQueue_18 ?_
    refine WP.icmp_ge (pc := 19) (tgt := 46) dX9_writeQueue_19 (by decide) (fun h1 => ?_) (fun h1 => ?_)
    · exact absurd h1 (nI_ge (by omega) (by omega))
    · refine WP.iload_n (pc := 22) dX9_writeQueue_22 rfl ?_
      refine WP.if_le (pc := 23) (tgt := 32) dX9_writeQueue_23 (by decide) (fun h3 => ?_) (fun h3 => ?_)
      · have hi0 : i = 0 := Nat.eq_zero_of_not_pos fun q => nI_nle q (by omega) h3
        exact rest I f (by rw [if_pos hi0, List.append_nil]; exact h)
      · have hi0 : i ≠ 0 := fun q => h3 (by rw [q]; decide)
        refine WP.aload_n (pc := 26) dX9_writeQueue_26 rfl ?_
        refine WP.bipush (pc := 27) (v := 32) dX9_writeQueue_27 (by decide) ?_
        refine WP.cVw (pc := 29) (mc2 := 0) (ms2 := 0) (ci := 9) kX9_353 (CX9_print Γ hm (b := 32) (by omega) (by omega) h) (by decide) rfl hm.t0 rfl ⟨Nat.le_of_ble_eq_true rfl, Nat.le_of_ble_eq_true rfl⟩ (Nat.le_of_ble_eq_true rfl) (Nat.le_of_ble_eq_true rfl) (Nat.le_of_ble_eq_true rfl) rfl dX9_writeQueue_29 (fun I1 ⟨f1, g1⟩ => ?_)
        exact rest I1 (f.trans f1) (by rw [if_neg hi0]; exact g1)
theorem CX9_writeQueue {mm : mX} (hm : shM σ m) {I : Nat → Nat → Int32} (h : mdI I m mm) {T C : Nat} (hw : wf T C mm.s) : Ctr Γ (3, 66, 0, 0) MX9_writeQueue [.ref m] (wI σ I) (mO σ I m (q_writeQueue mm)) := by
  have h10 := h.1.2.2.2.1.2.1
  refine Ctr.go rfl (by decide) rfl rfl ?_
  refine WP.aload_n (pc := 0) dX9_writeQueue_0 rfl ?_
  refine WP.iconst (pc := 1) (v := 0) dX9_writeQueue_1 (by decide) ?_
  refine WP.pI (pc := 2) uX9 fX9_75 rfl rfl hm.t0 dX9_writeQueue_2 ?_
  refine WP.aload_n (pc := 5) dX9_writeQueue_5 rfl ?_
  refine WP.iconst (pc := 6) (v := 0) dX9_writeQueue_6 (by decide) ?_
  refine WP.pI (pc := 7) uX9 fX9_350 rfl rfl hm.t0 dX9_writeQueue_7 ?_
  refine WP.iconst (pc := 10) (v := 0) dX9_writeQueue_10 (by decide) ?_
  refine WP.istore_n (pc := 11) dX9_writeQueue_11 (by decide) rfl ?_
  refine LX9_wq Γ hm (l := mm.s.2.2.2.1) (fun e he => hw.2.2.2.2.1.2 e he) (I0 := up (up I m 8 0) m 26 0) (by rw [up_ne (by omega), up_ne (by omega)]; exact h.1.2.2.2.1) (fun I' f g => ?_) mm.s.2.2.2.1.length 0 _ (by omega) fr2.rf ⟨by rw [up_eq, if_pos ⟨rfl, rfl⟩]; rfl, fun i v hv => by cases hv⟩
  have hle := wqA_len mm.s.2.2.2.1 mm.s.2.2.2.1.length
  have R : ∀ b, b ≠ m → b ≠ m + 11 → I' b = I b := fun b h1 h2 => by rw [f.1 b h1 h2, up_ne h1, up_ne h1]
  have M : ∀ j, j ≠ 26 → j ≠ 8 → I' m j = I m j := fun j h1 h2 => by rw [f.2 j h1, up_eq, if_neg (by omega), up_eq, if_neg (by omega)]
  refine mO.ok (by rw [f.2 8 (by omega), up_eq, if_neg (by omega), up_eq, if_pos ⟨rfl, rfl⟩]) rfl ?_ (fun c hc => R c (by omega) (by omega))
  obtain ⟨a1, a2, a3, a4, a5, -⟩ := h
  refine ⟨?_, ?_, ?_, ?_, ?_, g.1, by show (wqA _ _).length ≤ 120; omega, g.2⟩
  · rw [R (m + 1) (by omega) (by omega)]
    exact a1
  · rw [R (m + 4) (by omega) (by omega), M 6 (by omega) (by omega), M 7 (by omega) (by omega)]
    exact a2
  · rw [R (m + 5) (by omega) (by omega), R (m + 6) (by omega) (by omega)]
    exact a3
  · rw [R (m + 10) (by omega) (by omega), M 17 (by omega) (by omega)]
    exact a4
  · rw [M 23 (by omega) (by omega), M 24 (by omega) (by omega)]
    exact a5
end T
