-- behind: 64
theorem bt_sx (x : Int32) : bt x = sx (x.toBitVec.toNat % 256) := by
  have key : ∀ c, c < 256 → (Int8.ofBitVec (BitVec.ofNat 8 c)).toInt32 = sx c := by decide +kernel
  have e : x.toInt8 = Int8.ofBitVec (BitVec.ofNat 8 (x.toBitVec.toNat % 256)) := by
    apply Int8.toBitVec_inj.mp
    show BitVec.signExtend 8 x.toBitVec = _
    rw [BitVec.signExtend_eq_setWidth_of_le _ (by decide)]
    apply BitVec.eq_of_toNat_eq
    simp
  unfold bt
  rw [e]
  exact key _ (Nat.mod_lt _ (by decide))
theorem tx_up {f g : Nat → Int32} {n : Nat} (h : tx f g n) (x : Int32) : tx (uF f n (bt x)) (uw g n (x &&& 255)) (n + 1) := fun j hj => by
  by_cases q : j = n
  · refine ⟨x.toBitVec.toNat % 256, Nat.mod_lt _ (by decide), ?_, ?_⟩
    · rw [uw_at q, pk_and x 8 (by decide)]
    · unfold uF
      rw [if_pos q, bt_sx]
  · obtain ⟨c, h1, h2, h3⟩ := h j (by omega)
    refine ⟨c, h1, ?_, ?_⟩
    · rw [uw_ne q]
      exact h2
    · unfold uF
      rw [if_neg q]
      exact h3
section T
variable (Γ : cG) {σ : cAS} {m : Nat} {I : Nat → Nat → Int32} {mm : mX}
theorem LX9_ap (hm : shM σ m) {f : Nat → Int32} {n : Nat} (hn : n < 600) {w sh : Int32} (hs : ¬ sh < 0) {r : cRm} {Φ : cRes → cAS → Prop} {I : Nat → Nat → Int32} (h17 : I m 17 = nI n) (ht : tx f (I (m + 10)) n) (k : ∀ I', (∀ b, b ≠ m → b ≠ m + 10 → I' b = I b) → (∀ j, j ≠ 17 → I' m j = I m j) → I' m 17 = nI (n + 1) → tx (uF f n (apB w sh)) (I' (m + 10)) (n + 1) → WP Γ r MX9_appendWord Φ 3 [some (.ref m), some (.int w), some (.int (sh + Int32.ofInt (-8)))] [] (wI σ I')) : WP Γ r MX9_appendWord Φ 3 [some (.ref m), some (.int w), some (.int sh)] [] (wI σ I) := by
  refine WP.iload_n (pc := 3) dX9_appendWord_3 rfl ?_
  refine WP.if_lt (pc := 4) (tgt := 39) dX9_appendWord_4 (by decide) (fun h1 => ?_) (fun h1 => ?_)
  · exact absurd h1 hs
  · refine WP.aload_n (pc := 7) dX9_appendWord_7 rfl ?_
    refine WP.gR (pc := 8) uX9 fX9_38 hm.t0 hm.r0_16 dX9_appendWord_8 ?_
    refine WP.aload_n (pc := 11) dX9_appendWord_11 rfl ?_
    refine WP.gIv (pc := 12) (v := nI n) uX9 fX9_58 hm.t0 (by simp [up_eq, h17]) dX9_appendWord_12 ?_
    refine WP.iload_n (pc := 15) dX9_appendWord_15 rfl ?_
    refine WP.iload_n (pc := 16) dX9_appendWord_16 rfl ?_
    refine WP.ishr (pc := 17) dX9_appendWord_17 ?_
    refine WP.sipush (pc := 18) (v := 255) dX9_appendWord_18 (by decide) ?_
    refine WP.iand (pc := 21) dX9_appendWord_21 ?_
    refine WP.iast (pc := 22) hm.t10 (by omega) (by decide) dX9_appendWord_22 ?_
    refine WP.aload_n (pc := 23) dX9_appendWord_23 rfl ?_
    refine WP.dup (pc := 24) dX9_appendWord_24 rfl ?_
    refine WP.gIv (pc := 25) (v := nI n) uX9 fX9_58 hm.t0 (by simp [up_eq, h17]) dX9_appendWord_25 ?_
    refine WP.iconst (pc := 28) (v := 1) dX9_appendWord_28 (by decide) ?_
    refine WP.iaN (pc := 29) (b := 1) dX9_appendWord_29 ?_
    refine WP.pI (pc := 30) uX9 fX9_58 rfl rfl hm.t0 dX9_appendWord_30 ?_
    refine WP.iinc (pc := 33) dX9_appendWord_33 rfl rfl (by decide) rfl ?_
    refine WP.goto (pc := 36) (tgt := 3) dX9_appendWord_36 (by decide) ?_
    refine k _ (fun b c1 c2 => by rw [up_ne c1, up_ne c2]) (fun j hj => by rw [up_eq, if_neg (fun z => hj z.2), up_ne (by omega)]) (by rw [up_eq, if_pos ⟨rfl, rfl⟩]) ?_
    rw [up_ne (by omega), up_row]
    exact tx_up ht _
theorem CX9_appendWord (hm : shM σ m) {f : Nat → Int32} {n : Nat} (hn : n + 4 ≤ 600) (w : Int32) {I : Nat → Nat → Int32} (h17 : I m 17 = nI n) (ht : tx f (I (m + 10)) n) : Ctr Γ (0, 0, 0, 0) MX9_appendWord [.ref m, .int w] (wI σ I) (rW σ (fun I' => (∀ b, b ≠ m → b ≠ m + 10 → I' b = I b) ∧ (∀ j, j ≠ 17 → I' m j = I m j) ∧ I' m 17 = nI (n + 4) ∧ tx (apW f n w) (I' (m + 10)) (n + 4))) := by
  refine Ctr.go rfl (by decide) rfl rfl ?_
  refine WP.bipush (pc := 0) (v := 24) dX9_appendWord_0 (by decide) ?_
  refine WP.istore_n (pc := 2) dX9_appendWord_2 (by decide) rfl ?_
  refine LX9_ap Γ hm (n := n) (by omega) (sh := 24) (by decide) h17 ht (fun I1 a1 b1 c1 t1 => ?_)
  rw [show (24 : Int32) + Int32.ofInt (-8) = 16 by decide]
  refine LX9_ap Γ hm (n := n + 1) (by omega) (sh := 16) (by decide) c1 t1 (fun I2 a2 b2 c2 t2 => ?_)
  rw [show (16 : Int32) + Int32.ofInt (-8) = 8 by decide]
  refine LX9_ap Γ hm (n := n + 2) (by omega) (sh := 8) (by decide) c2 t2 (fun I3 a3 b3 c3 t3 => ?_)
  rw [show (8 : Int32) + Int32.ofInt (-8) = 0 by decide]
  refine LX9_ap Γ hm (n := n + 3) (by omega) (sh := 0) (by decide) c3 t3 (fun I4 a4 b4 c4 t4 => ?_)
  rw [show (0 : Int32) + Int32.ofInt (-8) = -8 by decide]
  refine WP.iload_n (pc := 3) dX9_appendWord_3 rfl ?_
  refine WP.if_lt (pc := 4) (tgt := 39) dX9_appendWord_4 (by decide) (fun h1 => ?_) (fun h1 => ?_)
  · skip
    refine WP.vret (pc := 39) rfl dX9_appendWord_39 ?_
    exact ⟨rfl, I4, rfl, fun b h1 h2 => by rw [a4 b h1 h2, a3 b h1 h2, a2 b h1 h2, a1 b h1 h2], fun j hj => by rw [b4 j hj, b3 j hj, b2 j hj, b1 j hj], c4, t4⟩
  · exact absurd (by decide) h1
theorem mdI.setT {I I' : Nat → Nat → Int32} {f' : Nat → Int32} {n' : Nat} (h : mdI I m mm) (h1 : ∀ b, b = m + 1 ∨ b = m + 4 ∨ b = m + 5 ∨ b = m + 6 ∨ b = m + 11 → I' b = I b) (h2 : ∀ j, j = 6 ∨ j = 7 ∨ j = 23 ∨ j = 24 ∨ j = 26 → I' m j = I m j) (h17 : I' m 17 = nI n') (hn : n' ≤ 600) (ht : tx f' (I' (m + 10)) n') : mdI I' m (mX.w_n (mX.w_f mm f') n') := by
  obtain ⟨k1, k2, k3, k4, k5, k6⟩ := h
  rw [← h1 (m + 1) (by omega)] at k1
  rw [← h1 (m + 4) (by omega), ← h2 6 (by omega), ← h2 7 (by omega)] at k2
  rw [← h1 (m + 5) (by omega), ← h1 (m + 6) (by omega)] at k3
  rw [← h2 23 (by omega), ← h2 24 (by omega)] at k5
  rw [← h2 26 (by omega), ← h1 (m + 11) (by omega)] at k6
  exact ⟨k1, k2, k3, ⟨h17, hn, ht⟩, k5, k6⟩
theorem CX9_appendInput (hm : shM σ m) (h : mdI I m mm) (a b c d e : Int32) : Ctr Γ (1, 22, 0, 0) MX9_appendInput [.ref m, .int a, .int b, .int c, .int d, .int e] (wI σ I) (mO σ I m (q_appendInput mm a b c d e)) := by
  obtain ⟨h17, hn6, ht⟩ := h.2.2.2.1
  unfold q_appendInput
  refine Ctr.go rfl (by decide) rfl rfl ?_
  refine WP.aload_n (pc := 0) dX9_appendInput_0 rfl ?_
  refine WP.iconst (pc := 1) (v := 0) dX9_appendInput_1 (by decide) ?_
  refine WP.pI (pc := 2) uX9 fX9_75 rfl rfl hm.t0 dX9_appendInput_2 ?_
  refine WP.aload_n (pc := 5) dX9_appendInput_5 rfl ?_
  refine WP.aload_n (pc := 6) dX9_appendInput_6 rfl ?_
  refine WP.gIv (pc := 7) (v := nI mm.n) uX9 fX9_58 hm.t0 (by simp [up_eq, h17]) dX9_appendInput_7 ?_
  refine WP.bipush (pc := 10) (v := 20) dX9_appendInput_10 (by decide) ?_
  refine WP.iaN (pc := 12) (b := 20) dX9_appendInput_12 ?_
  refine WP.sipush (pc := 13) (v := 600) dX9_appendInput_13 (by decide) ?_
  have k8 : up I m 8 0 m 8 = nI 0 := by rw [up_eq, if_pos ⟨rfl, rfl⟩]; rfl
  refine WP.icmp_le (pc := 16) (tgt := 23) dX9_appendInput_16 (by decide) (fun h1 => ?_) (fun h1 => ?_)
  · have hle : mm.n ≤ 580 := by have := (nI_leI (a := mm.n + 20) (b := 600) (by omega) (by omega)).mp h1; omega
    rw [if_neg (by omega)]
    refine WP.iconst (pc := 23) (v := 0) dX9_appendInput_23 (by decide) ?_
    refine WP.iconst (pc := 24) (v := 1) dX9_appendInput_24 (by decide) ?_
    refine WP.cVp (pc := 25) (mc2 := 0) (ms2 := 0) (ci := 9) kX9_168 (CX9_refuses Γ hm false 1 0 (by omega) (by omega) k8) (by decide) rfl hm.t0 rfl ⟨Nat.le_of_ble_eq_true rfl, Nat.le_of_ble_eq_true rfl⟩ (Nat.le_of_ble_eq_true rfl) (Nat.le_of_ble_eq_true rfl) (Nat.le_of_ble_eq_true rfl) rfl dX9_appendInput_25 (fun v I1 ⟨hv, f1, g1⟩ => ?_)
    have F1 : fr_j I I1 m 8 8 := fr_j.rf.u1.trans f1
    rw [hv]
    refine WP.if_eq (pc := 28) (tgt := 33) dX9_appendInput_28 (by decide) (fun h2 => ?_) (fun h2 => ?_)
    · have q17 : I1 m 17 = nI mm.n := by rw [F1.2 17 (by omega) (by omega)]; exact h17
      have qt : tx mm.f (I1 (m + 10)) mm.n := by rw [F1.1 (m + 10) (by omega)]; exact ht
      refine WP.aload_n (pc := 33) dX9_appendInput_33 rfl ?_
      refine WP.iload_n (pc := 34) dX9_appendInput_34 rfl ?_
      refine WP.cVw (pc := 35) (mc2 := 0) (ms2 := 0) (ci := 9) kX9_172 (CX9_appendWord Γ hm (n := mm.n) (by omega) a q17 qt) (by decide) rfl hm.t0 rfl ⟨Nat.le_of_ble_eq_true rfl, Nat.le_of_ble_eq_true rfl⟩ (Nat.le_of_ble_eq_true rfl) (Nat.le_of_ble_eq_true rfl) (Nat.le_of_ble_eq_true rfl) rfl dX9_appendInput_35 (fun I2 ⟨a2, b2, c2, t2⟩ => ?_)
      refine WP.aload_n (pc := 38) dX9_appendInput_38 rfl ?_
      refine WP.iload_n (pc := 39) dX9_appendInput_39 rfl ?_
      refine WP.cVw (pc := 40) (mc2 := 0) (ms2 := 0) (ci := 9) kX9_172 (CX9_appendWord Γ hm (n := mm.n + 4) (by omega) b c2 t2) (by decide) rfl hm.t0 rfl ⟨Nat.le_of_ble_eq_true rfl, Nat.le_of_ble_eq_true rfl⟩ (Nat.le_of_ble_eq_true rfl) (Nat.le_of_ble_eq_true rfl) (Nat.le_of_ble_eq_true rfl) rfl dX9_appendInput_40 (fun I3 ⟨a3, b3, c3, t3⟩ => ?_)
      refine WP.aload_n (pc := 43) dX9_appendInput_43 rfl ?_
      refine WP.iload_n (pc := 44) dX9_appendInput_44 rfl ?_
      refine WP.cVw (pc := 45) (mc2 := 0) (ms2 := 0) (ci := 9) kX9_172 (CX9_appendWord Γ hm (n := mm.n + 8) (by omega) c c3 t3) (by decide) rfl hm.t0 rfl ⟨Nat.le_of_ble_eq_true rfl, Nat.le_of_ble_eq_true rfl⟩ (Nat.le_of_ble_eq_true rfl) (Nat.le_of_ble_eq_true rfl) (Nat.le_of_ble_eq_true rfl) rfl dX9_appendInput_45 (fun I4 ⟨a4, b4, c4, t4⟩ => ?_)
      refine WP.aload_n (pc := 48) dX9_appendInput_48 rfl ?_
      refine WP.iload (pc := 49) dX9_appendInput_49 rfl ?_
      refine WP.cVw (pc := 51) (mc2 := 0) (ms2 := 0) (ci := 9) kX9_172 (CX9_appendWord Γ hm (n := mm.n + 12) (by omega) d c4 t4) (by decide) rfl hm.t0 rfl ⟨Nat.le_of_ble_eq_true rfl, Nat.le_of_ble_eq_true rfl⟩ (Nat.le_of_ble_eq_true rfl) (Nat.le_of_ble_eq_true rfl) (Nat.le_of_ble_eq_true rfl) rfl dX9_appendInput_51 (fun I5 ⟨a5, b5, c5, t5⟩ => ?_)
      refine WP.aload_n (pc := 54) dX9_appendInput_54 rfl ?_
      refine WP.iload (pc := 55) dX9_appendInput_55 rfl ?_
      refine WP.cVw (pc := 57) (mc2 := 0) (ms2 := 0) (ci := 9) kX9_172 (CX9_appendWord Γ hm (n := mm.n + 16) (by omega) e c5 t5) (by decide) rfl hm.t0 rfl ⟨Nat.le_of_ble_eq_true rfl, Nat.le_of_ble_eq_true rfl⟩ (Nat.le_of_ble_eq_true rfl) (Nat.le_of_ble_eq_true rfl) (Nat.le_of_ble_eq_true rfl) rfl dX9_appendInput_57 (fun I6 ⟨a6, b6, c6, t6⟩ => ?_)
      refine WP.aload_n (pc := 60) dX9_appendInput_60 rfl ?_
      refine WP.gIv (pc := 61) (v := nI (mm.n + 20)) uX9 fX9_58 hm.t0 (by simp [up_eq, c6]) dX9_appendInput_61 ?_
      refine WP.iret (pc := 64) rfl dX9_appendInput_64 ?_
      have A : ∀ b, b ≠ m → b ≠ m + 10 → I6 b = I1 b := fun b h1 h2 => by rw [a6 b h1 h2, a5 b h1 h2, a4 b h1 h2, a3 b h1 h2, a2 b h1 h2]
      have B : ∀ j, j ≠ 17 → I6 m j = I1 m j := fun j hj => by rw [b6 j hj, b5 j hj, b4 j hj, b3 j hj, b2 j hj]
      exact mO.ok (by rw [B 8 (by omega)]; exact g1) rfl ((h.j F1).setT (fun b hb => A b (by omega) (by omega)) (fun j hj => B j (by omega)) c6 (by omega) t6) (fun x hx => by rw [A x (by omega) (by omega)]; exact fr_j.T F1 x hx)
    · exact absurd rfl h2
  · have hgt : 580 < mm.n := by
      rcases Nat.lt_or_ge 580 mm.n with q | q
      · exact q
      · exact absurd (nI_le (b := 600) (show mm.n + 20 ≤ 600 by omega) (by decide)) h1
    rw [if_pos hgt]
    refine WP.iconst (pc := 19) (v := 1) dX9_appendInput_19 (by decide) ?_
    refine WP.goto (pc := 20) (tgt := 24) dX9_appendInput_20 (by decide) ?_
    refine WP.iconst (pc := 24) (v := 1) dX9_appendInput_24 (by decide) ?_
    refine WP.cVp (pc := 25) (mc2 := 0) (ms2 := 0) (ci := 9) kX9_168 (CX9_refuses Γ hm true 1 0 (by omega) (by omega) k8) (by decide) rfl hm.t0 rfl ⟨Nat.le_of_ble_eq_true rfl, Nat.le_of_ble_eq_true rfl⟩ (Nat.le_of_ble_eq_true rfl) (Nat.le_of_ble_eq_true rfl) (Nat.le_of_ble_eq_true rfl) rfl dX9_appendInput_25 (fun v I1 ⟨hv, f1, g1⟩ => ?_)
    rw [hv]
    refine WP.if_eq (pc := 28) (tgt := 33) dX9_appendInput_28 (by decide) (fun h2 => ?_) (fun h2 => ?_)
    · exact absurd h2 (by decide)
    · refine WP.iconst (pc := 31) (v := 0) dX9_appendInput_31 (by decide) ?_
      refine WP.iret (pc := 32) rfl dX9_appendInput_32 ?_
      exact mO.err (by decide) g1 (h.j (fr_j.rf.u1.trans f1)) (fr_j.T (fr_j.rf.u1.trans f1))
theorem tx.mono {f g : Nat → Int32} {n n' : Nat} (h : tx f g n) (hn : n' ≤ n) : tx f g n' := fun j hj => h j (by omega)
theorem CX9_truncateInput (hm : shM σ m) (h : mdI I m mm) (l : Int32) : Ctr Γ (2, 45, 0, 0) MX9_truncateInput [.ref m, .int l] (wI σ I) (mO σ I m (q_truncateInput mm l)) := by
  obtain ⟨h17, hn6, ht⟩ := h.2.2.2.1
  unfold q_truncateInput
  refine Ctr.go rfl (by decide) rfl rfl ?_
  refine WP.aload_n (pc := 0) dX9_truncateInput_0 rfl ?_
  refine WP.iload_n (pc := 1) dX9_truncateInput_1 rfl ?_
  refine WP.iconst (pc := 2) (v := 0) dX9_truncateInput_2 (by decide) ?_
  refine WP.aload_n (pc := 3) dX9_truncateInput_3 rfl ?_
  refine WP.gIv (pc := 4) (v := nI mm.n) uX9 fX9_58 hm.t0 (by simp [up_eq, h17]) dX9_truncateInput_4 ?_
  refine WP.cVp (pc := 7) (mc2 := 0) (ms2 := 0) (ci := 9) kX9_176 (CX9_noNumber Γ hm l 0 (nI mm.n)) (by decide) rfl hm.t0 rfl ⟨Nat.le_of_ble_eq_true rfl, Nat.le_of_ble_eq_true rfl⟩ (Nat.le_of_ble_eq_true rfl) (Nat.le_of_ble_eq_true rfl) (Nat.le_of_ble_eq_true rfl) rfl dX9_truncateInput_7 (fun v I1 ⟨hv, f1, g1⟩ => ?_)
  rw [hv]
  have h1 := h.j f1
  by_cases hq : l < 0 ∨ nI mm.n < l
  · have hq2 : ¬ (decide (0 ≤ l) && decide (l ≤ nI mm.n)) = true := fun z => btw_lt.mp z hq
    rw [if_neg hq2] at g1
    rw [Bool.not_eq_true] at hq2
    rw [if_pos hq, hq2]
    refine WP.if_eq (pc := 10) (tgt := 15) dX9_truncateInput_10 (by decide) (fun h4 => ?_) (fun h4 => ?_)
    · exact absurd h4 (by decide)
    · refine WP.iconst (pc := 13) (v := 0) dX9_truncateInput_13 (by decide) ?_
      refine WP.iret (pc := 14) rfl dX9_truncateInput_14 ?_
      exact mO.err (by decide) g1 h1 f1.T
  · have hq2 := btw_lt.mpr hq
    rw [if_pos hq2] at g1
    rw [if_neg hq, hq2]
    obtain ⟨j, hj, rfl⟩ := nI_of (x := l) (fun z => hq (Or.inl z))
    have hj9 : j ≤ mm.n := Nat.not_lt.mp fun z => hq (Or.inr (nI_lt z hj))
    rw [nI_clamp hj]
    refine WP.if_eq (pc := 10) (tgt := 15) dX9_truncateInput_10 (by decide) (fun h4 => ?_) (fun h4 => ?_)
    · refine WP.aload_n (pc := 15) dX9_truncateInput_15 rfl ?_
      refine WP.iload_n (pc := 16) dX9_truncateInput_16 rfl ?_
      refine WP.pI (pc := 17) uX9 fX9_58 rfl rfl hm.t0 dX9_truncateInput_17 ?_
      refine WP.iload_n (pc := 20) dX9_truncateInput_20 rfl ?_
      refine WP.iret (pc := 21) rfl dX9_truncateInput_21 ?_
      have hh := h1.2.2.2.1
      refine mO.ok (by rw [up_eq, if_neg (by omega)]; exact g1) rfl ?_ (fun c hc => by rw [up_ne (by omega)]; exact f1.T c hc)
      exact (h1.setT (f' := mm.f) (n' := j) (fun b hb => up_ne (by omega)) (fun i hi => by rw [up_eq, if_neg (by omega)]) (by rw [up_eq, if_pos ⟨rfl, rfl⟩]) (by omega) (by rw [up_ne (by omega)]; exact hh.2.2.mono hj9))
    · exact absurd rfl h4
theorem CX9_outputByte (hm : shM σ m) (h : mdI I m mm) (i : Int32) : Ctr Γ (2, 45, 0, 0) MX9_outputByte [.ref m, .int i] (wI σ I) (mO σ I m (q_outputByte mm i)) := by
  obtain ⟨h26, ho, hg⟩ := h.2.2.2.2.2
  have hix := out_ix (p := i) (n := mm.o.length) (by omega)
  unfold q_outputByte
  refine Ctr.go rfl (by decide) rfl rfl ?_
  refine WP.aload_n (pc := 0) dX9_outputByte_0 rfl ?_
  refine WP.iload_n (pc := 1) dX9_outputByte_1 rfl ?_
  refine WP.iconst (pc := 2) (v := 0) dX9_outputByte_2 (by decide) ?_
  refine WP.aload_n (pc := 3) dX9_outputByte_3 rfl ?_
  refine WP.gIv (pc := 4) (v := nI mm.o.length) uX9 fX9_350 hm.t0 (by simp [up_eq, h26]) dX9_outputByte_4 ?_
  refine WP.iconst (pc := 7) (v := 1) dX9_outputByte_7 (by decide) ?_
  refine WP.isub (pc := 8) dX9_outputByte_8 ?_
  refine WP.cVp (pc := 9) (mc2 := 0) (ms2 := 0) (ci := 9) kX9_176 (CX9_noNumber Γ hm i 0 (nI mm.o.length - 1)) (by decide) rfl hm.t0 rfl ⟨Nat.le_of_ble_eq_true rfl, Nat.le_of_ble_eq_true rfl⟩ (Nat.le_of_ble_eq_true rfl) (Nat.le_of_ble_eq_true rfl) (Nat.le_of_ble_eq_true rfl) rfl dX9_outputByte_9 (fun v I1 ⟨hv, f1, g1⟩ => ?_)
  rw [hv]
  have h1 := h.j f1
  by_cases hq : ixB i mm.o.length
  · have hq2 : ¬ (decide (0 ≤ i) && decide (i ≤ nI mm.o.length - 1)) = true := fun z => hix.mp z hq
    rw [if_neg hq2] at g1
    rw [Bool.not_eq_true] at hq2
    rw [if_pos hq, hq2]
    refine WP.if_eq (pc := 12) (tgt := 19) dX9_outputByte_12 (by decide) (fun h4 => ?_) (fun h4 => ?_)
    · exact absurd h4 (by decide)
    · refine WP.iconst (pc := 15) (v := 0) dX9_outputByte_15 (by decide) ?_
      refine WP.goto (pc := 16) (tgt := 25) dX9_outputByte_16 (by decide) ?_
      refine WP.iret (pc := 25) rfl dX9_outputByte_25 ?_
      exact mO.err (by decide) g1 h1 f1.T
  · have hq2 := hix.mpr hq
    rw [if_pos hq2] at g1
    rw [if_neg hq, hq2]
    obtain ⟨j, rfl, hj⟩ := ixN hq (by omega)
    rw [nI_clamp (by omega)]
    have hgj := hg j _ (gD_of (l := mm.o) 0 hj)
    refine WP.if_eq (pc := 12) (tgt := 19) dX9_outputByte_12 (by decide) (fun h4 => ?_) (fun h4 => ?_)
    · refine WP.aload_n (pc := 19) dX9_outputByte_19 rfl ?_
      refine WP.gR (pc := 20) uX9 fX9_45 hm.t0 hm.r0_25 dX9_outputByte_20 ?_
      refine WP.iload_n (pc := 23) dX9_outputByte_23 rfl ?_
      refine WP.bald (pc := 24) hm.t11 (by omega) (by decide) dX9_outputByte_24 ?_
      rw [f1.1 (m + 11) (by omega), hgj]
      refine WP.iret (pc := 25) rfl dX9_outputByte_25 ?_
      exact mO.ok g1 rfl h1 f1.T
    · exact absurd rfl h4
variable {T C : Nat}
theorem pshR {I2 I3 : Nat → Nat → Int32} {s' : mS} (g : mdI I2 m (mX.w_past mm (pushP mm.past mm.s))) (f : frB I2 I3 (m + 1)) (hs : gAt (I3 (m + 1)) s') : mdI I3 m (psh mm s') := g.setS (fun b hb => f b (by omega)) (fun j _ => by rw [f m (by omega)]) hs
theorem frB.T1 {I I' : Nat → Nat → Int32} (hf : frB I I' (m + 1)) : fr I I' m 12 := fun c hc => hf c (by omega)
theorem CX9_scatter (hm : shM σ m) (h : mdI I m mm) (c : Int32) : Ctr Γ (2, 45, 0, 0) MX9_scatter [.ref m, .int c] (wI σ I) (mO σ I m (q_scatter mm c)) := by
  unfold q_scatter
  refine Ctr.go rfl (by decide) rfl rfl ?_
  refine WP.aload_n (pc := 0) dX9_scatter_0 rfl ?_
  refine WP.iload_n (pc := 1) dX9_scatter_1 rfl ?_
  refine WP.iconst (pc := 2) (v := 1) dX9_scatter_2 (by decide) ?_
  refine WP.bipush (pc := 3) (v := 99) dX9_scatter_3 (by decide) ?_
  refine WP.cVp (pc := 5) (mc2 := 0) (ms2 := 0) (ci := 9) kX9_176 (CX9_noNumber Γ hm c 1 99) (by decide) rfl hm.t0 rfl ⟨Nat.le_of_ble_eq_true rfl, Nat.le_of_ble_eq_true rfl⟩ (Nat.le_of_ble_eq_true rfl) (Nat.le_of_ble_eq_true rfl) (Nat.le_of_ble_eq_true rfl) rfl dX9_scatter_5 (fun v I1 ⟨hv, f1, g1⟩ => ?_)
  rw [hv]
  have h1 := h.j f1
  by_cases hq : c < 1 ∨ 99 < c
  · have hq2 : ¬ (decide (1 ≤ c) && decide (c ≤ (99 : Int32))) = true := fun z => btw_lt.mp z hq
    rw [if_neg hq2] at g1
    rw [Bool.not_eq_true] at hq2
    rw [if_pos hq, hq2]
    refine WP.if_eq (pc := 8) (tgt := 13) dX9_scatter_8 (by decide) (fun h4 => ?_) (fun h4 => ?_)
    · exact absurd h4 (by decide)
    · refine WP.iconst (pc := 11) (v := 0) dX9_scatter_11 (by decide) ?_
      refine WP.iret (pc := 12) rfl dX9_scatter_12 ?_
      exact mO.err (by decide) g1 h1 f1.T
  · have hq2 := btw_lt.mpr hq
    rw [if_pos hq2] at g1
    rw [if_neg hq, hq2]
    refine WP.if_eq (pc := 8) (tgt := 13) dX9_scatter_8 (by decide) (fun h4 => ?_) (fun h4 => ?_)
    · refine WP.aload_n (pc := 13) dX9_scatter_13 rfl ?_
      refine WP.cVw (pc := 14) (mc2 := 0) (ms2 := 0) (ci := 9) kX9_305 (CX9_remember Γ hm h1) (by decide) rfl hm.t0 rfl ⟨Nat.le_of_ble_eq_true rfl, Nat.le_of_ble_eq_true rfl⟩ (Nat.le_of_ble_eq_true rfl) (Nat.le_of_ble_eq_true rfl) (Nat.le_of_ble_eq_true rfl) rfl dX9_scatter_14 (fun I2 ⟨f2, g2⟩ => ?_)
      have hs : gAt (I2 (m + 1)) mm.s := g2.1
      refine WP.aload_n (pc := 17) dX9_scatter_17 rfl ?_
      refine WP.gR (pc := 18) uX9 fX9_7 hm.t0 hm.r0_0 dX9_scatter_18 ?_
      refine WP.iconst (pc := 21) (v := 4) dX9_scatter_21 (by decide) ?_
      refine WP.dup2 (pc := 22) dX9_scatter_22 rfl rfl ?_
      refine WP.ialdv (pc := 23) (k := 4) hm.t1 (by decide) (by decide) (v := (mm.s.1 4)) (hs.1 4 (by omega)) dX9_scatter_23 ?_
      refine WP.iload_n (pc := 24) dX9_scatter_24 rfl ?_
      refine WP.iadd (pc := 25) dX9_scatter_25 ?_
      refine WP.iast (pc := 26) (k := 4) hm.t1 (by decide) (by decide) dX9_scatter_26 ?_
      refine WP.aload_n (pc := 27) dX9_scatter_27 rfl ?_
      refine WP.gR (pc := 28) uX9 fX9_7 hm.t0 hm.r0_0 dX9_scatter_28 ?_
      refine WP.iconst (pc := 31) (v := 4) dX9_scatter_31 (by decide) ?_
      refine WP.ialdv (pc := 32) (k := 4) hm.t1 (by decide) (by decide) (v := (mm.s.1 4 + c)) (by rw [up_row]; exact uw_at rfl) dX9_scatter_32 ?_
      refine WP.iret (pc := 33) rfl dX9_scatter_33 ?_
      refine mO.ok (by rw [up_ne (by omega), f2.2 8 (by omega) (by omega)]; exact g1) rfl (pshR g2 frB.rf.up ?_) (fun x hx => by rw [up_ne (by omega), f2.T x hx]; exact f1.T x hx)
      rw [up_row]
      exact hs.z (j := 4) (by omega) _
    · exact absurd rfl h4
theorem CX9_passHours (hm : shM σ m) (h : mdI I m mm) (hw : wf T C mm.s) (hT : T ≤ 2147483647) (hC : C + 30000 < 2147483648) (n : Int32) : Ctr Γ (6, 140, 0, 0) MX9_passHours [.ref m, .int n] (wI σ I) (mO σ I m (q_passHours mm n)) := by
  unfold q_passHours
  refine Ctr.go rfl (by decide) rfl rfl ?_
  refine WP.aload_n (pc := 0) dX9_passHours_0 rfl ?_
  refine WP.iload_n (pc := 1) dX9_passHours_1 rfl ?_
  refine WP.iconst (pc := 2) (v := 1) dX9_passHours_2 (by decide) ?_
  refine WP.bipush (pc := 3) (v := 60) dX9_passHours_3 (by decide) ?_
  refine WP.cVp (pc := 5) (mc2 := 0) (ms2 := 0) (ci := 9) kX9_176 (CX9_noNumber Γ hm n 1 60) (by decide) rfl hm.t0 rfl ⟨Nat.le_of_ble_eq_true rfl, Nat.le_of_ble_eq_true rfl⟩ (Nat.le_of_ble_eq_true rfl) (Nat.le_of_ble_eq_true rfl) (Nat.le_of_ble_eq_true rfl) rfl dX9_passHours_5 (fun v I1 ⟨hv, f1, g1⟩ => ?_)
  rw [hv]
  have h1 := h.j f1
  by_cases hq : n < 1 ∨ 60 < n
  · have hq2 : ¬ (decide (1 ≤ n) && decide (n ≤ (60 : Int32))) = true := fun z => btw_lt.mp z hq
    rw [if_neg hq2] at g1
    rw [Bool.not_eq_true] at hq2
    rw [if_pos hq, hq2]
    refine WP.if_eq (pc := 8) (tgt := 13) dX9_passHours_8 (by decide) (fun h4 => ?_) (fun h4 => ?_)
    · exact absurd h4 (by decide)
    · refine WP.iconst (pc := 11) (v := 0) dX9_passHours_11 (by decide) ?_
      refine WP.iret (pc := 12) rfl dX9_passHours_12 ?_
      exact mO.err (by decide) g1 h1 f1.T
  · have hq2 := btw_lt.mpr hq
    rw [if_pos hq2] at g1
    rw [if_neg hq, hq2]
    obtain ⟨j, hj, rfl⟩ := nI_of (x := n) (fun z => hq (Or.inl (Int32.lt_trans z (by decide))))
    have hj9 : j ≤ 60 := Nat.not_lt.mp fun z => hq (Or.inr (nI_lt (a := 60) z hj))
    rw [nI_clamp hj]
    refine WP.if_eq (pc := 8) (tgt := 13) dX9_passHours_8 (by decide) (fun h4 => ?_) (fun h4 => ?_)
    · refine WP.aload_n (pc := 13) dX9_passHours_13 rfl ?_
      refine WP.cVw (pc := 14) (mc2 := 0) (ms2 := 0) (ci := 9) kX9_305 (CX9_remember Γ hm h1) (by decide) rfl hm.t0 rfl ⟨Nat.le_of_ble_eq_true rfl, Nat.le_of_ble_eq_true rfl⟩ (Nat.le_of_ble_eq_true rfl) (Nat.le_of_ble_eq_true rfl) (Nat.le_of_ble_eq_true rfl) rfl dX9_passHours_14 (fun I2 ⟨f2, g2⟩ => ?_)
      have hs : gAt (I2 (m + 1)) mm.s := g2.1
      refine WP.aload_n (pc := 17) dX9_passHours_17 rfl ?_
      refine WP.gR (pc := 18) uX9 fX9_7 hm.t0 hm.r0_0 dX9_passHours_18 ?_
      refine WP.bipush (pc := 21) (v := 12) dX9_passHours_21 (by decide) ?_
      refine WP.ialdv (pc := 23) (k := 12) hm.t1 (by decide) (by decide) (v := (mm.s.1 8)) (hs.1 8 (by omega)) dX9_passHours_23 ?_
      refine WP.istore_n (pc := 24) dX9_passHours_24 (by decide) rfl ?_
      refine WP.aload_n (pc := 25) dX9_passHours_25 rfl ?_
      refine WP.aload_n (pc := 26) dX9_passHours_26 rfl ?_
      refine WP.gR (pc := 27) uX9 fX9_7 hm.t0 hm.r0_0 dX9_passHours_27 ?_
      refine WP.iload_n (pc := 30) dX9_passHours_30 rfl ?_
      refine WP.cVw (pc := 31) (mc2 := 0) (ms2 := 0) (ci := 9) kX9_267 (CX9_passMany Γ hm hm.t1 (n := j) (T := T) (C := C) (by omega) hT hs (Nat.lt_of_le_of_lt (Nat.add_le_add_left (Nat.mul_le_mul_left 300 (show j ≤ 100 by omega)) C) hC) hw) (by decide) rfl hm.t0 rfl ⟨Nat.le_of_ble_eq_true rfl, Nat.le_of_ble_eq_true rfl⟩ (Nat.le_of_ble_eq_true rfl) (Nat.le_of_ble_eq_true rfl) (Nat.le_of_ble_eq_true rfl) rfl dX9_passHours_31 (fun I3 ⟨f3, g3⟩ => ?_)
      refine WP.aload_n (pc := 34) dX9_passHours_34 rfl ?_
      refine WP.gR (pc := 35) uX9 fX9_7 hm.t0 hm.r0_0 dX9_passHours_35 ?_
      refine WP.bipush (pc := 38) (v := 12) dX9_passHours_38 (by decide) ?_
      refine WP.ialdv (pc := 40) (k := 12) hm.t1 (by decide) (by decide) (v := ((hrsN j mm.s).1 8)) (g3.1 8 (by omega)) dX9_passHours_40 ?_
      refine WP.iload_n (pc := 41) dX9_passHours_41 rfl ?_
      refine WP.isub (pc := 42) dX9_passHours_42 ?_
      refine WP.iret (pc := 43) rfl dX9_passHours_43 ?_
      exact mO.ok (by rw [f3 m (by omega), f2.2 8 (by omega) (by omega)]; exact g1) rfl (pshR g2 f3 g3) (fun x hx => by rw [f3.T1 x hx, f2.T x hx]; exact f1.T x hx)
    · exact absurd rfl h4
end T
