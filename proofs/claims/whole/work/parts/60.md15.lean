-- behind: 37 59
-- the model as an object, and its questions
def mdI (I : Nat → Nat → Int32) (m : Nat) (mm : mX) : Prop := gAt (I (m + 1)) mm.s ∧ (I m 6 = nI mm.past.length ∧ mm.past.length ≤ 8 ∧ ∃ u, u < 8 ∧ I m 7 = nI u ∧ ∀ i s, mm.past[i]? = some s → gAt (fun j => I (m + 4) (380 * ((u + i) % 8) + j)) s) ∧ (∀ k, k < 2 → (∀ s, mm.sl k = some s → I (m + 6) k = 1 ∧ gAt (fun j => I (m + 5) (380 * k + j)) s) ∧ (mm.sl k = none → I (m + 6) k = 0)) ∧ (I m 17 = nI mm.n ∧ mm.n ≤ 600 ∧ tx mm.f (I (m + 10)) mm.n) ∧ (I m 23 = nI mm.e ∧ mm.e ≤ 6 ∧ I m 24 = mm.ep) ∧ (I m 26 = nI mm.o.length ∧ mm.o.length ≤ 120 ∧ ∀ i v, mm.o[i]? = some v → I (m + 11) i = v)
theorem mdI.fr {I I' : Nat → Nat → Int32} {m : Nat} {mm : mX} (h : mdI I m mm) (h1 : ∀ b, b = m + 1 ∨ b = m + 4 ∨ b = m + 5 ∨ b = m + 6 ∨ b = m + 10 ∨ b = m + 11 → I' b = I b) (h2 : ∀ j, j = 6 ∨ j = 7 ∨ j = 17 ∨ j = 23 ∨ j = 24 ∨ j = 26 → I' m j = I m j) : mdI I' m mm := by
  unfold mdI
  rw [h1 (m + 1) (by omega), h1 (m + 4) (by omega), h1 (m + 5) (by omega), h1 (m + 6) (by omega), h1 (m + 10) (by omega), h1 (m + 11) (by omega), h2 6 (by omega), h2 7 (by omega), h2 17 (by omega), h2 23 (by omega), h2 24 (by omega), h2 26 (by omega)]
  exact h
theorem mdI.j {I I' : Nat → Nat → Int32} {m : Nat} {mm : mX} (h : mdI I m mm) (hf : fr_j I I' m 8 8) : mdI I' m mm := h.fr (fun b hb => hf.1 b (by omega)) (fun j hj => hf.2 j (by omega) (by omega))
theorem mdI.M {I I' : Nat → Nat → Int32} {m : Nat} {mm : mX} (h : mdI I m mm) (hf : frM I I' m) : mdI I' m mm := h.fr (fun b hb => hf.1 b (by omega) (by omega) (by omega) (by omega)) (fun j hj => hf.2 j (by omega))
theorem fr_j.T {I I' : Nat → Nat → Int32} {m a b : Nat} (h : fr_j I I' m a b) : fr I I' m 12 := fun c hc => h.1 c (by omega)
theorem fr8 {I : Nat → Nat → Int32} {m : Nat} {v : Int32} : fr I (up I m 8 v) m 12 := (fr_j.rf (j1 := 8) (j2 := 8)).u1.T
theorem frM.T {I I' : Nat → Nat → Int32} {m : Nat} (h : frM I I' m) : fr I I' m 12 := fun c hc => h.1 c (by omega) (by omega) (by omega) (by omega)
def mO (σ : cAS) (I : Nat → Nat → Int32) (m : Nat) (o : oR) : cRes → cAS → Prop := rP σ (fun v I' => I' m 8 = nI o.1 ∧ (o.1 = 0 → v = o.2.1) ∧ mdI I' m o.2.2 ∧ fr I I' m 12)
theorem mO.ret {σ : cAS} {I I' : Nat → Nat → Int32} {m : Nat} {o : oR} {v : Int32} (h1 : I' m 8 = nI o.1) (h2 : o.1 = 0 → v = o.2.1) (h3 : mdI I' m o.2.2) (h4 : fr I I' m 12) : mO σ I m o (.inl (some (.int v))) (wI σ I') := ⟨v, I', rfl, rfl, h1, h2, h3, h4⟩
theorem mO.err {σ : cAS} {I I' : Nat → Nat → Int32} {m t : Nat} {u v : Int32} {mm : mX} (ht : t ≠ 0) (h1 : I' m 8 = nI t) (h3 : mdI I' m mm) (h4 : fr I I' m 12) : mO σ I m (t, u, mm) (.inl (some (.int v))) (wI σ I') := ⟨v, I', rfl, rfl, h1, fun z => absurd z ht, h3, h4⟩
theorem mO.ok {σ : cAS} {I I' : Nat → Nat → Int32} {m : Nat} {v u : Int32} {mm : mX} (h1 : I' m 8 = 0) (h2 : v = u) (h3 : mdI I' m mm) (h4 : fr I I' m 12) : mO σ I m (0, u, mm) (.inl (some (.int v))) (wI σ I') := ⟨v, I', rfl, rfl, h1, fun _ => h2, h3, h4⟩
theorem btw_ix {i : Int32} {n : Nat} (hn : n ≤ 1000) : (decide (0 ≤ i) && decide (i ≤ nI n - 1)) = !decide (ixB i n) := by
  have e : nI n - 1 = if n = 0 then -1 else nI (n - 1) := by
    split
    · next q => rw [q]; decide
    · next q =>
      obtain ⟨k, rfl⟩ : ∃ k, n = k + 1 := ⟨n - 1, by omega⟩
      rw [nI_pred]
      rfl
  by_cases h0 : i < 0
  · rw [decide_eq_false (Int32.not_le.mpr h0), decide_eq_true (show ixB i n from Or.inl h0)]
    rfl
  · obtain ⟨j, hj, rfl⟩ := nI_of h0
    rw [decide_eq_true (nI_pos' hj), Bool.true_and, e]
    by_cases h1 : j < n
    · rw [if_neg (by omega), decide_eq_true (nI_le (by omega) (by omega)), decide_eq_false (show ¬ ixB (nI j) n from fun z => z.elim h0 (nI_ge h1 (by omega)))]
      rfl
    · rw [decide_eq_true (show ixB (nI j) n from Or.inr (nI_le (by omega) hj))]
      split
      · rw [decide_eq_false (fun z => h0 (Int32.lt_of_le_of_lt z (by decide)))]
        rfl
      · rw [decide_eq_false (nI_ge (by omega) hj)]
        rfl
section T
variable (Γ : cG) {σ : cAS} {m : Nat} {I : Nat → Nat → Int32} {mm : mX}
theorem CX9_refuses (hm : shM σ m) (b : Bool) (w t0 : Nat) (hw : w ≤ 3) (ht : t0 ≤ 3) {I : Nat → Nat → Int32} (h8 : I m 8 = nI t0) : Ctr Γ (0, 0, 0, 0) MX9_refuses [.ref m, .int (bI b), .int (nI w)] (wI σ I) (rP σ (fun v I' => v = bI (decide ((if b = true ∧ t0 = 0 then w else t0) ≠ 0)) ∧ fr_j I I' m 8 8 ∧ I' m 8 = nI (if b = true ∧ t0 = 0 then w else t0))) := by
  have fin : ∀ (I1 : Nat → Nat → Int32) (t : Nat), t ≤ 3 → t = (if b = true ∧ t0 = 0 then w else t0) → fr_j I I1 m 8 8 → I1 m 8 = nI t → WP Γ (0, 0, 0, 0) MX9_refuses (rP σ (fun v I' => v = bI (decide ((if b = true ∧ t0 = 0 then w else t0) ≠ 0)) ∧ fr_j I I' m 8 8 ∧ I' m 8 = nI (if b = true ∧ t0 = 0 then w else t0))) 16 [some (.ref m), some (.int (bI b)), some (.int (nI w))] [] (wI σ I1) := fun I1 t ht3 ht f1 k8 => by
    rw [← ht]
    refine WP.aload_n (pc := 16) dX9_refuses_16 rfl ?_
    refine WP.gIv (pc := 17) (v := nI t) uX9 fX9_75 hm.t0 (by simp [up_eq, k8]) dX9_refuses_17 ?_
    refine WP.if_eq (pc := 20) (tgt := 27) dX9_refuses_20 (by decide) (fun h1 => ?_) (fun h1 => ?_)
    · have : t = 0 := (nI_eq (b := 0) (by omega) (by decide)).mp h1
      refine WP.iconst (pc := 27) (v := 0) dX9_refuses_27 (by decide) ?_
      refine WP.zret (pc := 28) rfl (by decide) dX9_refuses_28 ?_
      exact ⟨_, I1, rfl, rfl, by rw [this]; rfl, f1, k8⟩
    · have : t ≠ 0 := fun q => h1 (by rw [q]; rfl)
      refine WP.iconst (pc := 23) (v := 1) dX9_refuses_23 (by decide) ?_
      refine WP.goto (pc := 24) (tgt := 28) dX9_refuses_24 (by decide) ?_
      refine WP.zret (pc := 28) rfl (by decide) dX9_refuses_28 ?_
      exact ⟨_, I1, rfl, rfl, by rw [decide_eq_true this]; rfl, f1, k8⟩
  refine Ctr.go rfl (by decide) rfl rfl ?_
  refine WP.iload_n (pc := 0) dX9_refuses_0 rfl ?_
  refine WP.if_eq (pc := 1) (tgt := 16) dX9_refuses_1 (by decide) (fun h1 => ?_) (fun h1 => ?_)
  · have hb : b = false := by
      cases b
      · rfl
      · exact absurd h1 (by decide)
    exact fin I t0 ht (by rw [if_neg (fun z => absurd (hb.symm.trans z.1) (by decide))]) fr_j.rf h8
  · have hb : b = true := by
      cases b
      · exact absurd rfl h1
      · rfl
    refine WP.aload_n (pc := 4) dX9_refuses_4 rfl ?_
    refine WP.gIv (pc := 5) (v := nI t0) uX9 fX9_75 hm.t0 (by simp [up_eq, h8]) dX9_refuses_5 ?_
    refine WP.if_ne (pc := 8) (tgt := 16) dX9_refuses_8 (by decide) (fun h2 => ?_) (fun h2 => ?_)
    · have : t0 ≠ 0 := fun q => h2 (by rw [q]; rfl)
      exact fin I t0 ht (by rw [if_neg (fun z => this z.2)]) fr_j.rf h8
    · have : t0 = 0 := (nI_eq (b := 0) (by omega) (by decide)).mp h2
      refine WP.aload_n (pc := 11) dX9_refuses_11 rfl ?_
      refine WP.iload_n (pc := 12) dX9_refuses_12 rfl ?_
      refine WP.pI (pc := 13) uX9 fX9_75 rfl rfl hm.t0 dX9_refuses_13 ?_
      exact fin _ w hw (by rw [if_pos ⟨hb, this⟩]) fr_j.rf.u1 (by simp [up_eq])
theorem CX9_noNumber (hm : shM σ m) (x lo hi : Int32) {I : Nat → Nat → Int32} : Ctr Γ (1, 22, 0, 0) MX9_noNumber [.ref m, .int x, .int lo, .int hi] (wI σ I) (rP σ (fun v I' => v = bI (!(decide (lo ≤ x) && decide (x ≤ hi))) ∧ fr_j I I' m 8 8 ∧ I' m 8 = nI (if (decide (lo ≤ x) && decide (x ≤ hi)) = true then 0 else 1))) := by
  refine Ctr.go rfl (by decide) rfl rfl ?_
  refine WP.aload_n (pc := 0) dX9_noNumber_0 rfl ?_
  refine WP.iconst (pc := 1) (v := 0) dX9_noNumber_1 (by decide) ?_
  refine WP.pI (pc := 2) uX9 fX9_75 rfl rfl hm.t0 dX9_noNumber_2 ?_
  refine WP.aload_n (pc := 5) dX9_noNumber_5 rfl ?_
  refine WP.iload_n (pc := 6) dX9_noNumber_6 rfl ?_
  refine WP.iload_n (pc := 7) dX9_noNumber_7 rfl ?_
  refine WP.iload_n (pc := 8) dX9_noNumber_8 rfl ?_
  refine WP.cS1 (pc := 9) (mc2 := 0) (ms2 := 0) kX9_183 (CX9_isBetween Γ x lo hi) rfl ⟨Nat.le_of_ble_eq_true rfl, Nat.le_of_ble_eq_true rfl⟩ (Nat.le_of_ble_eq_true rfl) (Nat.le_of_ble_eq_true rfl) (Nat.le_of_ble_eq_true rfl) rfl dX9_noNumber_9 ?_
  generalize (decide (lo ≤ x) && decide (x ≤ hi)) = b
  cases b
  · refine WP.if_ne (pc := 12) (tgt := 19) dX9_noNumber_12 (by decide) (fun h1 => ?_) (fun h1 => ?_)
    · exact absurd rfl h1
    · refine WP.iconst (pc := 15) (v := 1) dX9_noNumber_15 (by decide) ?_
      refine WP.goto (pc := 16) (tgt := 20) dX9_noNumber_16 (by decide) ?_
      refine WP.iconst (pc := 20) (v := 1) dX9_noNumber_20 (by decide) ?_
      refine WP.cVp (pc := 21) (mc2 := 0) (ms2 := 0) (ci := 9) kX9_168 (CX9_refuses Γ hm true 1 0 (by omega) (by omega) (by simp [up_eq]; rfl)) (by decide) rfl hm.t0 rfl ⟨Nat.le_of_ble_eq_true rfl, Nat.le_of_ble_eq_true rfl⟩ (Nat.le_of_ble_eq_true rfl) (Nat.le_of_ble_eq_true rfl) (Nat.le_of_ble_eq_true rfl) rfl dX9_noNumber_21 (fun v I1 ⟨hv, f1, g1⟩ => ?_)
      refine WP.zret (pc := 24) rfl (by rw [hv]; decide) dX9_noNumber_24 ?_
      exact ⟨_, I1, rfl, rfl, hv, fr_j.rf.u1.trans f1, g1⟩
  · refine WP.if_ne (pc := 12) (tgt := 19) dX9_noNumber_12 (by decide) (fun h1 => ?_) (fun h1 => ?_)
    · refine WP.iconst (pc := 19) (v := 0) dX9_noNumber_19 (by decide) ?_
      refine WP.iconst (pc := 20) (v := 1) dX9_noNumber_20 (by decide) ?_
      refine WP.cVp (pc := 21) (mc2 := 0) (ms2 := 0) (ci := 9) kX9_168 (CX9_refuses Γ hm false 1 0 (by omega) (by omega) (by simp [up_eq]; rfl)) (by decide) rfl hm.t0 rfl ⟨Nat.le_of_ble_eq_true rfl, Nat.le_of_ble_eq_true rfl⟩ (Nat.le_of_ble_eq_true rfl) (Nat.le_of_ble_eq_true rfl) (Nat.le_of_ble_eq_true rfl) rfl dX9_noNumber_21 (fun v I1 ⟨hv, f1, g1⟩ => ?_)
      refine WP.zret (pc := 24) rfl (by rw [hv]; decide) dX9_noNumber_24 ?_
      exact ⟨_, I1, rfl, rfl, hv, fr_j.rf.u1.trans f1, g1⟩
    · exact absurd h1 (by decide)
theorem CX9_out (hm : shM σ m) (x lo hi : Int32) {I : Nat → Nat → Int32} (h8 : I m 8 = 0) : Ctr Γ (1, 22, 0, 0) MX9_out [.ref m, .int x, .int lo, .int hi] (wI σ I) (rP σ (fun v I' => v = bI (!(decide (lo ≤ x) && decide (x ≤ hi))) ∧ fr_j I I' m 8 8 ∧ I' m 8 = nI (if (decide (lo ≤ x) && decide (x ≤ hi)) = true then 0 else 2))) := by
  refine Ctr.go rfl (by decide) rfl rfl ?_
  refine WP.aload_n (pc := 0) dX9_out_0 rfl ?_
  refine WP.iload_n (pc := 1) dX9_out_1 rfl ?_
  refine WP.iload_n (pc := 2) dX9_out_2 rfl ?_
  refine WP.iload_n (pc := 3) dX9_out_3 rfl ?_
  refine WP.cS1 (pc := 4) (mc2 := 0) (ms2 := 0) kX9_183 (CX9_isBetween Γ x lo hi) rfl ⟨Nat.le_of_ble_eq_true rfl, Nat.le_of_ble_eq_true rfl⟩ (Nat.le_of_ble_eq_true rfl) (Nat.le_of_ble_eq_true rfl) (Nat.le_of_ble_eq_true rfl) rfl dX9_out_4 ?_
  generalize (decide (lo ≤ x) && decide (x ≤ hi)) = b
  cases b
  · refine WP.if_ne (pc := 7) (tgt := 14) dX9_out_7 (by decide) (fun h1 => ?_) (fun h1 => ?_)
    · exact absurd rfl h1
    · refine WP.iconst (pc := 10) (v := 1) dX9_out_10 (by decide) ?_
      refine WP.goto (pc := 11) (tgt := 15) dX9_out_11 (by decide) ?_
      refine WP.iconst (pc := 15) (v := 2) dX9_out_15 (by decide) ?_
      refine WP.cVp (pc := 16) (mc2 := 0) (ms2 := 0) (ci := 9) kX9_168 (CX9_refuses Γ hm true 2 0 (by omega) (by omega) h8) (by decide) rfl hm.t0 rfl ⟨Nat.le_of_ble_eq_true rfl, Nat.le_of_ble_eq_true rfl⟩ (Nat.le_of_ble_eq_true rfl) (Nat.le_of_ble_eq_true rfl) (Nat.le_of_ble_eq_true rfl) rfl dX9_out_16 (fun v I1 ⟨hv, f1, g1⟩ => ?_)
      refine WP.zret (pc := 19) rfl (by rw [hv]; decide) dX9_out_19 ?_
      exact ⟨_, I1, rfl, rfl, hv, f1, g1⟩
  · refine WP.if_ne (pc := 7) (tgt := 14) dX9_out_7 (by decide) (fun h1 => ?_) (fun h1 => ?_)
    · refine WP.iconst (pc := 14) (v := 0) dX9_out_14 (by decide) ?_
      refine WP.iconst (pc := 15) (v := 2) dX9_out_15 (by decide) ?_
      refine WP.cVp (pc := 16) (mc2 := 0) (ms2 := 0) (ci := 9) kX9_168 (CX9_refuses Γ hm false 2 0 (by omega) (by omega) h8) (by decide) rfl hm.t0 rfl ⟨Nat.le_of_ble_eq_true rfl, Nat.le_of_ble_eq_true rfl⟩ (Nat.le_of_ble_eq_true rfl) (Nat.le_of_ble_eq_true rfl) (Nat.le_of_ble_eq_true rfl) rfl dX9_out_16 (fun v I1 ⟨hv, f1, g1⟩ => ?_)
      refine WP.zret (pc := 19) rfl (by rw [hv]; decide) dX9_out_19 ?_
      exact ⟨_, I1, rfl, rfl, hv, f1, g1⟩
    · exact absurd h1 (by decide)
theorem CX9_noBaker (hm : shM σ m) (h : mdI I m mm) (i : Int32) : Ctr Γ (2, 45, 0, 0) MX9_noBaker [.ref m, .int i] (wI σ I) (rP σ (fun v I' => v = bI (decide (ixB i mm.s.2.1.length)) ∧ fr_j I I' m 8 8 ∧ I' m 8 = nI (if ixB i mm.s.2.1.length then 1 else 0))) := by
  have hb := btw_ix (i := i) (n := mm.s.2.1.length) (by have := h.1.2.1.2.1; omega)
  refine Ctr.go rfl (by decide) rfl rfl ?_
  refine WP.aload_n (pc := 0) dX9_noBaker_0 rfl ?_
  refine WP.iload_n (pc := 1) dX9_noBaker_1 rfl ?_
  refine WP.iconst (pc := 2) (v := 0) dX9_noBaker_2 (by decide) ?_
  refine WP.aload_n (pc := 3) dX9_noBaker_3 rfl ?_
  refine WP.gR (pc := 4) uX9 fX9_7 hm.t0 hm.r0_0 dX9_noBaker_4 ?_
  refine WP.iconst (pc := 7) (v := 1) dX9_noBaker_7 (by decide) ?_
  refine WP.ialdv (pc := 8) (k := 1) hm.t1 (by decide) (by decide) (v := (nI mm.s.2.1.length)) (h.1.2.1.1) dX9_noBaker_8 ?_
  refine WP.iconst (pc := 9) (v := 1) dX9_noBaker_9 (by decide) ?_
  refine WP.isub (pc := 10) dX9_noBaker_10 ?_
  refine WP.cVp (pc := 11) (mc2 := 0) (ms2 := 0) (ci := 9) kX9_176 (CX9_noNumber Γ hm i 0 (nI mm.s.2.1.length - 1)) (by decide) rfl hm.t0 rfl ⟨Nat.le_of_ble_eq_true rfl, Nat.le_of_ble_eq_true rfl⟩ (Nat.le_of_ble_eq_true rfl) (Nat.le_of_ble_eq_true rfl) (Nat.le_of_ble_eq_true rfl) rfl dX9_noBaker_11 (fun v I1 ⟨hv, f1, g1⟩ => ?_)
  rw [hb] at hv g1
  refine WP.zret (pc := 14) rfl (by rw [hv]; cases decide (ixB i mm.s.2.1.length) <;> rfl) dX9_noBaker_14 ?_
  refine ⟨_, I1, rfl, rfl, by rw [hv, Bool.not_not], f1, ?_⟩
  rw [g1]
  by_cases q : ixB i mm.s.2.1.length
  · rw [if_pos q, decide_eq_true q]
    rfl
  · rw [if_neg q, decide_eq_false q]
    rfl
theorem CX9_noCustomer (hm : shM σ m) (h : mdI I m mm) (i : Int32) : Ctr Γ (2, 45, 0, 0) MX9_noCustomer [.ref m, .int i] (wI σ I) (rP σ (fun v I' => v = bI (decide (ixB i mm.s.2.2.2.1.length)) ∧ fr_j I I' m 8 8 ∧ I' m 8 = nI (if ixB i mm.s.2.2.2.1.length then 1 else 0))) := by
  have hb := btw_ix (i := i) (n := mm.s.2.2.2.1.length) (by have := h.1.2.2.2.1.2.1; omega)
  refine Ctr.go rfl (by decide) rfl rfl ?_
  refine WP.aload_n (pc := 0) dX9_noCustomer_0 rfl ?_
  refine WP.iload_n (pc := 1) dX9_noCustomer_1 rfl ?_
  refine WP.iconst (pc := 2) (v := 0) dX9_noCustomer_2 (by decide) ?_
  refine WP.aload_n (pc := 3) dX9_noCustomer_3 rfl ?_
  refine WP.gR (pc := 4) uX9 fX9_7 hm.t0 hm.r0_0 dX9_noCustomer_4 ?_
  refine WP.iconst (pc := 7) (v := 2) dX9_noCustomer_7 (by decide) ?_
  refine WP.ialdv (pc := 8) (k := 2) hm.t1 (by decide) (by decide) (v := (nI mm.s.2.2.2.1.length)) (h.1.2.2.2.1.1) dX9_noCustomer_8 ?_
  refine WP.iconst (pc := 9) (v := 1) dX9_noCustomer_9 (by decide) ?_
  refine WP.isub (pc := 10) dX9_noCustomer_10 ?_
  refine WP.cVp (pc := 11) (mc2 := 0) (ms2 := 0) (ci := 9) kX9_176 (CX9_noNumber Γ hm i 0 (nI mm.s.2.2.2.1.length - 1)) (by decide) rfl hm.t0 rfl ⟨Nat.le_of_ble_eq_true rfl, Nat.le_of_ble_eq_true rfl⟩ (Nat.le_of_ble_eq_true rfl) (Nat.le_of_ble_eq_true rfl) (Nat.le_of_ble_eq_true rfl) rfl dX9_noCustomer_11 (fun v I1 ⟨hv, f1, g1⟩ => ?_)
  rw [hb] at hv g1
  refine WP.zret (pc := 14) rfl (by rw [hv]; cases decide (ixB i mm.s.2.2.2.1.length) <;> rfl) dX9_noCustomer_14 ?_
  refine ⟨_, I1, rfl, rfl, by rw [hv, Bool.not_not], f1, ?_⟩
  rw [g1]
  by_cases q : ixB i mm.s.2.2.2.1.length
  · rw [if_pos q, decide_eq_true q]
    rfl
  · rw [if_neg q, decide_eq_false q]
    rfl
theorem CX9_noLoaf (hm : shM σ m) (h : mdI I m mm) (i : Int32) : Ctr Γ (2, 45, 0, 0) MX9_noLoaf [.ref m, .int i] (wI σ I) (rP σ (fun v I' => v = bI (decide (ixB i mm.s.2.2.1.length)) ∧ fr_j I I' m 8 8 ∧ I' m 8 = nI (if ixB i mm.s.2.2.1.length then 1 else 0))) := by
  have hb := btw_ix (i := i) (n := mm.s.2.2.1.length) (by have := h.1.2.2.1.2.1; omega)
  refine Ctr.go rfl (by decide) rfl rfl ?_
  refine WP.aload_n (pc := 0) dX9_noLoaf_0 rfl ?_
  refine WP.iload_n (pc := 1) dX9_noLoaf_1 rfl ?_
  refine WP.iconst (pc := 2) (v := 0) dX9_noLoaf_2 (by decide) ?_
  refine WP.aload_n (pc := 3) dX9_noLoaf_3 rfl ?_
  refine WP.gR (pc := 4) uX9 fX9_7 hm.t0 hm.r0_0 dX9_noLoaf_4 ?_
  refine WP.iconst (pc := 7) (v := 3) dX9_noLoaf_7 (by decide) ?_
  refine WP.ialdv (pc := 8) (k := 3) hm.t1 (by decide) (by decide) (v := (nI mm.s.2.2.1.length)) (h.1.2.2.1.1) dX9_noLoaf_8 ?_
  refine WP.iconst (pc := 9) (v := 1) dX9_noLoaf_9 (by decide) ?_
  refine WP.isub (pc := 10) dX9_noLoaf_10 ?_
  refine WP.cVp (pc := 11) (mc2 := 0) (ms2 := 0) (ci := 9) kX9_176 (CX9_noNumber Γ hm i 0 (nI mm.s.2.2.1.length - 1)) (by decide) rfl hm.t0 rfl ⟨Nat.le_of_ble_eq_true rfl, Nat.le_of_ble_eq_true rfl⟩ (Nat.le_of_ble_eq_true rfl) (Nat.le_of_ble_eq_true rfl) (Nat.le_of_ble_eq_true rfl) rfl dX9_noLoaf_11 (fun v I1 ⟨hv, f1, g1⟩ => ?_)
  rw [hb] at hv g1
  refine WP.zret (pc := 14) rfl (by rw [hv]; cases decide (ixB i mm.s.2.2.1.length) <;> rfl) dX9_noLoaf_14 ?_
  refine ⟨_, I1, rfl, rfl, by rw [hv, Bool.not_not], f1, ?_⟩
  rw [g1]
  by_cases q : ixB i mm.s.2.2.1.length
  · rw [if_pos q, decide_eq_true q]
    rfl
  · rw [if_neg q, decide_eq_false q]
    rfl
theorem CX9_noEvent (hm : shM σ m) (h : mdI I m mm) (i : Int32) : Ctr Γ (2, 45, 0, 0) MX9_noEvent [.ref m, .int i] (wI σ I) (rP σ (fun v I' => v = bI (decide (ixB i mm.s.2.2.2.2.length)) ∧ fr_j I I' m 8 8 ∧ I' m 8 = nI (if ixB i mm.s.2.2.2.2.length then 1 else 0))) := by
  have hb := btw_ix (i := i) (n := mm.s.2.2.2.2.length) (by have := h.1.2.2.2.2.2.1; omega)
  refine Ctr.go rfl (by decide) rfl rfl ?_
  refine WP.aload_n (pc := 0) dX9_noEvent_0 rfl ?_
  refine WP.iload_n (pc := 1) dX9_noEvent_1 rfl ?_
  refine WP.iconst (pc := 2) (v := 0) dX9_noEvent_2 (by decide) ?_
  refine WP.aload_n (pc := 3) dX9_noEvent_3 rfl ?_
  refine WP.gR (pc := 4) uX9 fX9_7 hm.t0 hm.r0_0 dX9_noEvent_4 ?_
  refine WP.bipush (pc := 7) (v := 7) dX9_noEvent_7 (by decide) ?_
  refine WP.ialdv (pc := 9) (k := 7) hm.t1 (by decide) (by decide) (v := (nI mm.s.2.2.2.2.length)) (h.1.2.2.2.2.1) dX9_noEvent_9 ?_
  refine WP.iconst (pc := 10) (v := 1) dX9_noEvent_10 (by decide) ?_
  refine WP.isub (pc := 11) dX9_noEvent_11 ?_
  refine WP.cVp (pc := 12) (mc2 := 0) (ms2 := 0) (ci := 9) kX9_176 (CX9_noNumber Γ hm i 0 (nI mm.s.2.2.2.2.length - 1)) (by decide) rfl hm.t0 rfl ⟨Nat.le_of_ble_eq_true rfl, Nat.le_of_ble_eq_true rfl⟩ (Nat.le_of_ble_eq_true rfl) (Nat.le_of_ble_eq_true rfl) (Nat.le_of_ble_eq_true rfl) rfl dX9_noEvent_12 (fun v I1 ⟨hv, f1, g1⟩ => ?_)
  rw [hb] at hv g1
  refine WP.zret (pc := 15) rfl (by rw [hv]; cases decide (ixB i mm.s.2.2.2.2.length) <;> rfl) dX9_noEvent_15 ?_
  refine ⟨_, I1, rfl, rfl, by rw [hv, Bool.not_not], f1, ?_⟩
  rw [g1]
  by_cases q : ixB i mm.s.2.2.2.2.length
  · rw [if_pos q, decide_eq_true q]
    rfl
  · rw [if_neg q, decide_eq_false q]
    rfl
theorem CX9_noKind (hm : shM σ m) (i : Int32) {I : Nat → Nat → Int32} : Ctr Γ (2, 45, 0, 0) MX9_noKind [.ref m, .int i] (wI σ I) (rP σ (fun v I' => v = bI (decide (ixB i 3)) ∧ fr_j I I' m 8 8 ∧ I' m 8 = nI (if ixB i 3 then 1 else 0))) := by
  have hb := btw_ix (i := i) (n := 3) (by omega)
  rw [show nI 3 - 1 = 2 by decide] at hb
  refine Ctr.go rfl (by decide) rfl rfl ?_
  refine WP.aload_n (pc := 0) dX9_noKind_0 rfl ?_
  refine WP.iload_n (pc := 1) dX9_noKind_1 rfl ?_
  refine WP.iconst (pc := 2) (v := 0) dX9_noKind_2 (by decide) ?_
  refine WP.iconst (pc := 3) (v := 2) dX9_noKind_3 (by decide) ?_
  refine WP.cVp (pc := 4) (mc2 := 0) (ms2 := 0) (ci := 9) kX9_176 (CX9_noNumber Γ hm i 0 2) (by decide) rfl hm.t0 rfl ⟨Nat.le_of_ble_eq_true rfl, Nat.le_of_ble_eq_true rfl⟩ (Nat.le_of_ble_eq_true rfl) (Nat.le_of_ble_eq_true rfl) (Nat.le_of_ble_eq_true rfl) rfl dX9_noKind_4 (fun v I1 ⟨hv, f1, g1⟩ => ?_)
  rw [hb] at hv g1
  refine WP.zret (pc := 7) rfl (by rw [hv]; cases decide (ixB i 3) <;> rfl) dX9_noKind_7 ?_
  refine ⟨_, I1, rfl, rfl, by rw [hv, Bool.not_not], f1, ?_⟩
  rw [g1]
  by_cases q : ixB i 3
  · rw [if_pos q, decide_eq_true q]
    rfl
  · rw [if_neg q, decide_eq_false q]
    rfl
theorem CX9_hour (hm : shM σ m) (h : mdI I m mm) : Ctr Γ (0, 0, 0, 0) MX9_hour [.ref m] (wI σ I) (mO σ I m (q_hour mm)) := by
  refine Ctr.go rfl (by decide) rfl rfl ?_
  refine WP.aload_n (pc := 0) dX9_hour_0 rfl ?_
  refine WP.iconst (pc := 1) (v := 0) dX9_hour_1 (by decide) ?_
  refine WP.pI (pc := 2) uX9 fX9_75 rfl rfl hm.t0 dX9_hour_2 ?_
  refine WP.aload_n (pc := 5) dX9_hour_5 rfl ?_
  refine WP.gR (pc := 6) uX9 fX9_7 hm.t0 hm.r0_0 dX9_hour_6 ?_
  refine WP.iconst (pc := 9) (v := 0) dX9_hour_9 (by decide) ?_
  refine WP.ialdv (pc := 10) (k := 0) hm.t1 (by decide) (by decide) (v := (mm.s.1 3)) (by rw [up_ne (by omega)]; exact h.1.1 3 (by omega)) dX9_hour_10 ?_
  refine WP.iret (pc := 11) rfl dX9_hour_11 ?_
  exact mO.ok (by simp [up_eq]) rfl (h.j fr_j.rf.u1) fr8
theorem CX9_bakerCount (hm : shM σ m) (h : mdI I m mm) : Ctr Γ (0, 0, 0, 0) MX9_bakerCount [.ref m] (wI σ I) (mO σ I m (q_bakerCount mm)) := by
  refine Ctr.go rfl (by decide) rfl rfl ?_
  refine WP.aload_n (pc := 0) dX9_bakerCount_0 rfl ?_
  refine WP.iconst (pc := 1) (v := 0) dX9_bakerCount_1 (by decide) ?_
  refine WP.pI (pc := 2) uX9 fX9_75 rfl rfl hm.t0 dX9_bakerCount_2 ?_
  refine WP.aload_n (pc := 5) dX9_bakerCount_5 rfl ?_
  refine WP.gR (pc := 6) uX9 fX9_7 hm.t0 hm.r0_0 dX9_bakerCount_6 ?_
  refine WP.iconst (pc := 9) (v := 1) dX9_bakerCount_9 (by decide) ?_
  refine WP.ialdv (pc := 10) (k := 1) hm.t1 (by decide) (by decide) (v := (nI mm.s.2.1.length)) (by rw [up_ne (by omega)]; exact h.1.2.1.1) dX9_bakerCount_10 ?_
  refine WP.iret (pc := 11) rfl dX9_bakerCount_11 ?_
  exact mO.ok (by simp [up_eq]) rfl (h.j fr_j.rf.u1) fr8
theorem CX9_customerCount (hm : shM σ m) (h : mdI I m mm) : Ctr Γ (0, 0, 0, 0) MX9_customerCount [.ref m] (wI σ I) (mO σ I m (q_customerCount mm)) := by
  refine Ctr.go rfl (by decide) rfl rfl ?_
  refine WP.aload_n (pc := 0) dX9_customerCount_0 rfl ?_
  refine WP.iconst (pc := 1) (v := 0) dX9_customerCount_1 (by decide) ?_
  refine WP.pI (pc := 2) uX9 fX9_75 rfl rfl hm.t0 dX9_customerCount_2 ?_
  refine WP.aload_n (pc := 5) dX9_customerCount_5 rfl ?_
  refine WP.gR (pc := 6) uX9 fX9_7 hm.t0 hm.r0_0 dX9_customerCount_6 ?_
  refine WP.iconst (pc := 9) (v := 2) dX9_customerCount_9 (by decide) ?_
  refine WP.ialdv (pc := 10) (k := 2) hm.t1 (by decide) (by decide) (v := (nI mm.s.2.2.2.1.length)) (by rw [up_ne (by omega)]; exact h.1.2.2.2.1.1) dX9_customerCount_10 ?_
  refine WP.iret (pc := 11) rfl dX9_customerCount_11 ?_
  exact mO.ok (by simp [up_eq]) rfl (h.j fr_j.rf.u1) fr8
theorem CX9_loafCount (hm : shM σ m) (h : mdI I m mm) : Ctr Γ (0, 0, 0, 0) MX9_loafCount [.ref m] (wI σ I) (mO σ I m (q_loafCount mm)) := by
  refine Ctr.go rfl (by decide) rfl rfl ?_
  refine WP.aload_n (pc := 0) dX9_loafCount_0 rfl ?_
  refine WP.iconst (pc := 1) (v := 0) dX9_loafCount_1 (by decide) ?_
  refine WP.pI (pc := 2) uX9 fX9_75 rfl rfl hm.t0 dX9_loafCount_2 ?_
  refine WP.aload_n (pc := 5) dX9_loafCount_5 rfl ?_
  refine WP.gR (pc := 6) uX9 fX9_7 hm.t0 hm.r0_0 dX9_loafCount_6 ?_
  refine WP.iconst (pc := 9) (v := 3) dX9_loafCount_9 (by decide) ?_
  refine WP.ialdv (pc := 10) (k := 3) hm.t1 (by decide) (by decide) (v := (nI mm.s.2.2.1.length)) (by rw [up_ne (by omega)]; exact h.1.2.2.1.1) dX9_loafCount_10 ?_
  refine WP.iret (pc := 11) rfl dX9_loafCount_11 ?_
  exact mO.ok (by simp [up_eq]) rfl (h.j fr_j.rf.u1) fr8
theorem CX9_crumbs (hm : shM σ m) (h : mdI I m mm) : Ctr Γ (0, 0, 0, 0) MX9_crumbs [.ref m] (wI σ I) (mO σ I m (q_crumbs mm)) := by
  refine Ctr.go rfl (by decide) rfl rfl ?_
  refine WP.aload_n (pc := 0) dX9_crumbs_0 rfl ?_
  refine WP.iconst (pc := 1) (v := 0) dX9_crumbs_1 (by decide) ?_
  refine WP.pI (pc := 2) uX9 fX9_75 rfl rfl hm.t0 dX9_crumbs_2 ?_
  refine WP.aload_n (pc := 5) dX9_crumbs_5 rfl ?_
  refine WP.gR (pc := 6) uX9 fX9_7 hm.t0 hm.r0_0 dX9_crumbs_6 ?_
  refine WP.iconst (pc := 9) (v := 4) dX9_crumbs_9 (by decide) ?_
  refine WP.ialdv (pc := 10) (k := 4) hm.t1 (by decide) (by decide) (v := (mm.s.1 4)) (by rw [up_ne (by omega)]; exact h.1.1 4 (by omega)) dX9_crumbs_10 ?_
  refine WP.iret (pc := 11) rfl dX9_crumbs_11 ?_
  exact mO.ok (by simp [up_eq]) rfl (h.j fr_j.rf.u1) fr8
theorem CX9_sparrows (hm : shM σ m) (h : mdI I m mm) : Ctr Γ (0, 0, 0, 0) MX9_sparrows [.ref m] (wI σ I) (mO σ I m (q_sparrows mm)) := by
  refine Ctr.go rfl (by decide) rfl rfl ?_
  refine WP.aload_n (pc := 0) dX9_sparrows_0 rfl ?_
  refine WP.iconst (pc := 1) (v := 0) dX9_sparrows_1 (by decide) ?_
  refine WP.pI (pc := 2) uX9 fX9_75 rfl rfl hm.t0 dX9_sparrows_2 ?_
  refine WP.aload_n (pc := 5) dX9_sparrows_5 rfl ?_
  refine WP.gR (pc := 6) uX9 fX9_7 hm.t0 hm.r0_0 dX9_sparrows_6 ?_
  refine WP.iconst (pc := 9) (v := 5) dX9_sparrows_9 (by decide) ?_
  refine WP.ialdv (pc := 10) (k := 5) hm.t1 (by decide) (by decide) (v := (mm.s.1 5)) (by rw [up_ne (by omega)]; exact h.1.1 5 (by omega)) dX9_sparrows_10 ?_
  refine WP.iret (pc := 11) rfl dX9_sparrows_11 ?_
  exact mO.ok (by simp [up_eq]) rfl (h.j fr_j.rf.u1) fr8
theorem CX9_eventCount (hm : shM σ m) (h : mdI I m mm) : Ctr Γ (0, 0, 0, 0) MX9_eventCount [.ref m] (wI σ I) (mO σ I m (q_eventCount mm)) := by
  refine Ctr.go rfl (by decide) rfl rfl ?_
  refine WP.aload_n (pc := 0) dX9_eventCount_0 rfl ?_
  refine WP.iconst (pc := 1) (v := 0) dX9_eventCount_1 (by decide) ?_
  refine WP.pI (pc := 2) uX9 fX9_75 rfl rfl hm.t0 dX9_eventCount_2 ?_
  refine WP.aload_n (pc := 5) dX9_eventCount_5 rfl ?_
  refine WP.gR (pc := 6) uX9 fX9_7 hm.t0 hm.r0_0 dX9_eventCount_6 ?_
  refine WP.bipush (pc := 9) (v := 7) dX9_eventCount_9 (by decide) ?_
  refine WP.ialdv (pc := 11) (k := 7) hm.t1 (by decide) (by decide) (v := (nI mm.s.2.2.2.2.length)) (by rw [up_ne (by omega)]; exact h.1.2.2.2.2.1) dX9_eventCount_11 ?_
  refine WP.iret (pc := 12) rfl dX9_eventCount_12 ?_
  exact mO.ok (by simp [up_eq]) rfl (h.j fr_j.rf.u1) fr8
theorem CX9_errorCode (hm : shM σ m) (h : mdI I m mm) : Ctr Γ (0, 0, 0, 0) MX9_errorCode [.ref m] (wI σ I) (mO σ I m (q_errorCode mm)) := by
  have hk := h.2.2.2.2.1.1
  refine Ctr.go rfl (by decide) rfl rfl ?_
  refine WP.aload_n (pc := 0) dX9_errorCode_0 rfl ?_
  refine WP.iconst (pc := 1) (v := 0) dX9_errorCode_1 (by decide) ?_
  refine WP.pI (pc := 2) uX9 fX9_75 rfl rfl hm.t0 dX9_errorCode_2 ?_
  refine WP.aload_n (pc := 5) dX9_errorCode_5 rfl ?_
  refine WP.gIv (pc := 6) (v := nI mm.e) uX9 fX9_180 hm.t0 (by simp [up_eq, hk]) dX9_errorCode_6 ?_
  refine WP.iret (pc := 9) rfl dX9_errorCode_9 ?_
  exact mO.ok (by simp [up_eq]) rfl (h.j fr_j.rf.u1) fr8
theorem CX9_errorPosition (hm : shM σ m) (h : mdI I m mm) : Ctr Γ (0, 0, 0, 0) MX9_errorPosition [.ref m] (wI σ I) (mO σ I m (q_errorPosition mm)) := by
  have hk := h.2.2.2.2.1.2.2
  refine Ctr.go rfl (by decide) rfl rfl ?_
  refine WP.aload_n (pc := 0) dX9_errorPosition_0 rfl ?_
  refine WP.iconst (pc := 1) (v := 0) dX9_errorPosition_1 (by decide) ?_
  refine WP.pI (pc := 2) uX9 fX9_75 rfl rfl hm.t0 dX9_errorPosition_2 ?_
  refine WP.aload_n (pc := 5) dX9_errorPosition_5 rfl ?_
  refine WP.gIv (pc := 6) (v := mm.ep) uX9 fX9_41 hm.t0 (by simp [up_eq, hk]) dX9_errorPosition_6 ?_
  refine WP.iret (pc := 9) rfl dX9_errorPosition_9 ?_
  exact mO.ok (by simp [up_eq]) rfl (h.j fr_j.rf.u1) fr8
theorem CX9_undoDepth (hm : shM σ m) (h : mdI I m mm) : Ctr Γ (0, 0, 0, 0) MX9_undoDepth [.ref m] (wI σ I) (mO σ I m (q_undoDepth mm)) := by
  have hk := h.2.1.1
  refine Ctr.go rfl (by decide) rfl rfl ?_
  refine WP.aload_n (pc := 0) dX9_undoDepth_0 rfl ?_
  refine WP.iconst (pc := 1) (v := 0) dX9_undoDepth_1 (by decide) ?_
  refine WP.pI (pc := 2) uX9 fX9_75 rfl rfl hm.t0 dX9_undoDepth_2 ?_
  refine WP.aload_n (pc := 5) dX9_undoDepth_5 rfl ?_
  refine WP.gIv (pc := 6) (v := nI mm.past.length) uX9 fX9_308 hm.t0 (by simp [up_eq, hk]) dX9_undoDepth_6 ?_
  refine WP.iret (pc := 9) rfl dX9_undoDepth_9 ?_
  exact mO.ok (by simp [up_eq]) rfl (h.j fr_j.rf.u1) fr8
theorem CX9_ovenSize (hm : shM σ m) (h : mdI I m mm) (i : Int32) : Ctr Γ (3, 66, 0, 0) MX9_ovenSize [.ref m, .int i] (wI σ I) (mO σ I m (q_ovenSize mm i)) := by
  have hlen := h.1.2.1.2.1
  refine Ctr.go rfl (by decide) rfl rfl ?_
  refine WP.aload_n (pc := 0) dX9_ovenSize_0 rfl ?_
  refine WP.iload_n (pc := 1) dX9_ovenSize_1 rfl ?_
  refine WP.cVp (pc := 2) (mc2 := 0) (ms2 := 0) (ci := 9) kX9_323 (CX9_noBaker Γ hm h i) (by decide) rfl hm.t0 rfl ⟨Nat.le_of_ble_eq_true rfl, Nat.le_of_ble_eq_true rfl⟩ (Nat.le_of_ble_eq_true rfl) (Nat.le_of_ble_eq_true rfl) (Nat.le_of_ble_eq_true rfl) rfl dX9_ovenSize_2 (fun v I1 ⟨hv, f1, g1⟩ => ?_)
  rw [hv]
  have h1 := h.j f1
  unfold q_ovenSize
  by_cases hb : ixB i mm.s.2.1.length
  · rw [if_pos hb] at g1 ⊢
    rw [decide_eq_true hb]
    refine WP.if_eq (pc := 5) (tgt := 12) dX9_ovenSize_5 (by decide) (fun h2 => ?_) (fun h2 => ?_)
    · exact absurd h2 (by decide)
    · refine WP.iconst (pc := 8) (v := 0) dX9_ovenSize_8 (by decide) ?_
      refine WP.goto (pc := 9) (tgt := 23) dX9_ovenSize_9 (by decide) ?_
      refine WP.iret (pc := 23) rfl dX9_ovenSize_23 ?_
      exact mO.err (by decide) g1 h1 f1.T
  · rw [if_neg hb] at g1 ⊢
    rw [decide_eq_false hb]
    obtain ⟨j, rfl, hj⟩ := ixN hb (by omega)
    have hg := gD_of (l := mm.s.2.1) dB hj
    rw [nI_clamp (by omega)]
    refine WP.if_eq (pc := 5) (tgt := 12) dX9_ovenSize_5 (by decide) (fun h2 => ?_) (fun h2 => ?_)
    · obtain ⟨c0, c1, c2, c3, c4, c5⟩ := h1.1.2.1.2.2.1 j _ hg
      refine WP.aload_n (pc := 12) dX9_ovenSize_12 rfl ?_
      refine WP.gR (pc := 13) uX9 fX9_7 hm.t0 hm.r0_0 dX9_ovenSize_13 ?_
      refine WP.iload_n (pc := 16) dX9_ovenSize_16 rfl ?_
      refine WP.cS1 (pc := 17) (mc2 := 0) (ms2 := 0) kX9_100 (CX9_ofBaker Γ j) rfl ⟨Nat.le_of_ble_eq_true rfl, Nat.le_of_ble_eq_true rfl⟩ (Nat.le_of_ble_eq_true rfl) (Nat.le_of_ble_eq_true rfl) (Nat.le_of_ble_eq_true rfl) rfl dX9_ovenSize_17 ?_
      refine WP.iconst (pc := 20) (v := 1) dX9_ovenSize_20 (by decide) ?_
      refine WP.iaN (pc := 21) (b := 1) dX9_ovenSize_21 ?_
      refine WP.ialdv (pc := 22) hm.t1 (by omega) (by decide) (v := (_)) (c1) dX9_ovenSize_22 ?_
      refine WP.iret (pc := 23) rfl dX9_ovenSize_23 ?_
      exact mO.ok g1 rfl h1 f1.T
    · exact absurd rfl h2
theorem CX9_hoursLeft (hm : shM σ m) (h : mdI I m mm) (i : Int32) : Ctr Γ (3, 66, 0, 0) MX9_hoursLeft [.ref m, .int i] (wI σ I) (mO σ I m (q_hoursLeft mm i)) := by
  have hlen := h.1.2.1.2.1
  refine Ctr.go rfl (by decide) rfl rfl ?_
  refine WP.aload_n (pc := 0) dX9_hoursLeft_0 rfl ?_
  refine WP.iload_n (pc := 1) dX9_hoursLeft_1 rfl ?_
  refine WP.cVp (pc := 2) (mc2 := 0) (ms2 := 0) (ci := 9) kX9_323 (CX9_noBaker Γ hm h i) (by decide) rfl hm.t0 rfl ⟨Nat.le_of_ble_eq_true rfl, Nat.le_of_ble_eq_true rfl⟩ (Nat.le_of_ble_eq_true rfl) (Nat.le_of_ble_eq_true rfl) (Nat.le_of_ble_eq_true rfl) rfl dX9_hoursLeft_2 (fun v I1 ⟨hv, f1, g1⟩ => ?_)
  rw [hv]
  have h1 := h.j f1
  unfold q_hoursLeft
  by_cases hb : ixB i mm.s.2.1.length
  · rw [if_pos hb] at g1 ⊢
    rw [decide_eq_true hb]
    refine WP.if_eq (pc := 5) (tgt := 12) dX9_hoursLeft_5 (by decide) (fun h2 => ?_) (fun h2 => ?_)
    · exact absurd h2 (by decide)
    · refine WP.iconst (pc := 8) (v := 0) dX9_hoursLeft_8 (by decide) ?_
      refine WP.goto (pc := 9) (tgt := 23) dX9_hoursLeft_9 (by decide) ?_
      refine WP.iret (pc := 23) rfl dX9_hoursLeft_23 ?_
      exact mO.err (by decide) g1 h1 f1.T
  · rw [if_neg hb] at g1 ⊢
    rw [decide_eq_false hb]
    obtain ⟨j, rfl, hj⟩ := ixN hb (by omega)
    have hg := gD_of (l := mm.s.2.1) dB hj
    rw [nI_clamp (by omega)]
    refine WP.if_eq (pc := 5) (tgt := 12) dX9_hoursLeft_5 (by decide) (fun h2 => ?_) (fun h2 => ?_)
    · obtain ⟨c0, c1, c2, c3, c4, c5⟩ := h1.1.2.1.2.2.1 j _ hg
      refine WP.aload_n (pc := 12) dX9_hoursLeft_12 rfl ?_
      refine WP.gR (pc := 13) uX9 fX9_7 hm.t0 hm.r0_0 dX9_hoursLeft_13 ?_
      refine WP.iload_n (pc := 16) dX9_hoursLeft_16 rfl ?_
      refine WP.cS1 (pc := 17) (mc2 := 0) (ms2 := 0) kX9_100 (CX9_ofBaker Γ j) rfl ⟨Nat.le_of_ble_eq_true rfl, Nat.le_of_ble_eq_true rfl⟩ (Nat.le_of_ble_eq_true rfl) (Nat.le_of_ble_eq_true rfl) (Nat.le_of_ble_eq_true rfl) rfl dX9_hoursLeft_17 ?_
      refine WP.iconst (pc := 20) (v := 4) dX9_hoursLeft_20 (by decide) ?_
      refine WP.iaN (pc := 21) (b := 4) dX9_hoursLeft_21 ?_
      refine WP.ialdv (pc := 22) hm.t1 (by omega) (by decide) (v := (_)) (c4) dX9_hoursLeft_22 ?_
      refine WP.iret (pc := 23) rfl dX9_hoursLeft_23 ?_
      exact mO.ok g1 rfl h1 f1.T
    · exact absurd rfl h2
theorem CX9_income (hm : shM σ m) (h : mdI I m mm) (i : Int32) : Ctr Γ (3, 66, 0, 0) MX9_income [.ref m, .int i] (wI σ I) (mO σ I m (q_income mm i)) := by
  have hlen := h.1.2.1.2.1
  refine Ctr.go rfl (by decide) rfl rfl ?_
  refine WP.aload_n (pc := 0) dX9_income_0 rfl ?_
  refine WP.iload_n (pc := 1) dX9_income_1 rfl ?_
  refine WP.cVp (pc := 2) (mc2 := 0) (ms2 := 0) (ci := 9) kX9_323 (CX9_noBaker Γ hm h i) (by decide) rfl hm.t0 rfl ⟨Nat.le_of_ble_eq_true rfl, Nat.le_of_ble_eq_true rfl⟩ (Nat.le_of_ble_eq_true rfl) (Nat.le_of_ble_eq_true rfl) (Nat.le_of_ble_eq_true rfl) rfl dX9_income_2 (fun v I1 ⟨hv, f1, g1⟩ => ?_)
  rw [hv]
  have h1 := h.j f1
  unfold q_income
  by_cases hb : ixB i mm.s.2.1.length
  · rw [if_pos hb] at g1 ⊢
    rw [decide_eq_true hb]
    refine WP.if_eq (pc := 5) (tgt := 12) dX9_income_5 (by decide) (fun h2 => ?_) (fun h2 => ?_)
    · exact absurd h2 (by decide)
    · refine WP.iconst (pc := 8) (v := 0) dX9_income_8 (by decide) ?_
      refine WP.goto (pc := 9) (tgt := 23) dX9_income_9 (by decide) ?_
      refine WP.iret (pc := 23) rfl dX9_income_23 ?_
      exact mO.err (by decide) g1 h1 f1.T
  · rw [if_neg hb] at g1 ⊢
    rw [decide_eq_false hb]
    obtain ⟨j, rfl, hj⟩ := ixN hb (by omega)
    have hg := gD_of (l := mm.s.2.1) dB hj
    rw [nI_clamp (by omega)]
    refine WP.if_eq (pc := 5) (tgt := 12) dX9_income_5 (by decide) (fun h2 => ?_) (fun h2 => ?_)
    · obtain ⟨c0, c1, c2, c3, c4, c5⟩ := h1.1.2.1.2.2.1 j _ hg
      refine WP.aload_n (pc := 12) dX9_income_12 rfl ?_
      refine WP.gR (pc := 13) uX9 fX9_7 hm.t0 hm.r0_0 dX9_income_13 ?_
      refine WP.iload_n (pc := 16) dX9_income_16 rfl ?_
      refine WP.cS1 (pc := 17) (mc2 := 0) (ms2 := 0) kX9_100 (CX9_ofBaker Γ j) rfl ⟨Nat.le_of_ble_eq_true rfl, Nat.le_of_ble_eq_true rfl⟩ (Nat.le_of_ble_eq_true rfl) (Nat.le_of_ble_eq_true rfl) (Nat.le_of_ble_eq_true rfl) rfl dX9_income_17 ?_
      refine WP.iconst (pc := 20) (v := 5) dX9_income_20 (by decide) ?_
      refine WP.iaN (pc := 21) (b := 5) dX9_income_21 ?_
      refine WP.ialdv (pc := 22) hm.t1 (by omega) (by decide) (v := (_)) (c5) dX9_income_22 ?_
      refine WP.iret (pc := 23) rfl dX9_income_23 ?_
      exact mO.ok g1 rfl h1 f1.T
    · exact absurd rfl h2
theorem CX9_loafKind (hm : shM σ m) (h : mdI I m mm) (i : Int32) : Ctr Γ (3, 66, 0, 0) MX9_loafKind [.ref m, .int i] (wI σ I) (mO σ I m (q_loafKind mm i)) := by
  have hlen := h.1.2.2.1.2.1
  refine Ctr.go rfl (by decide) rfl rfl ?_
  refine WP.aload_n (pc := 0) dX9_loafKind_0 rfl ?_
  refine WP.iload_n (pc := 1) dX9_loafKind_1 rfl ?_
  refine WP.cVp (pc := 2) (mc2 := 0) (ms2 := 0) (ci := 9) kX9_338 (CX9_noLoaf Γ hm h i) (by decide) rfl hm.t0 rfl ⟨Nat.le_of_ble_eq_true rfl, Nat.le_of_ble_eq_true rfl⟩ (Nat.le_of_ble_eq_true rfl) (Nat.le_of_ble_eq_true rfl) (Nat.le_of_ble_eq_true rfl) rfl dX9_loafKind_2 (fun v I1 ⟨hv, f1, g1⟩ => ?_)
  rw [hv]
  have h1 := h.j f1
  unfold q_loafKind
  by_cases hb : ixB i mm.s.2.2.1.length
  · rw [if_pos hb] at g1 ⊢
    rw [decide_eq_true hb]
    refine WP.if_eq (pc := 5) (tgt := 12) dX9_loafKind_5 (by decide) (fun h2 => ?_) (fun h2 => ?_)
    · exact absurd h2 (by decide)
    · refine WP.iconst (pc := 8) (v := 0) dX9_loafKind_8 (by decide) ?_
      refine WP.goto (pc := 9) (tgt := 23) dX9_loafKind_9 (by decide) ?_
      refine WP.iret (pc := 23) rfl dX9_loafKind_23 ?_
      exact mO.err (by decide) g1 h1 f1.T
  · rw [if_neg hb] at g1 ⊢
    rw [decide_eq_false hb]
    obtain ⟨j, rfl, hj⟩ := ixN hb (by omega)
    have hg := gD_of (l := mm.s.2.2.1) dL hj
    rw [nI_clamp (by omega)]
    refine WP.if_eq (pc := 5) (tgt := 12) dX9_loafKind_5 (by decide) (fun h2 => ?_) (fun h2 => ?_)
    · obtain ⟨c0, c1, c2⟩ := h1.1.2.2.1.2.2 j _ hg
      refine WP.aload_n (pc := 12) dX9_loafKind_12 rfl ?_
      refine WP.gR (pc := 13) uX9 fX9_7 hm.t0 hm.r0_0 dX9_loafKind_13 ?_
      refine WP.iload_n (pc := 16) dX9_loafKind_16 rfl ?_
      refine WP.cS1 (pc := 17) (mc2 := 0) (ms2 := 0) kX9_89 (CX9_ofLoaf Γ j) rfl ⟨Nat.le_of_ble_eq_true rfl, Nat.le_of_ble_eq_true rfl⟩ (Nat.le_of_ble_eq_true rfl) (Nat.le_of_ble_eq_true rfl) (Nat.le_of_ble_eq_true rfl) rfl dX9_loafKind_17 ?_
      refine WP.iconst (pc := 20) (v := 0) dX9_loafKind_20 (by decide) ?_
      refine WP.ia0 (pc := 21) dX9_loafKind_21 ?_
      refine WP.ialdv (pc := 22) hm.t1 (by omega) (by decide) (v := (_)) (c0) dX9_loafKind_22 ?_
      refine WP.iret (pc := 23) rfl dX9_loafKind_23 ?_
      exact mO.ok g1 rfl h1 f1.T
    · exact absurd rfl h2
theorem CX9_loafBaker (hm : shM σ m) (h : mdI I m mm) (i : Int32) : Ctr Γ (3, 66, 0, 0) MX9_loafBaker [.ref m, .int i] (wI σ I) (mO σ I m (q_loafBaker mm i)) := by
  have hlen := h.1.2.2.1.2.1
  refine Ctr.go rfl (by decide) rfl rfl ?_
  refine WP.aload_n (pc := 0) dX9_loafBaker_0 rfl ?_
  refine WP.iload_n (pc := 1) dX9_loafBaker_1 rfl ?_
  refine WP.cVp (pc := 2) (mc2 := 0) (ms2 := 0) (ci := 9) kX9_338 (CX9_noLoaf Γ hm h i) (by decide) rfl hm.t0 rfl ⟨Nat.le_of_ble_eq_true rfl, Nat.le_of_ble_eq_true rfl⟩ (Nat.le_of_ble_eq_true rfl) (Nat.le_of_ble_eq_true rfl) (Nat.le_of_ble_eq_true rfl) rfl dX9_loafBaker_2 (fun v I1 ⟨hv, f1, g1⟩ => ?_)
  rw [hv]
  have h1 := h.j f1
  unfold q_loafBaker
  by_cases hb : ixB i mm.s.2.2.1.length
  · rw [if_pos hb] at g1 ⊢
    rw [decide_eq_true hb]
    refine WP.if_eq (pc := 5) (tgt := 12) dX9_loafBaker_5 (by decide) (fun h2 => ?_) (fun h2 => ?_)
    · exact absurd h2 (by decide)
    · refine WP.iconst (pc := 8) (v := 0) dX9_loafBaker_8 (by decide) ?_
      refine WP.goto (pc := 9) (tgt := 23) dX9_loafBaker_9 (by decide) ?_
      refine WP.iret (pc := 23) rfl dX9_loafBaker_23 ?_
      exact mO.err (by decide) g1 h1 f1.T
  · rw [if_neg hb] at g1 ⊢
    rw [decide_eq_false hb]
    obtain ⟨j, rfl, hj⟩ := ixN hb (by omega)
    have hg := gD_of (l := mm.s.2.2.1) dL hj
    rw [nI_clamp (by omega)]
    refine WP.if_eq (pc := 5) (tgt := 12) dX9_loafBaker_5 (by decide) (fun h2 => ?_) (fun h2 => ?_)
    · obtain ⟨c0, c1, c2⟩ := h1.1.2.2.1.2.2 j _ hg
      refine WP.aload_n (pc := 12) dX9_loafBaker_12 rfl ?_
      refine WP.gR (pc := 13) uX9 fX9_7 hm.t0 hm.r0_0 dX9_loafBaker_13 ?_
      refine WP.iload_n (pc := 16) dX9_loafBaker_16 rfl ?_
      refine WP.cS1 (pc := 17) (mc2 := 0) (ms2 := 0) kX9_89 (CX9_ofLoaf Γ j) rfl ⟨Nat.le_of_ble_eq_true rfl, Nat.le_of_ble_eq_true rfl⟩ (Nat.le_of_ble_eq_true rfl) (Nat.le_of_ble_eq_true rfl) (Nat.le_of_ble_eq_true rfl) rfl dX9_loafBaker_17 ?_
      refine WP.iconst (pc := 20) (v := 1) dX9_loafBaker_20 (by decide) ?_
      refine WP.iaN (pc := 21) (b := 1) dX9_loafBaker_21 ?_
      refine WP.ialdv (pc := 22) hm.t1 (by omega) (by decide) (v := (_)) (c1) dX9_loafBaker_22 ?_
      refine WP.iret (pc := 23) rfl dX9_loafBaker_23 ?_
      exact mO.ok g1 rfl h1 f1.T
    · exact absurd rfl h2
theorem CX9_eventType (hm : shM σ m) (h : mdI I m mm) (i : Int32) : Ctr Γ (3, 66, 0, 0) MX9_eventType [.ref m, .int i] (wI σ I) (mO σ I m (q_eventType mm i)) := by
  have hlen := h.1.2.2.2.2.2.1
  refine Ctr.go rfl (by decide) rfl rfl ?_
  refine WP.aload_n (pc := 0) dX9_eventType_0 rfl ?_
  refine WP.iload_n (pc := 1) dX9_eventType_1 rfl ?_
  refine WP.cVp (pc := 2) (mc2 := 0) (ms2 := 0) (ci := 9) kX9_344 (CX9_noEvent Γ hm h i) (by decide) rfl hm.t0 rfl ⟨Nat.le_of_ble_eq_true rfl, Nat.le_of_ble_eq_true rfl⟩ (Nat.le_of_ble_eq_true rfl) (Nat.le_of_ble_eq_true rfl) (Nat.le_of_ble_eq_true rfl) rfl dX9_eventType_2 (fun v I1 ⟨hv, f1, g1⟩ => ?_)
  rw [hv]
  have h1 := h.j f1
  unfold q_eventType
  by_cases hb : ixB i mm.s.2.2.2.2.length
  · rw [if_pos hb] at g1 ⊢
    rw [decide_eq_true hb]
    refine WP.if_eq (pc := 5) (tgt := 12) dX9_eventType_5 (by decide) (fun h2 => ?_) (fun h2 => ?_)
    · exact absurd h2 (by decide)
    · refine WP.iconst (pc := 8) (v := 0) dX9_eventType_8 (by decide) ?_
      refine WP.goto (pc := 9) (tgt := 23) dX9_eventType_9 (by decide) ?_
      refine WP.iret (pc := 23) rfl dX9_eventType_23 ?_
      exact mO.err (by decide) g1 h1 f1.T
  · rw [if_neg hb] at g1 ⊢
    rw [decide_eq_false hb]
    obtain ⟨j, rfl, hj⟩ := ixN hb (by omega)
    have hg := gD_of (l := mm.s.2.2.2.2) dE hj
    rw [nI_clamp (by omega)]
    refine WP.if_eq (pc := 5) (tgt := 12) dX9_eventType_5 (by decide) (fun h2 => ?_) (fun h2 => ?_)
    · obtain ⟨c0, c1, c2⟩ := h1.1.2.2.2.2.2.2 j _ hg
      refine WP.aload_n (pc := 12) dX9_eventType_12 rfl ?_
      refine WP.gR (pc := 13) uX9 fX9_7 hm.t0 hm.r0_0 dX9_eventType_13 ?_
      refine WP.iload_n (pc := 16) dX9_eventType_16 rfl ?_
      refine WP.cS1 (pc := 17) (mc2 := 0) (ms2 := 0) kX9_82 (CX9_ofEvent Γ j) rfl ⟨Nat.le_of_ble_eq_true rfl, Nat.le_of_ble_eq_true rfl⟩ (Nat.le_of_ble_eq_true rfl) (Nat.le_of_ble_eq_true rfl) (Nat.le_of_ble_eq_true rfl) rfl dX9_eventType_17 ?_
      refine WP.iconst (pc := 20) (v := 0) dX9_eventType_20 (by decide) ?_
      refine WP.ia0 (pc := 21) dX9_eventType_21 ?_
      refine WP.ialdv (pc := 22) hm.t1 (by omega) (by decide) (v := (_)) (c0) dX9_eventType_22 ?_
      refine WP.iret (pc := 23) rfl dX9_eventType_23 ?_
      exact mO.ok g1 rfl h1 f1.T
    · exact absurd rfl h2
theorem CX9_eventFirst (hm : shM σ m) (h : mdI I m mm) (i : Int32) : Ctr Γ (3, 66, 0, 0) MX9_eventFirst [.ref m, .int i] (wI σ I) (mO σ I m (q_eventFirst mm i)) := by
  have hlen := h.1.2.2.2.2.2.1
  refine Ctr.go rfl (by decide) rfl rfl ?_
  refine WP.aload_n (pc := 0) dX9_eventFirst_0 rfl ?_
  refine WP.iload_n (pc := 1) dX9_eventFirst_1 rfl ?_
  refine WP.cVp (pc := 2) (mc2 := 0) (ms2 := 0) (ci := 9) kX9_344 (CX9_noEvent Γ hm h i) (by decide) rfl hm.t0 rfl ⟨Nat.le_of_ble_eq_true rfl, Nat.le_of_ble_eq_true rfl⟩ (Nat.le_of_ble_eq_true rfl) (Nat.le_of_ble_eq_true rfl) (Nat.le_of_ble_eq_true rfl) rfl dX9_eventFirst_2 (fun v I1 ⟨hv, f1, g1⟩ => ?_)
  rw [hv]
  have h1 := h.j f1
  unfold q_eventFirst
  by_cases hb : ixB i mm.s.2.2.2.2.length
  · rw [if_pos hb] at g1 ⊢
    rw [decide_eq_true hb]
    refine WP.if_eq (pc := 5) (tgt := 12) dX9_eventFirst_5 (by decide) (fun h2 => ?_) (fun h2 => ?_)
    · exact absurd h2 (by decide)
    · refine WP.iconst (pc := 8) (v := 0) dX9_eventFirst_8 (by decide) ?_
      refine WP.goto (pc := 9) (tgt := 23) dX9_eventFirst_9 (by decide) ?_
      refine WP.iret (pc := 23) rfl dX9_eventFirst_23 ?_
      exact mO.err (by decide) g1 h1 f1.T
  · rw [if_neg hb] at g1 ⊢
    rw [decide_eq_false hb]
    obtain ⟨j, rfl, hj⟩ := ixN hb (by omega)
    have hg := gD_of (l := mm.s.2.2.2.2) dE hj
    rw [nI_clamp (by omega)]
    refine WP.if_eq (pc := 5) (tgt := 12) dX9_eventFirst_5 (by decide) (fun h2 => ?_) (fun h2 => ?_)
    · obtain ⟨c0, c1, c2⟩ := h1.1.2.2.2.2.2.2 j _ hg
      refine WP.aload_n (pc := 12) dX9_eventFirst_12 rfl ?_
      refine WP.gR (pc := 13) uX9 fX9_7 hm.t0 hm.r0_0 dX9_eventFirst_13 ?_
      refine WP.iload_n (pc := 16) dX9_eventFirst_16 rfl ?_
      refine WP.cS1 (pc := 17) (mc2 := 0) (ms2 := 0) kX9_82 (CX9_ofEvent Γ j) rfl ⟨Nat.le_of_ble_eq_true rfl, Nat.le_of_ble_eq_true rfl⟩ (Nat.le_of_ble_eq_true rfl) (Nat.le_of_ble_eq_true rfl) (Nat.le_of_ble_eq_true rfl) rfl dX9_eventFirst_17 ?_
      refine WP.iconst (pc := 20) (v := 1) dX9_eventFirst_20 (by decide) ?_
      refine WP.iaN (pc := 21) (b := 1) dX9_eventFirst_21 ?_
      refine WP.ialdv (pc := 22) hm.t1 (by omega) (by decide) (v := (_)) (c1) dX9_eventFirst_22 ?_
      refine WP.iret (pc := 23) rfl dX9_eventFirst_23 ?_
      exact mO.ok g1 rfl h1 f1.T
    · exact absurd rfl h2
theorem CX9_eventSecond (hm : shM σ m) (h : mdI I m mm) (i : Int32) : Ctr Γ (3, 66, 0, 0) MX9_eventSecond [.ref m, .int i] (wI σ I) (mO σ I m (q_eventSecond mm i)) := by
  have hlen := h.1.2.2.2.2.2.1
  refine Ctr.go rfl (by decide) rfl rfl ?_
  refine WP.aload_n (pc := 0) dX9_eventSecond_0 rfl ?_
  refine WP.iload_n (pc := 1) dX9_eventSecond_1 rfl ?_
  refine WP.cVp (pc := 2) (mc2 := 0) (ms2 := 0) (ci := 9) kX9_344 (CX9_noEvent Γ hm h i) (by decide) rfl hm.t0 rfl ⟨Nat.le_of_ble_eq_true rfl, Nat.le_of_ble_eq_true rfl⟩ (Nat.le_of_ble_eq_true rfl) (Nat.le_of_ble_eq_true rfl) (Nat.le_of_ble_eq_true rfl) rfl dX9_eventSecond_2 (fun v I1 ⟨hv, f1, g1⟩ => ?_)
  rw [hv]
  have h1 := h.j f1
  unfold q_eventSecond
  by_cases hb : ixB i mm.s.2.2.2.2.length
  · rw [if_pos hb] at g1 ⊢
    rw [decide_eq_true hb]
    refine WP.if_eq (pc := 5) (tgt := 12) dX9_eventSecond_5 (by decide) (fun h2 => ?_) (fun h2 => ?_)
    · exact absurd h2 (by decide)
    · refine WP.iconst (pc := 8) (v := 0) dX9_eventSecond_8 (by decide) ?_
      refine WP.goto (pc := 9) (tgt := 23) dX9_eventSecond_9 (by decide) ?_
      refine WP.iret (pc := 23) rfl dX9_eventSecond_23 ?_
      exact mO.err (by decide) g1 h1 f1.T
  · rw [if_neg hb] at g1 ⊢
    rw [decide_eq_false hb]
    obtain ⟨j, rfl, hj⟩ := ixN hb (by omega)
    have hg := gD_of (l := mm.s.2.2.2.2) dE hj
    rw [nI_clamp (by omega)]
    refine WP.if_eq (pc := 5) (tgt := 12) dX9_eventSecond_5 (by decide) (fun h2 => ?_) (fun h2 => ?_)
    · obtain ⟨c0, c1, c2⟩ := h1.1.2.2.2.2.2.2 j _ hg
      refine WP.aload_n (pc := 12) dX9_eventSecond_12 rfl ?_
      refine WP.gR (pc := 13) uX9 fX9_7 hm.t0 hm.r0_0 dX9_eventSecond_13 ?_
      refine WP.iload_n (pc := 16) dX9_eventSecond_16 rfl ?_
      refine WP.cS1 (pc := 17) (mc2 := 0) (ms2 := 0) kX9_82 (CX9_ofEvent Γ j) rfl ⟨Nat.le_of_ble_eq_true rfl, Nat.le_of_ble_eq_true rfl⟩ (Nat.le_of_ble_eq_true rfl) (Nat.le_of_ble_eq_true rfl) (Nat.le_of_ble_eq_true rfl) rfl dX9_eventSecond_17 ?_
      refine WP.iconst (pc := 20) (v := 2) dX9_eventSecond_20 (by decide) ?_
      refine WP.iaN (pc := 21) (b := 2) dX9_eventSecond_21 ?_
      refine WP.ialdv (pc := 22) hm.t1 (by omega) (by decide) (v := (_)) (c2) dX9_eventSecond_22 ?_
      refine WP.iret (pc := 23) rfl dX9_eventSecond_23 ?_
      exact mO.ok g1 rfl h1 f1.T
    · exact absurd rfl h2
end T
