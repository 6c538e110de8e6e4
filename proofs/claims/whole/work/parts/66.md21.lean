-- behind: 65
theorem filter_erase {l : List mCu} : (∀ e ∈ l, e.2.1 ≠ -1) → ∀ {i : Nat} {x : mCu}, i < l.length → x.2.1 = -1 → (l.set i x).filter pC = l.eraseIdx i := by
  induction l with
  | nil => intro _ i x hi; exact absurd hi (Nat.not_lt_zero _)
  | cons y t ih =>
    intro h i x hi hx
    have hall : t.filter pC = t := List.filter_eq_self.mpr fun e he => by
      have := h e (List.mem_cons_of_mem _ he)
      simpa [pC] using this
    cases i with
    | zero =>
      show (x :: t).filter pC = t
      rw [List.filter_cons, if_neg (by simp [pC, hx]), hall]
    | succ i =>
      show (y :: t.set i x).filter pC = y :: t.eraseIdx i
      have hy : pC y = true := by
        have := h y List.mem_cons_self
        simpa [pC] using this
      rw [List.filter_cons, if_pos hy, ih (fun e he => h e (List.mem_cons_of_mem _ he)) (by simpa using hi) hx]
section T
variable (Γ : cG) {σ : cAS} {m : Nat} {I : Nat → Nat → Int32} {mm : mX} {T C : Nat}
theorem CX9_sendAway (hm : shM σ m) (h : mdI I m mm) (hw : wf T C mm.s) (hT : T ≤ 2147483647) (i : Int32) : Ctr Γ (3, 73, 0, 0) MX9_sendAway [.ref m, .int i] (wI σ I) (mO σ I m (q_sendAway mm i)) := by
  have hlen := h.1.2.2.2.1.2.1
  refine Ctr.go rfl (by decide) rfl rfl ?_
  refine WP.aload_n (pc := 0) dX9_sendAway_0 rfl ?_
  refine WP.iload_n (pc := 1) dX9_sendAway_1 rfl ?_
  refine WP.cVp (pc := 2) (mc2 := 0) (ms2 := 0) (ci := 9) kX9_332 (CX9_noCustomer Γ hm h i) (by decide) rfl hm.t0 rfl ⟨Nat.le_of_ble_eq_true rfl, Nat.le_of_ble_eq_true rfl⟩ (Nat.le_of_ble_eq_true rfl) (Nat.le_of_ble_eq_true rfl) (Nat.le_of_ble_eq_true rfl) rfl dX9_sendAway_2 (fun v I1 ⟨hv, f1, g1⟩ => ?_)
  rw [hv]
  have h1 := h.j f1
  unfold q_sendAway
  by_cases hb : ixB i mm.s.2.2.2.1.length
  · rw [if_pos hb] at g1 ⊢
    rw [decide_eq_true hb]
    refine WP.if_eq (pc := 5) (tgt := 10) dX9_sendAway_5 (by decide) (fun h2 => ?_) (fun h2 => ?_)
    · exact absurd h2 (by decide)
    · refine WP.iconst (pc := 8) (v := 0) dX9_sendAway_8 (by decide) ?_
      refine WP.iret (pc := 9) rfl dX9_sendAway_9 ?_
      exact mO.err (by decide) g1 h1 f1.T
  · rw [if_neg hb] at g1 ⊢
    rw [decide_eq_false hb]
    obtain ⟨j, rfl, hj⟩ := ixN hb (by omega)
    have hg := gD_of (l := mm.s.2.2.2.1) dC hj
    rw [nI_clamp (by omega)]
    refine WP.if_eq (pc := 5) (tgt := 10) dX9_sendAway_5 (by decide) (fun h2 => ?_) (fun h2 => ?_)
    · refine WP.aload_n (pc := 10) dX9_sendAway_10 rfl ?_
      refine WP.cVw (pc := 11) (mc2 := 0) (ms2 := 0) (ci := 9) kX9_305 (CX9_remember Γ hm h1) (by decide) rfl hm.t0 rfl ⟨Nat.le_of_ble_eq_true rfl, Nat.le_of_ble_eq_true rfl⟩ (Nat.le_of_ble_eq_true rfl) (Nat.le_of_ble_eq_true rfl) (Nat.le_of_ble_eq_true rfl) rfl dX9_sendAway_11 (fun I2 ⟨f2, g2⟩ => ?_)
      have hs : gAt (I2 (m + 1)) mm.s := g2.1
      obtain ⟨c0, c1, c2, c3, c4, c5, c6⟩ := hs.2.2.2.1.2.2 j _ hg
      refine WP.aload_n (pc := 14) dX9_sendAway_14 rfl ?_
      refine WP.gR (pc := 15) uX9 fX9_7 hm.t0 hm.r0_0 dX9_sendAway_15 ?_
      refine WP.iload_n (pc := 18) dX9_sendAway_18 rfl ?_
      refine WP.cS1 (pc := 19) (mc2 := 0) (ms2 := 0) kX9_111 (CX9_ofCustomer Γ j) rfl ⟨Nat.le_of_ble_eq_true rfl, Nat.le_of_ble_eq_true rfl⟩ (Nat.le_of_ble_eq_true rfl) (Nat.le_of_ble_eq_true rfl) (Nat.le_of_ble_eq_true rfl) rfl dX9_sendAway_19 ?_
      refine WP.iconst (pc := 22) (v := 4) dX9_sendAway_22 (by decide) ?_
      refine WP.iaN (pc := 23) (b := 4) dX9_sendAway_23 ?_
      refine WP.ialdv (pc := 24) hm.t1 (by omega) (by decide) (v := ((mm.s.2.2.2.1.getD j dC).2.2.2.2.2.1)) (c4) dX9_sendAway_24 ?_
      refine WP.istore_n (pc := 25) dX9_sendAway_25 (by decide) rfl ?_
      refine WP.aload_n (pc := 26) dX9_sendAway_26 rfl ?_
      refine WP.aload_n (pc := 27) dX9_sendAway_27 rfl ?_
      refine WP.gR (pc := 28) uX9 fX9_7 hm.t0 hm.r0_0 dX9_sendAway_28 ?_
      refine WP.iload_n (pc := 31) dX9_sendAway_31 rfl ?_
      refine WP.iconst (pc := 32) (v := 2) dX9_sendAway_32 (by decide) ?_
      refine WP.cVw (pc := 33) (mc2 := 0) (ms2 := 0) (ci := 9) kX9_148 (CX9_goes Γ hm.t1 hs hg 2) (by decide) rfl hm.t0 rfl ⟨Nat.le_of_ble_eq_true rfl, Nat.le_of_ble_eq_true rfl⟩ (Nat.le_of_ble_eq_true rfl) (Nat.le_of_ble_eq_true rfl) (Nat.le_of_ble_eq_true rfl) rfl dX9_sendAway_33 (fun I3 ⟨f3, g3⟩ => ?_)
      refine WP.iload_n (pc := 36) dX9_sendAway_36 rfl ?_
      refine WP.iret (pc := 37) rfl dX9_sendAway_37 ?_
      refine mO.ok (by rw [f3 m (by omega), f2.2 8 (by omega) (by omega)]; exact g1) rfl (pshR g2 f3 ?_) (fun x hx => by rw [f3.T1 x hx, f2.T x hx]; exact f1.T x hx)
      unfold sdA
      rw [filter_erase (fun e he => (hw.2.2.2.2.1.2 e he).tk hT) hj rfl]
      exact g3
    · exact absurd rfl h2
theorem CX9_setBasePrice (hm : shM σ m) (h : mdI I m mm) (k p : Int32) : Ctr Γ (3, 66, 0, 0) MX9_setBasePrice [.ref m, .int k, .int p] (wI σ I) (mO σ I m (q_setBasePrice mm k p)) := by
  refine Ctr.go rfl (by decide) rfl rfl ?_
  refine WP.aload_n (pc := 0) dX9_setBasePrice_0 rfl ?_
  refine WP.iload_n (pc := 1) dX9_setBasePrice_1 rfl ?_
  refine WP.cVp (pc := 2) (mc2 := 0) (ms2 := 0) (ci := 9) kX9_329 (CX9_noKind Γ hm k) (by decide) rfl hm.t0 rfl ⟨Nat.le_of_ble_eq_true rfl, Nat.le_of_ble_eq_true rfl⟩ (Nat.le_of_ble_eq_true rfl) (Nat.le_of_ble_eq_true rfl) (Nat.le_of_ble_eq_true rfl) rfl dX9_setBasePrice_2 (fun v I1 ⟨hv, f1, g1⟩ => ?_)
  rw [hv]
  have h1 := h.j f1
  unfold q_setBasePrice
  by_cases hb : ixB k 3
  · rw [if_pos hb] at g1 ⊢
    rw [decide_eq_true hb]
    refine WP.if_ne (pc := 5) (tgt := 19) dX9_setBasePrice_5 (by decide) (fun h2 => ?_) (fun h2 => ?_)
    · refine WP.iconst (pc := 19) (v := 0) dX9_setBasePrice_19 (by decide) ?_
      refine WP.iret (pc := 20) rfl dX9_setBasePrice_20 ?_
      exact mO.err (by decide) g1 h1 f1.T
    · exact absurd h2 (by decide)
  · rw [if_neg hb] at g1 ⊢
    rw [decide_eq_false hb]
    obtain ⟨j, rfl, hj⟩ := ixN hb (by omega)
    rw [nI_clamp (by omega)]
    refine WP.if_ne (pc := 5) (tgt := 19) dX9_setBasePrice_5 (by decide) (fun h2 => ?_) (fun h2 => ?_)
    · exact absurd rfl h2
    · refine WP.aload_n (pc := 8) dX9_setBasePrice_8 rfl ?_
      refine WP.iload_n (pc := 9) dX9_setBasePrice_9 rfl ?_
      refine WP.iconst (pc := 10) (v := 1) dX9_setBasePrice_10 (by decide) ?_
      refine WP.bipush (pc := 11) (v := 99) dX9_setBasePrice_11 (by decide) ?_
      refine WP.cVp (pc := 13) (mc2 := 0) (ms2 := 0) (ci := 9) kX9_320 (CX9_out Γ hm p 1 99 (by rw [g1]; rfl)) (by decide) rfl hm.t0 rfl ⟨Nat.le_of_ble_eq_true rfl, Nat.le_of_ble_eq_true rfl⟩ (Nat.le_of_ble_eq_true rfl) (Nat.le_of_ble_eq_true rfl) (Nat.le_of_ble_eq_true rfl) rfl dX9_setBasePrice_13 (fun v I2 ⟨hv2, f2, g2⟩ => ?_)
      rw [hv2]
      have h3 := h1.j f2
      by_cases hq : p < 1 ∨ 99 < p
      · have hq2 : ¬ (decide (1 ≤ p) && decide (p ≤ (99 : Int32))) = true := fun z => btw_lt.mp z hq
        rw [if_neg hq2] at g2
        rw [Bool.not_eq_true] at hq2
        rw [if_pos hq, hq2]
        refine WP.if_eq (pc := 16) (tgt := 21) dX9_setBasePrice_16 (by decide) (fun h4 => ?_) (fun h4 => ?_)
        · exact absurd h4 (by decide)
        · refine WP.iconst (pc := 19) (v := 0) dX9_setBasePrice_19 (by decide) ?_
          refine WP.iret (pc := 20) rfl dX9_setBasePrice_20 ?_
          exact mO.err (by decide) g2 h3 (f1.trans f2).T
      · have hq2 := btw_lt.mpr hq
        rw [if_pos hq2] at g2
        rw [if_neg hq, hq2]
        refine WP.if_eq (pc := 16) (tgt := 21) dX9_setBasePrice_16 (by decide) (fun h4 => ?_) (fun h4 => ?_)
        · refine WP.aload_n (pc := 21) dX9_setBasePrice_21 rfl ?_
          refine WP.cVw (pc := 22) (mc2 := 0) (ms2 := 0) (ci := 9) kX9_305 (CX9_remember Γ hm h3) (by decide) rfl hm.t0 rfl ⟨Nat.le_of_ble_eq_true rfl, Nat.le_of_ble_eq_true rfl⟩ (Nat.le_of_ble_eq_true rfl) (Nat.le_of_ble_eq_true rfl) (Nat.le_of_ble_eq_true rfl) rfl dX9_setBasePrice_22 (fun I3 ⟨f3, g3⟩ => ?_)
          have hs : gAt (I3 (m + 1)) mm.s := g3.1
          refine WP.aload_n (pc := 25) dX9_setBasePrice_25 rfl ?_
          refine WP.gR (pc := 26) uX9 fX9_7 hm.t0 hm.r0_0 dX9_setBasePrice_26 ?_
          refine WP.bipush (pc := 29) (v := 13) dX9_setBasePrice_29 (by decide) ?_
          refine WP.iload_n (pc := 31) dX9_setBasePrice_31 rfl ?_
          refine WP.iaN (pc := 32) (a := 13) dX9_setBasePrice_32 ?_
          refine WP.ialdv (pc := 33) hm.t1 (by omega) (by decide) (v := bsO mm.s.1 (nI j)) (bs_at hs.1 hj) dX9_setBasePrice_33 ?_
          refine WP.istore_n (pc := 34) dX9_setBasePrice_34 (by decide) rfl ?_
          refine WP.aload_n (pc := 35) dX9_setBasePrice_35 rfl ?_
          refine WP.gR (pc := 36) uX9 fX9_7 hm.t0 hm.r0_0 dX9_setBasePrice_36 ?_
          refine WP.bipush (pc := 39) (v := 13) dX9_setBasePrice_39 (by decide) ?_
          refine WP.iload_n (pc := 41) dX9_setBasePrice_41 rfl ?_
          refine WP.iaN (pc := 42) (a := 13) dX9_setBasePrice_42 ?_
          refine WP.iload_n (pc := 43) dX9_setBasePrice_43 rfl ?_
          refine WP.iast (pc := 44) hm.t1 (by omega) (by decide) dX9_setBasePrice_44 ?_
          refine WP.iload_n (pc := 45) dX9_setBasePrice_45 rfl ?_
          refine WP.iret (pc := 46) rfl dX9_setBasePrice_46 ?_
          refine mO.ok (by rw [up_ne (by omega), f3.2 8 (by omega) (by omega)]; exact g2) rfl (pshR g3 frB.rf.up ?_) (fun x hx => by rw [up_ne (by omega), f3.T x hx]; exact fr_j.T (f1.trans f2) x hx)
          rw [up_row]
          have := hs.z (j := j) (by omega) p
          rw [show zIx j = 13 + j by rcases (by omega : j = 0 ∨ j = 1 ∨ j = 2) with rfl | rfl | rfl <;> rfl] at this
          exact this
        · exact absurd rfl h4
theorem ix_in {k : Int32} (h : ¬ ixB k 3) : inR k 0 2 := by
  obtain ⟨j, rfl, hj⟩ := ixN h (by omega)
  exact ⟨j, rfl, by omega, by omega⟩
theorem frH.T1 {I I' : Nat → Nat → Int32} (h : frH I I' m (m + 1)) : fr I I' m 12 := fun c hc => h.1 c (by omega) (by omega) (by omega) (by omega) (by omega)
theorem CX9_auction (hm : shM σ m) (h : mdI I m mm) (hw : wf T C mm.s) (hT : T ≤ 2147483647) (k : Int32) : Ctr Γ (6, 135, 0, 0) MX9_auction [.ref m, .int k] (wI σ I) (mO σ I m (q_auction mm k)) := by
  refine Ctr.go rfl (by decide) rfl rfl ?_
  refine WP.aload_n (pc := 0) dX9_auction_0 rfl ?_
  refine WP.iload_n (pc := 1) dX9_auction_1 rfl ?_
  refine WP.cVp (pc := 2) (mc2 := 0) (ms2 := 0) (ci := 9) kX9_329 (CX9_noKind Γ hm k) (by decide) rfl hm.t0 rfl ⟨Nat.le_of_ble_eq_true rfl, Nat.le_of_ble_eq_true rfl⟩ (Nat.le_of_ble_eq_true rfl) (Nat.le_of_ble_eq_true rfl) (Nat.le_of_ble_eq_true rfl) rfl dX9_auction_2 (fun v I1 ⟨hv, f1, g1⟩ => ?_)
  rw [hv]
  have h1 := h.j f1
  unfold q_auction
  by_cases hb : ixB k 3
  · rw [if_pos hb] at g1 ⊢
    rw [decide_eq_true hb]
    refine WP.if_eq (pc := 5) (tgt := 10) dX9_auction_5 (by decide) (fun h2 => ?_) (fun h2 => ?_)
    · exact absurd h2 (by decide)
    · refine WP.iconst (pc := 8) (v := 0) dX9_auction_8 (by decide) ?_
      refine WP.iret (pc := 9) rfl dX9_auction_9 ?_
      exact mO.err (by decide) g1 h1 f1.T
  · rw [if_neg hb] at g1 ⊢
    rw [decide_eq_false hb]
    refine WP.if_eq (pc := 5) (tgt := 10) dX9_auction_5 (by decide) (fun h2 => ?_) (fun h2 => ?_)
    · refine WP.aload_n (pc := 10) dX9_auction_10 rfl ?_
      refine WP.cVw (pc := 11) (mc2 := 0) (ms2 := 0) (ci := 9) kX9_305 (CX9_remember Γ hm h1) (by decide) rfl hm.t0 rfl ⟨Nat.le_of_ble_eq_true rfl, Nat.le_of_ble_eq_true rfl⟩ (Nat.le_of_ble_eq_true rfl) (Nat.le_of_ble_eq_true rfl) (Nat.le_of_ble_eq_true rfl) rfl dX9_auction_11 (fun I2 ⟨f2, g2⟩ => ?_)
      have hs : gAt (I2 (m + 1)) mm.s := g2.1
      refine WP.aload_n (pc := 14) dX9_auction_14 rfl ?_
      refine WP.aload_n (pc := 15) dX9_auction_15 rfl ?_
      refine WP.gR (pc := 16) uX9 fX9_7 hm.t0 hm.r0_0 dX9_auction_16 ?_
      refine WP.iload_n (pc := 19) dX9_auction_19 rfl ?_
      refine WP.cVp (pc := 20) (mc2 := 0) (ms2 := 0) (ci := 9) kX9_264 (CX9_hold Γ hm hm.t1 (by omega) (A := 73) (by decide) hT hw (ix_in hb) hs) (by decide) rfl hm.t0 rfl ⟨Nat.le_of_ble_eq_true rfl, Nat.le_of_ble_eq_true rfl⟩ (Nat.le_of_ble_eq_true rfl) (Nat.le_of_ble_eq_true rfl) (Nat.le_of_ble_eq_true rfl) rfl dX9_auction_20 (fun w I3 ⟨hw3, f3, g3⟩ => ?_)
      refine WP.iret (pc := 23) rfl dX9_auction_23 ?_
      exact mO.ok (by rw [f3.2 8 (by omega), f2.2 8 (by omega) (by omega)]; exact g1) hw3 (g2.setS (fun b hb => f3.1 b (by omega) (by omega) (by omega) (by omega) (by omega)) (fun j _ => f3.2 j (by omega)) g3) (fun x hx => by rw [f3.T1 x hx, f2.T x hx]; exact f1.T x hx)
    · exact absurd rfl h2
theorem CX9_bake (hm : shM σ m) (h : mdI I m mm) (hw : wf T C mm.s) (i k : Int32) : Ctr Γ (3, 66, 0, 0) MX9_bake [.ref m, .int i, .int k] (wI σ I) (mO σ I m (q_bake mm i k)) := by
  have hlen := h.1.2.1.2.1
  refine Ctr.go rfl (by decide) rfl rfl ?_
  refine WP.aload_n (pc := 0) dX9_bake_0 rfl ?_
  refine WP.iload_n (pc := 1) dX9_bake_1 rfl ?_
  refine WP.cVp (pc := 2) (mc2 := 0) (ms2 := 0) (ci := 9) kX9_323 (CX9_noBaker Γ hm h i) (by decide) rfl hm.t0 rfl ⟨Nat.le_of_ble_eq_true rfl, Nat.le_of_ble_eq_true rfl⟩ (Nat.le_of_ble_eq_true rfl) (Nat.le_of_ble_eq_true rfl) (Nat.le_of_ble_eq_true rfl) rfl dX9_bake_2 (fun v I1 ⟨hv, f1, g1⟩ => ?_)
  rw [hv]
  have h1 := h.j f1
  unfold q_bake
  by_cases hb : ixB i mm.s.2.1.length
  · rw [if_pos hb] at g1 ⊢
    rw [decide_eq_true hb]
    refine WP.if_ne (pc := 5) (tgt := 40) dX9_bake_5 (by decide) (fun h2 => ?_) (fun h2 => ?_)
    · refine WP.iconst (pc := 40) (v := 0) dX9_bake_40 (by decide) ?_
      refine WP.iret (pc := 41) rfl dX9_bake_41 ?_
      exact mO.err (by decide) g1 h1 f1.T
    · exact absurd h2 (by decide)
  · rw [if_neg hb] at g1 ⊢
    rw [decide_eq_false hb]
    obtain ⟨j, rfl, hj⟩ := ixN hb (by omega)
    have hg := gD_of (l := mm.s.2.1) dB hj
    rw [nI_clamp (by omega)]
    refine WP.if_ne (pc := 5) (tgt := 40) dX9_bake_5 (by decide) (fun h2 => ?_) (fun h2 => ?_)
    · exact absurd rfl h2
    · refine WP.aload_n (pc := 8) dX9_bake_8 rfl ?_
      refine WP.iload_n (pc := 9) dX9_bake_9 rfl ?_
      refine WP.cVp (pc := 10) (mc2 := 0) (ms2 := 0) (ci := 9) kX9_329 (CX9_noKind Γ hm k) (by decide) rfl hm.t0 rfl ⟨Nat.le_of_ble_eq_true rfl, Nat.le_of_ble_eq_true rfl⟩ (Nat.le_of_ble_eq_true rfl) (Nat.le_of_ble_eq_true rfl) (Nat.le_of_ble_eq_true rfl) rfl dX9_bake_10 (fun v I2 ⟨hv2, f2, g2⟩ => ?_)
      rw [hv2]
      have h3 := h1.j f2
      by_cases hq : ixB k 3
      · rw [if_pos hq] at g2 ⊢
        rw [decide_eq_true hq]
        refine WP.if_ne (pc := 13) (tgt := 40) dX9_bake_13 (by decide) (fun h4 => ?_) (fun h4 => ?_)
        · refine WP.iconst (pc := 40) (v := 0) dX9_bake_40 (by decide) ?_
          refine WP.iret (pc := 41) rfl dX9_bake_41 ?_
          exact mO.err (by decide) g2 h3 (f1.trans f2).T
        · exact absurd h4 (by decide)
      · rw [if_neg hq] at g2 ⊢
        rw [decide_eq_false hq]
        refine WP.if_ne (pc := 13) (tgt := 40) dX9_bake_13 (by decide) (fun h4 => ?_) (fun h4 => ?_)
        · exact absurd rfl h4
        · refine WP.aload_n (pc := 16) dX9_bake_16 rfl ?_
          refine WP.aload_n (pc := 17) dX9_bake_17 rfl ?_
          refine WP.gR (pc := 18) uX9 fX9_7 hm.t0 hm.r0_0 dX9_bake_18 ?_
          refine WP.iload_n (pc := 21) dX9_bake_21 rfl ?_
          refine WP.cS1 (pc := 22) (mc2 := 0) (ms2 := 0) kX9_254 (CX9_whyNotBake Γ hm.t1 h3.1 hw.2.1.2 hg) rfl ⟨Nat.le_of_ble_eq_true rfl, Nat.le_of_ble_eq_true rfl⟩ (Nat.le_of_ble_eq_true rfl) (Nat.le_of_ble_eq_true rfl) (Nat.le_of_ble_eq_true rfl) rfl dX9_bake_22 ?_
          refine WP.if_eq (pc := 25) (tgt := 32) dX9_bake_25 (by decide) (fun h5 => ?_) (fun h5 => ?_)
          · rw [if_pos h5]
            refine WP.iconst (pc := 32) (v := 0) dX9_bake_32 (by decide) ?_
            refine WP.iconst (pc := 33) (v := 2) dX9_bake_33 (by decide) ?_
            refine WP.cVp (pc := 34) (mc2 := 0) (ms2 := 0) (ci := 9) kX9_168 (CX9_refuses Γ hm false 2 0 (by omega) (by omega) g2) (by decide) rfl hm.t0 rfl ⟨Nat.le_of_ble_eq_true rfl, Nat.le_of_ble_eq_true rfl⟩ (Nat.le_of_ble_eq_true rfl) (Nat.le_of_ble_eq_true rfl) (Nat.le_of_ble_eq_true rfl) rfl dX9_bake_34 (fun w I3 ⟨hv3, f3, g3⟩ => ?_)
            rw [hv3]
            refine WP.if_eq (pc := 37) (tgt := 42) dX9_bake_37 (by decide) (fun h6 => ?_) (fun h6 => ?_)
            · refine WP.aload_n (pc := 42) dX9_bake_42 rfl ?_
              refine WP.cVw (pc := 43) (mc2 := 0) (ms2 := 0) (ci := 9) kX9_305 (CX9_remember Γ hm (h3.j f3)) (by decide) rfl hm.t0 rfl ⟨Nat.le_of_ble_eq_true rfl, Nat.le_of_ble_eq_true rfl⟩ (Nat.le_of_ble_eq_true rfl) (Nat.le_of_ble_eq_true rfl) (Nat.le_of_ble_eq_true rfl) rfl dX9_bake_43 (fun I4 ⟨f4, g4⟩ => ?_)
              have hs : gAt (I4 (m + 1)) mm.s := g4.1
              refine WP.aload_n (pc := 46) dX9_bake_46 rfl ?_
              refine WP.gR (pc := 47) uX9 fX9_7 hm.t0 hm.r0_0 dX9_bake_47 ?_
              refine WP.iload_n (pc := 50) dX9_bake_50 rfl ?_
              refine WP.iload_n (pc := 51) dX9_bake_51 rfl ?_
              refine WP.cSp (pc := 52) (mc2 := 0) (ms2 := 0) kX9_257 (CX9_fire Γ hm.t1 hs hg k) rfl ⟨Nat.le_of_ble_eq_true rfl, Nat.le_of_ble_eq_true rfl⟩ (Nat.le_of_ble_eq_true rfl) (Nat.le_of_ble_eq_true rfl) (Nat.le_of_ble_eq_true rfl) rfl dX9_bake_52 (fun w I5 ⟨hw5, f5, g5⟩ => ?_)
              refine WP.iret (pc := 55) rfl dX9_bake_55 ?_
              exact mO.ok (by rw [f5 m (by omega), f4.2 8 (by omega) (by omega)]; exact g3) hw5 (pshR g4 f5 g5) (fun x hx => by rw [f5.T1 x hx, f4.T x hx]; exact fr_j.T ((f1.trans f2).trans f3) x hx)
            · exact absurd rfl h6
          · rw [if_neg h5]
            refine WP.iconst (pc := 28) (v := 1) dX9_bake_28 (by decide) ?_
            refine WP.goto (pc := 29) (tgt := 33) dX9_bake_29 (by decide) ?_
            refine WP.iconst (pc := 33) (v := 2) dX9_bake_33 (by decide) ?_
            refine WP.cVp (pc := 34) (mc2 := 0) (ms2 := 0) (ci := 9) kX9_168 (CX9_refuses Γ hm true 2 0 (by omega) (by omega) g2) (by decide) rfl hm.t0 rfl ⟨Nat.le_of_ble_eq_true rfl, Nat.le_of_ble_eq_true rfl⟩ (Nat.le_of_ble_eq_true rfl) (Nat.le_of_ble_eq_true rfl) (Nat.le_of_ble_eq_true rfl) rfl dX9_bake_34 (fun w I3 ⟨hv3, f3, g3⟩ => ?_)
            rw [hv3]
            refine WP.if_eq (pc := 37) (tgt := 42) dX9_bake_37 (by decide) (fun h6 => ?_) (fun h6 => ?_)
            · exact absurd h6 (by decide)
            · refine WP.iconst (pc := 40) (v := 0) dX9_bake_40 (by decide) ?_
              refine WP.iret (pc := 41) rfl dX9_bake_41 ?_
              exact mO.err (by decide) g3 (h3.j f3) (fr_j.T ((f1.trans f2).trans f3))
theorem CX9_joinQueue (hm : shM σ m) (h : mdI I m mm) (hw : wf T C mm.s) (k w l p t : Int32) : Ctr Γ (3, 66, 0, 0) MX9_joinQueue [.ref m, .int k, .int w, .int l, .int p, .int t] (wI σ I) (mO σ I m (q_joinQueue mm k w l p t)) := by
  have hlen := h.1.2.2.2.1.2.1
  obtain ⟨h17, hn6, ht⟩ := h.2.2.2.1
  have hnB : ∀ e ∈ mm.s.2.1, nmOk e.1 := fun e he => (hw.2.1.2 e he).1
  have hnC : ∀ e ∈ mm.s.2.2.2.1, nmOk e.1 := fun e he => (hw.2.2.2.2.1.2 e he).1
  refine Ctr.go rfl (by decide) rfl rfl ?_
  refine WP.aload_n (pc := 0) dX9_joinQueue_0 rfl ?_
  refine WP.iload_n (pc := 1) dX9_joinQueue_1 rfl ?_
  refine WP.cVp (pc := 2) (mc2 := 0) (ms2 := 0) (ci := 9) kX9_329 (CX9_noKind Γ hm k) (by decide) rfl hm.t0 rfl ⟨Nat.le_of_ble_eq_true rfl, Nat.le_of_ble_eq_true rfl⟩ (Nat.le_of_ble_eq_true rfl) (Nat.le_of_ble_eq_true rfl) (Nat.le_of_ble_eq_true rfl) rfl dX9_joinQueue_2 (fun v I1 ⟨hv, f1, g1⟩ => ?_)
  rw [hv]
  have h1 := h.j f1
  unfold q_joinQueue
  by_cases hb : ixB k 3
  · rw [if_pos hb] at g1 ⊢
    rw [decide_eq_true hb]
    refine WP.if_ne (pc := 5) (tgt := 55) dX9_joinQueue_5 (by decide) (fun h2 => ?_) (fun h2 => ?_)
    · refine WP.iconst (pc := 55) (v := 0) dX9_joinQueue_55 (by decide) ?_
      refine WP.iret (pc := 56) rfl dX9_joinQueue_56 ?_
      exact mO.err (by decide) g1 h1 f1.T
    · exact absurd h2 (by decide)
  rw [if_neg hb] at g1 ⊢
  rw [decide_eq_false hb]
  refine WP.if_ne (pc := 5) (tgt := 55) dX9_joinQueue_5 (by decide) (fun h2 => ?_) (fun h2 => ?_)
  · exact absurd rfl h2
  refine WP.aload_n (pc := 8) dX9_joinQueue_8 rfl ?_
  refine WP.iload_n (pc := 9) dX9_joinQueue_9 rfl ?_
  refine WP.iconst (pc := 10) (v := 1) dX9_joinQueue_10 (by decide) ?_
  refine WP.bipush (pc := 11) (v := 9) dX9_joinQueue_11 (by decide) ?_
  refine WP.cVp (pc := 13) (mc2 := 0) (ms2 := 0) (ci := 9) kX9_320 (CX9_out Γ hm w 1 9 (by rw [g1]; rfl)) (by decide) rfl hm.t0 rfl ⟨Nat.le_of_ble_eq_true rfl, Nat.le_of_ble_eq_true rfl⟩ (Nat.le_of_ble_eq_true rfl) (Nat.le_of_ble_eq_true rfl) (Nat.le_of_ble_eq_true rfl) rfl dX9_joinQueue_13 (fun v I2 ⟨hv2, f2, g2⟩ => ?_)
  rw [hv2]
  have h2' := h1.j f2
  by_cases q1 : w < 1 ∨ 9 < w
  · have q1' : ¬ (decide (1 ≤ w) && decide (w ≤ (9 : Int32))) = true := fun z => btw_lt.mp z q1
    rw [if_neg q1'] at g2
    rw [Bool.not_eq_true] at q1'
    rw [if_pos q1, q1']
    refine WP.if_ne (pc := 16) (tgt := 55) dX9_joinQueue_16 (by decide) (fun h4 => ?_) (fun h4 => ?_)
    · refine WP.iconst (pc := 55) (v := 0) dX9_joinQueue_55 (by decide) ?_
      refine WP.iret (pc := 56) rfl dX9_joinQueue_56 ?_
      exact mO.err (by decide) g2 h2' (fr_j.T (f1.trans f2))
    · exact absurd h4 (by decide)
  have q1' := btw_lt.mpr q1
  rw [if_pos q1'] at g2
  rw [if_neg q1, q1']
  refine WP.if_ne (pc := 16) (tgt := 55) dX9_joinQueue_16 (by decide) (fun h4 => ?_) (fun h4 => ?_)
  · exact absurd rfl h4
  refine WP.aload_n (pc := 19) dX9_joinQueue_19 rfl ?_
  refine WP.iload_n (pc := 20) dX9_joinQueue_20 rfl ?_
  refine WP.iconst (pc := 21) (v := 1) dX9_joinQueue_21 (by decide) ?_
  refine WP.bipush (pc := 22) (v := 99) dX9_joinQueue_22 (by decide) ?_
  refine WP.cVp (pc := 24) (mc2 := 0) (ms2 := 0) (ci := 9) kX9_320 (CX9_out Γ hm l 1 99 g2) (by decide) rfl hm.t0 rfl ⟨Nat.le_of_ble_eq_true rfl, Nat.le_of_ble_eq_true rfl⟩ (Nat.le_of_ble_eq_true rfl) (Nat.le_of_ble_eq_true rfl) (Nat.le_of_ble_eq_true rfl) rfl dX9_joinQueue_24 (fun v I3 ⟨hv3, f3, g3⟩ => ?_)
  rw [hv3]
  have h3' := h2'.j f3
  by_cases q2 : l < 1 ∨ 99 < l
  · have q2' : ¬ (decide (1 ≤ l) && decide (l ≤ (99 : Int32))) = true := fun z => btw_lt.mp z q2
    rw [if_neg q2'] at g3
    rw [Bool.not_eq_true] at q2'
    rw [if_pos q2, q2']
    refine WP.if_ne (pc := 27) (tgt := 55) dX9_joinQueue_27 (by decide) (fun h5 => ?_) (fun h5 => ?_)
    · refine WP.iconst (pc := 55) (v := 0) dX9_joinQueue_55 (by decide) ?_
      refine WP.iret (pc := 56) rfl dX9_joinQueue_56 ?_
      exact mO.err (by decide) g3 h3' (fr_j.T ((f1.trans f2).trans f3))
    · exact absurd h5 (by decide)
  have q2' := btw_lt.mpr q2
  rw [if_pos q2'] at g3
  rw [if_neg q2, q2']
  refine WP.if_ne (pc := 27) (tgt := 55) dX9_joinQueue_27 (by decide) (fun h5 => ?_) (fun h5 => ?_)
  · exact absurd rfl h5
  refine WP.aload_n (pc := 30) dX9_joinQueue_30 rfl ?_
  refine WP.iload (pc := 31) dX9_joinQueue_31 rfl ?_
  refine WP.iconst (pc := 33) (v := 0) dX9_joinQueue_33 (by decide) ?_
  refine WP.sipush (pc := 34) (v := 999) dX9_joinQueue_34 (by decide) ?_
  refine WP.cVp (pc := 37) (mc2 := 0) (ms2 := 0) (ci := 9) kX9_320 (CX9_out Γ hm p 0 999 g3) (by decide) rfl hm.t0 rfl ⟨Nat.le_of_ble_eq_true rfl, Nat.le_of_ble_eq_true rfl⟩ (Nat.le_of_ble_eq_true rfl) (Nat.le_of_ble_eq_true rfl) (Nat.le_of_ble_eq_true rfl) rfl dX9_joinQueue_37 (fun v I4 ⟨hv4, f4, g4⟩ => ?_)
  rw [hv4]
  have h4' := h3'.j f4
  by_cases q3 : p < 0 ∨ 999 < p
  · have q3' : ¬ (decide (0 ≤ p) && decide (p ≤ (999 : Int32))) = true := fun z => btw_lt.mp z q3
    rw [if_neg q3'] at g4
    rw [Bool.not_eq_true] at q3'
    rw [if_pos q3, q3']
    refine WP.if_ne (pc := 40) (tgt := 55) dX9_joinQueue_40 (by decide) (fun h6 => ?_) (fun h6 => ?_)
    · refine WP.iconst (pc := 55) (v := 0) dX9_joinQueue_55 (by decide) ?_
      refine WP.iret (pc := 56) rfl dX9_joinQueue_56 ?_
      exact mO.err (by decide) g4 h4' (fr_j.T (((f1.trans f2).trans f3).trans f4))
    · exact absurd h6 (by decide)
  have q3' := btw_lt.mpr q3
  rw [if_pos q3'] at g4
  rw [if_neg q3, q3']
  refine WP.if_ne (pc := 40) (tgt := 55) dX9_joinQueue_40 (by decide) (fun h6 => ?_) (fun h6 => ?_)
  · exact absurd rfl h6
  refine WP.aload_n (pc := 43) dX9_joinQueue_43 rfl ?_
  refine WP.iload (pc := 44) dX9_joinQueue_44 rfl ?_
  refine WP.iconst (pc := 46) (v := 1) dX9_joinQueue_46 (by decide) ?_
  refine WP.bipush (pc := 47) (v := 99) dX9_joinQueue_47 (by decide) ?_
  refine WP.cVp (pc := 49) (mc2 := 0) (ms2 := 0) (ci := 9) kX9_320 (CX9_out Γ hm t 1 99 g4) (by decide) rfl hm.t0 rfl ⟨Nat.le_of_ble_eq_true rfl, Nat.le_of_ble_eq_true rfl⟩ (Nat.le_of_ble_eq_true rfl) (Nat.le_of_ble_eq_true rfl) (Nat.le_of_ble_eq_true rfl) rfl dX9_joinQueue_49 (fun v I5 ⟨hv5, f5, g5⟩ => ?_)
  rw [hv5]
  have h5' := h4'.j f5
  have F5 := (((f1.trans f2).trans f3).trans f4).trans f5
  by_cases q4 : t < 1 ∨ 99 < t
  · have q4' : ¬ (decide (1 ≤ t) && decide (t ≤ (99 : Int32))) = true := fun z => btw_lt.mp z q4
    rw [if_neg q4'] at g5
    rw [Bool.not_eq_true] at q4'
    rw [if_pos q4, q4']
    refine WP.if_eq (pc := 52) (tgt := 57) dX9_joinQueue_52 (by decide) (fun h7 => ?_) (fun h7 => ?_)
    · exact absurd h7 (by decide)
    · refine WP.iconst (pc := 55) (v := 0) dX9_joinQueue_55 (by decide) ?_
      refine WP.iret (pc := 56) rfl dX9_joinQueue_56 ?_
      exact mO.err (by decide) g5 h5' (fr_j.T F5)
  have q4' := btw_lt.mpr q4
  rw [if_pos q4'] at g5
  rw [if_neg q4, q4']
  refine WP.if_eq (pc := 52) (tgt := 57) dX9_joinQueue_52 (by decide) (fun h7 => ?_) (fun h7 => ?_)
  · have k17 : I5 m 17 = nI mm.n := by rw [F5.2 17 (by omega) (by omega)]; exact h17
    have kt : tx mm.f (I5 (m + 10)) mm.n := by rw [F5.1 (m + 10) (by omega)]; exact ht
    refine WP.aload_n (pc := 57) dX9_joinQueue_57 rfl ?_
    refine WP.iconst (pc := 58) (v := 0) dX9_joinQueue_58 (by decide) ?_
    refine WP.aload_n (pc := 59) dX9_joinQueue_59 rfl ?_
    refine WP.gIv (pc := 60) (v := nI mm.n) uX9 fX9_58 hm.t0 (by simp [up_eq, k17]) dX9_joinQueue_60 ?_
    refine WP.cV1 (pc := 63) (mc2 := 0) (ms2 := 0) (ci := 9) kX9_224 (CX9_nameFrom Γ hm (s := 0) (k := mm.n) (n := mm.n) (by omega) hn6 kt) (by decide) rfl hm.t0 rfl ⟨Nat.le_of_ble_eq_true rfl, Nat.le_of_ble_eq_true rfl⟩ (Nat.le_of_ble_eq_true rfl) (Nat.le_of_ble_eq_true rfl) (Nat.le_of_ble_eq_true rfl) rfl dX9_joinQueue_63 ?_
    refine WP.istore (pc := 66) dX9_joinQueue_66 (by decide) rfl ?_
    refine WP.aload_n (pc := 68) dX9_joinQueue_68 rfl ?_
    refine WP.iload (pc := 69) dX9_joinQueue_69 rfl ?_
    refine WP.iconst (pc := 71) (v := (-1)) dX9_joinQueue_71 (by decide) ?_
    by_cases q5 : pkN mm.f 0 mm.n = -1
    · have e5 : nmV mm.f 0 mm.n = -1 := if_pos q5
      rw [if_pos q5, e5]
      refine WP.icmp_ne (pc := 72) (tgt := 79) dX9_joinQueue_72 (by decide) (fun h8 => ?_) (fun h8 => ?_)
      · exact absurd rfl h8
      · refine WP.iconst (pc := 75) (v := 1) dX9_joinQueue_75 (by decide) ?_
        refine WP.goto (pc := 76) (tgt := 80) dX9_joinQueue_76 (by decide) ?_
        refine WP.iconst (pc := 80) (v := 2) dX9_joinQueue_80 (by decide) ?_
        refine WP.cVp (pc := 81) (mc2 := 0) (ms2 := 0) (ci := 9) kX9_168 (CX9_refuses Γ hm true 2 0 (by omega) (by omega) g5) (by decide) rfl hm.t0 rfl ⟨Nat.le_of_ble_eq_true rfl, Nat.le_of_ble_eq_true rfl⟩ (Nat.le_of_ble_eq_true rfl) (Nat.le_of_ble_eq_true rfl) (Nat.le_of_ble_eq_true rfl) rfl dX9_joinQueue_81 (fun v I6 ⟨hv6, f6, g6⟩ => ?_)
        rw [hv6]
        refine WP.if_ne (pc := 84) (tgt := 123) dX9_joinQueue_84 (by decide) (fun h9 => ?_) (fun h9 => ?_)
        · refine WP.iconst (pc := 123) (v := 0) dX9_joinQueue_123 (by decide) ?_
          refine WP.iret (pc := 124) rfl dX9_joinQueue_124 ?_
          exact mO.err (by decide) g6 (h5'.j f6) (fr_j.T (F5.trans f6))
        · exact absurd h9 (by decide)
    · obtain ⟨hnm1, hnm2⟩ := pkN_nm q5
      have e5 : nmV mm.f 0 mm.n = nI (nmF mm.f 0 mm.n) := if_neg q5
      rw [if_neg q5]
      have e5n : nmV mm.f 0 mm.n ≠ -1 := by rw [e5]; exact nI_ne_m1 (by unfold nmOk at hnm2; omega)
      refine WP.icmp_ne (pc := 72) (tgt := 79) dX9_joinQueue_72 (by decide) (fun h8 => ?_) (fun h8 => ?_)
      · refine WP.iconst (pc := 79) (v := 0) dX9_joinQueue_79 (by decide) ?_
        refine WP.iconst (pc := 80) (v := 2) dX9_joinQueue_80 (by decide) ?_
        refine WP.cVp (pc := 81) (mc2 := 0) (ms2 := 0) (ci := 9) kX9_168 (CX9_refuses Γ hm false 2 0 (by omega) (by omega) g5) (by decide) rfl hm.t0 rfl ⟨Nat.le_of_ble_eq_true rfl, Nat.le_of_ble_eq_true rfl⟩ (Nat.le_of_ble_eq_true rfl) (Nat.le_of_ble_eq_true rfl) (Nat.le_of_ble_eq_true rfl) rfl dX9_joinQueue_81 (fun v I6 ⟨hv6, f6, g6⟩ => ?_)
        rw [hv6]
        have h6' := h5'.j f6
        refine WP.if_ne (pc := 84) (tgt := 123) dX9_joinQueue_84 (by decide) (fun h9 => ?_) (fun h9 => ?_)
        · exact absurd rfl h9
        · have bad : (10 ≤ mm.s.2.2.2.1.length ∨ hasN mm.s (pkN mm.f 0 mm.n) = true) → WP Γ (3, 66, 0, 0) MX9_joinQueue (mO σ I m (if 10 ≤ mm.s.2.2.2.1.length ∨ hasN mm.s (pkN mm.f 0 mm.n) = true then (3, 0, mm) else (0, mm.s.1 11, (mX.w_n (psh mm (wlC mm.s (nmF mm.f 0 mm.n) k w l p t)) (0))))) 111 [some (.ref m), some (.int k), some (.int w), some (.int l), some (.int p), some (.int t), some (.int (nmV mm.f 0 mm.n))] [.ref m] (wI σ I6) := fun hq => by
            rw [if_pos hq]
            refine WP.iconst (pc := 111) (v := 1) dX9_joinQueue_111 (by decide) ?_
            refine WP.goto (pc := 112) (tgt := 116) dX9_joinQueue_112 (by decide) ?_
            refine WP.iconst (pc := 116) (v := 3) dX9_joinQueue_116 (by decide) ?_
            refine WP.cVp (pc := 117) (mc2 := 0) (ms2 := 0) (ci := 9) kX9_168 (CX9_refuses Γ hm true 3 0 (by omega) (by omega) g6) (by decide) rfl hm.t0 rfl ⟨Nat.le_of_ble_eq_true rfl, Nat.le_of_ble_eq_true rfl⟩ (Nat.le_of_ble_eq_true rfl) (Nat.le_of_ble_eq_true rfl) (Nat.le_of_ble_eq_true rfl) rfl dX9_joinQueue_117 (fun v I7 ⟨hv7, f7, g7⟩ => ?_)
            rw [hv7]
            refine WP.if_eq (pc := 120) (tgt := 125) dX9_joinQueue_120 (by decide) (fun ha => ?_) (fun ha => ?_)
            · exact absurd ha (by decide)
            · refine WP.iconst (pc := 123) (v := 0) dX9_joinQueue_123 (by decide) ?_
              refine WP.iret (pc := 124) rfl dX9_joinQueue_124 ?_
              exact mO.err (by decide) g7 (h6'.j f7) (fr_j.T ((F5.trans f6).trans f7))
          refine WP.aload_n (pc := 87) dX9_joinQueue_87 rfl ?_
          refine WP.aload_n (pc := 88) dX9_joinQueue_88 rfl ?_
          refine WP.gR (pc := 89) uX9 fX9_7 hm.t0 hm.r0_0 dX9_joinQueue_89 ?_
          refine WP.iconst (pc := 92) (v := 2) dX9_joinQueue_92 (by decide) ?_
          refine WP.ialdv (pc := 93) (k := 2) hm.t1 (by decide) (by decide) (v := (nI mm.s.2.2.2.1.length)) (h6'.1.2.2.2.1.1) dX9_joinQueue_93 ?_
          refine WP.bipush (pc := 94) (v := 10) dX9_joinQueue_94 (by decide) ?_
          refine WP.icmp_eq (pc := 96) (tgt := 111) dX9_joinQueue_96 (by decide) (fun ha => ?_) (fun ha => ?_)
          · exact bad (Or.inl (by have := (nI_eq (b := 10) (by omega) (by decide)).mp ha; omega))
          · have hlt : mm.s.2.2.2.1.length < 10 := by
              rcases Nat.lt_or_ge mm.s.2.2.2.1.length 10 with z | z
              · exact z
              · exact absurd (by rw [show mm.s.2.2.2.1.length = 10 by omega]; rfl) ha
            refine WP.aload_n (pc := 99) dX9_joinQueue_99 rfl ?_
            refine WP.gR (pc := 100) uX9 fX9_7 hm.t0 hm.r0_0 dX9_joinQueue_100 ?_
            refine WP.iload (pc := 103) dX9_joinQueue_103 rfl ?_
            refine WP.cS1 (pc := 105) (mc2 := 0) (ms2 := 0) kX9_228 (CX9_isTaken Γ hm.t1 h6'.1 (v := nmV mm.f 0 mm.n) (w := pkN mm.f 0 mm.n) (fun e he => nmV_iff (hnB e he)) (fun e he => nmV_iff (hnC e he))) rfl ⟨Nat.le_of_ble_eq_true rfl, Nat.le_of_ble_eq_true rfl⟩ (Nat.le_of_ble_eq_true rfl) (Nat.le_of_ble_eq_true rfl) (Nat.le_of_ble_eq_true rfl) rfl dX9_joinQueue_105 ?_
            refine WP.if_eq (pc := 108) (tgt := 115) dX9_joinQueue_108 (by decide) (fun hc => ?_) (fun hc => ?_)
            · have hno : ¬ (10 ≤ mm.s.2.2.2.1.length ∨ hasN mm.s (pkN mm.f 0 mm.n) = true) := fun z => z.elim (fun z1 => by omega) (fun z1 => by rw [z1] at hc; exact absurd hc (by decide))
              rw [if_neg hno]
              refine WP.iconst (pc := 115) (v := 0) dX9_joinQueue_115 (by decide) ?_
              refine WP.iconst (pc := 116) (v := 3) dX9_joinQueue_116 (by decide) ?_
              refine WP.cVp (pc := 117) (mc2 := 0) (ms2 := 0) (ci := 9) kX9_168 (CX9_refuses Γ hm false 3 0 (by omega) (by omega) g6) (by decide) rfl hm.t0 rfl ⟨Nat.le_of_ble_eq_true rfl, Nat.le_of_ble_eq_true rfl⟩ (Nat.le_of_ble_eq_true rfl) (Nat.le_of_ble_eq_true rfl) (Nat.le_of_ble_eq_true rfl) rfl dX9_joinQueue_117 (fun v I7 ⟨hv7, f7, g7⟩ => ?_)
              rw [hv7]
              refine WP.if_eq (pc := 120) (tgt := 125) dX9_joinQueue_120 (by decide) (fun hd => ?_) (fun hd => ?_)
              · refine WP.aload_n (pc := 125) dX9_joinQueue_125 rfl ?_
                refine WP.cVw (pc := 126) (mc2 := 0) (ms2 := 0) (ci := 9) kX9_305 (CX9_remember Γ hm (h6'.j f7)) (by decide) rfl hm.t0 rfl ⟨Nat.le_of_ble_eq_true rfl, Nat.le_of_ble_eq_true rfl⟩ (Nat.le_of_ble_eq_true rfl) (Nat.le_of_ble_eq_true rfl) (Nat.le_of_ble_eq_true rfl) rfl dX9_joinQueue_126 (fun I8 ⟨f8, g8⟩ => ?_)
                refine WP.aload_n (pc := 129) dX9_joinQueue_129 rfl ?_
                refine WP.iconst (pc := 130) (v := 0) dX9_joinQueue_130 (by decide) ?_
                refine WP.pI (pc := 131) uX9 fX9_58 rfl rfl hm.t0 dX9_joinQueue_131 ?_
                refine WP.aload_n (pc := 134) dX9_joinQueue_134 rfl ?_
                refine WP.gR (pc := 135) uX9 fX9_7 hm.t0 hm.r0_0 dX9_joinQueue_135 ?_
                rw [e5]
                refine WP.iload (pc := 138) dX9_joinQueue_138 rfl ?_
                refine WP.iload_n (pc := 140) dX9_joinQueue_140 rfl ?_
                refine WP.iload_n (pc := 141) dX9_joinQueue_141 rfl ?_
                refine WP.iload_n (pc := 142) dX9_joinQueue_142 rfl ?_
                refine WP.iload (pc := 143) dX9_joinQueue_143 rfl ?_
                refine WP.iload (pc := 145) dX9_joinQueue_145 rfl ?_
                have hs : gAt (up I8 m 17 0 (m + 1)) mm.s := by rw [up_ne (by omega)]; exact g8.1
                refine WP.cSp (pc := 147) (mc2 := 0) (ms2 := 0) kX9_260 (CX9_join Γ hm.t1 hs hlt (nmF mm.f 0 mm.n) k w l p t) rfl ⟨Nat.le_of_ble_eq_true rfl, Nat.le_of_ble_eq_true rfl⟩ (Nat.le_of_ble_eq_true rfl) (Nat.le_of_ble_eq_true rfl) (Nat.le_of_ble_eq_true rfl) rfl dX9_joinQueue_147 (fun v I9 ⟨hv9, f9, g9⟩ => ?_)
                refine WP.iret (pc := 150) rfl dX9_joinQueue_150 ?_
                have hR : ∀ b, b ≠ m → b ≠ m + 1 → I9 b = I8 b := fun b h1 h2 => by rw [f9 b h2, up_ne h1]
                have hM : ∀ j, j ≠ 17 → I9 m j = I8 m j := fun j hj => by rw [f9 m (by omega), up_eq, if_neg (fun z => hj z.2)]
                have hA : mdI (up I9 m 17 (I8 m 17)) m (psh mm (wlC mm.s (nmF mm.f 0 mm.n) k w l p t)) := g8.setS (fun b hb => by rw [up_ne (by omega)]; exact hR b (by omega) (by omega)) (fun j hj => by
                  rw [up_eq]
                  by_cases z : j = 17
                  · rw [if_pos ⟨rfl, z⟩, z]
                  · rw [if_neg (fun y => z y.2)]
                    exact hM j z) (by rw [up_ne (by omega)]; exact g9)
                refine mO.ok (by rw [hM 8 (by omega), f8.2 8 (by omega) (by omega)]; exact g7) hv9 ?_ (fun x hx => by rw [hR x (by omega) (by omega), f8.T x hx]; exact fr_j.T ((F5.trans f6).trans f7) x hx)
                have := hA.setT (I' := I9) (f' := mm.f) (n' := 0) (fun b hb => by rw [up_ne (by omega)]) (fun j hj => by rw [up_eq, if_neg (by omega)]) (by rw [f9 m (by omega), up_eq, if_pos ⟨rfl, rfl⟩]; rfl) (Nat.zero_le _) (fun j hj => absurd hj (Nat.not_lt_zero _))
                exact this
              · exact absurd rfl hd
            · exact bad (Or.inr (Classical.byContradiction fun z => hc (by rw [Bool.not_eq_true] at z; rw [z]; rfl)))
      · exact absurd h8 e5n
  · exact absurd rfl h7
theorem CX9_load (hm : shM σ m) (h : mdI I m mm) : Ctr Γ (10, 216, 0, 0) MX9_load [.ref m] (wI σ I) (mO σ I m (q_load mm)) := by
  obtain ⟨h17, hn6, ht⟩ := h.2.2.2.1
  unfold q_load
  refine Ctr.go rfl (by decide) rfl rfl ?_
  refine WP.aload_n (pc := 0) dX9_load_0 rfl ?_
  refine WP.iconst (pc := 1) (v := 0) dX9_load_1 (by decide) ?_
  refine WP.pI (pc := 2) uX9 fX9_75 rfl rfl hm.t0 dX9_load_2 ?_
  refine WP.aload_n (pc := 5) dX9_load_5 rfl ?_
  have k8 : up I m 8 0 m 8 = nI 0 := by rw [up_eq, if_pos ⟨rfl, rfl⟩]; rfl
  refine WP.cVw (pc := 6) (mc2 := 0) (ms2 := 0) (ci := 9) kX9_55 (CX9_read Γ hm (f := mm.f) (n := mm.n) hn6 (by rw [up_eq, if_neg (by omega)]; exact h17) (by rw [up_ne (by omega)]; exact ht)) (by decide) rfl hm.t0 rfl ⟨Nat.le_of_ble_eq_true rfl, Nat.le_of_ble_eq_true rfl⟩ (Nat.le_of_ble_eq_true rfl) (Nat.le_of_ble_eq_true rfl) (Nat.le_of_ble_eq_true rfl) rfl dX9_load_6 (fun I1 ⟨f1, g1, s1⟩ => ?_)
  obtain ⟨P, hP⟩ : ∃ P, P = sdRead mm.f mm.n s00 := ⟨_, rfl⟩
  have g1 : mlAt I1 m mm.f mm.n P.2 := by rw [hP]; exact g1
  have s1 : P.2.1 = 0 → gAt (I1 (m + 2)) P.1 := by rw [hP]; exact s1
  rw [← hP]
  obtain ⟨-, -, -, k23, k24, -, -, k6⟩ := g1
  have b8 : I1 m 8 = nI 0 := by rw [f1.2 8 (by omega)]; exact k8
  have base : ∀ I2, fr_j (up I1 m 17 0) I2 m 8 8 → mdI I2 m (mX.w_ep (mX.w_e (mX.w_n mm 0) P.2.1) P.2.2.1) ∧ fr I I2 m 12 := fun I2 f2 => by
    obtain ⟨a1, a2, a3, -, -, a6⟩ := id h
    have R : ∀ b, b ≠ m → b ≠ m + 2 → b ≠ m + 7 → b ≠ m + 8 → b ≠ m + 9 → I2 b = I b := fun b c1 c2 c3 c4 c5 => by rw [f2.1 b c1, up_ne c1, f1.1 b c1 c2 c3 c4 c5, up_ne c1]
    have M : ∀ j, (j < 11 ∨ (14 < j ∧ j < 18) ∨ 24 < j) → j ≠ 8 → j ≠ 17 → I2 m j = I m j := fun j c1 c2 c3 => by rw [f2.2 j c2 c2, up_eq, if_neg (by omega), f1.2 j c1, up_eq, if_neg (by omega)]
    have K : ∀ j, j = 23 ∨ j = 24 → I2 m j = I1 m j := fun j c => by rw [f2.2 j (by omega) (by omega), up_eq, if_neg (by omega)]
    refine ⟨⟨?_, ?_, ?_, ⟨?_, Nat.zero_le _, fun j hj => absurd hj (Nat.not_lt_zero _)⟩, ⟨?_, k6, ?_⟩, ?_⟩, fun c hc => R c (by omega) (by omega) (by omega) (by omega) (by omega)⟩
    · rw [R (m + 1) (by omega) (by omega) (by omega) (by omega) (by omega)]
      exact a1
    · rw [R (m + 4) (by omega) (by omega) (by omega) (by omega) (by omega), M 6 (by omega) (by omega) (by omega), M 7 (by omega) (by omega) (by omega)]
      exact a2
    · rw [R (m + 5) (by omega) (by omega) (by omega) (by omega) (by omega), R (m + 6) (by omega) (by omega) (by omega) (by omega) (by omega)]
      exact a3
    · rw [f2.2 17 (by omega) (by omega), up_eq, if_pos ⟨rfl, rfl⟩]
      rfl
    · rw [K 23 (by omega)]
      exact k23
    · rw [K 24 (by omega)]
      exact k24
    · rw [R (m + 11) (by omega) (by omega) (by omega) (by omega) (by omega), M 26 (by omega) (by omega) (by omega)]
      exact a6
  have c8 : up I1 m 17 0 m 8 = nI 0 := by rw [up_eq, if_neg (by omega)]; exact b8
  refine WP.aload_n (pc := 9) dX9_load_9 rfl ?_
  refine WP.iconst (pc := 10) (v := 0) dX9_load_10 (by decide) ?_
  refine WP.pI (pc := 11) uX9 fX9_58 rfl rfl hm.t0 dX9_load_11 ?_
  refine WP.aload_n (pc := 14) dX9_load_14 rfl ?_
  refine WP.aload_n (pc := 15) dX9_load_15 rfl ?_
  refine WP.gIv (pc := 16) (v := nI P.2.1) uX9 fX9_180 hm.t0 (by simp [up_eq, k23]) dX9_load_16 ?_
  refine WP.if_eq (pc := 19) (tgt := 26) dX9_load_19 (by decide) (fun h1 => ?_) (fun h1 => ?_)
  · have p0 : P.2.1 = 0 := (nI_eq (b := 0) (by omega) (by decide)).mp h1
    rw [if_pos p0]
    refine WP.iconst (pc := 26) (v := 0) dX9_load_26 (by decide) ?_
    refine WP.iconst (pc := 27) (v := 1) dX9_load_27 (by decide) ?_
    refine WP.cVp (pc := 28) (mc2 := 0) (ms2 := 0) (ci := 9) kX9_168 (CX9_refuses Γ hm false 1 0 (by omega) (by omega) c8) (by decide) rfl hm.t0 rfl ⟨Nat.le_of_ble_eq_true rfl, Nat.le_of_ble_eq_true rfl⟩ (Nat.le_of_ble_eq_true rfl) (Nat.le_of_ble_eq_true rfl) (Nat.le_of_ble_eq_true rfl) rfl dX9_load_28 (fun v I2 ⟨hv2, f2, g2⟩ => ?_)
    rw [hv2]
    refine WP.if_eq (pc := 31) (tgt := 36) dX9_load_31 (by decide) (fun h3 => ?_) (fun h3 => ?_)
    · obtain ⟨b1, b2⟩ := base I2 f2
      refine WP.aload_n (pc := 36) dX9_load_36 rfl ?_
      refine WP.cVw (pc := 37) (mc2 := 0) (ms2 := 0) (ci := 9) kX9_305 (CX9_remember Γ hm b1) (by decide) rfl hm.t0 rfl ⟨Nat.le_of_ble_eq_true rfl, Nat.le_of_ble_eq_true rfl⟩ (Nat.le_of_ble_eq_true rfl) (Nat.le_of_ble_eq_true rfl) (Nat.le_of_ble_eq_true rfl) rfl dX9_load_37 (fun I3 ⟨f3, g3⟩ => ?_)
      refine WP.aload_n (pc := 40) dX9_load_40 rfl ?_
      refine WP.gR (pc := 41) uX9 fX9_13 hm.t0 hm.r0_1 dX9_load_41 ?_
      refine WP.iconst (pc := 44) (v := 0) dX9_load_44 (by decide) ?_
      refine WP.aload_n (pc := 45) dX9_load_45 rfl ?_
      refine WP.gR (pc := 46) uX9 fX9_7 hm.t0 hm.r0_0 dX9_load_46 ?_
      refine WP.iconst (pc := 49) (v := 0) dX9_load_49 (by decide) ?_
      refine WP.cSw (pc := 50) (mc2 := 0) (ms2 := 0) kX9_61 (CX9_copyRow Γ hm.t2 hm.t1 (p := 0) (q := 0) (by omega) (by omega) (by omega) (by omega) (by omega)) rfl ⟨Nat.le_of_ble_eq_true rfl, Nat.le_of_ble_eq_true rfl⟩ (Nat.le_of_ble_eq_true rfl) (Nat.le_of_ble_eq_true rfl) (Nat.le_of_ble_eq_true rfl) rfl dX9_load_50 (fun I4 ⟨f4, e4⟩ => ?_)
      have hs4 : gAt (I4 (m + 1)) P.1 := by
        rw [e4]
        refine (s1 p0).ext (fun k hk => ?_)
        unfold cpR
        rw [if_pos (by omega), f3.1 (m + 2) (by omega) (by omega), f2.1 (m + 2) (by omega), up_ne (by omega)]
        congr 1
        omega
      refine WP.aload_n (pc := 53) dX9_load_53 rfl ?_
      refine WP.gR (pc := 54) uX9 fX9_7 hm.t0 hm.r0_0 dX9_load_54 ?_
      refine WP.iconst (pc := 57) (v := 2) dX9_load_57 (by decide) ?_
      refine WP.ialdv (pc := 58) (k := 2) hm.t1 (by decide) (by decide) (v := (nI P.1.2.2.2.1.length)) (hs4.2.2.2.1.1) dX9_load_58 ?_
      refine WP.iret (pc := 59) rfl dX9_load_59 ?_
      have g5 := g3.setS (I' := I4) (s' := P.1) (fun b hb => f4 b (by omega)) (fun j _ => by rw [f4 m (by omega)]) hs4
      rw [p0] at g5
      refine mO.ok (by rw [f4 m (by omega), f3.2 8 (by omega) (by omega)]; exact g2) rfl ?_ (fun x hx => by rw [f4.T1 x hx, f3.T x hx]; exact b2 x hx)
      exact g5
    · exact absurd rfl h3
  · have p0 := code_n h1
    rw [if_neg p0]
    refine WP.iconst (pc := 22) (v := 1) dX9_load_22 (by decide) ?_
    refine WP.goto (pc := 23) (tgt := 27) dX9_load_23 (by decide) ?_
    refine WP.iconst (pc := 27) (v := 1) dX9_load_27 (by decide) ?_
    refine WP.cVp (pc := 28) (mc2 := 0) (ms2 := 0) (ci := 9) kX9_168 (CX9_refuses Γ hm true 1 0 (by omega) (by omega) c8) (by decide) rfl hm.t0 rfl ⟨Nat.le_of_ble_eq_true rfl, Nat.le_of_ble_eq_true rfl⟩ (Nat.le_of_ble_eq_true rfl) (Nat.le_of_ble_eq_true rfl) (Nat.le_of_ble_eq_true rfl) rfl dX9_load_28 (fun v I2 ⟨hv2, f2, g2⟩ => ?_)
    rw [hv2]
    refine WP.if_eq (pc := 31) (tgt := 36) dX9_load_31 (by decide) (fun h3 => ?_) (fun h3 => ?_)
    · exact absurd h3 (by decide)
    · obtain ⟨b1, b2⟩ := base I2 f2
      refine WP.iconst (pc := 34) (v := 0) dX9_load_34 (by decide) ?_
      refine WP.iret (pc := 35) rfl dX9_load_35 ?_
      exact mO.err (by decide) g2 b1 b2
end T
