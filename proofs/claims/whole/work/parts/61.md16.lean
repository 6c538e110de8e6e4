-- behind: 60
section T
variable (Γ : cG) {σ : cAS} {m : Nat} {I : Nat → Nat → Int32} {mm : mX} {T C : Nat}
theorem CX9_bakingKind (hm : shM σ m) (h : mdI I m mm) (hw : wf T C mm.s) (i : Int32) : Ctr Γ (3, 66, 0, 0) MX9_bakingKind [.ref m, .int i] (wI σ I) (mO σ I m (q_bakingKind mm i)) := by
  have hlen := h.1.2.1.2.1
  refine Ctr.go rfl (by decide) rfl rfl ?_
  refine WP.aload_n (pc := 0) dX9_bakingKind_0 rfl ?_
  refine WP.iload_n (pc := 1) dX9_bakingKind_1 rfl ?_
  refine WP.cVp (pc := 2) (mc2 := 0) (ms2 := 0) (ci := 9) kX9_323 (CX9_noBaker Γ hm h i) (by decide) rfl hm.t0 rfl ⟨Nat.le_of_ble_eq_true rfl, Nat.le_of_ble_eq_true rfl⟩ (Nat.le_of_ble_eq_true rfl) (Nat.le_of_ble_eq_true rfl) (Nat.le_of_ble_eq_true rfl) rfl dX9_bakingKind_2 (fun v I1 ⟨hv, f1, g1⟩ => ?_)
  rw [hv]
  have h1 := h.j f1
  unfold q_bakingKind
  by_cases hb : ixB i mm.s.2.1.length
  · rw [if_pos hb] at g1 ⊢
    rw [decide_eq_true hb]
    refine WP.if_eq (pc := 5) (tgt := 12) dX9_bakingKind_5 (by decide) (fun h2 => ?_) (fun h2 => ?_)
    · exact absurd h2 (by decide)
    · refine WP.iconst (pc := 8) (v := 0) dX9_bakingKind_8 (by decide) ?_
      refine WP.goto (pc := 9) (tgt := 41) dX9_bakingKind_9 (by decide) ?_
      refine WP.iret (pc := 41) rfl dX9_bakingKind_41 ?_
      exact mO.err (by decide) g1 h1 f1.T
  · rw [if_neg hb] at g1 ⊢
    rw [decide_eq_false hb]
    obtain ⟨j, rfl, hj⟩ := ixN hb (by omega)
    have hg := gD_of (l := mm.s.2.1) dB hj
    rw [nI_clamp (by omega)]
    refine WP.if_eq (pc := 5) (tgt := 12) dX9_bakingKind_5 (by decide) (fun h2 => ?_) (fun h2 => ?_)
    · obtain ⟨c0, c1, c2, c3, c4, c5⟩ := h1.1.2.1.2.2.1 j _ hg
      have ho := hw.2.1.2 _ (List.mem_of_getElem? hg)
      generalize mm.s.2.1.getD j dB = e at *
      refine WP.aload_n (pc := 12) dX9_bakingKind_12 rfl ?_
      refine WP.gR (pc := 13) uX9 fX9_7 hm.t0 hm.r0_0 dX9_bakingKind_13 ?_
      refine WP.iload_n (pc := 16) dX9_bakingKind_16 rfl ?_
      refine WP.cS1 (pc := 17) (mc2 := 0) (ms2 := 0) kX9_100 (CX9_ofBaker Γ j) rfl ⟨Nat.le_of_ble_eq_true rfl, Nat.le_of_ble_eq_true rfl⟩ (Nat.le_of_ble_eq_true rfl) (Nat.le_of_ble_eq_true rfl) (Nat.le_of_ble_eq_true rfl) rfl dX9_bakingKind_17 ?_
      refine WP.iconst (pc := 20) (v := 4) dX9_bakingKind_20 (by decide) ?_
      refine WP.iaN (pc := 21) (b := 4) dX9_bakingKind_21 ?_
      refine WP.ialdv (pc := 22) hm.t1 (by omega) (by decide) (v := (e.2.2.2.2.1)) (c4) dX9_bakingKind_22 ?_
      refine WP.if_le (pc := 23) (tgt := 40) dX9_bakingKind_23 (by decide) (fun h3 => ?_) (fun h3 => ?_)
      · have hk : e.2.2.2.1 = -1 := by
          rcases ho.2.2.2 with q | q
          · exact q.1
          · obtain ⟨v, hv, v1, v2⟩ := q.2
            rw [hv] at h3
            exact absurd h3 (nI_nle (by omega) (by omega))
        refine WP.iconst (pc := 40) (v := (-1)) dX9_bakingKind_40 (by decide) ?_
        refine WP.iret (pc := 41) rfl dX9_bakingKind_41 ?_
        exact mO.ok g1 hk.symm h1 f1.T
      · have hk : e.2.2.2.1 ≠ -1 := fun q => by
          rcases ho.2.2.2 with q' | q'
          · rw [q'.2] at h3
            exact h3 (Int32.le_refl _)
          · exact q'.1.ne (by decide) q
        refine WP.aload_n (pc := 26) dX9_bakingKind_26 rfl ?_
        refine WP.gR (pc := 27) uX9 fX9_7 hm.t0 hm.r0_0 dX9_bakingKind_27 ?_
        refine WP.iload_n (pc := 30) dX9_bakingKind_30 rfl ?_
        refine WP.cS1 (pc := 31) (mc2 := 0) (ms2 := 0) kX9_100 (CX9_ofBaker Γ j) rfl ⟨Nat.le_of_ble_eq_true rfl, Nat.le_of_ble_eq_true rfl⟩ (Nat.le_of_ble_eq_true rfl) (Nat.le_of_ble_eq_true rfl) (Nat.le_of_ble_eq_true rfl) rfl dX9_bakingKind_31 ?_
        refine WP.iconst (pc := 34) (v := 3) dX9_bakingKind_34 (by decide) ?_
        refine WP.iaN (pc := 35) (b := 3) dX9_bakingKind_35 ?_
        refine WP.ialdv (pc := 36) hm.t1 (by omega) (by decide) (v := (e.2.2.2.1)) (c3 hk) dX9_bakingKind_36 ?_
        refine WP.goto (pc := 37) (tgt := 41) dX9_bakingKind_37 (by decide) ?_
        refine WP.iret (pc := 41) rfl dX9_bakingKind_41 ?_
        exact mO.ok g1 rfl h1 f1.T
    · exact absurd rfl h2
def cuF (e : mCu) (w : Nat) : Int32 := match w with
  | 0 => nI e.1
  | 1 => e.2.2.1
  | 2 => e.2.2.2.1
  | 3 => e.2.2.2.2.1
  | 4 => e.2.2.2.2.2.1
  | 5 => e.2.2.2.2.2.2
  | _ => e.2.1
theorem gC.at {g : Nat → Int32} {i : Nat} {e : mCu} (h : gC g i e) {w : Nat} (hw : w ≤ 6) : g (40 + 7 * i + w) = cuF e w := by
  obtain ⟨c0, c1, c2, c3, c4, c5, c6⟩ := h
  rcases (by omega : w = 0 ∨ w = 1 ∨ w = 2 ∨ w = 3 ∨ w = 4 ∨ w = 5 ∨ w = 6) with rfl | rfl | rfl | rfl | rfl | rfl | rfl <;> assumption
theorem CX9_ofIt (hm : shM σ m) (h : mdI I m mm) (i : Int32) {w : Nat} (hw : w ≤ 6) : Ctr Γ (3, 66, 0, 0) MX9_ofIt [.ref m, .int i, .int (nI w)] (wI σ I) (mO σ I m (if ixB i mm.s.2.2.2.1.length then (1, 0, mm) else (0, cuF (mm.s.2.2.2.1.getD i.toNatClampNeg dC) w, mm))) := by
  have hlen := h.1.2.2.2.1.2.1
  refine Ctr.go rfl (by decide) rfl rfl ?_
  refine WP.aload_n (pc := 0) dX9_ofIt_0 rfl ?_
  refine WP.iload_n (pc := 1) dX9_ofIt_1 rfl ?_
  refine WP.cVp (pc := 2) (mc2 := 0) (ms2 := 0) (ci := 9) kX9_332 (CX9_noCustomer Γ hm h i) (by decide) rfl hm.t0 rfl ⟨Nat.le_of_ble_eq_true rfl, Nat.le_of_ble_eq_true rfl⟩ (Nat.le_of_ble_eq_true rfl) (Nat.le_of_ble_eq_true rfl) (Nat.le_of_ble_eq_true rfl) rfl dX9_ofIt_2 (fun v I1 ⟨hv, f1, g1⟩ => ?_)
  rw [hv]
  have h1 := h.j f1
  by_cases hb : ixB i mm.s.2.2.2.1.length
  · rw [if_pos hb] at g1 ⊢
    rw [decide_eq_true hb]
    refine WP.if_eq (pc := 5) (tgt := 12) dX9_ofIt_5 (by decide) (fun h2 => ?_) (fun h2 => ?_)
    · exact absurd h2 (by decide)
    · refine WP.iconst (pc := 8) (v := 0) dX9_ofIt_8 (by decide) ?_
      refine WP.goto (pc := 9) (tgt := 23) dX9_ofIt_9 (by decide) ?_
      refine WP.iret (pc := 23) rfl dX9_ofIt_23 ?_
      exact mO.err (by decide) g1 h1 f1.T
  · rw [if_neg hb] at g1 ⊢
    rw [decide_eq_false hb]
    obtain ⟨j, rfl, hj⟩ := ixN hb (by omega)
    have hg := gD_of (l := mm.s.2.2.2.1) dC hj
    rw [nI_clamp (by omega)]
    refine WP.if_eq (pc := 5) (tgt := 12) dX9_ofIt_5 (by decide) (fun h2 => ?_) (fun h2 => ?_)
    · have hc := (h1.1.2.2.2.1.2.2 j _ hg).at hw
      refine WP.aload_n (pc := 12) dX9_ofIt_12 rfl ?_
      refine WP.gR (pc := 13) uX9 fX9_7 hm.t0 hm.r0_0 dX9_ofIt_13 ?_
      refine WP.iload_n (pc := 16) dX9_ofIt_16 rfl ?_
      refine WP.cS1 (pc := 17) (mc2 := 0) (ms2 := 0) kX9_111 (CX9_ofCustomer Γ j) rfl ⟨Nat.le_of_ble_eq_true rfl, Nat.le_of_ble_eq_true rfl⟩ (Nat.le_of_ble_eq_true rfl) (Nat.le_of_ble_eq_true rfl) (Nat.le_of_ble_eq_true rfl) rfl dX9_ofIt_17 ?_
      refine WP.iload_n (pc := 20) dX9_ofIt_20 rfl ?_
      refine WP.iaN (pc := 21) dX9_ofIt_21 ?_
      refine WP.ialdv (pc := 22) hm.t1 (by omega) (by decide) (v := (_)) (hc) dX9_ofIt_22 ?_
      refine WP.iret (pc := 23) rfl dX9_ofIt_23 ?_
      exact mO.ok g1 rfl h1 f1.T
    · exact absurd rfl h2
theorem CX9_ticketOf (hm : shM σ m) (h : mdI I m mm) (i : Int32) : Ctr Γ (4, 88, 0, 0) MX9_ticketOf [.ref m, .int i] (wI σ I) (mO σ I m (q_ticketOf mm i)) := by
  refine Ctr.go rfl (by decide) rfl rfl ?_
  refine WP.aload_n (pc := 0) dX9_ticketOf_0 rfl ?_
  refine WP.iload_n (pc := 1) dX9_ticketOf_1 rfl ?_
  refine WP.bipush (pc := 2) (v := 6) dX9_ticketOf_2 (by decide) ?_
  refine WP.cVp (pc := 4) (mc2 := 0) (ms2 := 0) (ci := 9) kX9_335 (CX9_ofIt Γ hm h i (w := 6) (by omega)) (by decide) rfl hm.t0 rfl ⟨Nat.le_of_ble_eq_true rfl, Nat.le_of_ble_eq_true rfl⟩ (Nat.le_of_ble_eq_true rfl) (Nat.le_of_ble_eq_true rfl) (Nat.le_of_ble_eq_true rfl) rfl dX9_ticketOf_4 (fun v I1 ⟨a1, a2, a3, a4⟩ => ?_)
  refine WP.iret (pc := 7) rfl dX9_ticketOf_7 ?_
  exact ⟨_, I1, rfl, rfl, a1, a2, a3, a4⟩
theorem CX9_kindWanted (hm : shM σ m) (h : mdI I m mm) (i : Int32) : Ctr Γ (4, 88, 0, 0) MX9_kindWanted [.ref m, .int i] (wI σ I) (mO σ I m (q_kindWanted mm i)) := by
  refine Ctr.go rfl (by decide) rfl rfl ?_
  refine WP.aload_n (pc := 0) dX9_kindWanted_0 rfl ?_
  refine WP.iload_n (pc := 1) dX9_kindWanted_1 rfl ?_
  refine WP.iconst (pc := 2) (v := 1) dX9_kindWanted_2 (by decide) ?_
  refine WP.cVp (pc := 3) (mc2 := 0) (ms2 := 0) (ci := 9) kX9_335 (CX9_ofIt Γ hm h i (w := 1) (by omega)) (by decide) rfl hm.t0 rfl ⟨Nat.le_of_ble_eq_true rfl, Nat.le_of_ble_eq_true rfl⟩ (Nat.le_of_ble_eq_true rfl) (Nat.le_of_ble_eq_true rfl) (Nat.le_of_ble_eq_true rfl) rfl dX9_kindWanted_3 (fun v I1 ⟨a1, a2, a3, a4⟩ => ?_)
  refine WP.iret (pc := 6) rfl dX9_kindWanted_6 ?_
  exact ⟨_, I1, rfl, rfl, a1, a2, a3, a4⟩
theorem CX9_wanted (hm : shM σ m) (h : mdI I m mm) (i : Int32) : Ctr Γ (4, 88, 0, 0) MX9_wanted [.ref m, .int i] (wI σ I) (mO σ I m (q_wanted mm i)) := by
  refine Ctr.go rfl (by decide) rfl rfl ?_
  refine WP.aload_n (pc := 0) dX9_wanted_0 rfl ?_
  refine WP.iload_n (pc := 1) dX9_wanted_1 rfl ?_
  refine WP.iconst (pc := 2) (v := 2) dX9_wanted_2 (by decide) ?_
  refine WP.cVp (pc := 3) (mc2 := 0) (ms2 := 0) (ci := 9) kX9_335 (CX9_ofIt Γ hm h i (w := 2) (by omega)) (by decide) rfl hm.t0 rfl ⟨Nat.le_of_ble_eq_true rfl, Nat.le_of_ble_eq_true rfl⟩ (Nat.le_of_ble_eq_true rfl) (Nat.le_of_ble_eq_true rfl) (Nat.le_of_ble_eq_true rfl) rfl dX9_wanted_3 (fun v I1 ⟨a1, a2, a3, a4⟩ => ?_)
  refine WP.iret (pc := 6) rfl dX9_wanted_6 ?_
  exact ⟨_, I1, rfl, rfl, a1, a2, a3, a4⟩
theorem CX9_limitPrice (hm : shM σ m) (h : mdI I m mm) (i : Int32) : Ctr Γ (4, 88, 0, 0) MX9_limitPrice [.ref m, .int i] (wI σ I) (mO σ I m (q_limitPrice mm i)) := by
  refine Ctr.go rfl (by decide) rfl rfl ?_
  refine WP.aload_n (pc := 0) dX9_limitPrice_0 rfl ?_
  refine WP.iload_n (pc := 1) dX9_limitPrice_1 rfl ?_
  refine WP.iconst (pc := 2) (v := 3) dX9_limitPrice_2 (by decide) ?_
  refine WP.cVp (pc := 3) (mc2 := 0) (ms2 := 0) (ci := 9) kX9_335 (CX9_ofIt Γ hm h i (w := 3) (by omega)) (by decide) rfl hm.t0 rfl ⟨Nat.le_of_ble_eq_true rfl, Nat.le_of_ble_eq_true rfl⟩ (Nat.le_of_ble_eq_true rfl) (Nat.le_of_ble_eq_true rfl) (Nat.le_of_ble_eq_true rfl) rfl dX9_limitPrice_3 (fun v I1 ⟨a1, a2, a3, a4⟩ => ?_)
  refine WP.iret (pc := 6) rfl dX9_limitPrice_6 ?_
  exact ⟨_, I1, rfl, rfl, a1, a2, a3, a4⟩
theorem CX9_purse (hm : shM σ m) (h : mdI I m mm) (i : Int32) : Ctr Γ (4, 88, 0, 0) MX9_purse [.ref m, .int i] (wI σ I) (mO σ I m (q_purse mm i)) := by
  refine Ctr.go rfl (by decide) rfl rfl ?_
  refine WP.aload_n (pc := 0) dX9_purse_0 rfl ?_
  refine WP.iload_n (pc := 1) dX9_purse_1 rfl ?_
  refine WP.iconst (pc := 2) (v := 4) dX9_purse_2 (by decide) ?_
  refine WP.cVp (pc := 3) (mc2 := 0) (ms2 := 0) (ci := 9) kX9_335 (CX9_ofIt Γ hm h i (w := 4) (by omega)) (by decide) rfl hm.t0 rfl ⟨Nat.le_of_ble_eq_true rfl, Nat.le_of_ble_eq_true rfl⟩ (Nat.le_of_ble_eq_true rfl) (Nat.le_of_ble_eq_true rfl) (Nat.le_of_ble_eq_true rfl) rfl dX9_purse_3 (fun v I1 ⟨a1, a2, a3, a4⟩ => ?_)
  refine WP.iret (pc := 6) rfl dX9_purse_6 ?_
  exact ⟨_, I1, rfl, rfl, a1, a2, a3, a4⟩
theorem CX9_patience (hm : shM σ m) (h : mdI I m mm) (i : Int32) : Ctr Γ (4, 88, 0, 0) MX9_patience [.ref m, .int i] (wI σ I) (mO σ I m (q_patience mm i)) := by
  refine Ctr.go rfl (by decide) rfl rfl ?_
  refine WP.aload_n (pc := 0) dX9_patience_0 rfl ?_
  refine WP.iload_n (pc := 1) dX9_patience_1 rfl ?_
  refine WP.iconst (pc := 2) (v := 5) dX9_patience_2 (by decide) ?_
  refine WP.cVp (pc := 3) (mc2 := 0) (ms2 := 0) (ci := 9) kX9_335 (CX9_ofIt Γ hm h i (w := 5) (by omega)) (by decide) rfl hm.t0 rfl ⟨Nat.le_of_ble_eq_true rfl, Nat.le_of_ble_eq_true rfl⟩ (Nat.le_of_ble_eq_true rfl) (Nat.le_of_ble_eq_true rfl) (Nat.le_of_ble_eq_true rfl) rfl dX9_patience_3 (fun v I1 ⟨a1, a2, a3, a4⟩ => ?_)
  refine WP.iret (pc := 6) rfl dX9_patience_6 ?_
  exact ⟨_, I1, rfl, rfl, a1, a2, a3, a4⟩
theorem CX9_loafAge (hm : shM σ m) (h : mdI I m mm) (i : Int32) : Ctr Γ (3, 66, 0, 0) MX9_loafAge [.ref m, .int i] (wI σ I) (mO σ I m (q_loafAge mm i)) := by
  have hlen := h.1.2.2.1.2.1
  refine Ctr.go rfl (by decide) rfl rfl ?_
  refine WP.aload_n (pc := 0) dX9_loafAge_0 rfl ?_
  refine WP.iload_n (pc := 1) dX9_loafAge_1 rfl ?_
  refine WP.cVp (pc := 2) (mc2 := 0) (ms2 := 0) (ci := 9) kX9_338 (CX9_noLoaf Γ hm h i) (by decide) rfl hm.t0 rfl ⟨Nat.le_of_ble_eq_true rfl, Nat.le_of_ble_eq_true rfl⟩ (Nat.le_of_ble_eq_true rfl) (Nat.le_of_ble_eq_true rfl) (Nat.le_of_ble_eq_true rfl) rfl dX9_loafAge_2 (fun v I1 ⟨hv, f1, g1⟩ => ?_)
  rw [hv]
  have h1 := h.j f1
  unfold q_loafAge
  by_cases hb : ixB i mm.s.2.2.1.length
  · rw [if_pos hb] at g1 ⊢
    rw [decide_eq_true hb]
    refine WP.if_eq (pc := 5) (tgt := 12) dX9_loafAge_5 (by decide) (fun h2 => ?_) (fun h2 => ?_)
    · exact absurd h2 (by decide)
    · refine WP.iconst (pc := 8) (v := 0) dX9_loafAge_8 (by decide) ?_
      refine WP.goto (pc := 9) (tgt := 20) dX9_loafAge_9 (by decide) ?_
      refine WP.iret (pc := 20) rfl dX9_loafAge_20 ?_
      exact mO.err (by decide) g1 h1 f1.T
  · rw [if_neg hb] at g1 ⊢
    rw [decide_eq_false hb]
    obtain ⟨j, rfl, hj⟩ := ixN hb (by omega)
    have hg := gD_of (l := mm.s.2.2.1) dL hj
    rw [nI_clamp (by omega)]
    refine WP.if_eq (pc := 5) (tgt := 12) dX9_loafAge_5 (by decide) (fun h2 => ?_) (fun h2 => ?_)
    · obtain ⟨c0, c1, c2⟩ := h1.1.2.2.1.2.2 j _ hg
      refine WP.aload_n (pc := 12) dX9_loafAge_12 rfl ?_
      refine WP.gR (pc := 13) uX9 fX9_7 hm.t0 hm.r0_0 dX9_loafAge_13 ?_
      refine WP.iload_n (pc := 16) dX9_loafAge_16 rfl ?_
      refine WP.cS1 (pc := 17) (mc2 := 0) (ms2 := 0) kX9_92 (CX9_ageOf Γ hm.t1 (i := j) (by omega)) rfl ⟨Nat.le_of_ble_eq_true rfl, Nat.le_of_ble_eq_true rfl⟩ (Nat.le_of_ble_eq_true rfl) (Nat.le_of_ble_eq_true rfl) (Nat.le_of_ble_eq_true rfl) rfl dX9_loafAge_17 ?_
      refine WP.iret (pc := 20) rfl dX9_loafAge_20 ?_
      exact mO.ok g1 (by rw [c2, ← h1.1.1 3 (by omega)]; rfl) h1 f1.T
    · exact absurd rfl h2
theorem CX9_reservePrice (hm : shM σ m) (h : mdI I m mm) (hw : wf T C mm.s) (i : Int32) : Ctr Γ (3, 66, 0, 0) MX9_reservePrice [.ref m, .int i] (wI σ I) (mO σ I m (q_reservePrice mm i)) := by
  have hlen := h.1.2.2.1.2.1
  refine Ctr.go rfl (by decide) rfl rfl ?_
  refine WP.aload_n (pc := 0) dX9_reservePrice_0 rfl ?_
  refine WP.iload_n (pc := 1) dX9_reservePrice_1 rfl ?_
  refine WP.cVp (pc := 2) (mc2 := 0) (ms2 := 0) (ci := 9) kX9_338 (CX9_noLoaf Γ hm h i) (by decide) rfl hm.t0 rfl ⟨Nat.le_of_ble_eq_true rfl, Nat.le_of_ble_eq_true rfl⟩ (Nat.le_of_ble_eq_true rfl) (Nat.le_of_ble_eq_true rfl) (Nat.le_of_ble_eq_true rfl) rfl dX9_reservePrice_2 (fun v I1 ⟨hv, f1, g1⟩ => ?_)
  rw [hv]
  have h1 := h.j f1
  unfold q_reservePrice
  by_cases hb : ixB i mm.s.2.2.1.length
  · rw [if_pos hb] at g1 ⊢
    rw [decide_eq_true hb]
    refine WP.if_eq (pc := 5) (tgt := 12) dX9_reservePrice_5 (by decide) (fun h2 => ?_) (fun h2 => ?_)
    · exact absurd h2 (by decide)
    · refine WP.iconst (pc := 8) (v := 0) dX9_reservePrice_8 (by decide) ?_
      refine WP.goto (pc := 9) (tgt := 20) dX9_reservePrice_9 (by decide) ?_
      refine WP.iret (pc := 20) rfl dX9_reservePrice_20 ?_
      exact mO.err (by decide) g1 h1 f1.T
  · rw [if_neg hb] at g1 ⊢
    rw [decide_eq_false hb]
    obtain ⟨j, rfl, hj⟩ := ixN hb (by omega)
    have hg := gD_of (l := mm.s.2.2.1) dL hj
    rw [nI_clamp (by omega)]
    refine WP.if_eq (pc := 5) (tgt := 12) dX9_reservePrice_5 (by decide) (fun h2 => ?_) (fun h2 => ?_)
    · refine WP.aload_n (pc := 12) dX9_reservePrice_12 rfl ?_
      refine WP.gR (pc := 13) uX9 fX9_7 hm.t0 hm.r0_0 dX9_reservePrice_13 ?_
      refine WP.iload_n (pc := 16) dX9_reservePrice_16 rfl ?_
      refine WP.cS1 (pc := 17) (mc2 := 0) (ms2 := 0) kX9_123 (CX9_reserve Γ hm.t1 h1.1 hg (rsOk.of hw.1 (by decide) (hw.2.2.2.1.1 _ (List.mem_of_getElem? hg)))) rfl ⟨Nat.le_of_ble_eq_true rfl, Nat.le_of_ble_eq_true rfl⟩ (Nat.le_of_ble_eq_true rfl) (Nat.le_of_ble_eq_true rfl) (Nat.le_of_ble_eq_true rfl) rfl dX9_reservePrice_17 ?_
      refine WP.iret (pc := 20) rfl dX9_reservePrice_20 ?_
      exact mO.ok g1 rfl h1 f1.T
    · exact absurd rfl h2
theorem bs_at {z g : Nat → Int32} (h : gZ g z) {k : Nat} (hk : k < 3) : g (13 + k) = bsO z (nI k) := by
  have e : bsO z (nI k) = z k := by
    unfold bsO
    rw [if_pos ⟨nI_pos' (by omega), nI_lt (b := 3) (by omega) (by decide)⟩, nI_clamp (by omega)]
  rw [e, ← h k (by omega)]
  rcases (by omega : k = 0 ∨ k = 1 ∨ k = 2) with rfl | rfl | rfl <;> rfl
theorem CX9_basePrice (hm : shM σ m) (h : mdI I m mm) (k : Int32) : Ctr Γ (3, 66, 0, 0) MX9_basePrice [.ref m, .int k] (wI σ I) (mO σ I m (q_basePrice mm k)) := by
  refine Ctr.go rfl (by decide) rfl rfl ?_
  refine WP.aload_n (pc := 0) dX9_basePrice_0 rfl ?_
  refine WP.iload_n (pc := 1) dX9_basePrice_1 rfl ?_
  refine WP.cVp (pc := 2) (mc2 := 0) (ms2 := 0) (ci := 9) kX9_329 (CX9_noKind Γ hm k) (by decide) rfl hm.t0 rfl ⟨Nat.le_of_ble_eq_true rfl, Nat.le_of_ble_eq_true rfl⟩ (Nat.le_of_ble_eq_true rfl) (Nat.le_of_ble_eq_true rfl) (Nat.le_of_ble_eq_true rfl) rfl dX9_basePrice_2 (fun v I1 ⟨hv, f1, g1⟩ => ?_)
  rw [hv]
  have h1 := h.j f1
  unfold q_basePrice
  by_cases hb : ixB k 3
  · rw [if_pos hb] at g1 ⊢
    rw [decide_eq_true hb]
    refine WP.if_eq (pc := 5) (tgt := 12) dX9_basePrice_5 (by decide) (fun h2 => ?_) (fun h2 => ?_)
    · exact absurd h2 (by decide)
    · refine WP.iconst (pc := 8) (v := 0) dX9_basePrice_8 (by decide) ?_
      refine WP.goto (pc := 9) (tgt := 21) dX9_basePrice_9 (by decide) ?_
      refine WP.iret (pc := 21) rfl dX9_basePrice_21 ?_
      exact mO.err (by decide) g1 h1 f1.T
  · rw [if_neg hb] at g1 ⊢
    rw [decide_eq_false hb]
    obtain ⟨j, rfl, hj⟩ := ixN hb (by omega)
    refine WP.if_eq (pc := 5) (tgt := 12) dX9_basePrice_5 (by decide) (fun h2 => ?_) (fun h2 => ?_)
    · refine WP.aload_n (pc := 12) dX9_basePrice_12 rfl ?_
      refine WP.gR (pc := 13) uX9 fX9_7 hm.t0 hm.r0_0 dX9_basePrice_13 ?_
      refine WP.bipush (pc := 16) (v := 13) dX9_basePrice_16 (by decide) ?_
      refine WP.iload_n (pc := 18) dX9_basePrice_18 rfl ?_
      refine WP.iaN (pc := 19) (a := 13) dX9_basePrice_19 ?_
      refine WP.ialdv (pc := 20) hm.t1 (by omega) (by decide) (v := bsO mm.s.1 (nI j)) (bs_at h1.1.1 hj) dX9_basePrice_20 ?_
      refine WP.iret (pc := 21) rfl dX9_basePrice_21 ?_
      exact mO.ok g1 rfl h1 f1.T
    · exact absurd rfl h2
theorem out_ix {p : Int32} {n : Nat} (hn : n ≤ 1000) : (decide (0 ≤ p) && decide (p ≤ nI n - 1)) = true ↔ ¬ ixB p n := by
  rw [btw_ix hn]
  by_cases q : ixB p n
  · rw [decide_eq_true q]
    exact ⟨fun z => absurd z (by decide), fun z => absurd q z⟩
  · rw [decide_eq_false q]
    exact ⟨fun _ => q, fun _ => rfl⟩
theorem btw_lt {p lo hi : Int32} : (decide (lo ≤ p) && decide (p ≤ hi)) = true ↔ ¬ (p < lo ∨ hi < p) := by
  rw [Bool.and_eq_true, decide_eq_true_eq, decide_eq_true_eq, not_or, Int32.not_lt, Int32.not_lt]
theorem CX9_reserveAt (hm : shM σ m) (h : mdI I m mm) (hw : wf T C mm.s) (k a : Int32) : Ctr Γ (3, 66, 0, 0) MX9_reserveAt [.ref m, .int k, .int a] (wI σ I) (mO σ I m (q_reserveAt mm k a)) := by
  refine Ctr.go rfl (by decide) rfl rfl ?_
  refine WP.aload_n (pc := 0) dX9_reserveAt_0 rfl ?_
  refine WP.iload_n (pc := 1) dX9_reserveAt_1 rfl ?_
  refine WP.cVp (pc := 2) (mc2 := 0) (ms2 := 0) (ci := 9) kX9_329 (CX9_noKind Γ hm k) (by decide) rfl hm.t0 rfl ⟨Nat.le_of_ble_eq_true rfl, Nat.le_of_ble_eq_true rfl⟩ (Nat.le_of_ble_eq_true rfl) (Nat.le_of_ble_eq_true rfl) (Nat.le_of_ble_eq_true rfl) rfl dX9_reserveAt_2 (fun v I1 ⟨hv, f1, g1⟩ => ?_)
  rw [hv]
  have h1 := h.j f1
  unfold q_reserveAt
  by_cases hb : ixB k 3
  · rw [if_pos hb] at g1 ⊢
    rw [decide_eq_true hb]
    refine WP.if_ne (pc := 5) (tgt := 20) dX9_reserveAt_5 (by decide) (fun h2 => ?_) (fun h2 => ?_)
    · refine WP.iconst (pc := 20) (v := 0) dX9_reserveAt_20 (by decide) ?_
      refine WP.goto (pc := 21) (tgt := 33) dX9_reserveAt_21 (by decide) ?_
      refine WP.iret (pc := 33) rfl dX9_reserveAt_33 ?_
      exact mO.err (by decide) g1 h1 f1.T
    · exact absurd h2 (by decide)
  · rw [if_neg hb] at g1 ⊢
    rw [decide_eq_false hb]
    obtain ⟨j, rfl, hj⟩ := ixN hb (by omega)
    refine WP.if_ne (pc := 5) (tgt := 20) dX9_reserveAt_5 (by decide) (fun h2 => ?_) (fun h2 => ?_)
    · exact absurd rfl h2
    · refine WP.aload_n (pc := 8) dX9_reserveAt_8 rfl ?_
      refine WP.iload_n (pc := 9) dX9_reserveAt_9 rfl ?_
      refine WP.iconst (pc := 10) (v := 0) dX9_reserveAt_10 (by decide) ?_
      refine WP.sipush (pc := 11) (v := 999) dX9_reserveAt_11 (by decide) ?_
      refine WP.cVp (pc := 14) (mc2 := 0) (ms2 := 0) (ci := 9) kX9_320 (CX9_out Γ hm a 0 999 (by rw [g1]; rfl)) (by decide) rfl hm.t0 rfl ⟨Nat.le_of_ble_eq_true rfl, Nat.le_of_ble_eq_true rfl⟩ (Nat.le_of_ble_eq_true rfl) (Nat.le_of_ble_eq_true rfl) (Nat.le_of_ble_eq_true rfl) rfl dX9_reserveAt_14 (fun v I2 ⟨hv2, f2, g2⟩ => ?_)
      rw [hv2]
      have h3 := h1.j f2
      by_cases hq : a < 0 ∨ 999 < a
      · have hq2 : ¬ (decide (0 ≤ a) && decide (a ≤ (999 : Int32))) = true := fun z => btw_lt.mp z hq
        rw [if_neg hq2] at g2
        rw [Bool.not_eq_true] at hq2
        rw [if_pos hq, hq2]
        refine WP.if_eq (pc := 17) (tgt := 24) dX9_reserveAt_17 (by decide) (fun h4 => ?_) (fun h4 => ?_)
        · exact absurd h4 (by decide)
        · refine WP.iconst (pc := 20) (v := 0) dX9_reserveAt_20 (by decide) ?_
          refine WP.goto (pc := 21) (tgt := 33) dX9_reserveAt_21 (by decide) ?_
          refine WP.iret (pc := 33) rfl dX9_reserveAt_33 ?_
          exact mO.err (by decide) g2 h3 (f1.trans f2).T
      · have hq2 := btw_lt.mpr hq
        rw [if_pos hq2] at g2
        rw [if_neg hq, hq2]
        obtain ⟨b, hb1, hb2, hb3⟩ := hw.1.1 j hj
        obtain ⟨g, hg, rfl⟩ := nI_of (x := a) (fun z => hq (Or.inl z))
        have hg9 : g ≤ 999 := Nat.not_lt.mp fun z => hq (Or.inr (nI_lt (a := 999) z hg))
        have hbs : bsO mm.s.1 (nI j) = nI b := by
          rw [← hb1]
          unfold bsO
          rw [if_pos ⟨nI_pos' (by omega), nI_lt (b := 3) (by omega) (by decide)⟩, nI_clamp (by omega)]
        refine WP.if_eq (pc := 17) (tgt := 24) dX9_reserveAt_17 (by decide) (fun h4 => ?_) (fun h4 => ?_)
        · refine WP.aload_n (pc := 24) dX9_reserveAt_24 rfl ?_
          refine WP.gR (pc := 25) uX9 fX9_7 hm.t0 hm.r0_0 dX9_reserveAt_25 ?_
          refine WP.iload_n (pc := 28) dX9_reserveAt_28 rfl ?_
          refine WP.iload_n (pc := 29) dX9_reserveAt_29 rfl ?_
          refine WP.cS1 (pc := 30) (mc2 := 0) (ms2 := 0) kX9_96 (CX9_reserveOf Γ hm.t1 hj hb3 (by omega) ((bs_at h3.1.1 hj).trans hbs)) rfl ⟨Nat.le_of_ble_eq_true rfl, Nat.le_of_ble_eq_true rfl⟩ (Nat.le_of_ble_eq_true rfl) (Nat.le_of_ble_eq_true rfl) (Nat.le_of_ble_eq_true rfl) rfl dX9_reserveAt_30 ?_
          refine WP.iret (pc := 33) rfl dX9_reserveAt_33 ?_
          exact mO.ok g2 (by rw [hbs, rsv_N hj hb3 (by omega)]) h3 (f1.trans f2).T
        · exact absurd rfl h4
theorem CX9_bakeRefusal (hm : shM σ m) (h : mdI I m mm) (hw : wf T C mm.s) (i k : Int32) : Ctr Γ (3, 66, 0, 0) MX9_bakeRefusal [.ref m, .int i, .int k] (wI σ I) (mO σ I m (q_bakeRefusal mm i k)) := by
  have hlen := h.1.2.1.2.1
  refine Ctr.go rfl (by decide) rfl rfl ?_
  refine WP.aload_n (pc := 0) dX9_bakeRefusal_0 rfl ?_
  refine WP.iload_n (pc := 1) dX9_bakeRefusal_1 rfl ?_
  refine WP.cVp (pc := 2) (mc2 := 0) (ms2 := 0) (ci := 9) kX9_323 (CX9_noBaker Γ hm h i) (by decide) rfl hm.t0 rfl ⟨Nat.le_of_ble_eq_true rfl, Nat.le_of_ble_eq_true rfl⟩ (Nat.le_of_ble_eq_true rfl) (Nat.le_of_ble_eq_true rfl) (Nat.le_of_ble_eq_true rfl) rfl dX9_bakeRefusal_2 (fun v I1 ⟨hv, f1, g1⟩ => ?_)
  rw [hv]
  have h1 := h.j f1
  unfold q_bakeRefusal
  by_cases hb : ixB i mm.s.2.1.length
  · rw [if_pos hb] at g1 ⊢
    rw [decide_eq_true hb]
    refine WP.if_ne (pc := 5) (tgt := 16) dX9_bakeRefusal_5 (by decide) (fun h2 => ?_) (fun h2 => ?_)
    · refine WP.iconst (pc := 16) (v := 0) dX9_bakeRefusal_16 (by decide) ?_
      refine WP.goto (pc := 17) (tgt := 28) dX9_bakeRefusal_17 (by decide) ?_
      refine WP.iret (pc := 28) rfl dX9_bakeRefusal_28 ?_
      exact mO.err (by decide) g1 h1 f1.T
    · exact absurd h2 (by decide)
  · rw [if_neg hb] at g1 ⊢
    rw [decide_eq_false hb]
    obtain ⟨j, rfl, hj⟩ := ixN hb (by omega)
    have hg := gD_of (l := mm.s.2.1) dB hj
    rw [nI_clamp (by omega)]
    refine WP.if_ne (pc := 5) (tgt := 16) dX9_bakeRefusal_5 (by decide) (fun h2 => ?_) (fun h2 => ?_)
    · exact absurd rfl h2
    · refine WP.aload_n (pc := 8) dX9_bakeRefusal_8 rfl ?_
      refine WP.iload_n (pc := 9) dX9_bakeRefusal_9 rfl ?_
      refine WP.cVp (pc := 10) (mc2 := 0) (ms2 := 0) (ci := 9) kX9_329 (CX9_noKind Γ hm k) (by decide) rfl hm.t0 rfl ⟨Nat.le_of_ble_eq_true rfl, Nat.le_of_ble_eq_true rfl⟩ (Nat.le_of_ble_eq_true rfl) (Nat.le_of_ble_eq_true rfl) (Nat.le_of_ble_eq_true rfl) rfl dX9_bakeRefusal_10 (fun v I2 ⟨hv2, f2, g2⟩ => ?_)
      rw [hv2]
      have h3 := h1.j f2
      by_cases hq : ixB k 3
      · rw [if_pos hq] at g2 ⊢
        rw [decide_eq_true hq]
        refine WP.if_eq (pc := 13) (tgt := 20) dX9_bakeRefusal_13 (by decide) (fun h4 => ?_) (fun h4 => ?_)
        · exact absurd h4 (by decide)
        · refine WP.iconst (pc := 16) (v := 0) dX9_bakeRefusal_16 (by decide) ?_
          refine WP.goto (pc := 17) (tgt := 28) dX9_bakeRefusal_17 (by decide) ?_
          refine WP.iret (pc := 28) rfl dX9_bakeRefusal_28 ?_
          exact mO.err (by decide) g2 h3 (f1.trans f2).T
      · rw [if_neg hq] at g2 ⊢
        rw [decide_eq_false hq]
        refine WP.if_eq (pc := 13) (tgt := 20) dX9_bakeRefusal_13 (by decide) (fun h4 => ?_) (fun h4 => ?_)
        · refine WP.aload_n (pc := 20) dX9_bakeRefusal_20 rfl ?_
          refine WP.gR (pc := 21) uX9 fX9_7 hm.t0 hm.r0_0 dX9_bakeRefusal_21 ?_
          refine WP.iload_n (pc := 24) dX9_bakeRefusal_24 rfl ?_
          refine WP.cS1 (pc := 25) (mc2 := 0) (ms2 := 0) kX9_254 (CX9_whyNotBake Γ hm.t1 h3.1 hw.2.1.2 hg) rfl ⟨Nat.le_of_ble_eq_true rfl, Nat.le_of_ble_eq_true rfl⟩ (Nat.le_of_ble_eq_true rfl) (Nat.le_of_ble_eq_true rfl) (Nat.le_of_ble_eq_true rfl) rfl dX9_bakeRefusal_25 ?_
          refine WP.iret (pc := 28) rfl dX9_bakeRefusal_28 ?_
          exact mO.ok g2 rfl h3 (f1.trans f2).T
        · exact absurd rfl h4
theorem LX9_cwt (hm : shM σ m) {J : Nat → Nat → Int32} (h : gCs (J (m + 1)) mm.s.2.2.2.1) {t : Int32} {Φ : cRes → cAS → Prop} : ∀ d i, i + d = mm.s.2.2.2.1.length → Φ (.inl (some (.int (fndI (fun i => (mm.s.2.2.2.1.getD i dC).2.1) t d i)))) (wI σ J) → WP Γ (1, 20, 0, 0) MX9_customerWithTicket Φ 7 [some (.ref m), some (.int t), some (.int (nI i))] [] (wI σ J) := by
  have h10 := h.2.1
  intro d
  induction d with
  | zero =>
    intro i hi H
    refine WP.iload_n (pc := 7) dX9_customerWithTicket_7 rfl ?_
    refine WP.aload_n (pc := 8) dX9_customerWithTicket_8 rfl ?_
    refine WP.gR (pc := 9) uX9 fX9_7 hm.t0 hm.r0_0 dX9_customerWithTicket_9 ?_
    refine WP.iconst (pc := 12) (v := 2) dX9_customerWithTicket_12 (by decide) ?_
    refine WP.ialdv (pc := 13) (k := 2) hm.t1 (by decide) (by decide) (v := (nI mm.s.2.2.2.1.length)) (h.1) dX9_customerWithTicket_13 ?_
    refine WP.icmp_ge (pc := 14) (tgt := 41) dX9_customerWithTicket_14 (by decide) (fun h1 => ?_) (fun h1 => ?_)
    · refine WP.iconst (pc := 41) (v := (-1)) dX9_customerWithTicket_41 (by decide) ?_
      refine WP.iret (pc := 42) rfl dX9_customerWithTicket_42 ?_
      exact H
    · exact absurd (by rw [show i = mm.s.2.2.2.1.length by omega]; exact Int32.le_refl _) h1
  | succ d ih =>
    intro i hi H
    have hg := gD_of (l := mm.s.2.2.2.1) dC (j := i) (by omega)
    obtain ⟨c0, c1, c2, c3, c4, c5, c6⟩ := h.2.2 i _ hg
    unfold fndI at H
    refine WP.iload_n (pc := 7) dX9_customerWithTicket_7 rfl ?_
    refine WP.aload_n (pc := 8) dX9_customerWithTicket_8 rfl ?_
    refine WP.gR (pc := 9) uX9 fX9_7 hm.t0 hm.r0_0 dX9_customerWithTicket_9 ?_
    refine WP.iconst (pc := 12) (v := 2) dX9_customerWithTicket_12 (by decide) ?_
    refine WP.ialdv (pc := 13) (k := 2) hm.t1 (by decide) (by decide) (v := (nI mm.s.2.2.2.1.length)) (h.1) dX9_customerWithTicket_13 ?_
    refine WP.icmp_ge (pc := 14) (tgt := 41) dX9_customerWithTicket_14 (by decide) (fun h1 => ?_) (fun h1 => ?_)
    · exact absurd h1 (nI_ge (by omega) (by omega))
    · refine WP.aload_n (pc := 17) dX9_customerWithTicket_17 rfl ?_
      refine WP.gR (pc := 18) uX9 fX9_7 hm.t0 hm.r0_0 dX9_customerWithTicket_18 ?_
      refine WP.iload_n (pc := 21) dX9_customerWithTicket_21 rfl ?_
      refine WP.cS1 (pc := 22) (mc2 := 0) (ms2 := 0) kX9_111 (CX9_ofCustomer Γ i) rfl ⟨Nat.le_of_ble_eq_true rfl, Nat.le_of_ble_eq_true rfl⟩ (Nat.le_of_ble_eq_true rfl) (Nat.le_of_ble_eq_true rfl) (Nat.le_of_ble_eq_true rfl) rfl dX9_customerWithTicket_22 ?_
      refine WP.bipush (pc := 25) (v := 6) dX9_customerWithTicket_25 (by decide) ?_
      refine WP.iaN (pc := 27) (b := 6) dX9_customerWithTicket_27 ?_
      refine WP.ialdv (pc := 28) hm.t1 (by omega) (by decide) (v := (_)) (c6) dX9_customerWithTicket_28 ?_
      refine WP.iload_n (pc := 29) dX9_customerWithTicket_29 rfl ?_
      refine WP.icmp_ne (pc := 30) (tgt := 35) dX9_customerWithTicket_30 (by decide) (fun h2 => ?_) (fun h2 => ?_)
      · rw [if_neg h2] at H
        refine WP.iinc (pc := 35) dX9_customerWithTicket_35 rfl (nI_1 _) (by decide) rfl ?_
        refine WP.goto (pc := 38) (tgt := 7) dX9_customerWithTicket_38 (by decide) ?_
        exact ih (i + 1) (by omega) H
      · rw [if_pos h2] at H
        refine WP.iload_n (pc := 33) dX9_customerWithTicket_33 rfl ?_
        refine WP.iret (pc := 34) rfl dX9_customerWithTicket_34 ?_
        exact H
theorem CX9_customerWithTicket (hm : shM σ m) (h : mdI I m mm) (t : Int32) : Ctr Γ (1, 20, 0, 0) MX9_customerWithTicket [.ref m, .int t] (wI σ I) (mO σ I m (q_customerWithTicket mm t)) := by
  refine Ctr.go rfl (by decide) rfl rfl ?_
  refine WP.aload_n (pc := 0) dX9_customerWithTicket_0 rfl ?_
  refine WP.iconst (pc := 1) (v := 0) dX9_customerWithTicket_1 (by decide) ?_
  refine WP.pI (pc := 2) uX9 fX9_75 rfl rfl hm.t0 dX9_customerWithTicket_2 ?_
  refine WP.iconst (pc := 5) (v := 0) dX9_customerWithTicket_5 (by decide) ?_
  refine WP.istore_n (pc := 6) dX9_customerWithTicket_6 (by decide) rfl ?_
  exact LX9_cwt Γ hm (mm := mm) (by rw [up_ne (by omega)]; exact h.1.2.2.2.1) mm.s.2.2.2.1.length 0 (by omega) (mO.ok (by simp [up_eq]) rfl (h.j fr_j.rf.u1) fr8)
theorem CX9_loafDifference (hm : shM σ m) (h : mdI I m mm) : Ctr Γ (0, 0, 0, 0) MX9_loafDifference [.ref m] (wI σ I) (mO σ I m (q_loafDifference mm)) := by
  refine Ctr.go rfl (by decide) rfl rfl ?_
  refine WP.aload_n (pc := 0) dX9_loafDifference_0 rfl ?_
  refine WP.iconst (pc := 1) (v := 0) dX9_loafDifference_1 (by decide) ?_
  refine WP.pI (pc := 2) uX9 fX9_75 rfl rfl hm.t0 dX9_loafDifference_2 ?_
  refine WP.aload_n (pc := 5) dX9_loafDifference_5 rfl ?_
  refine WP.gR (pc := 6) uX9 fX9_7 hm.t0 hm.r0_0 dX9_loafDifference_6 ?_
  refine WP.bipush (pc := 9) (v := 10) dX9_loafDifference_9 (by decide) ?_
  refine WP.ialdv (pc := 11) (k := 10) hm.t1 (by decide) (by decide) (v := (mm.s.1 6)) (by rw [up_ne (by omega)]; exact h.1.1 6 (by omega)) dX9_loafDifference_11 ?_
  refine WP.aload_n (pc := 12) dX9_loafDifference_12 rfl ?_
  refine WP.gR (pc := 13) uX9 fX9_7 hm.t0 hm.r0_0 dX9_loafDifference_13 ?_
  refine WP.bipush (pc := 16) (v := 11) dX9_loafDifference_16 (by decide) ?_
  refine WP.ialdv (pc := 18) (k := 11) hm.t1 (by decide) (by decide) (v := (mm.s.1 7)) (by rw [up_ne (by omega)]; exact h.1.1 7 (by omega)) dX9_loafDifference_18 ?_
  refine WP.isub (pc := 19) dX9_loafDifference_19 ?_
  refine WP.aload_n (pc := 20) dX9_loafDifference_20 rfl ?_
  refine WP.gR (pc := 21) uX9 fX9_7 hm.t0 hm.r0_0 dX9_loafDifference_21 ?_
  refine WP.bipush (pc := 24) (v := 12) dX9_loafDifference_24 (by decide) ?_
  refine WP.ialdv (pc := 26) (k := 12) hm.t1 (by decide) (by decide) (v := (mm.s.1 8)) (by rw [up_ne (by omega)]; exact h.1.1 8 (by omega)) dX9_loafDifference_26 ?_
  refine WP.isub (pc := 27) dX9_loafDifference_27 ?_
  refine WP.aload_n (pc := 28) dX9_loafDifference_28 rfl ?_
  refine WP.gR (pc := 29) uX9 fX9_7 hm.t0 hm.r0_0 dX9_loafDifference_29 ?_
  refine WP.iconst (pc := 32) (v := 3) dX9_loafDifference_32 (by decide) ?_
  refine WP.ialdv (pc := 33) (k := 3) hm.t1 (by decide) (by decide) (v := (nI mm.s.2.2.1.length)) (by rw [up_ne (by omega)]; exact h.1.2.2.1.1) dX9_loafDifference_33 ?_
  refine WP.isub (pc := 34) dX9_loafDifference_34 ?_
  refine WP.iret (pc := 35) rfl dX9_loafDifference_35 ?_
  exact mO.ok (by simp [up_eq]) rfl (h.j fr_j.rf.u1) fr8
theorem LX9_md23 (hm : shM σ m) {J : Nat → Nat → Int32} (h : gCs (J (m + 1)) mm.s.2.2.2.1) {A : Int32} {Φ : cRes → cAS → Prop} (H : WP Γ (1, 20, 0, 0) MX9_moneyDifference Φ 53 [some (.ref m), some (.int (A - smI (fun i => (mm.s.2.2.2.1.getD i dC).2.2.2.2.2.1) mm.s.2.2.2.1.length)), none] [] (wI σ J)) : ∀ d i, i + d = mm.s.2.2.2.1.length → WP Γ (1, 20, 0, 0) MX9_moneyDifference Φ 23 [some (.ref m), some (.int (A - smI (fun i => (mm.s.2.2.2.1.getD i dC).2.2.2.2.2.1) i)), some (.int (nI i))] [] (wI σ J) := by
  have h10 := h.2.1
  intro d
  induction d with
  | zero =>
    intro i hi
    have hil : i = mm.s.2.2.2.1.length := by omega
    refine WP.iload_n (pc := 23) dX9_moneyDifference_23 rfl ?_
    refine WP.aload_n (pc := 24) dX9_moneyDifference_24 rfl ?_
    refine WP.gR (pc := 25) uX9 fX9_7 hm.t0 hm.r0_0 dX9_moneyDifference_25 ?_
    refine WP.iconst (pc := 28) (v := 2) dX9_moneyDifference_28 (by decide) ?_
    refine WP.ialdv (pc := 29) (k := 2) hm.t1 (by decide) (by decide) (v := (nI mm.s.2.2.2.1.length)) (h.1) dX9_moneyDifference_29 ?_
    refine WP.icmp_ge (pc := 30) (tgt := 53) dX9_moneyDifference_30 (by decide) (fun h1 => ?_) (fun h1 => ?_)
    · refine WP.drop 2 ?_
      rw [hil]
      exact H
    · exact absurd (by rw [hil]; exact Int32.le_refl _) h1
  | succ d ih =>
    intro i hi
    have hg := gD_of (l := mm.s.2.2.2.1) dC (j := i) (by omega)
    obtain ⟨c0, c1, c2, c3, c4, c5, c6⟩ := h.2.2 i _ hg
    refine WP.iload_n (pc := 23) dX9_moneyDifference_23 rfl ?_
    refine WP.aload_n (pc := 24) dX9_moneyDifference_24 rfl ?_
    refine WP.gR (pc := 25) uX9 fX9_7 hm.t0 hm.r0_0 dX9_moneyDifference_25 ?_
    refine WP.iconst (pc := 28) (v := 2) dX9_moneyDifference_28 (by decide) ?_
    refine WP.ialdv (pc := 29) (k := 2) hm.t1 (by decide) (by decide) (v := (nI mm.s.2.2.2.1.length)) (h.1) dX9_moneyDifference_29 ?_
    refine WP.icmp_ge (pc := 30) (tgt := 53) dX9_moneyDifference_30 (by decide) (fun h1 => ?_) (fun h1 => ?_)
    · exact absurd h1 (nI_ge (by omega) (by omega))
    · refine WP.iload_n (pc := 33) dX9_moneyDifference_33 rfl ?_
      refine WP.aload_n (pc := 34) dX9_moneyDifference_34 rfl ?_
      refine WP.gR (pc := 35) uX9 fX9_7 hm.t0 hm.r0_0 dX9_moneyDifference_35 ?_
      refine WP.iload_n (pc := 38) dX9_moneyDifference_38 rfl ?_
      refine WP.cS1 (pc := 39) (mc2 := 0) (ms2 := 0) kX9_111 (CX9_ofCustomer Γ i) rfl ⟨Nat.le_of_ble_eq_true rfl, Nat.le_of_ble_eq_true rfl⟩ (Nat.le_of_ble_eq_true rfl) (Nat.le_of_ble_eq_true rfl) (Nat.le_of_ble_eq_true rfl) rfl dX9_moneyDifference_39 ?_
      refine WP.iconst (pc := 42) (v := 4) dX9_moneyDifference_42 (by decide) ?_
      refine WP.iaN (pc := 43) (b := 4) dX9_moneyDifference_43 ?_
      refine WP.ialdv (pc := 44) hm.t1 (by omega) (by decide) (v := (_)) (c4) dX9_moneyDifference_44 ?_
      refine WP.isub (pc := 45) dX9_moneyDifference_45 ?_
      have e : A - smI (fun i => (mm.s.2.2.2.1.getD i dC).2.2.2.2.2.1) i - (mm.s.2.2.2.1.getD i dC).2.2.2.2.2.1 = A - smI (fun i => (mm.s.2.2.2.1.getD i dC).2.2.2.2.2.1) (i + 1) := by
        show _ = A - (smI _ i + _)
        rw [Int32.sub_sub]
      rw [e]
      refine WP.istore_n (pc := 46) dX9_moneyDifference_46 (by decide) rfl ?_
      refine WP.iinc (pc := 47) dX9_moneyDifference_47 rfl (nI_1 _) (by decide) rfl ?_
      refine WP.goto (pc := 50) (tgt := 23) dX9_moneyDifference_50 (by decide) ?_
      exact ih (i + 1) (by omega)
theorem LX9_md55 (hm : shM σ m) {J : Nat → Nat → Int32} (h : gBs (J (m + 1)) mm.s.2.1) {A : Int32} {Φ : cRes → cAS → Prop} (H : Φ (.inl (some (.int (A - smI (fun i => (mm.s.2.1.getD i dB).2.2.2.2.2) mm.s.2.1.length)))) (wI σ J)) : ∀ d i, i + d = mm.s.2.1.length → WP Γ (1, 20, 0, 0) MX9_moneyDifference Φ 55 [some (.ref m), some (.int (A - smI (fun i => (mm.s.2.1.getD i dB).2.2.2.2.2) i)), some (.int (nI i))] [] (wI σ J) := by
  have h10 := h.2.1
  intro d
  induction d with
  | zero =>
    intro i hi
    have hil : i = mm.s.2.1.length := by omega
    refine WP.iload_n (pc := 55) dX9_moneyDifference_55 rfl ?_
    refine WP.aload_n (pc := 56) dX9_moneyDifference_56 rfl ?_
    refine WP.gR (pc := 57) uX9 fX9_7 hm.t0 hm.r0_0 dX9_moneyDifference_57 ?_
    refine WP.iconst (pc := 60) (v := 1) dX9_moneyDifference_60 (by decide) ?_
    refine WP.ialdv (pc := 61) (k := 1) hm.t1 (by decide) (by decide) (v := (nI mm.s.2.1.length)) (h.1) dX9_moneyDifference_61 ?_
    refine WP.icmp_ge (pc := 62) (tgt := 85) dX9_moneyDifference_62 (by decide) (fun h1 => ?_) (fun h1 => ?_)
    · refine WP.iload_n (pc := 85) dX9_moneyDifference_85 rfl ?_
      refine WP.iret (pc := 86) rfl dX9_moneyDifference_86 ?_
      rw [hil]
      exact H
    · exact absurd (by rw [hil]; exact Int32.le_refl _) h1
  | succ d ih =>
    intro i hi
    have hg := gD_of (l := mm.s.2.1) dB (j := i) (by omega)
    obtain ⟨c0, c1, c2, c3, c4, c5⟩ := h.2.2.1 i _ hg
    refine WP.iload_n (pc := 55) dX9_moneyDifference_55 rfl ?_
    refine WP.aload_n (pc := 56) dX9_moneyDifference_56 rfl ?_
    refine WP.gR (pc := 57) uX9 fX9_7 hm.t0 hm.r0_0 dX9_moneyDifference_57 ?_
    refine WP.iconst (pc := 60) (v := 1) dX9_moneyDifference_60 (by decide) ?_
    refine WP.ialdv (pc := 61) (k := 1) hm.t1 (by decide) (by decide) (v := (nI mm.s.2.1.length)) (h.1) dX9_moneyDifference_61 ?_
    refine WP.icmp_ge (pc := 62) (tgt := 85) dX9_moneyDifference_62 (by decide) (fun h1 => ?_) (fun h1 => ?_)
    · exact absurd h1 (nI_ge (by omega) (by omega))
    · refine WP.iload_n (pc := 65) dX9_moneyDifference_65 rfl ?_
      refine WP.aload_n (pc := 66) dX9_moneyDifference_66 rfl ?_
      refine WP.gR (pc := 67) uX9 fX9_7 hm.t0 hm.r0_0 dX9_moneyDifference_67 ?_
      refine WP.iload_n (pc := 70) dX9_moneyDifference_70 rfl ?_
      refine WP.cS1 (pc := 71) (mc2 := 0) (ms2 := 0) kX9_100 (CX9_ofBaker Γ i) rfl ⟨Nat.le_of_ble_eq_true rfl, Nat.le_of_ble_eq_true rfl⟩ (Nat.le_of_ble_eq_true rfl) (Nat.le_of_ble_eq_true rfl) (Nat.le_of_ble_eq_true rfl) rfl dX9_moneyDifference_71 ?_
      refine WP.iconst (pc := 74) (v := 5) dX9_moneyDifference_74 (by decide) ?_
      refine WP.iaN (pc := 75) (b := 5) dX9_moneyDifference_75 ?_
      refine WP.ialdv (pc := 76) hm.t1 (by omega) (by decide) (v := (_)) (c5) dX9_moneyDifference_76 ?_
      refine WP.isub (pc := 77) dX9_moneyDifference_77 ?_
      have e : A - smI (fun i => (mm.s.2.1.getD i dB).2.2.2.2.2) i - (mm.s.2.1.getD i dB).2.2.2.2.2 = A - smI (fun i => (mm.s.2.1.getD i dB).2.2.2.2.2) (i + 1) := by
        show _ = A - (smI _ i + _)
        rw [Int32.sub_sub]
      rw [e]
      refine WP.istore_n (pc := 78) dX9_moneyDifference_78 (by decide) rfl ?_
      refine WP.iinc (pc := 79) dX9_moneyDifference_79 rfl (nI_1 _) (by decide) rfl ?_
      refine WP.goto (pc := 82) (tgt := 55) dX9_moneyDifference_82 (by decide) ?_
      exact ih (i + 1) (by omega)
theorem CX9_moneyDifference (hm : shM σ m) (h : mdI I m mm) : Ctr Γ (1, 20, 0, 0) MX9_moneyDifference [.ref m] (wI σ I) (mO σ I m (q_moneyDifference mm)) := by
  have hJ : up I m 8 0 (m + 1) = I (m + 1) := up_ne (by omega)
  refine Ctr.go rfl (by decide) rfl rfl ?_
  refine WP.aload_n (pc := 0) dX9_moneyDifference_0 rfl ?_
  refine WP.iconst (pc := 1) (v := 0) dX9_moneyDifference_1 (by decide) ?_
  refine WP.pI (pc := 2) uX9 fX9_75 rfl rfl hm.t0 dX9_moneyDifference_2 ?_
  refine WP.aload_n (pc := 5) dX9_moneyDifference_5 rfl ?_
  refine WP.gR (pc := 6) uX9 fX9_7 hm.t0 hm.r0_0 dX9_moneyDifference_6 ?_
  refine WP.bipush (pc := 9) (v := 8) dX9_moneyDifference_9 (by decide) ?_
  refine WP.ialdv (pc := 11) (k := 8) hm.t1 (by decide) (by decide) (v := (mm.s.1 9)) (by rw [hJ]; exact h.1.1 9 (by omega)) dX9_moneyDifference_11 ?_
  refine WP.aload_n (pc := 12) dX9_moneyDifference_12 rfl ?_
  refine WP.gR (pc := 13) uX9 fX9_7 hm.t0 hm.r0_0 dX9_moneyDifference_13 ?_
  refine WP.bipush (pc := 16) (v := 9) dX9_moneyDifference_16 (by decide) ?_
  refine WP.ialdv (pc := 18) (k := 9) hm.t1 (by decide) (by decide) (v := (mm.s.1 10)) (by rw [hJ]; exact h.1.1 10 (by omega)) dX9_moneyDifference_18 ?_
  refine WP.isub (pc := 19) dX9_moneyDifference_19 ?_
  refine WP.istore_n (pc := 20) dX9_moneyDifference_20 (by decide) rfl ?_
  refine WP.iconst (pc := 21) (v := 0) dX9_moneyDifference_21 (by decide) ?_
  refine WP.istore_n (pc := 22) dX9_moneyDifference_22 (by decide) rfl ?_
  have e0 : mm.s.1 9 - mm.s.1 10 = mm.s.1 9 - mm.s.1 10 - smI (fun i => (mm.s.2.2.2.1.getD i dC).2.2.2.2.2.1) 0 := (Int32.sub_zero _).symm
  rw [e0]
  refine LX9_md23 Γ hm (mm := mm) (by rw [hJ]; exact h.1.2.2.2.1) ?_ mm.s.2.2.2.1.length 0 (by omega)
  refine WP.iconst (pc := 53) (v := 0) dX9_moneyDifference_53 (by decide) ?_
  refine WP.istore_n (pc := 54) dX9_moneyDifference_54 (by decide) rfl ?_
  have key : ∀ a b c d : Int32, a - b - c - d = a - c - b - d := fun a b c d => by
    rw [Int32.sub_sub a b c, Int32.add_comm b c, ← Int32.sub_sub]
  have e1 : mm.s.1 9 - mm.s.1 10 - smI (fun i => (mm.s.2.2.2.1.getD i dC).2.2.2.2.2.1) mm.s.2.2.2.1.length = mm.s.1 9 - mm.s.1 10 - smI (fun i => (mm.s.2.2.2.1.getD i dC).2.2.2.2.2.1) mm.s.2.2.2.1.length - smI (fun i => (mm.s.2.1.getD i dB).2.2.2.2.2) 0 := (Int32.sub_zero _).symm
  rw [e1]
  refine LX9_md55 Γ hm (mm := mm) (by rw [hJ]; exact h.1.2.1) ?_ mm.s.2.1.length 0 (by omega)
  exact mO.ok (by simp [up_eq]) (key _ _ _ _) (h.j fr_j.rf.u1) fr8
end T
