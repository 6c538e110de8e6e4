-- behind: 37 38
def dP : mBd := (0, 0)
def q_bidCount (m : mX) (k : Int32) : oR := if ixB k 3 then (1, 0, m) else (0, nI (plB m.s k).length, m)
def q_tradeCount (m : mX) (k : Int32) : oR := if ixB k 3 then (1, 0, m) else (0, nI (plT m.s k), m)
def q_clearingPrice (m : mX) (k : Int32) : oR := if ixB k 3 then (1, 0, m) else (0, if plT m.s k = 0 then -1 else plP m.s k, m)
def q_reasonNoTrades (m : mX) (k : Int32) : oR := if ixB k 3 then (1, 0, m) else (0, if 0 < plT m.s k then 0 else if (plL m.s k).length = 0 then 1 else if (plB m.s k).length = 0 then 2 else 3, m)
def q_buyerOf (m : mX) (k t : Int32) : oR := if ixB k 3 then (1, 0, m) else if ixB t (plT m.s k) then (2, 0, m) else (0, ((plB m.s k).getD t.toNatClampNeg dP).1, m)
def q_loafOf (m : mX) (k t : Int32) : oR := if ixB k 3 then (1, 0, m) else if ixB t (plT m.s k) then (2, 0, m) else (0, ((plL m.s k).getD t.toNatClampNeg dP).1, m)
def q_gain (m : mX) (k : Int32) : oR := if ixB k 3 then (1, 0, m) else (0, smI (fun i => ((plB m.s k).getD i dP).2) (plT m.s k) - smI (fun i => ((plL m.s k).getD i dP).2) (plT m.s k), m)
def q_sparrowsAfter (m : mX) (h : Int32) : oR := if h < 0 ∨ 100 < h then (1, 0, m) else (0, (hrsN h.toNatClampNeg m.s).1 5, m)
def q_loavesAfter (m : mX) (h : Int32) : oR := if h < 0 ∨ 100 < h then (1, 0, m) else (0, nI (hrsN h.toNatClampNeg m.s).2.2.1.length, m)
def q_tradesAfter (m : mX) (k h : Int32) : oR := if ixB k 3 then (1, 0, m) else if h < 0 ∨ 100 < h then (2, 0, m) else (0, nI (plT (hrsN h.toNatClampNeg m.s) k), m)
def bhN (k : Int32) : Nat → Nat → Int32 → Int32 → mS → Int32
  | 0, _, b, _, _ => b
  | n + 1, i, b, mo, s => if mo < nI (plT s k) * plP s k then bhN k n (i + 1) (nI i) (nI (plT s k) * plP s k) (hrOut s) else bhN k n (i + 1) b mo (hrOut s)
def q_bestHour (m : mX) (k : Int32) : oR := if ixB k 3 then (1, 0, m) else (0, bhN k 25 0 0 0 m.s, m)
def q_meanAge (m : mX) : UInt64 := if m.s.2.2.1.length = 0 then FP.dconst0 else FP.ddiv (FP.i2d (smI (fun i => m.s.1 3 - (m.s.2.2.1.getD i dL).2.2) m.s.2.2.1.length)) (FP.i2d (nI m.s.2.2.1.length))
def q_soldShare (m : mX) : UInt32 := if m.s.1 6 ≤ 0 then FP.fconst0 else FP.fdiv (FP.i2f (m.s.1 7)) (FP.i2f (m.s.1 6))
theorem xO.ret2 {σ τ : cAS} {x : Nat} {Es : List String} {m : mX} {v : Int32} (h : xAt τ x m) (hk : kpM σ τ x) : xO σ x Es (0, v, m) (.inl (some (.int v))) τ := ⟨rfl, h, hk⟩
theorem xO.exc2 {σ τ : cAS} {x n t : Nat} {Es : List String} {m : mX} {v : Int32} {E : String} (h : xAt τ x m) (hk : kpM σ τ x) (hn : aN τ ≤ n) (he : Es[t]? = some E) : xO σ x Es (t + 1, v, m) (.inr E) (sX τ n) := by
  obtain ⟨h1, h2, h3⟩ := xO.exc (v := v) (m := m) h hn he
  exact ⟨h1, h2, hk.trans h3⟩
theorem kpM.plan {σ : cAS} {x : Nat} {I : Nat → Nat → Int32} (hf : fr (aI σ) I (x + 51) 5) : kpM σ (wI σ I) x := kpM.mv (hf.mono (by omega) (by omega))
theorem kpM.scr {σ : cAS} {x : Nat} {I : Nat → Nat → Int32} (hf : fr (aI σ) I (x + 26) 30) : kpM σ (wI σ I) x := kpM.mv (hf.mono (by omega) (by omega))
section T
variable (Γ : cG) {σ : cAS} {x : Nat} {m : mX} {T C : Nat}
theorem PX (hx : xAt σ x m) (hw : wf T C m.s) (k : Int32) : Ctr Γ (2, 45, 0, 0) MX0_prepare [.ref (x + 51), .ref (x + 1), .int k] (wI σ (aI σ)) (rW σ (fun I' => fr (aI σ) I' (x + 51) 5 ∧ stAt I' (x + 1) m.s ∧ auAt I' x m.s k)) :=
  CX0_prepare Γ hx.1 hx.1.a (by omega) hx.2.2.1 k hw.cu
theorem CX8_bidCount (hx : xAt σ x m) (hw : wf T C m.s) (k : Int32) : Ctr Γ (8, 131, 1, 6) MX8_bidCount [.ref x, .int k] σ (xO σ x [eIO] (q_bidCount m k)) := by
  refine Ctr.go rfl (by decide) rfl rfl ?_
  unfold q_bidCount
  refine WP.iload_n (pc := 0) dX8_bidCount_0 rfl ?_
  refine WP.cSt (pc := 1) (mc2 := 0) (ms2 := 0) kX8_163 (CX8_needKind Γ k) rfl ⟨Nat.le_of_ble_eq_true rfl, Nat.le_of_ble_eq_true rfl⟩ (Nat.le_of_ble_eq_true rfl) (Nat.le_of_ble_eq_true rfl) (Nat.le_of_ble_eq_true rfl) rfl dX8_bidCount_1 rfl (fun hb n hn => ?_) (fun hb => ?_)
  · rw [if_pos hb]
    exact xO.exc hx hn rfl
  · rw [if_neg hb]
    refine WP.self ?_
    refine WP.aload_n (pc := 4) dX8_bidCount_4 rfl ?_
    refine WP.gR (pc := 5) uX8 fX8_22 hx.1.t0 hx.1.r0_2 dX8_bidCount_5 ?_
    refine WP.aload_n (pc := 8) dX8_bidCount_8 rfl ?_
    refine WP.gR (pc := 9) uX8 fX8_10 hx.1.t0 hx.1.r0_0 dX8_bidCount_9 ?_
    refine WP.iload_n (pc := 12) dX8_bidCount_12 rfl ?_
    refine WP.cVw (pc := 13) (mc2 := 0) (ms2 := 0) (ci := 0) kX8_214 (PX Γ hx hw k) (by decide) rfl hx.1.t51 rfl ⟨Nat.le_of_ble_eq_true rfl, Nat.le_of_ble_eq_true rfl⟩ (Nat.le_of_ble_eq_true rfl) (Nat.le_of_ble_eq_true rfl) (Nat.le_of_ble_eq_true rfl) rfl dX8_bidCount_13 (fun I1 ⟨f1, g1, a1, a2, a3, a4⟩ => ?_)
    refine WP.aload_n (pc := 16) dX8_bidCount_16 rfl ?_
    refine WP.gR (pc := 17) uX8 fX8_22 hx.1.t0 hx.1.r0_2 dX8_bidCount_17 ?_
    refine WP.gIv (pc := 20) (v := (nI (plB m.s k).length)) uX0 fX8_218 hx.1.t51 (by simp [up_eq, a1.1]) dX8_bidCount_20 ?_
    refine WP.iret (pc := 23) rfl dX8_bidCount_23 ?_
    exact xO.ret2 (hx.plan f1) (kpM.plan f1)
theorem CX8_tradeCount (hx : xAt σ x m) (hw : wf T C m.s) (k : Int32) : Ctr Γ (8, 131, 1, 6) MX8_tradeCount [.ref x, .int k] σ (xO σ x [eIO] (q_tradeCount m k)) := by
  refine Ctr.go rfl (by decide) rfl rfl ?_
  unfold q_tradeCount
  refine WP.iload_n (pc := 0) dX8_tradeCount_0 rfl ?_
  refine WP.cSt (pc := 1) (mc2 := 0) (ms2 := 0) kX8_163 (CX8_needKind Γ k) rfl ⟨Nat.le_of_ble_eq_true rfl, Nat.le_of_ble_eq_true rfl⟩ (Nat.le_of_ble_eq_true rfl) (Nat.le_of_ble_eq_true rfl) (Nat.le_of_ble_eq_true rfl) rfl dX8_tradeCount_1 rfl (fun hb n hn => ?_) (fun hb => ?_)
  · rw [if_pos hb]
    exact xO.exc hx hn rfl
  · rw [if_neg hb]
    refine WP.self ?_
    refine WP.aload_n (pc := 4) dX8_tradeCount_4 rfl ?_
    refine WP.gR (pc := 5) uX8 fX8_22 hx.1.t0 hx.1.r0_2 dX8_tradeCount_5 ?_
    refine WP.aload_n (pc := 8) dX8_tradeCount_8 rfl ?_
    refine WP.gR (pc := 9) uX8 fX8_10 hx.1.t0 hx.1.r0_0 dX8_tradeCount_9 ?_
    refine WP.iload_n (pc := 12) dX8_tradeCount_12 rfl ?_
    refine WP.cVw (pc := 13) (mc2 := 0) (ms2 := 0) (ci := 0) kX8_214 (PX Γ hx hw k) (by decide) rfl hx.1.t51 rfl ⟨Nat.le_of_ble_eq_true rfl, Nat.le_of_ble_eq_true rfl⟩ (Nat.le_of_ble_eq_true rfl) (Nat.le_of_ble_eq_true rfl) (Nat.le_of_ble_eq_true rfl) rfl dX8_tradeCount_13 (fun I1 ⟨f1, g1, a1, a2, a3, a4⟩ => ?_)
    refine WP.aload_n (pc := 16) dX8_tradeCount_16 rfl ?_
    refine WP.gR (pc := 17) uX8 fX8_22 hx.1.t0 hx.1.r0_2 dX8_tradeCount_17 ?_
    refine WP.gIv (pc := 20) (v := (nI (plT m.s k))) uX0 fX8_221 hx.1.t51 (by simp [up_eq, a3]) dX8_tradeCount_20 ?_
    refine WP.iret (pc := 23) rfl dX8_tradeCount_23 ?_
    exact xO.ret2 (hx.plan f1) (kpM.plan f1)
theorem plT_le {A : Nat} {s : mS} (h : wfA A T C s) (k : Int32) : plT s k ≤ 60 := by
  have h1 := (trN_le (plB s k) (plL s k)).2
  have h2 : (plL s k).length ≤ s.2.2.1.length := lvF_len _
  have h3 := h.2.2.1
  have : plT s k ≤ (plL s k).length := h1
  omega
theorem CX8_clearingPrice (hx : xAt σ x m) (hw : wf T C m.s) (k : Int32) : Ctr Γ (8, 131, 1, 6) MX8_clearingPrice [.ref x, .int k] σ (xO σ x [eIO] (q_clearingPrice m k)) := by
  have h60 := plT_le hw k
  refine Ctr.go rfl (by decide) rfl rfl ?_
  unfold q_clearingPrice
  refine WP.iload_n (pc := 0) dX8_clearingPrice_0 rfl ?_
  refine WP.cSt (pc := 1) (mc2 := 0) (ms2 := 0) kX8_163 (CX8_needKind Γ k) rfl ⟨Nat.le_of_ble_eq_true rfl, Nat.le_of_ble_eq_true rfl⟩ (Nat.le_of_ble_eq_true rfl) (Nat.le_of_ble_eq_true rfl) (Nat.le_of_ble_eq_true rfl) rfl dX8_clearingPrice_1 rfl (fun hb n hn => ?_) (fun hb => ?_)
  · rw [if_pos hb]
    exact xO.exc hx hn rfl
  · rw [if_neg hb]
    refine WP.self ?_
    refine WP.aload_n (pc := 4) dX8_clearingPrice_4 rfl ?_
    refine WP.gR (pc := 5) uX8 fX8_22 hx.1.t0 hx.1.r0_2 dX8_clearingPrice_5 ?_
    refine WP.aload_n (pc := 8) dX8_clearingPrice_8 rfl ?_
    refine WP.gR (pc := 9) uX8 fX8_10 hx.1.t0 hx.1.r0_0 dX8_clearingPrice_9 ?_
    refine WP.iload_n (pc := 12) dX8_clearingPrice_12 rfl ?_
    refine WP.cVw (pc := 13) (mc2 := 0) (ms2 := 0) (ci := 0) kX8_214 (PX Γ hx hw k) (by decide) rfl hx.1.t51 rfl ⟨Nat.le_of_ble_eq_true rfl, Nat.le_of_ble_eq_true rfl⟩ (Nat.le_of_ble_eq_true rfl) (Nat.le_of_ble_eq_true rfl) (Nat.le_of_ble_eq_true rfl) rfl dX8_clearingPrice_13 (fun I1 ⟨f1, g1, a1, a2, a3, a4⟩ => ?_)
    refine WP.aload_n (pc := 16) dX8_clearingPrice_16 rfl ?_
    refine WP.gR (pc := 17) uX8 fX8_22 hx.1.t0 hx.1.r0_2 dX8_clearingPrice_17 ?_
    refine WP.gIv (pc := 20) (v := (nI (plT m.s k))) uX0 fX8_221 hx.1.t51 (by simp [up_eq, a3]) dX8_clearingPrice_20 ?_
    refine WP.if_ne (pc := 23) (tgt := 30) dX8_clearingPrice_23 (by decide) (fun h1 => ?_) (fun h1 => ?_)
    · refine WP.aload_n (pc := 30) dX8_clearingPrice_30 rfl ?_
      refine WP.gR (pc := 31) uX8 fX8_22 hx.1.t0 hx.1.r0_2 dX8_clearingPrice_31 ?_
      refine WP.gIv (pc := 34) (v := (plP m.s k)) uX0 fX8_224 hx.1.t51 (by simp [up_eq, a4]) dX8_clearingPrice_34 ?_
      refine WP.iret (pc := 37) rfl dX8_clearingPrice_37 ?_
      rw [if_neg (fun q => h1 (by rw [q]; rfl))]
      exact xO.ret2 (hx.plan f1) (kpM.plan f1)
    · refine WP.iconst (pc := 26) (v := (-1)) dX8_clearingPrice_26 (by decide) ?_
      refine WP.goto (pc := 27) (tgt := 37) dX8_clearingPrice_27 (by decide) ?_
      refine WP.iret (pc := 37) rfl dX8_clearingPrice_37 ?_
      rw [if_pos ((nI_eq (b := 0) (by omega) (by omega)).mp h1)]
      exact xO.ret2 (hx.plan f1) (kpM.plan f1)
theorem CX8_reasonNoTrades (hx : xAt σ x m) (hw : wf T C m.s) (k : Int32) : Ctr Γ (8, 131, 1, 6) MX8_reasonNoTrades [.ref x, .int k] σ (xO σ x [eIO] (q_reasonNoTrades m k)) := by
  refine Ctr.go rfl (by decide) rfl rfl ?_
  unfold q_reasonNoTrades
  refine WP.iload_n (pc := 0) dX8_reasonNoTrades_0 rfl ?_
  refine WP.cSt (pc := 1) (mc2 := 0) (ms2 := 0) kX8_163 (CX8_needKind Γ k) rfl ⟨Nat.le_of_ble_eq_true rfl, Nat.le_of_ble_eq_true rfl⟩ (Nat.le_of_ble_eq_true rfl) (Nat.le_of_ble_eq_true rfl) (Nat.le_of_ble_eq_true rfl) rfl dX8_reasonNoTrades_1 rfl (fun hb n hn => ?_) (fun hb => ?_)
  · rw [if_pos hb]
    exact xO.exc hx hn rfl
  · rw [if_neg hb]
    refine WP.self ?_
    refine WP.aload_n (pc := 4) dX8_reasonNoTrades_4 rfl ?_
    refine WP.gR (pc := 5) uX8 fX8_22 hx.1.t0 hx.1.r0_2 dX8_reasonNoTrades_5 ?_
    refine WP.aload_n (pc := 8) dX8_reasonNoTrades_8 rfl ?_
    refine WP.gR (pc := 9) uX8 fX8_10 hx.1.t0 hx.1.r0_0 dX8_reasonNoTrades_9 ?_
    refine WP.iload_n (pc := 12) dX8_reasonNoTrades_12 rfl ?_
    refine WP.cVw (pc := 13) (mc2 := 0) (ms2 := 0) (ci := 0) kX8_214 (PX Γ hx hw k) (by decide) rfl hx.1.t51 rfl ⟨Nat.le_of_ble_eq_true rfl, Nat.le_of_ble_eq_true rfl⟩ (Nat.le_of_ble_eq_true rfl) (Nat.le_of_ble_eq_true rfl) (Nat.le_of_ble_eq_true rfl) rfl dX8_reasonNoTrades_13 (fun I1 ⟨f1, g1, a1⟩ => ?_)
    refine WP.aload_n (pc := 16) dX8_reasonNoTrades_16 rfl ?_
    refine WP.gR (pc := 17) uX8 fX8_22 hx.1.t0 hx.1.r0_2 dX8_reasonNoTrades_17 ?_
    refine WP.cV1 (pc := 20) (mc2 := 0) (ms2 := 0) (ci := 0) kX8_227 (CX0_reasonForNone Γ hx.1 a1) (by decide) rfl hx.1.t51 rfl ⟨Nat.le_of_ble_eq_true rfl, Nat.le_of_ble_eq_true rfl⟩ (Nat.le_of_ble_eq_true rfl) (Nat.le_of_ble_eq_true rfl) (Nat.le_of_ble_eq_true rfl) rfl dX8_reasonNoTrades_20 ?_
    refine WP.iret (pc := 23) rfl dX8_reasonNoTrades_23 ?_
    exact xO.ret2 (hx.plan f1) (kpM.plan f1)
theorem CX8_gain (hx : xAt σ x m) (hw : wf T C m.s) (k : Int32) : Ctr Γ (8, 131, 1, 6) MX8_gain [.ref x, .int k] σ (xO σ x [eIO] (q_gain m k)) := by
  obtain ⟨t1, t2⟩ := trN_le (plB m.s k) (plL m.s k)
  refine Ctr.go rfl (by decide) rfl rfl ?_
  unfold q_gain
  refine WP.iload_n (pc := 0) dX8_gain_0 rfl ?_
  refine WP.cSt (pc := 1) (mc2 := 0) (ms2 := 0) kX8_163 (CX8_needKind Γ k) rfl ⟨Nat.le_of_ble_eq_true rfl, Nat.le_of_ble_eq_true rfl⟩ (Nat.le_of_ble_eq_true rfl) (Nat.le_of_ble_eq_true rfl) (Nat.le_of_ble_eq_true rfl) rfl dX8_gain_1 rfl (fun hb n hn => ?_) (fun hb => ?_)
  · rw [if_pos hb]
    exact xO.exc hx hn rfl
  · rw [if_neg hb]
    refine WP.self ?_
    refine WP.aload_n (pc := 4) dX8_gain_4 rfl ?_
    refine WP.gR (pc := 5) uX8 fX8_22 hx.1.t0 hx.1.r0_2 dX8_gain_5 ?_
    refine WP.aload_n (pc := 8) dX8_gain_8 rfl ?_
    refine WP.gR (pc := 9) uX8 fX8_10 hx.1.t0 hx.1.r0_0 dX8_gain_9 ?_
    refine WP.iload_n (pc := 12) dX8_gain_12 rfl ?_
    refine WP.cVw (pc := 13) (mc2 := 0) (ms2 := 0) (ci := 0) kX8_214 (PX Γ hx hw k) (by decide) rfl hx.1.t51 rfl ⟨Nat.le_of_ble_eq_true rfl, Nat.le_of_ble_eq_true rfl⟩ (Nat.le_of_ble_eq_true rfl) (Nat.le_of_ble_eq_true rfl) (Nat.le_of_ble_eq_true rfl) rfl dX8_gain_13 (fun I1 ⟨f1, g1, a1⟩ => ?_)
    refine WP.aload_n (pc := 16) dX8_gain_16 rfl ?_
    refine WP.gR (pc := 17) uX8 fX8_22 hx.1.t0 hx.1.r0_2 dX8_gain_17 ?_
    refine WP.cV1 (pc := 20) (mc2 := 0) (ms2 := 0) (ci := 0) kX8_239 (CX0_surplus Γ hx.1 a1) (by decide) rfl hx.1.t51 rfl ⟨Nat.le_of_ble_eq_true rfl, Nat.le_of_ble_eq_true rfl⟩ (Nat.le_of_ble_eq_true rfl) (Nat.le_of_ble_eq_true rfl) (Nat.le_of_ble_eq_true rfl) rfl dX8_gain_20 ?_
    rw [show smI (I1 (x + 53)) (plT m.s k) = smI (fun i => ((plB m.s k).getD i dP).2) (plT m.s k) from smI_ext _ (fun j hj => (a1.1.2.2 j _ (gD_of dP (Nat.lt_of_lt_of_le hj t1))).2)]
    rw [show smI (I1 (x + 55)) (plT m.s k) = smI (fun i => ((plL m.s k).getD i dP).2) (plT m.s k) from smI_ext _ (fun j hj => (a1.2.1.2.2 j _ (gD_of dP (Nat.lt_of_lt_of_le hj t2))).2)]
    refine WP.iret (pc := 23) rfl dX8_gain_23 ?_
    exact xO.ret2 (hx.plan f1) (kpM.plan f1)
theorem CX8_buyerOf (hx : xAt σ x m) (hw : wf T C m.s) (k t : Int32) : Ctr Γ (8, 131, 2, 12) MX8_buyerOf [.ref x, .int k, .int t] σ (xO σ x [eIO, nE] (q_buyerOf m k t)) := by
  obtain ⟨t1, t2⟩ := trN_le (plB m.s k) (plL m.s k)
  have h60 := plT_le hw k
  refine Ctr.go rfl (by decide) rfl rfl ?_
  unfold q_buyerOf
  refine WP.iload_n (pc := 0) dX8_buyerOf_0 rfl ?_
  refine WP.cSt (pc := 1) (mc2 := 1) (ms2 := 6) kX8_163 (CX8_needKind Γ k) rfl ⟨Nat.le_of_ble_eq_true rfl, Nat.le_of_ble_eq_true rfl⟩ (Nat.le_of_ble_eq_true rfl) (Nat.le_of_ble_eq_true rfl) (Nat.le_of_ble_eq_true rfl) rfl dX8_buyerOf_1 rfl (fun hb n hn => ?_) (fun hb => ?_)
  · rw [if_pos hb]
    exact xO.exc hx hn rfl
  · rw [if_neg hb]
    refine WP.self ?_
    refine WP.aload_n (pc := 4) dX8_buyerOf_4 rfl ?_
    refine WP.gR (pc := 5) uX8 fX8_22 hx.1.t0 hx.1.r0_2 dX8_buyerOf_5 ?_
    refine WP.aload_n (pc := 8) dX8_buyerOf_8 rfl ?_
    refine WP.gR (pc := 9) uX8 fX8_10 hx.1.t0 hx.1.r0_0 dX8_buyerOf_9 ?_
    refine WP.iload_n (pc := 12) dX8_buyerOf_12 rfl ?_
    refine WP.cVw (pc := 13) (mc2 := 1) (ms2 := 6) (ci := 0) kX8_214 (PX Γ hx hw k) (by decide) rfl hx.1.t51 rfl ⟨Nat.le_of_ble_eq_true rfl, Nat.le_of_ble_eq_true rfl⟩ (Nat.le_of_ble_eq_true rfl) (Nat.le_of_ble_eq_true rfl) (Nat.le_of_ble_eq_true rfl) rfl dX8_buyerOf_13 (fun I1 ⟨f1, g1, a1, a2, a3, a4⟩ => ?_)
    refine WP.aload_n (pc := 16) dX8_buyerOf_16 rfl ?_
    refine WP.iload_n (pc := 17) dX8_buyerOf_17 rfl ?_
    refine WP.cVt (pc := 18) (mc2 := 0) (ms2 := 0) (ci := 8) kX8_230 (CX8_needTrade Γ hx.1 a3 t) (by decide) rfl hx.1.t0 rfl ⟨Nat.le_of_ble_eq_true rfl, Nat.le_of_ble_eq_true rfl⟩ (Nat.le_of_ble_eq_true rfl) (Nat.le_of_ble_eq_true rfl) (Nat.le_of_ble_eq_true rfl) rfl dX8_buyerOf_18 rfl (fun hb2 n hn => ?_) (fun hb2 => ?_)
    · rw [if_pos hb2]
      exact xO.exc2 (hx.plan f1) (kpM.plan f1) hn rfl
    · rw [if_neg hb2]
      obtain ⟨j, rfl, hj⟩ := ixN hb2 (by omega)
      refine WP.aload_n (pc := 21) dX8_buyerOf_21 rfl ?_
      refine WP.gR (pc := 22) uX8 fX8_22 hx.1.t0 hx.1.r0_2 dX8_buyerOf_22 ?_
      refine WP.gR (pc := 25) uX0 fX8_233 hx.1.t51 hx.1.r51_1 dX8_buyerOf_25 ?_
      refine WP.iload_n (pc := 28) dX8_buyerOf_28 rfl ?_
      refine WP.iald (pc := 29) hx.1.t52 (by omega) (by decide) dX8_buyerOf_29 ?_
      rw [(a1.2.2 j _ (gD_of dP (Nat.lt_of_lt_of_le hj t1))).1, nI_clamp (by omega)]
      refine WP.iret (pc := 30) rfl dX8_buyerOf_30 ?_
      exact xO.ret2 (hx.plan f1) (kpM.plan f1)
theorem CX8_loafOf (hx : xAt σ x m) (hw : wf T C m.s) (k t : Int32) : Ctr Γ (8, 131, 2, 12) MX8_loafOf [.ref x, .int k, .int t] σ (xO σ x [eIO, nE] (q_loafOf m k t)) := by
  obtain ⟨t1, t2⟩ := trN_le (plB m.s k) (plL m.s k)
  have h60 := plT_le hw k
  refine Ctr.go rfl (by decide) rfl rfl ?_
  unfold q_loafOf
  refine WP.iload_n (pc := 0) dX8_loafOf_0 rfl ?_
  refine WP.cSt (pc := 1) (mc2 := 1) (ms2 := 6) kX8_163 (CX8_needKind Γ k) rfl ⟨Nat.le_of_ble_eq_true rfl, Nat.le_of_ble_eq_true rfl⟩ (Nat.le_of_ble_eq_true rfl) (Nat.le_of_ble_eq_true rfl) (Nat.le_of_ble_eq_true rfl) rfl dX8_loafOf_1 rfl (fun hb n hn => ?_) (fun hb => ?_)
  · rw [if_pos hb]
    exact xO.exc hx hn rfl
  · rw [if_neg hb]
    refine WP.self ?_
    refine WP.aload_n (pc := 4) dX8_loafOf_4 rfl ?_
    refine WP.gR (pc := 5) uX8 fX8_22 hx.1.t0 hx.1.r0_2 dX8_loafOf_5 ?_
    refine WP.aload_n (pc := 8) dX8_loafOf_8 rfl ?_
    refine WP.gR (pc := 9) uX8 fX8_10 hx.1.t0 hx.1.r0_0 dX8_loafOf_9 ?_
    refine WP.iload_n (pc := 12) dX8_loafOf_12 rfl ?_
    refine WP.cVw (pc := 13) (mc2 := 1) (ms2 := 6) (ci := 0) kX8_214 (PX Γ hx hw k) (by decide) rfl hx.1.t51 rfl ⟨Nat.le_of_ble_eq_true rfl, Nat.le_of_ble_eq_true rfl⟩ (Nat.le_of_ble_eq_true rfl) (Nat.le_of_ble_eq_true rfl) (Nat.le_of_ble_eq_true rfl) rfl dX8_loafOf_13 (fun I1 ⟨f1, g1, a1, a2, a3, a4⟩ => ?_)
    refine WP.aload_n (pc := 16) dX8_loafOf_16 rfl ?_
    refine WP.iload_n (pc := 17) dX8_loafOf_17 rfl ?_
    refine WP.cVt (pc := 18) (mc2 := 0) (ms2 := 0) (ci := 8) kX8_230 (CX8_needTrade Γ hx.1 a3 t) (by decide) rfl hx.1.t0 rfl ⟨Nat.le_of_ble_eq_true rfl, Nat.le_of_ble_eq_true rfl⟩ (Nat.le_of_ble_eq_true rfl) (Nat.le_of_ble_eq_true rfl) (Nat.le_of_ble_eq_true rfl) rfl dX8_loafOf_18 rfl (fun hb2 n hn => ?_) (fun hb2 => ?_)
    · rw [if_pos hb2]
      exact xO.exc2 (hx.plan f1) (kpM.plan f1) hn rfl
    · rw [if_neg hb2]
      obtain ⟨j, rfl, hj⟩ := ixN hb2 (by omega)
      refine WP.aload_n (pc := 21) dX8_loafOf_21 rfl ?_
      refine WP.gR (pc := 22) uX8 fX8_22 hx.1.t0 hx.1.r0_2 dX8_loafOf_22 ?_
      refine WP.gR (pc := 25) uX0 fX8_236 hx.1.t51 hx.1.r51_4 dX8_loafOf_25 ?_
      refine WP.iload_n (pc := 28) dX8_loafOf_28 rfl ?_
      refine WP.iald (pc := 29) hx.1.t54 (by omega) (by decide) dX8_loafOf_29 ?_
      rw [(a2.2.2 j _ (gD_of dP (Nat.lt_of_lt_of_le hj t2))).1, nI_clamp (by omega)]
      refine WP.iret (pc := 30) rfl dX8_loafOf_30 ?_
      exact xO.ret2 (hx.plan f1) (kpM.plan f1)
set_option maxRecDepth 4000 in
theorem LX8_look (hx : shX σ x) (hT : T ≤ 2147483647) {N : Nat} (hN : N ≤ 100) {s' : mS} {I0 : Nat → Nat → Int32} : ∀ n i C s (I : Nat → Nat → Int32), i + n = N → hrsN n s = s' → C + 300 * n < 2147483648 → wf T C s → stAt I (x + 26) s → fr I0 I (x + 26) 25 → WP Γ (5, 126, 0, 0) MX8_lookAhead (rW σ (fun I' => fr I0 I' (x + 26) 25 ∧ stAt I' (x + 26) s')) 13 [some (.ref x), some (.int (nI N)), some (.int (nI i))] [] (wI σ I) := by
  intro n
  induction n with
  | zero =>
    intro i C s I hi hs' hC hw hst F
    refine WP.iload_n (pc := 13) dX8_lookAhead_13 rfl ?_
    refine WP.iload_n (pc := 14) dX8_lookAhead_14 rfl ?_
    refine WP.icmp_ge (pc := 15) (tgt := 31) dX8_lookAhead_15 (by decide) (fun h1 => ?_) (fun h1 => ?_)
    · refine WP.vret (pc := 31) rfl dX8_lookAhead_31 ?_
      rw [← hs']
      exact ⟨rfl, _, rfl, F, hst⟩
    · exact absurd (nI_le (by omega) (by omega)) h1
  | succ n ih =>
    intro i C s I hi hs' hC hw hst F
    refine WP.iload_n (pc := 13) dX8_lookAhead_13 rfl ?_
    refine WP.iload_n (pc := 14) dX8_lookAhead_14 rfl ?_
    refine WP.icmp_ge (pc := 15) (tgt := 31) dX8_lookAhead_15 (by decide) (fun h1 => ?_) (fun h1 => ?_)
    · exact absurd h1 (nI_ge (by omega) (by omega))
    · refine WP.aload_n (pc := 18) dX8_lookAhead_18 rfl ?_
      refine WP.gR (pc := 19) uX8 fX8_16 hx.t0 hx.r0_1 dX8_lookAhead_19 ?_
      refine WP.cVw (pc := 22) (mc2 := 0) (ms2 := 0) (ci := 5) kX8_283 (CX5_passHour Γ hx.b hst (hrOut_cap hw)) (by decide) rfl hx.b.t0 rfl ⟨Nat.le_of_ble_eq_true rfl, Nat.le_of_ble_eq_true rfl⟩ (Nat.le_of_ble_eq_true rfl) (Nat.le_of_ble_eq_true rfl) (Nat.le_of_ble_eq_true rfl) rfl dX8_lookAhead_22 (fun I1 ⟨f1, g1⟩ => ?_)
      have hw' : wf T (C + 300) (hrOut s) := hrOut_wf (T := T) (C := C) (s := s) hT (by omega) hw
      refine WP.iinc (pc := 25) dX8_lookAhead_25 rfl (nI_1 _) (by decide) rfl ?_
      refine WP.goto (pc := 28) (tgt := 13) dX8_lookAhead_28 (by decide) ?_
      exact ih (i + 1) (C + 300) (hrOut s) I1 (by omega) hs' (by omega) hw' g1 (F.trans f1)
theorem CX8_lookAhead (hx : xAt σ x m) (hw : wf T C m.s) (hT : T ≤ 2147483647) (hC : C + 30000 < 2147483648) {N : Nat} (hN : N ≤ 100) : Ctr Γ (5, 126, 0, 0) MX8_lookAhead [.ref x, .int (nI N)] (wI σ (aI σ)) (rW σ (fun I' => fr (aI σ) I' (x + 26) 25 ∧ stAt I' (x + 26) (hrsN N m.s))) := by
  refine Ctr.go rfl (by decide) rfl rfl ?_
  refine WP.aload_n (pc := 0) dX8_lookAhead_0 rfl ?_
  refine WP.gR (pc := 1) uX8 fX8_16 hx.1.t0 hx.1.r0_1 dX8_lookAhead_1 ?_
  refine WP.aload_n (pc := 4) dX8_lookAhead_4 rfl ?_
  refine WP.gR (pc := 5) uX8 fX8_10 hx.1.t0 hx.1.r0_0 dX8_lookAhead_5 ?_
  refine WP.cVw (pc := 8) (mc2 := 0) (ms2 := 0) (ci := 5) kX8_104 (CX5_copyFrom Γ hx.1.b hx.1.a (by omega) hx.2.2.1) (by decide) rfl hx.1.b.t0 rfl ⟨Nat.le_of_ble_eq_true rfl, Nat.le_of_ble_eq_true rfl⟩ (Nat.le_of_ble_eq_true rfl) (Nat.le_of_ble_eq_true rfl) (Nat.le_of_ble_eq_true rfl) rfl dX8_lookAhead_8 (fun I1 ⟨f1, g1⟩ => ?_)
  refine WP.iconst (pc := 11) (v := 0) dX8_lookAhead_11 (by decide) ?_
  refine WP.istore_n (pc := 12) dX8_lookAhead_12 (by decide) rfl ?_
  exact LX8_look Γ hx.1 hT hN N 0 C m.s I1 (by omega) rfl (by omega) hw g1 f1
theorem rg100 {h : Int32} (hb : ¬ (h < 0 ∨ 100 < h)) : ∃ N, h = nI N ∧ N ≤ 100 := by
  obtain ⟨j, hj, rfl⟩ := nI_of (x := h) (fun q => hb (Or.inl q))
  exact ⟨j, rfl, Nat.not_lt.mp fun q => hb (Or.inr (nI_lt (a := 100) q hj))⟩
theorem CX8_sparrowsAfter (hx : xAt σ x m) (hw : wf T C m.s) (hT : T ≤ 2147483647) (hC : C + 30000 < 2147483648) (h : Int32) : Ctr Γ (7, 148, 1, 6) MX8_sparrowsAfter [.ref x, .int h] σ (xO σ x [eIA] (q_sparrowsAfter m h)) := by
  refine Ctr.go rfl (by decide) rfl rfl ?_
  unfold q_sparrowsAfter
  refine WP.iload_n (pc := 0) dX8_sparrowsAfter_0 rfl ?_
  refine WP.iconst (pc := 1) (v := 0) dX8_sparrowsAfter_1 (by decide) ?_
  refine WP.bipush (pc := 2) (v := 100) dX8_sparrowsAfter_2 (by decide) ?_
  refine WP.cSt (pc := 4) (mc2 := 0) (ms2 := 0) kX8_83 (CX8_needRange Γ h 0 100) rfl ⟨Nat.le_of_ble_eq_true rfl, Nat.le_of_ble_eq_true rfl⟩ (Nat.le_of_ble_eq_true rfl) (Nat.le_of_ble_eq_true rfl) (Nat.le_of_ble_eq_true rfl) rfl dX8_sparrowsAfter_4 rfl (fun hb n hn => ?_) (fun hb => ?_)
  · rw [if_pos hb]
    exact xO.exc hx hn rfl
  · rw [if_neg hb]
    obtain ⟨N, rfl, hN⟩ := rg100 hb
    rw [nI_clamp (by omega)]
    have hw1 := hrsN_wf hT N (C := C) (s := m.s) (by omega) hw
    refine WP.self ?_
    refine WP.aload_n (pc := 7) dX8_sparrowsAfter_7 rfl ?_
    refine WP.iload_n (pc := 8) dX8_sparrowsAfter_8 rfl ?_
    refine WP.cVw (pc := 9) (mc2 := 0) (ms2 := 0) (ci := 8) kX8_280 (CX8_lookAhead Γ hx hw hT hC hN) (by decide) rfl hx.1.t0 rfl ⟨Nat.le_of_ble_eq_true rfl, Nat.le_of_ble_eq_true rfl⟩ (Nat.le_of_ble_eq_true rfl) (Nat.le_of_ble_eq_true rfl) (Nat.le_of_ble_eq_true rfl) rfl dX8_sparrowsAfter_9 (fun I1 ⟨f1, g1⟩ => ?_)
    have hv : I1 (x + 26) 7 = (hrsN N m.s).1 5 := g1.gz.2.2.1
    refine WP.aload_n (pc := 12) dX8_sparrowsAfter_12 rfl ?_
    refine WP.gR (pc := 13) uX8 fX8_16 hx.1.t0 hx.1.r0_1 dX8_sparrowsAfter_13 ?_
    refine WP.gIv (pc := 16) (v := ((hrsN N m.s).1 5)) uX5 fX8_137 hx.1.b.t0 (by simp [up_eq, hv]) dX8_sparrowsAfter_16 ?_
    refine WP.iret (pc := 19) rfl dX8_sparrowsAfter_19 ?_
    have f2 : fr (aI σ) I1 (x + 26) 30 := f1.mono (by omega) (by omega)
    exact xO.ret2 (hx.scr f2 (g1.bs hw1)) (kpM.scr f2)
theorem CX8_loavesAfter (hx : xAt σ x m) (hw : wf T C m.s) (hT : T ≤ 2147483647) (hC : C + 30000 < 2147483648) (h : Int32) : Ctr Γ (7, 148, 1, 6) MX8_loavesAfter [.ref x, .int h] σ (xO σ x [eIA] (q_loavesAfter m h)) := by
  refine Ctr.go rfl (by decide) rfl rfl ?_
  unfold q_loavesAfter
  refine WP.iload_n (pc := 0) dX8_loavesAfter_0 rfl ?_
  refine WP.iconst (pc := 1) (v := 0) dX8_loavesAfter_1 (by decide) ?_
  refine WP.bipush (pc := 2) (v := 100) dX8_loavesAfter_2 (by decide) ?_
  refine WP.cSt (pc := 4) (mc2 := 0) (ms2 := 0) kX8_83 (CX8_needRange Γ h 0 100) rfl ⟨Nat.le_of_ble_eq_true rfl, Nat.le_of_ble_eq_true rfl⟩ (Nat.le_of_ble_eq_true rfl) (Nat.le_of_ble_eq_true rfl) (Nat.le_of_ble_eq_true rfl) rfl dX8_loavesAfter_4 rfl (fun hb n hn => ?_) (fun hb => ?_)
  · rw [if_pos hb]
    exact xO.exc hx hn rfl
  · rw [if_neg hb]
    obtain ⟨N, rfl, hN⟩ := rg100 hb
    rw [nI_clamp (by omega)]
    have hw1 := hrsN_wf hT N (C := C) (s := m.s) (by omega) hw
    refine WP.self ?_
    refine WP.aload_n (pc := 7) dX8_loavesAfter_7 rfl ?_
    refine WP.iload_n (pc := 8) dX8_loavesAfter_8 rfl ?_
    refine WP.cVw (pc := 9) (mc2 := 0) (ms2 := 0) (ci := 8) kX8_280 (CX8_lookAhead Γ hx hw hT hC hN) (by decide) rfl hx.1.t0 rfl ⟨Nat.le_of_ble_eq_true rfl, Nat.le_of_ble_eq_true rfl⟩ (Nat.le_of_ble_eq_true rfl) (Nat.le_of_ble_eq_true rfl) (Nat.le_of_ble_eq_true rfl) rfl dX8_loavesAfter_9 (fun I1 ⟨f1, g1⟩ => ?_)
    have hv : I1 (x + 26 + 9) 0 = nI (hrsN N m.s).2.2.1.length := g1.2.2.1.1
    refine WP.aload_n (pc := 12) dX8_loavesAfter_12 rfl ?_
    refine WP.gR (pc := 13) uX8 fX8_16 hx.1.t0 hx.1.r0_1 dX8_loavesAfter_13 ?_
    refine WP.gR (pc := 16) uX5 fX8_127 hx.1.b.t0 hx.1.b.r0_2 dX8_loavesAfter_16 ?_
    refine WP.gIv (pc := 19) (v := (nI (hrsN N m.s).2.2.1.length)) uX6 fX8_131 hx.1.b.t9 (by simp [up_eq, hv]) dX8_loavesAfter_19 ?_
    refine WP.iret (pc := 22) rfl dX8_loavesAfter_22 ?_
    have f2 : fr (aI σ) I1 (x + 26) 30 := f1.mono (by omega) (by omega)
    exact xO.ret2 (hx.scr f2 (g1.bs hw1)) (kpM.scr f2)
theorem CX8_tradesAfter (hx : xAt σ x m) (hw : wf T C m.s) (hT : T ≤ 2147483647) (hC : C + 30000 < 2147483648) (k h : Int32) : Ctr Γ (8, 148, 2, 12) MX8_tradesAfter [.ref x, .int k, .int h] σ (xO σ x [eIO, eIA] (q_tradesAfter m k h)) := by
  refine Ctr.go rfl (by decide) rfl rfl ?_
  unfold q_tradesAfter
  refine WP.iload_n (pc := 0) dX8_tradesAfter_0 rfl ?_
  refine WP.cSt (pc := 1) (mc2 := 1) (ms2 := 6) kX8_163 (CX8_needKind Γ k) rfl ⟨Nat.le_of_ble_eq_true rfl, Nat.le_of_ble_eq_true rfl⟩ (Nat.le_of_ble_eq_true rfl) (Nat.le_of_ble_eq_true rfl) (Nat.le_of_ble_eq_true rfl) rfl dX8_tradesAfter_1 rfl (fun hb0 n hn => ?_) (fun hb0 => ?_)
  · rw [if_pos hb0]
    exact xO.exc hx hn rfl
  · rw [if_neg hb0]
    refine WP.iload_n (pc := 4) dX8_tradesAfter_4 rfl ?_
    refine WP.iconst (pc := 5) (v := 0) dX8_tradesAfter_5 (by decide) ?_
    refine WP.bipush (pc := 6) (v := 100) dX8_tradesAfter_6 (by decide) ?_
    refine WP.cSt (pc := 8) (mc2 := 0) (ms2 := 0) kX8_83 (CX8_needRange Γ h 0 100) rfl ⟨Nat.le_of_ble_eq_true rfl, Nat.le_of_ble_eq_true rfl⟩ (Nat.le_of_ble_eq_true rfl) (Nat.le_of_ble_eq_true rfl) (Nat.le_of_ble_eq_true rfl) rfl dX8_tradesAfter_8 rfl (fun hb n hn => ?_) (fun hb => ?_)
    · rw [if_pos hb]
      exact xO.exc hx hn rfl
    · rw [if_neg hb]
      obtain ⟨N, rfl, hN⟩ := rg100 hb
      rw [nI_clamp (by omega)]
      have hw1 := hrsN_wf hT N (C := C) (s := m.s) (by omega) hw
      refine WP.self ?_
      refine WP.aload_n (pc := 11) dX8_tradesAfter_11 rfl ?_
      refine WP.iload_n (pc := 12) dX8_tradesAfter_12 rfl ?_
      refine WP.cVw (pc := 13) (mc2 := 0) (ms2 := 0) (ci := 8) kX8_280 (CX8_lookAhead Γ hx hw hT hC hN) (by decide) rfl hx.1.t0 rfl ⟨Nat.le_of_ble_eq_true rfl, Nat.le_of_ble_eq_true rfl⟩ (Nat.le_of_ble_eq_true rfl) (Nat.le_of_ble_eq_true rfl) (Nat.le_of_ble_eq_true rfl) rfl dX8_tradesAfter_13 (fun I1 ⟨f1, g1⟩ => ?_)
      refine WP.aload_n (pc := 16) dX8_tradesAfter_16 rfl ?_
      refine WP.gR (pc := 17) uX8 fX8_22 hx.1.t0 hx.1.r0_2 dX8_tradesAfter_17 ?_
      refine WP.aload_n (pc := 20) dX8_tradesAfter_20 rfl ?_
      refine WP.gR (pc := 21) uX8 fX8_16 hx.1.t0 hx.1.r0_1 dX8_tradesAfter_21 ?_
      refine WP.iload_n (pc := 24) dX8_tradesAfter_24 rfl ?_
      refine WP.cVw (pc := 25) (mc2 := 0) (ms2 := 0) (ci := 0) kX8_214 (CX0_prepare Γ hx.1 hx.1.b (by omega) g1 k hw1.cu) (by decide) rfl hx.1.t51 rfl ⟨Nat.le_of_ble_eq_true rfl, Nat.le_of_ble_eq_true rfl⟩ (Nat.le_of_ble_eq_true rfl) (Nat.le_of_ble_eq_true rfl) (Nat.le_of_ble_eq_true rfl) rfl dX8_tradesAfter_25 (fun I2 ⟨f2, g2, a1, a2, a3, a4⟩ => ?_)
      refine WP.aload_n (pc := 28) dX8_tradesAfter_28 rfl ?_
      refine WP.gR (pc := 29) uX8 fX8_22 hx.1.t0 hx.1.r0_2 dX8_tradesAfter_29 ?_
      refine WP.gIv (pc := 32) (v := (nI (plT (hrsN N m.s) k))) uX0 fX8_221 hx.1.t51 (by simp [up_eq, a3]) dX8_tradesAfter_32 ?_
      refine WP.iret (pc := 35) rfl dX8_tradesAfter_35 ?_
      have f3 : fr (aI σ) I2 (x + 26) 30 := (f1.mono (by omega) (by omega)).trans (f2.mono (by omega) (by omega))
      exact xO.ret2 (hx.scr f3 (g2.bs hw1)) (kpM.scr f3)
set_option maxRecDepth 4000 in
theorem LX8_best (hx : xAt σ x m) (hT : T ≤ 2147483647) {k V : Int32} : ∀ n i b mo C s (I : Nat → Nat → Int32) (L5 : Option Value), i + n = 25 → bhN k n i b mo s = V → C + 300 * n < 2147483648 → wf T C s → stAt I (x + 26) s → fr (aI σ) I (x + 26) 30 → cLc [L5] = true → WP Γ (8, 148, 0, 0) MX8_bestHour (xO σ x [eIO] (0, V, m)) 16 [some (.ref x), some (.int k), some (.int b), some (.int mo), some (.int (nI i)), L5] [] (wI σ I) := by
  intro n
  induction n with
  | zero =>
    intro i b mo C s I L5 hi hV hC hw hst F h5
    refine WP.iload (pc := 16) dX8_bestHour_16 rfl ?_
    refine WP.bipush (pc := 18) (v := 24) dX8_bestHour_18 (by decide) ?_
    refine WP.icmp_gt (pc := 20) (tgt := 77) dX8_bestHour_20 (by decide) (fun h1 => ?_) (fun h1 => ?_)
    · refine WP.iload_n (pc := 77) dX8_bestHour_77 rfl ?_
      refine WP.iret (pc := 78) rfl dX8_bestHour_78 ?_
      rw [← hV]
      exact xO.ret2 (hx.scr F (hst.bs hw)) (kpM.scr F)
    · exact absurd (show (24 : Int32) < nI i from nI_lt (a := 24) (by omega) (by omega)) h1
  | succ n ih =>
    intro i b mo C s I L5 hi hV hC hw hst F h5
    refine WP.drop 5 ?_
    refine (?_ : WP Γ _ MX8_bestHour _ 16 [some (.ref x), some (.int k), some (.int b), some (.int mo), some (.int (nI i)), none] [] (wI σ I))
    have hw' : wf T (C + 300) (hrOut s) := hrOut_wf (T := T) (C := C) (s := s) hT (by omega) hw
    refine WP.iload (pc := 16) dX8_bestHour_16 rfl ?_
    refine WP.bipush (pc := 18) (v := 24) dX8_bestHour_18 (by decide) ?_
    refine WP.icmp_gt (pc := 20) (tgt := 77) dX8_bestHour_20 (by decide) (fun h1 => ?_) (fun h1 => ?_)
    · exact absurd h1 (nI_nlt (a := 24) (by omega) (by omega))
    · refine WP.aload_n (pc := 23) dX8_bestHour_23 rfl ?_
      refine WP.gR (pc := 24) uX8 fX8_22 hx.1.t0 hx.1.r0_2 dX8_bestHour_24 ?_
      refine WP.aload_n (pc := 27) dX8_bestHour_27 rfl ?_
      refine WP.gR (pc := 28) uX8 fX8_16 hx.1.t0 hx.1.r0_1 dX8_bestHour_28 ?_
      refine WP.iload_n (pc := 31) dX8_bestHour_31 rfl ?_
      refine WP.cVw (pc := 32) (mc2 := 0) (ms2 := 0) (ci := 0) kX8_214 (CX0_prepare Γ hx.1 hx.1.b (by omega) hst k hw.cu) (by decide) rfl hx.1.t51 rfl ⟨Nat.le_of_ble_eq_true rfl, Nat.le_of_ble_eq_true rfl⟩ (Nat.le_of_ble_eq_true rfl) (Nat.le_of_ble_eq_true rfl) (Nat.le_of_ble_eq_true rfl) rfl dX8_bestHour_32 (fun I2 ⟨f2, g2, a1, a2, a3, a4⟩ => ?_)
      have F2 : fr (aI σ) I2 (x + 26) 30 := F.trans (f2.mono (by omega) (by omega))
      refine WP.aload_n (pc := 35) dX8_bestHour_35 rfl ?_
      refine WP.gR (pc := 36) uX8 fX8_22 hx.1.t0 hx.1.r0_2 dX8_bestHour_36 ?_
      refine WP.gIv (pc := 39) (v := (nI (plT s k))) uX0 fX8_221 hx.1.t51 (by simp [up_eq, a3]) dX8_bestHour_39 ?_
      refine WP.aload_n (pc := 42) dX8_bestHour_42 rfl ?_
      refine WP.gR (pc := 43) uX8 fX8_22 hx.1.t0 hx.1.r0_2 dX8_bestHour_43 ?_
      refine WP.gIv (pc := 46) (v := (plP s k)) uX0 fX8_224 hx.1.t51 (by simp [up_eq, a4]) dX8_bestHour_46 ?_
      refine WP.imul (pc := 49) dX8_bestHour_49 ?_
      refine WP.istore (pc := 50) dX8_bestHour_50 (by decide) rfl ?_
      refine WP.iload (pc := 52) dX8_bestHour_52 rfl ?_
      refine WP.iload_n (pc := 54) dX8_bestHour_54 rfl ?_
      unfold bhN at hV
      refine WP.icmp_le (pc := 55) (tgt := 64) dX8_bestHour_55 (by decide) (fun h2 => ?_) (fun h2 => ?_)
      · rw [if_neg (Int32.not_lt.mpr h2)] at hV
        refine WP.aload_n (pc := 64) dX8_bestHour_64 rfl ?_
        refine WP.gR (pc := 65) uX8 fX8_16 hx.1.t0 hx.1.r0_1 dX8_bestHour_65 ?_
        refine WP.cVw (pc := 68) (mc2 := 0) (ms2 := 0) (ci := 5) kX8_283 (CX5_passHour Γ hx.1.b g2 (hrOut_cap hw)) (by decide) rfl hx.1.b.t0 rfl ⟨Nat.le_of_ble_eq_true rfl, Nat.le_of_ble_eq_true rfl⟩ (Nat.le_of_ble_eq_true rfl) (Nat.le_of_ble_eq_true rfl) (Nat.le_of_ble_eq_true rfl) rfl dX8_bestHour_68 (fun I3 ⟨f3, g3⟩ => ?_)
        refine WP.iinc (pc := 71) dX8_bestHour_71 rfl (nI_1 _) (by decide) rfl ?_
        refine WP.goto (pc := 74) (tgt := 16) dX8_bestHour_74 (by decide) ?_
        exact ih (i + 1) b mo (C + 300) (hrOut s) I3 _ (by omega) hV (by omega) hw' g3 (F2.trans (f3.mono (by omega) (by omega))) rfl
      · rw [if_pos (Int32.not_le.mp h2)] at hV
        refine WP.iload (pc := 58) dX8_bestHour_58 rfl ?_
        refine WP.istore_n (pc := 60) dX8_bestHour_60 (by decide) rfl ?_
        refine WP.iload (pc := 61) dX8_bestHour_61 rfl ?_
        refine WP.istore_n (pc := 63) dX8_bestHour_63 (by decide) rfl ?_
        refine WP.aload_n (pc := 64) dX8_bestHour_64 rfl ?_
        refine WP.gR (pc := 65) uX8 fX8_16 hx.1.t0 hx.1.r0_1 dX8_bestHour_65 ?_
        refine WP.cVw (pc := 68) (mc2 := 0) (ms2 := 0) (ci := 5) kX8_283 (CX5_passHour Γ hx.1.b g2 (hrOut_cap hw)) (by decide) rfl hx.1.b.t0 rfl ⟨Nat.le_of_ble_eq_true rfl, Nat.le_of_ble_eq_true rfl⟩ (Nat.le_of_ble_eq_true rfl) (Nat.le_of_ble_eq_true rfl) (Nat.le_of_ble_eq_true rfl) rfl dX8_bestHour_68 (fun I3 ⟨f3, g3⟩ => ?_)
        refine WP.iinc (pc := 71) dX8_bestHour_71 rfl (nI_1 _) (by decide) rfl ?_
        refine WP.goto (pc := 74) (tgt := 16) dX8_bestHour_74 (by decide) ?_
        exact ih (i + 1) (nI i) _ (C + 300) (hrOut s) I3 _ (by omega) hV (by omega) hw' g3 (F2.trans (f3.mono (by omega) (by omega))) rfl
theorem CX8_bestHour (hx : xAt σ x m) (hw : wf T C m.s) (hT : T ≤ 2147483647) (hC : C + 30000 < 2147483648) (k : Int32) : Ctr Γ (8, 148, 1, 6) MX8_bestHour [.ref x, .int k] σ (xO σ x [eIO] (q_bestHour m k)) := by
  refine Ctr.go rfl (by decide) rfl rfl ?_
  unfold q_bestHour
  refine WP.iload_n (pc := 0) dX8_bestHour_0 rfl ?_
  refine WP.cSt (pc := 1) (mc2 := 0) (ms2 := 0) kX8_163 (CX8_needKind Γ k) rfl ⟨Nat.le_of_ble_eq_true rfl, Nat.le_of_ble_eq_true rfl⟩ (Nat.le_of_ble_eq_true rfl) (Nat.le_of_ble_eq_true rfl) (Nat.le_of_ble_eq_true rfl) rfl dX8_bestHour_1 rfl (fun hb0 n hn => ?_) (fun hb0 => ?_)
  · rw [if_pos hb0]
    exact xO.exc hx hn rfl
  · rw [if_neg hb0]
    refine WP.self ?_
    refine WP.aload_n (pc := 4) dX8_bestHour_4 rfl ?_
    refine WP.iconst (pc := 5) (v := 0) dX8_bestHour_5 (by decide) ?_
    refine WP.cVw (pc := 6) (mc2 := 0) (ms2 := 0) (ci := 8) kX8_280 (CX8_lookAhead Γ hx hw hT hC (N := 0) (by omega)) (by decide) rfl hx.1.t0 rfl ⟨Nat.le_of_ble_eq_true rfl, Nat.le_of_ble_eq_true rfl⟩ (Nat.le_of_ble_eq_true rfl) (Nat.le_of_ble_eq_true rfl) (Nat.le_of_ble_eq_true rfl) rfl dX8_bestHour_6 (fun I1 ⟨f1, g1⟩ => ?_)
    refine WP.iconst (pc := 9) (v := 0) dX8_bestHour_9 (by decide) ?_
    refine WP.istore_n (pc := 10) dX8_bestHour_10 (by decide) rfl ?_
    refine WP.iconst (pc := 11) (v := 0) dX8_bestHour_11 (by decide) ?_
    refine WP.istore_n (pc := 12) dX8_bestHour_12 (by decide) rfl ?_
    refine WP.iconst (pc := 13) (v := 0) dX8_bestHour_13 (by decide) ?_
    refine WP.istore (pc := 14) dX8_bestHour_14 (by decide) rfl ?_
    exact LX8_best Γ hx hT 25 0 0 0 C m.s I1 _ (by omega) rfl (by omega) hw g1 (f1.mono (by omega) (by omega)) rfl
theorem LX8_mean (hx : xAt σ x m) {V : UInt64} (hl : m.s.2.2.1.length ≤ 60) (h0 : m.s.2.2.1.length ≠ 0) (hV : q_meanAge m = V) : ∀ n i, i + n = m.s.2.2.1.length → WP Γ (1, 21, 0, 0) MX8_meanAge (rV (some (.double V)) σ) 21 [some (.ref x), some (.int (nI m.s.2.2.1.length)), some (.int (smI (fun i => m.s.1 3 - (m.s.2.2.1.getD i dL).2.2) i)), some (.int (nI i))] [] (wI σ (aI σ)) := by
  intro n
  induction n with
  | zero =>
    intro i hi
    refine WP.iload_n (pc := 21) dX8_meanAge_21 rfl ?_
    refine WP.iload_n (pc := 22) dX8_meanAge_22 rfl ?_
    refine WP.icmp_ge (pc := 23) (tgt := 43) dX8_meanAge_23 (by decide) (fun h1 => ?_) (fun h1 => ?_)
    · refine WP.iload_n (pc := 43) dX8_meanAge_43 rfl ?_
      refine WP.i2d (pc := 44) dX8_meanAge_44 ?_
      refine WP.iload_n (pc := 45) dX8_meanAge_45 rfl ?_
      refine WP.i2d (pc := 46) dX8_meanAge_46 ?_
      refine WP.ddiv (pc := 47) dX8_meanAge_47 (div_n64 _ _ (nI_ne0 (by omega) (by omega))) ?_
      refine WP.dret (pc := 48) rfl dX8_meanAge_48 ⟨?_, rfl⟩
      rw [← hV]
      unfold q_meanAge
      rw [if_neg h0, show i = m.s.2.2.1.length by omega]
    · exact absurd (nI_le (by omega) (by omega)) h1
  | succ n ih =>
    intro i hi
    refine WP.iload_n (pc := 21) dX8_meanAge_21 rfl ?_
    refine WP.iload_n (pc := 22) dX8_meanAge_22 rfl ?_
    refine WP.icmp_ge (pc := 23) (tgt := 43) dX8_meanAge_23 (by decide) (fun h1 => ?_) (fun h1 => ?_)
    · exact absurd h1 (nI_ge (by omega) (by omega))
    · have hg := gD_of dL (show i < m.s.2.2.1.length by omega)
      refine WP.iload_n (pc := 26) dX8_meanAge_26 rfl ?_
      refine WP.aload_n (pc := 27) dX8_meanAge_27 rfl ?_
      refine WP.gR (pc := 28) uX8 fX8_10 hx.1.t0 hx.1.r0_0 dX8_meanAge_28 ?_
      refine WP.iload_n (pc := 31) dX8_meanAge_31 rfl ?_
      refine WP.cV1 (pc := 32) (mc2 := 0) (ms2 := 0) (ci := 5) kX8_201 (CX5_ageOf Γ hx.1.a hx.2.2.1 hg) (by decide) rfl hx.1.a.t0 rfl ⟨Nat.le_of_ble_eq_true rfl, Nat.le_of_ble_eq_true rfl⟩ (Nat.le_of_ble_eq_true rfl) (Nat.le_of_ble_eq_true rfl) (Nat.le_of_ble_eq_true rfl) rfl dX8_meanAge_32 ?_
      refine WP.iadd (pc := 35) dX8_meanAge_35 ?_
      refine WP.istore_n (pc := 36) dX8_meanAge_36 (by decide) rfl ?_
      refine WP.iinc (pc := 37) dX8_meanAge_37 rfl (nI_1 _) (by decide) rfl ?_
      refine WP.goto (pc := 40) (tgt := 21) dX8_meanAge_40 (by decide) ?_
      exact ih (i + 1) (by omega)
theorem CX8_meanAge (hx : xAt σ x m) : Ctr Γ (1, 21, 0, 0) MX8_meanAge [.ref x] σ (rV (some (.double (q_meanAge m))) σ) := by
  have hk := hx.2.2.1.2.2.1
  have hl := hk.2.1
  refine Ctr.go rfl (by decide) rfl rfl ?_
  refine WP.self ?_
  refine WP.aload_n (pc := 0) dX8_meanAge_0 rfl ?_
  refine WP.gR (pc := 1) uX8 fX8_10 hx.1.t0 hx.1.r0_0 dX8_meanAge_1 ?_
  refine WP.gR (pc := 4) uX5 fX8_127 hx.1.a.t0 hx.1.a.r0_2 dX8_meanAge_4 ?_
  refine WP.gIv (pc := 7) (v := (nI m.s.2.2.1.length)) uX6 fX8_131 hx.1.a.t9 (by simp [up_eq, hk.1]) dX8_meanAge_7 ?_
  refine WP.istore_n (pc := 10) dX8_meanAge_10 (by decide) rfl ?_
  refine WP.iload_n (pc := 11) dX8_meanAge_11 rfl ?_
  refine WP.if_gt (pc := 12) (tgt := 17) dX8_meanAge_12 (by decide) (fun h1 => ?_) (fun h1 => ?_)
  · have h0 : m.s.2.2.1.length ≠ 0 := fun q => by
      rw [q] at h1
      exact absurd h1 (by decide)
    refine WP.iconst (pc := 17) (v := 0) dX8_meanAge_17 (by decide) ?_
    refine WP.istore_n (pc := 18) dX8_meanAge_18 (by decide) rfl ?_
    refine WP.iconst (pc := 19) (v := 0) dX8_meanAge_19 (by decide) ?_
    refine WP.istore_n (pc := 20) dX8_meanAge_20 (by decide) rfl ?_
    exact LX8_mean Γ hx hl h0 rfl m.s.2.2.1.length 0 (by omega)
  · have h0 : m.s.2.2.1.length = 0 := by
      rcases Nat.eq_zero_or_pos m.s.2.2.1.length with q | q
      · exact q
      · exact absurd (nI_lt (a := 0) q (by omega)) h1
    refine WP.dconst0 (pc := 15) dX8_meanAge_15 ?_
    refine WP.dret (pc := 16) rfl dX8_meanAge_16 ⟨?_, rfl⟩
    unfold q_meanAge
    rw [if_pos h0]
theorem CX8_soldShare (hx : xAt σ x m) (hk : inR (m.s.1 6) 0 16777216) : Ctr Γ (0, 0, 0, 0) MX8_soldShare [.ref x] σ (rV (some (.float (q_soldShare m))) σ) := by
  obtain ⟨-, -, -, h8, h9, -⟩ := hx.2.2.1.gz
  refine Ctr.go rfl (by decide) rfl rfl ?_
  refine WP.self ?_
  refine WP.aload_n (pc := 0) dX8_soldShare_0 rfl ?_
  refine WP.gR (pc := 1) uX8 fX8_10 hx.1.t0 hx.1.r0_0 dX8_soldShare_1 ?_
  refine WP.gIv (pc := 4) (v := (m.s.1 6)) uX5 fX8_271 hx.1.a.t0 (by simp [up_eq, h8]) dX8_soldShare_4 ?_
  unfold q_soldShare
  refine WP.if_gt (pc := 7) (tgt := 12) dX8_soldShare_7 (by decide) (fun h1 => ?_) (fun h1 => ?_)
  · rw [if_neg (Int32.not_le.mpr h1)]
    refine WP.aload_n (pc := 12) dX8_soldShare_12 rfl ?_
    refine WP.gR (pc := 13) uX8 fX8_10 hx.1.t0 hx.1.r0_0 dX8_soldShare_13 ?_
    refine WP.gIv (pc := 16) (v := (m.s.1 7)) uX5 fX8_274 hx.1.a.t0 (by simp [up_eq, h9]) dX8_soldShare_16 ?_
    refine WP.i2f (pc := 19) dX8_soldShare_19 ?_
    refine WP.aload_n (pc := 20) dX8_soldShare_20 rfl ?_
    refine WP.gR (pc := 21) uX8 fX8_10 hx.1.t0 hx.1.r0_0 dX8_soldShare_21 ?_
    refine WP.gIv (pc := 24) (v := (m.s.1 6)) uX5 fX8_271 hx.1.a.t0 (by simp [up_eq, h8]) dX8_soldShare_24 ?_
    refine WP.i2f (pc := 27) dX8_soldShare_27 ?_
    obtain ⟨b, hb, -, hb2⟩ := hk
    refine WP.fdiv (pc := 28) dX8_soldShare_28 ?_ ?_
    · rw [hb]
      refine div_n32 _ (fun q => ?_) hb2
      rw [hb, q] at h1
      exact absurd h1 (by decide)
    · exact WP.fret (pc := 29) rfl dX8_soldShare_29 ⟨rfl, rfl⟩
  · rw [if_pos (Int32.not_lt.mp h1)]
    refine WP.fconst0 (pc := 10) dX8_soldShare_10 ?_
    exact WP.fret (pc := 11) rfl dX8_soldShare_11 ⟨rfl, rfl⟩
end T
