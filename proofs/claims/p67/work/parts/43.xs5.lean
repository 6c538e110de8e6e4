-- behind: 42
def psh (m : mX) (s : mS) : mX := (mX.w_s (mX.w_past m (pushP m.past m.s)) (s))
theorem fl_st {I I' : Nat → Nat → Int32} {x : Nat} {m : mX} (s : mS) (h : flAt I x m) (hf : fr I I' (x + 1) 25) : flAt I' x (mX.w_s m (s)) := by
  unfold flAt
  rw [hf (x + 27) (by omega), hf (x + 56) (by omega), hf x (by omega), hf (x + 59) (by omega)]
  exact h
theorem xAt.st {σ : cAS} {x : Nat} {m : mX} {I : Nat → Nat → Int32} {s : mS} (h : xAt σ x m) (hf : fr (aI σ) I (x + 1) 25) (hst : stAt I (x + 1) s) : xAt (wI σ I) x (mX.w_s m (s)) ∧ kpM σ (wI σ I) x :=
  ⟨h.mv (hf.mono (by omega) (by omega)) hst (fl_st s h.2.2.2.1 hf) rfl, kpM.mv (hf.mono (by omega) (by omega))⟩
theorem kpM.st {σ τ : cAS} {x : Nat} {I : Nat → Nat → Int32} (h : kpM σ τ x) (hf : fr (aI τ) I x 62) : kpM σ (wI τ I) x := h.trans (kpM.mv hf)
def q_truncateInput (m : mX) (l : Int32) : oR := if l < 0 ∨ nI m.n < l then (1, 0, m) else (0, l, (mX.w_n m (l.toNatClampNeg)))
def q_bake (m : mX) (i k : Int32) : oR := if ixB i m.s.2.1.length then (1, 0, m) else if ixB k 3 then (1, 0, m) else if rfU m.s (m.s.2.1.getD i.toNatClampNeg dB) = 0 then (0, (m.s.2.1.getD i.toNatClampNeg dB).2.1, psh m (bgB m.s i.toNatClampNeg k)) else (2, 0, m)
def q_auction (m : mX) (k : Int32) : oR := if ixB k 3 then (1, 0, m) else (0, nI (plT m.s k), psh m (hdOut m.s k))
def sdA (s : mS) (i : Nat) : mS := (zup s.1 10 (s.1 10 + (s.2.2.2.1.getD i dC).2.2.2.2.2.1), s.2.1, s.2.2.1, (s.2.2.2.1.set i ((s.2.2.2.1.getD i dC).1, -1, (s.2.2.2.1.getD i dC).2.2)).filter pC, evAdd s.2.2.2.2 (3, (s.2.2.2.1.getD i dC).2.1, 2))
def q_sendAway (m : mX) (i : Int32) : oR := if ixB i m.s.2.2.2.1.length then (1, 0, m) else (0, (m.s.2.2.2.1.getD i.toNatClampNeg dC).2.2.2.2.2.1, psh m (sdA m.s i.toNatClampNeg))
def q_setBasePrice (m : mX) (k p : Int32) : oR := if ixB k 3 then (1, 0, m) else if p < 1 ∨ 99 < p then (2, 0, m) else (0, bsO m.s.1 k, psh m (zup m.s.1 k.toNatClampNeg p, m.s.2))
def q_scatter (m : mX) (c : Int32) : oR := if c < 1 ∨ 99 < c then (1, 0, m) else (0, m.s.1 4 + c, psh m (zup m.s.1 4 (m.s.1 4 + c), m.s.2))
def q_passHours (m : mX) (h : Int32) : oR := if h < 1 ∨ 60 < h then (1, 0, m) else (0, (hrsN h.toNatClampNeg m.s).1 8 - m.s.1 8, psh m (hrsN h.toNatClampNeg m.s))
def q_joinQueue (m : mX) (k w l p t : Int32) : oR :=
  if ixB k 3 then (1, 0, m) else if w < 1 ∨ 9 < w then (2, 0, m) else if l < 1 ∨ 99 < l then (2, 0, m) else if p < 0 ∨ 999 < p then (2, 0, m) else if t < 1 ∨ 99 < t then (2, 0, m)
  else if pkN m.f 0 m.n = -1 then (2, 0, m) else if 10 ≤ m.s.2.2.2.1.length ∨ hasN m.s (pkN m.f 0 m.n) = true then (3, 0, m)
  else (0, m.s.1 11, (mX.w_n (psh m (wlC m.s (nmF m.f 0 m.n) k w l p t)) (0)))
section T
variable (Γ : cG) {σ : cAS} {x : Nat} {m : mX} {T C : Nat}
theorem CX8_truncateInput (hx : xAt σ x m) (l : Int32) : Ctr Γ (7, 112, 1, 6) MX8_truncateInput [.ref x, .int l] σ (xO σ x [eIA] (q_truncateInput m l)) := by
  have h9 : aI σ x 9 = nI m.n := hx.2.2.2.1.2.2.1
  have hn6 : m.n ≤ 600 := hx.2.2.2.1.2.2.2.1
  refine Ctr.go rfl (by decide) rfl rfl ?_
  refine WP.self ?_
  unfold q_truncateInput
  refine WP.iload_n (pc := 0) dX8_truncateInput_0 rfl ?_
  refine WP.iconst (pc := 1) (v := 0) dX8_truncateInput_1 (by decide) ?_
  refine WP.aload_n (pc := 2) dX8_truncateInput_2 rfl ?_
  refine WP.gIv (pc := 3) (v := (nI m.n)) uX8 fX8_69 hx.1.t0 (by simp [up_eq, h9]) dX8_truncateInput_3 ?_
  refine WP.cSt (pc := 6) (mc2 := 0) (ms2 := 0) kX8_83 (CX8_needRange Γ l 0 (nI m.n)) rfl ⟨Nat.le_of_ble_eq_true rfl, Nat.le_of_ble_eq_true rfl⟩ (Nat.le_of_ble_eq_true rfl) (Nat.le_of_ble_eq_true rfl) (Nat.le_of_ble_eq_true rfl) rfl dX8_truncateInput_6 rfl (fun hb n hn => ?_) (fun hb => ?_)
  · rw [if_pos hb]
    exact xO.exc hx hn rfl
  · rw [if_neg hb]
    obtain ⟨j, hj, rfl⟩ := nI_of (x := l) (fun q => hb (Or.inl q))
    have hjn : j ≤ m.n := Nat.not_lt.mp fun q => hb (Or.inr (nI_lt q hj))
    refine WP.aload_n (pc := 9) dX8_truncateInput_9 rfl ?_
    refine WP.iload_n (pc := 10) dX8_truncateInput_10 rfl ?_
    refine WP.pI (pc := 11) uX8 fX8_69 rfl rfl hx.1.t0 dX8_truncateInput_11 ?_
    refine WP.aload_n (pc := 14) dX8_truncateInput_14 rfl ?_
    refine WP.gI (pc := 15) uX8 fX8_69 hx.1.t0 dX8_truncateInput_15 ?_
    refine WP.iret (pc := 18) rfl dX8_truncateInput_18 ?_
    have hf : fr (aI σ) (up (aI σ) x 9 (nI j)) x 62 := fr_up1.mono (by omega) (by omega)
    rw [nI_clamp hj]
    rw [show (up (aI σ) x 9 (nI j)) x 9 = nI j by simp [up_eq]]
    refine xO.ret2 (hx.mv hf (hx.2.2.1.ext (fun a c1 c2 => by funext j'; rw [up_eq, if_neg (fun z => by omega)])) ?_ rfl) (kpM.mv hf)
    obtain ⟨b1, b2, b3, b4, b5, b6, b7, b8, b9, b10, b11, b12⟩ := hx.2.2.2.1
    have e : ∀ a, a ≠ x → (up (aI σ) x 9 (nI j)) a = aI σ a := fun a ha => by funext j'; rw [up_eq, if_neg (fun z => ha z.1)]
    have ex : ∀ k, k ≠ 9 → (up (aI σ) x 9 (nI j)) x k = aI σ x k := fun k hk => by rw [up_eq, if_neg (fun z => hk z.2)]
    exact ⟨fun j' hj' => by rw [e _ (by omega)]; exact b1 j' hj', by rw [e _ (by omega)]; exact b2, by simp [up_eq], by show j ≤ 600; omega, by rw [ex _ (by omega)]; exact b5, b6, by rw [ex _ (by omega)]; exact b7, by rw [ex _ (by omega)]; exact b8, b9, fun i v hv => by rw [e _ (by omega)]; exact b10 i v hv, by rw [ex _ (by omega)]; exact b11, b12⟩
theorem CX8_scatter (hx : xAt σ x m) (c : Int32) : Ctr Γ (7, 125, 26, 410) MX8_scatter [.ref x, .int c] σ (xO σ x [eIA] (q_scatter m c)) := by
  refine Ctr.go rfl (by decide) rfl rfl ?_
  unfold q_scatter
  refine WP.iload_n (pc := 0) dX8_scatter_0 rfl ?_
  refine WP.iconst (pc := 1) (v := 1) dX8_scatter_1 (by decide) ?_
  refine WP.bipush (pc := 2) (v := 99) dX8_scatter_2 (by decide) ?_
  refine WP.cSt (pc := 4) (mc2 := 25) (ms2 := 404) kX8_83 (CX8_needRange Γ c 1 99) rfl ⟨Nat.le_of_ble_eq_true rfl, Nat.le_of_ble_eq_true rfl⟩ (Nat.le_of_ble_eq_true rfl) (Nat.le_of_ble_eq_true rfl) (Nat.le_of_ble_eq_true rfl) rfl dX8_scatter_4 rfl (fun hb n hn => ?_) (fun hb => ?_)
  · rw [if_pos hb]
    exact xO.exc hx hn rfl
  · rw [if_neg hb]
    refine WP.aload_n (pc := 7) dX8_scatter_7 rfl ?_
    refine WP.cVo (pc := 8) (mc2 := 0) (ms2 := 0) (ci := 8) kX8_101 (CX8_remember Γ hx) (by decide) rfl hx.1.t0 rfl ⟨Nat.le_of_ble_eq_true rfl, Nat.le_of_ble_eq_true rfl⟩ (Nat.le_of_ble_eq_true rfl) (Nat.le_of_ble_eq_true rfl) (Nat.le_of_ble_eq_true rfl) rfl dX8_scatter_8 (fun τ ⟨hτ, kτ⟩ => ?_)
    refine WP.self ?_
    have h6 : aI τ (x + 1) 6 = m.s.1 4 := hτ.2.2.1.gz.2.1
    refine WP.aload_n (pc := 11) dX8_scatter_11 rfl ?_
    refine WP.gR (pc := 12) uX8 fX8_10 hτ.1.t0 hτ.1.r0_0 dX8_scatter_12 ?_
    refine WP.dup (pc := 15) dX8_scatter_15 rfl ?_
    refine WP.gIv (pc := 16) (v := (m.s.1 4)) uX5 fX8_134 hτ.1.a.t0 (by simp [up_eq, h6]) dX8_scatter_16 ?_
    refine WP.iload_n (pc := 19) dX8_scatter_19 rfl ?_
    refine WP.iadd (pc := 20) dX8_scatter_20 ?_
    refine WP.pI (pc := 21) uX5 fX8_134 rfl rfl hτ.1.a.t0 dX8_scatter_21 ?_
    refine WP.aload_n (pc := 24) dX8_scatter_24 rfl ?_
    refine WP.gR (pc := 25) uX8 fX8_10 hτ.1.t0 hτ.1.r0_0 dX8_scatter_25 ?_
    refine WP.gI (pc := 28) uX5 fX8_134 hτ.1.a.t0 dX8_scatter_28 ?_
    refine WP.iret (pc := 31) rfl dX8_scatter_31 ?_
    have hf : fr (aI τ) (up (aI τ) (x + 1) 6 (m.s.1 4 + c)) (x + 1) 25 := fr_up1.mono (by omega) (by omega)
    rw [show (up (aI τ) (x + 1) 6 (m.s.1 4 + c)) (x + 1) 6 = m.s.1 4 + c by simp [up_eq]]
    obtain ⟨h1, h2⟩ := hτ.st hf (hτ.2.2.1.z 4 (m.s.1 4 + c) (by omega) (by omega))
    exact xO.ret2 h1 (kτ.trans h2)
theorem CX8_setBasePrice (hx : xAt σ x m) (k p : Int32) : Ctr Γ (8, 131, 27, 416) MX8_setBasePrice [.ref x, .int k, .int p] σ (xO σ x [eIO, eIA] (q_setBasePrice m k p)) := by
  refine Ctr.go rfl (by decide) rfl rfl ?_
  unfold q_setBasePrice
  refine WP.iload_n (pc := 0) dX8_setBasePrice_0 rfl ?_
  refine WP.cSt (pc := 1) (mc2 := 26) (ms2 := 410) kX8_163 (CX8_needKind Γ k) rfl ⟨Nat.le_of_ble_eq_true rfl, Nat.le_of_ble_eq_true rfl⟩ (Nat.le_of_ble_eq_true rfl) (Nat.le_of_ble_eq_true rfl) (Nat.le_of_ble_eq_true rfl) rfl dX8_setBasePrice_1 rfl (fun hb0 n hn => ?_) (fun hb0 => ?_)
  · rw [if_pos hb0]
    exact xO.exc hx hn rfl
  · rw [if_neg hb0]
    refine WP.iload_n (pc := 4) dX8_setBasePrice_4 rfl ?_
    refine WP.iconst (pc := 5) (v := 1) dX8_setBasePrice_5 (by decide) ?_
    refine WP.bipush (pc := 6) (v := 99) dX8_setBasePrice_6 (by decide) ?_
    refine WP.cSt (pc := 8) (mc2 := 25) (ms2 := 404) kX8_83 (CX8_needRange Γ p 1 99) rfl ⟨Nat.le_of_ble_eq_true rfl, Nat.le_of_ble_eq_true rfl⟩ (Nat.le_of_ble_eq_true rfl) (Nat.le_of_ble_eq_true rfl) (Nat.le_of_ble_eq_true rfl) rfl dX8_setBasePrice_8 rfl (fun hb n hn => ?_) (fun hb => ?_)
    · rw [if_pos hb]
      exact xO.exc hx hn rfl
    · rw [if_neg hb]
      obtain ⟨j, rfl, hj⟩ := ixN hb0 (by decide)
      rw [nI_clamp (by omega)]
      refine WP.aload_n (pc := 11) dX8_setBasePrice_11 rfl ?_
      refine WP.cVo (pc := 12) (mc2 := 0) (ms2 := 0) (ci := 8) kX8_101 (CX8_remember Γ hx) (by decide) rfl hx.1.t0 rfl ⟨Nat.le_of_ble_eq_true rfl, Nat.le_of_ble_eq_true rfl⟩ (Nat.le_of_ble_eq_true rfl) (Nat.le_of_ble_eq_true rfl) (Nat.le_of_ble_eq_true rfl) rfl dX8_setBasePrice_12 (fun τ ⟨hτ, kτ⟩ => ?_)
      refine WP.self ?_
      refine WP.aload_n (pc := 15) dX8_setBasePrice_15 rfl ?_
      refine WP.gR (pc := 16) uX8 fX8_10 hτ.1.t0 hτ.1.r0_0 dX8_setBasePrice_16 ?_
      refine WP.iload_n (pc := 19) dX8_setBasePrice_19 rfl ?_
      refine WP.cV1 (pc := 20) (mc2 := 0) (ms2 := 0) (ci := 5) kX8_207 (CX5_baseOf Γ hτ.1.a hτ.2.2.1 (nI j)) (by decide) rfl hτ.1.a.t0 rfl ⟨Nat.le_of_ble_eq_true rfl, Nat.le_of_ble_eq_true rfl⟩ (Nat.le_of_ble_eq_true rfl) (Nat.le_of_ble_eq_true rfl) (Nat.le_of_ble_eq_true rfl) rfl dX8_setBasePrice_20 ?_
      refine WP.istore_n (pc := 23) dX8_setBasePrice_23 (by decide) rfl ?_
      refine WP.aload_n (pc := 24) dX8_setBasePrice_24 rfl ?_
      refine WP.gR (pc := 25) uX8 fX8_10 hτ.1.t0 hτ.1.r0_0 dX8_setBasePrice_25 ?_
      refine WP.gR (pc := 28) uX5 fX8_317 hτ.1.a.t0 hτ.1.a.r0_0 dX8_setBasePrice_28 ?_
      refine WP.iload_n (pc := 31) dX8_setBasePrice_31 rfl ?_
      refine WP.iload_n (pc := 32) dX8_setBasePrice_32 rfl ?_
      refine WP.iast (pc := 33) hτ.1.a.t1 (by omega) (by decide) dX8_setBasePrice_33 ?_
      refine WP.iload_n (pc := 34) dX8_setBasePrice_34 rfl ?_
      refine WP.iret (pc := 35) rfl dX8_setBasePrice_35 ?_
      have hf : fr (aI τ) (up (aI τ) (x + 1 + 1) j p) (x + 1) 25 := fr_up1.mono (by omega) (by omega)
      obtain ⟨h1, h2⟩ := hτ.st hf (hτ.2.2.1.base j p hj)
      exact xO.ret2 h1 (kτ.trans h2)
theorem CX8_auction (hx : xAt σ x m) (hw : wf T C m.s) (k : Int32) : Ctr Γ (8, 131, 26, 410) MX8_auction [.ref x, .int k] σ (xO σ x [eIO] (q_auction m k)) := by
  refine Ctr.go rfl (by decide) rfl rfl ?_
  unfold q_auction
  refine WP.iload_n (pc := 0) dX8_auction_0 rfl ?_
  refine WP.cSt (pc := 1) (mc2 := 25) (ms2 := 404) kX8_163 (CX8_needKind Γ k) rfl ⟨Nat.le_of_ble_eq_true rfl, Nat.le_of_ble_eq_true rfl⟩ (Nat.le_of_ble_eq_true rfl) (Nat.le_of_ble_eq_true rfl) (Nat.le_of_ble_eq_true rfl) rfl dX8_auction_1 rfl (fun hb0 n hn => ?_) (fun hb0 => ?_)
  · rw [if_pos hb0]
    exact xO.exc hx hn rfl
  · rw [if_neg hb0]
    refine WP.aload_n (pc := 4) dX8_auction_4 rfl ?_
    refine WP.cVo (pc := 5) (mc2 := 0) (ms2 := 0) (ci := 8) kX8_101 (CX8_remember Γ hx) (by decide) rfl hx.1.t0 rfl ⟨Nat.le_of_ble_eq_true rfl, Nat.le_of_ble_eq_true rfl⟩ (Nat.le_of_ble_eq_true rfl) (Nat.le_of_ble_eq_true rfl) (Nat.le_of_ble_eq_true rfl) rfl dX8_auction_5 (fun τ ⟨hτ, kτ⟩ => ?_)
    refine WP.self ?_
    refine WP.aload_n (pc := 8) dX8_auction_8 rfl ?_
    refine WP.gR (pc := 9) uX8 fX8_22 hτ.1.t0 hτ.1.r0_2 dX8_auction_9 ?_
    refine WP.aload_n (pc := 12) dX8_auction_12 rfl ?_
    refine WP.gR (pc := 13) uX8 fX8_10 hτ.1.t0 hτ.1.r0_0 dX8_auction_13 ?_
    refine WP.iload_n (pc := 16) dX8_auction_16 rfl ?_
    refine WP.cVw (pc := 17) (mc2 := 0) (ms2 := 0) (ci := 0) kX8_292 (CX0_hold Γ hτ.1 hτ.1.a (by omega) hτ.2.2.1 k hw.cu hw.bk) (by decide) rfl hτ.1.t51 rfl ⟨Nat.le_of_ble_eq_true rfl, Nat.le_of_ble_eq_true rfl⟩ (Nat.le_of_ble_eq_true rfl) (Nat.le_of_ble_eq_true rfl) (Nat.le_of_ble_eq_true rfl) rfl dX8_auction_17 (fun I1 ⟨f1, g1, g2⟩ => ?_)
    refine WP.aload_n (pc := 20) dX8_auction_20 rfl ?_
    refine WP.gR (pc := 21) uX8 fX8_22 hτ.1.t0 hτ.1.r0_2 dX8_auction_21 ?_
    refine WP.gIv (pc := 24) (v := (nI (plT m.s k))) uX0 fX8_221 hτ.1.t51 (by simp [up_eq, g2]) dX8_auction_24 ?_
    refine WP.iret (pc := 27) rfl dX8_auction_27 ?_
    have hf : fr (aI τ) I1 x 62 := fun a ha => f1 a (by omega) (by omega)
    refine xO.ret2 (hτ.mv (m' := psh m (hdOut m.s k)) hf g1 ?_ rfl) (kτ.trans (kpM.mv hf))
    obtain ⟨b1, b2, b3, b4, b5, b6, b7, b8, b9, b10, b11, b12⟩ := hτ.2.2.2.1
    exact ⟨fun j' hj' => by rw [f1 _ (by omega) (by omega)]; exact b1 j' hj', by rw [f1 _ (by omega) (by omega)]; exact b2, by rw [f1 _ (by omega) (by omega)]; exact b3, b4, by rw [f1 _ (by omega) (by omega)]; exact b5, b6, by rw [f1 _ (by omega) (by omega)]; exact b7, by rw [f1 _ (by omega) (by omega)]; exact b8, b9, fun i v hv => by rw [f1 _ (by omega) (by omega)]; exact b10 i v hv, by rw [f1 _ (by omega) (by omega)]; exact b11, b12⟩
theorem CX8_bake (hx : xAt σ x m) (i k : Int32) : Ctr Γ (8, 132, 28, 422) MX8_bake [.ref x, .int i, .int k] σ (xO σ x [eIO, eIS] (q_bake m i k)) := by
  have hl := hx.2.2.1.2.1.2.1
  refine Ctr.go rfl (by decide) rfl rfl ?_
  unfold q_bake
  refine WP.aload_n (pc := 0) dX8_bake_0 rfl ?_
  refine WP.iload_n (pc := 1) dX8_bake_1 rfl ?_
  refine WP.cVt (pc := 2) (mc2 := 27) (ms2 := 416) (ci := 8) kX8_140 (CX8_needBaker Γ hx i) (by decide) rfl hx.1.t0 rfl ⟨Nat.le_of_ble_eq_true rfl, Nat.le_of_ble_eq_true rfl⟩ (Nat.le_of_ble_eq_true rfl) (Nat.le_of_ble_eq_true rfl) (Nat.le_of_ble_eq_true rfl) rfl dX8_bake_2 rfl (fun hb0 n hn => ?_) (fun hb0 => ?_)
  · rw [if_pos hb0]
    exact xO.exc hx hn rfl
  · rw [if_neg hb0]
    refine WP.iload_n (pc := 5) dX8_bake_5 rfl ?_
    refine WP.cSt (pc := 6) (mc2 := 26) (ms2 := 410) kX8_163 (CX8_needKind Γ k) rfl ⟨Nat.le_of_ble_eq_true rfl, Nat.le_of_ble_eq_true rfl⟩ (Nat.le_of_ble_eq_true rfl) (Nat.le_of_ble_eq_true rfl) (Nat.le_of_ble_eq_true rfl) rfl dX8_bake_6 rfl (fun hb n hn => ?_) (fun hb => ?_)
    · rw [if_pos hb]
      exact xO.exc hx hn rfl
    · rw [if_neg hb]
      obtain ⟨j, rfl, hj⟩ := ixN hb0 (by omega)
      rw [nI_clamp (by omega)]
      have hg := gD_of dB hj
      refine WP.self ?_
      refine WP.aload_n (pc := 9) dX8_bake_9 rfl ?_
      refine WP.gR (pc := 10) uX8 fX8_10 hx.1.t0 hx.1.r0_0 dX8_bake_10 ?_
      refine WP.iload_n (pc := 13) dX8_bake_13 rfl ?_
      refine WP.cV1 (pc := 14) (mc2 := 26) (ms2 := 410) (ci := 5) kX8_166 (CX5_refusal Γ hx.1.a hx.2.2.1 hg) (by decide) rfl hx.1.a.t0 rfl ⟨Nat.le_of_ble_eq_true rfl, Nat.le_of_ble_eq_true rfl⟩ (Nat.le_of_ble_eq_true rfl) (Nat.le_of_ble_eq_true rfl) (Nat.le_of_ble_eq_true rfl) rfl dX8_bake_14 ?_
      refine WP.if_eq (pc := 17) (tgt := 31) dX8_bake_17 (by decide) (fun h0 => ?_) (fun h0 => ?_)
      · rw [if_pos h0]
        refine WP.aload_n (pc := 31) dX8_bake_31 rfl ?_
        refine WP.cVo (pc := 32) (mc2 := 0) (ms2 := 0) (ci := 8) kX8_101 (CX8_remember Γ hx) (by decide) rfl hx.1.t0 rfl ⟨Nat.le_of_ble_eq_true rfl, Nat.le_of_ble_eq_true rfl⟩ (Nat.le_of_ble_eq_true rfl) (Nat.le_of_ble_eq_true rfl) (Nat.le_of_ble_eq_true rfl) rfl dX8_bake_32 (fun τ ⟨hτ, kτ⟩ => ?_)
        refine WP.self ?_
        refine WP.aload_n (pc := 35) dX8_bake_35 rfl ?_
        refine WP.gR (pc := 36) uX8 fX8_10 hτ.1.t0 hτ.1.r0_0 dX8_bake_36 ?_
        refine WP.gR (pc := 39) uX5 fX8_120 hτ.1.a.t0 hτ.1.a.r0_1 dX8_bake_39 ?_
        refine WP.iload_n (pc := 42) dX8_bake_42 rfl ?_
        refine WP.iload_n (pc := 43) dX8_bake_43 rfl ?_
        refine WP.cVw (pc := 44) (mc2 := 0) (ms2 := 0) (ci := 1) kX8_288 (CX1_begin Γ hτ.1.a k hg hτ.2.2.1.2.1) (by decide) rfl hτ.1.a.t2 rfl ⟨Nat.le_of_ble_eq_true rfl, Nat.le_of_ble_eq_true rfl⟩ (Nat.le_of_ble_eq_true rfl) (Nat.le_of_ble_eq_true rfl) (Nat.le_of_ble_eq_true rfl) rfl dX8_bake_44 (fun I1 ⟨f1, g1⟩ => ?_)
        refine WP.aload_n (pc := 47) dX8_bake_47 rfl ?_
        refine WP.gR (pc := 48) uX8 fX8_10 hτ.1.t0 hτ.1.r0_0 dX8_bake_48 ?_
        refine WP.gR (pc := 51) uX5 fX8_120 hτ.1.a.t0 hτ.1.a.r0_1 dX8_bake_51 ?_
        refine WP.gR (pc := 54) uX1 fX8_151 hτ.1.a.t2 hτ.1.a.r2_2 dX8_bake_54 ?_
        refine WP.iload_n (pc := 57) dX8_bake_57 rfl ?_
        refine WP.iald (pc := 58) hτ.1.a.t4 (by omega) (by decide) dX8_bake_58 ?_
        have hg2 : (m.s.2.1.set j ((m.s.2.1.getD j dB).1, (m.s.2.1.getD j dB).2.1, (m.s.2.1.getD j dB).2.2.1, k, (m.s.2.1.getD j dB).2.2.1, (m.s.2.1.getD j dB).2.2.2.2.2))[j]? = some ((m.s.2.1.getD j dB).1, (m.s.2.1.getD j dB).2.1, (m.s.2.1.getD j dB).2.2.1, k, (m.s.2.1.getD j dB).2.2.1, (m.s.2.1.getD j dB).2.2.2.2.2) := by
          rw [List.getElem?_set, if_pos rfl, if_pos hj]
        rw [(g1.2.2 j _ hg2).2.1]
        refine WP.iret (pc := 59) rfl dX8_bake_59 ?_
        have hf : fr (aI τ) I1 (x + 1) 25 := f1.mono (by omega) (by omega)
        have hsb : bgB m.s j k = (m.s.1, m.s.2.1.set j ((m.s.2.1.getD j dB).1, (m.s.2.1.getD j dB).2.1, (m.s.2.1.getD j dB).2.2.1, k, (m.s.2.1.getD j dB).2.2.1, (m.s.2.1.getD j dB).2.2.2.2.2), m.s.2.2) := by
          unfold bgB
          rw [hg]
        rw [hsb]
        obtain ⟨h1, h2⟩ := hτ.st hf (hτ.2.2.1.bk f1 g1)
        exact xO.ret2 h1 (kτ.trans h2)
      · rw [if_neg h0]
        refine WP.throwSW (pc := 20) rfl tX8_bake_20 ⟨by decide, by decide, by decide, by decide⟩ dX8_bake_20 dX8_bake_23 dX8_bake_24 dX8_bake_27 dX8_bake_30 (fun n hn => ?_)
        exact xO.exc hx hn rfl
theorem CX8_sendAway (hx : xAt σ x m) (i : Int32) : Ctr Γ (8, 132, 26, 410) MX8_sendAway [.ref x, .int i] σ (xO σ x [eIO] (q_sendAway m i)) := by
  have hl := hx.2.2.1.2.2.2.1.2.1
  refine Ctr.go rfl (by decide) rfl rfl ?_
  unfold q_sendAway
  refine WP.aload_n (pc := 0) dX8_sendAway_0 rfl ?_
  refine WP.iload_n (pc := 1) dX8_sendAway_1 rfl ?_
  refine WP.cVt (pc := 2) (mc2 := 25) (ms2 := 404) (ci := 8) kX8_170 (CX8_needCustomer Γ hx i) (by decide) rfl hx.1.t0 rfl ⟨Nat.le_of_ble_eq_true rfl, Nat.le_of_ble_eq_true rfl⟩ (Nat.le_of_ble_eq_true rfl) (Nat.le_of_ble_eq_true rfl) (Nat.le_of_ble_eq_true rfl) rfl dX8_sendAway_2 rfl (fun hb0 n hn => ?_) (fun hb0 => ?_)
  · rw [if_pos hb0]
    exact xO.exc hx hn rfl
  · rw [if_neg hb0]
    obtain ⟨j, rfl, hj⟩ := ixN hb0 (by omega)
    rw [nI_clamp (by omega)]
    have hg := gD_of dC hj
    refine WP.aload_n (pc := 5) dX8_sendAway_5 rfl ?_
    refine WP.cVo (pc := 6) (mc2 := 0) (ms2 := 0) (ci := 8) kX8_101 (CX8_remember Γ hx) (by decide) rfl hx.1.t0 rfl ⟨Nat.le_of_ble_eq_true rfl, Nat.le_of_ble_eq_true rfl⟩ (Nat.le_of_ble_eq_true rfl) (Nat.le_of_ble_eq_true rfl) (Nat.le_of_ble_eq_true rfl) rfl dX8_sendAway_6 (fun τ ⟨hτ, kτ⟩ => ?_)
    refine WP.self ?_
    refine WP.aload_n (pc := 9) dX8_sendAway_9 rfl ?_
    refine WP.gR (pc := 10) uX8 fX8_10 hτ.1.t0 hτ.1.r0_0 dX8_sendAway_10 ?_
    refine WP.gR (pc := 13) uX5 fX8_108 hτ.1.a.t0 hτ.1.a.r0_3 dX8_sendAway_13 ?_
    refine WP.gR (pc := 16) uX2 fX8_184 hτ.1.a.t13 hτ.1.a.r13_7 dX8_sendAway_16 ?_
    refine WP.iload_n (pc := 19) dX8_sendAway_19 rfl ?_
    refine WP.iald (pc := 20) hτ.1.a.t19 (by omega) (by decide) dX8_sendAway_20 ?_
    rw [(hτ.2.2.1.2.2.2.1.2.2 j _ hg).2.2.2.2.2.1]
    refine WP.istore_n (pc := 21) dX8_sendAway_21 (by decide) rfl ?_
    refine WP.aload_n (pc := 22) dX8_sendAway_22 rfl ?_
    refine WP.gR (pc := 23) uX8 fX8_10 hτ.1.t0 hτ.1.r0_0 dX8_sendAway_23 ?_
    refine WP.iload_n (pc := 26) dX8_sendAway_26 rfl ?_
    refine WP.iconst (pc := 27) (v := 2) dX8_sendAway_27 (by decide) ?_
    refine WP.cVw (pc := 28) (mc2 := 0) (ms2 := 0) (ci := 5) kX8_311 (CX5_dismiss Γ hτ.1.a hτ.2.2.1 hg 2) (by decide) rfl hτ.1.a.t0 rfl ⟨Nat.le_of_ble_eq_true rfl, Nat.le_of_ble_eq_true rfl⟩ (Nat.le_of_ble_eq_true rfl) (Nat.le_of_ble_eq_true rfl) (Nat.le_of_ble_eq_true rfl) rfl dX8_sendAway_28 (fun I1 ⟨f1, g1⟩ => ?_)
    refine WP.aload_n (pc := 31) dX8_sendAway_31 rfl ?_
    refine WP.gR (pc := 32) uX8 fX8_10 hτ.1.t0 hτ.1.r0_0 dX8_sendAway_32 ?_
    refine WP.gR (pc := 35) uX5 fX8_108 hτ.1.a.t0 hτ.1.a.r0_3 dX8_sendAway_35 ?_
    refine WP.cVw (pc := 38) (mc2 := 0) (ms2 := 0) (ci := 2) kX8_314 (CX2_closeGaps Γ hτ.1.a g1.2.2.2.1) (by decide) rfl hτ.1.a.t13 rfl ⟨Nat.le_of_ble_eq_true rfl, Nat.le_of_ble_eq_true rfl⟩ (Nat.le_of_ble_eq_true rfl) (Nat.le_of_ble_eq_true rfl) (Nat.le_of_ble_eq_true rfl) rfl dX8_sendAway_38 (fun I2 ⟨f2, t2, g2⟩ => ?_)
    refine WP.iload_n (pc := 41) dX8_sendAway_41 rfl ?_
    refine WP.iret (pc := 42) rfl dX8_sendAway_42 ?_
    have hf : fr (aI τ) I2 (x + 1) 25 := f1.trans (f2.mono (by omega) (by omega))
    obtain ⟨h1, h2⟩ := hτ.st hf (g1.cu f2 t2 g2)
    exact xO.ret2 h1 (kτ.trans h2)
set_option maxRecDepth 4000 in
theorem LX8_pass (hT : T ≤ 2147483647) {τ : cAS} (hτ : shX τ x) {N : Nat} (hN : N ≤ 60) {w0 : Int32} {Φ : cRes → cAS → Prop} {s' : mS} {I0 : Nat → Nat → Int32} : ∀ n i C s (I : Nat → Nat → Int32), i + n = N → hrsN n s = s' → C + 300 * n < 2147483648 → wf T C s → stAt I (x + 1) s → fr I0 I (x + 1) 25 → (∀ I', fr I0 I' (x + 1) 25 → stAt I' (x + 1) s' → Φ (.inl (some (.int (s'.1 8 - w0)))) (wI τ I')) → WP Γ (7, 126, 0, 0) MX8_passHours Φ 21 [some (.ref x), some (.int (nI N)), some (.int w0), some (.int (nI i))] [] (wI τ I) := by
  intro n
  induction n with
  | zero =>
    intro i C s I hi hs' hC hw hst F H
    have h10 : I (x + 1) 10 = s.1 8 := hst.gz.2.2.2.2.2.1
    refine WP.iload_n (pc := 21) dX8_passHours_21 rfl ?_
    refine WP.iload_n (pc := 22) dX8_passHours_22 rfl ?_
    refine WP.icmp_ge (pc := 23) (tgt := 39) dX8_passHours_23 (by decide) (fun h1 => ?_) (fun h1 => ?_)
    · refine WP.aload_n (pc := 39) dX8_passHours_39 rfl ?_
      refine WP.gR (pc := 40) uX8 fX8_10 hτ.t0 hτ.r0_0 dX8_passHours_40 ?_
      refine WP.gIv (pc := 43) (v := (s.1 8)) uX5 fX8_277 hτ.a.t0 (by simp [up_eq, h10]) dX8_passHours_43 ?_
      refine WP.iload_n (pc := 46) dX8_passHours_46 rfl ?_
      refine WP.isub (pc := 47) dX8_passHours_47 ?_
      refine WP.iret (pc := 48) rfl dX8_passHours_48 ?_
      have hs : s = s' := hs'
      subst hs
      exact H I F hst
    · exact absurd (nI_le (by omega) (by omega)) h1
  | succ n ih =>
    intro i C s I hi hs' hC hw hst F H
    refine WP.iload_n (pc := 21) dX8_passHours_21 rfl ?_
    refine WP.iload_n (pc := 22) dX8_passHours_22 rfl ?_
    refine WP.icmp_ge (pc := 23) (tgt := 39) dX8_passHours_23 (by decide) (fun h1 => ?_) (fun h1 => ?_)
    · exact absurd h1 (nI_ge (by omega) (by omega))
    · refine WP.aload_n (pc := 26) dX8_passHours_26 rfl ?_
      refine WP.gR (pc := 27) uX8 fX8_10 hτ.t0 hτ.r0_0 dX8_passHours_27 ?_
      refine WP.cVw (pc := 30) (mc2 := 0) (ms2 := 0) (ci := 5) kX8_283 (CX5_passHour Γ hτ.a hst (hrOut_cap hw)) (by decide) rfl hτ.a.t0 rfl ⟨Nat.le_of_ble_eq_true rfl, Nat.le_of_ble_eq_true rfl⟩ (Nat.le_of_ble_eq_true rfl) (Nat.le_of_ble_eq_true rfl) (Nat.le_of_ble_eq_true rfl) rfl dX8_passHours_30 (fun I1 ⟨f1, g1⟩ => ?_)
      have hw' : wf T (C + 300) (hrOut s) := hrOut_wf (T := T) (C := C) (s := s) hT (by omega) hw
      refine WP.iinc (pc := 33) dX8_passHours_33 rfl (nI_1 _) (by decide) rfl ?_
      refine WP.goto (pc := 36) (tgt := 21) dX8_passHours_36 (by decide) ?_
      exact ih (i + 1) (C + 300) (hrOut s) I1 (by omega) hs' (by omega) hw' g1 (F.trans f1) H
theorem CX8_passHours (hx : xAt σ x m) (hw : wf T C m.s) (hT : T ≤ 2147483647) (hC : C + 30000 < 2147483648) (h : Int32) : Ctr Γ (7, 126, 26, 410) MX8_passHours [.ref x, .int h] σ (xO σ x [eIA] (q_passHours m h)) := by
  refine Ctr.go rfl (by decide) rfl rfl ?_
  unfold q_passHours
  refine WP.iload_n (pc := 0) dX8_passHours_0 rfl ?_
  refine WP.iconst (pc := 1) (v := 1) dX8_passHours_1 (by decide) ?_
  refine WP.bipush (pc := 2) (v := 60) dX8_passHours_2 (by decide) ?_
  refine WP.cSt (pc := 4) (mc2 := 25) (ms2 := 404) kX8_83 (CX8_needRange Γ h 1 60) rfl ⟨Nat.le_of_ble_eq_true rfl, Nat.le_of_ble_eq_true rfl⟩ (Nat.le_of_ble_eq_true rfl) (Nat.le_of_ble_eq_true rfl) (Nat.le_of_ble_eq_true rfl) rfl dX8_passHours_4 rfl (fun hb n hn => ?_) (fun hb => ?_)
  · rw [if_pos hb]
    exact xO.exc hx hn rfl
  · rw [if_neg hb]
    obtain ⟨N, rfl, -, hN⟩ := num_in (a := 1) (b := 60) rfl rfl (by decide) (fun q => hb (Or.inl q)) (fun q => hb (Or.inr q)) (by decide)
    rw [nI_clamp (by omega)]
    refine WP.aload_n (pc := 7) dX8_passHours_7 rfl ?_
    refine WP.cVo (pc := 8) (mc2 := 0) (ms2 := 0) (ci := 8) kX8_101 (CX8_remember Γ hx) (by decide) rfl hx.1.t0 rfl ⟨Nat.le_of_ble_eq_true rfl, Nat.le_of_ble_eq_true rfl⟩ (Nat.le_of_ble_eq_true rfl) (Nat.le_of_ble_eq_true rfl) (Nat.le_of_ble_eq_true rfl) rfl dX8_passHours_8 (fun τ ⟨hτ, kτ⟩ => ?_)
    refine WP.self ?_
    have h10 : aI τ (x + 1) 10 = m.s.1 8 := hτ.2.2.1.gz.2.2.2.2.2.1
    refine WP.aload_n (pc := 11) dX8_passHours_11 rfl ?_
    refine WP.gR (pc := 12) uX8 fX8_10 hτ.1.t0 hτ.1.r0_0 dX8_passHours_12 ?_
    refine WP.gIv (pc := 15) (v := (m.s.1 8)) uX5 fX8_277 hτ.1.a.t0 (by simp [up_eq, h10]) dX8_passHours_15 ?_
    refine WP.istore_n (pc := 18) dX8_passHours_18 (by decide) rfl ?_
    refine WP.iconst (pc := 19) (v := 0) dX8_passHours_19 (by decide) ?_
    refine WP.istore_n (pc := 20) dX8_passHours_20 (by decide) rfl ?_
    refine LX8_pass Γ hT hτ.1 hN N 0 C m.s (aI τ) (by omega) rfl (by omega) hw hτ.2.2.1 fr.rf (fun I' f1 g1 => ?_)
    obtain ⟨h1, h2⟩ := hτ.st f1 g1
    exact xO.ret2 h1 (kτ.trans h2)
theorem CX8_joinQueue (hx : xAt σ x m) (k w l p t : Int32) : Ctr Γ (8, 131, 32, 446) MX8_joinQueue [.ref x, .int k, .int w, .int l, .int p, .int t] σ (xO σ x [eIO, eIA, eIS] (q_joinQueue m k w l p t)) := by
  have h9 : aI σ x 9 = nI m.n := hx.2.2.2.1.2.2.1
  have hn6 : m.n ≤ 600 := hx.2.2.2.1.2.2.2.1
  have hF : aI σ (x + 56) = m.f := hx.2.2.2.1.2.1
  have hcu := hx.2.2.1.2.2.2.1
  have hcl := hcu.2.1
  refine Ctr.go rfl (by decide) rfl rfl ?_
  unfold q_joinQueue
  refine WP.iload_n (pc := 0) dX8_joinQueue_0 rfl ?_
  refine WP.cSt (pc := 1) (mc2 := 31) (ms2 := 440) kX8_163 (CX8_needKind Γ k) rfl ⟨Nat.le_of_ble_eq_true rfl, Nat.le_of_ble_eq_true rfl⟩ (Nat.le_of_ble_eq_true rfl) (Nat.le_of_ble_eq_true rfl) (Nat.le_of_ble_eq_true rfl) rfl dX8_joinQueue_1 rfl (fun hb1 n hn => ?_) (fun hb1 => ?_)
  · rw [if_pos hb1]
    exact xO.exc hx hn rfl
  rw [if_neg hb1]
  refine WP.iload_n (pc := 4) dX8_joinQueue_4 rfl ?_
  refine WP.iconst (pc := 5) (v := 1) dX8_joinQueue_5 (by decide) ?_
  refine WP.bipush (pc := 6) (v := 9) dX8_joinQueue_6 (by decide) ?_
  refine WP.cSt (pc := 8) (mc2 := 30) (ms2 := 434) kX8_83 (CX8_needRange Γ w 1 9) rfl ⟨Nat.le_of_ble_eq_true rfl, Nat.le_of_ble_eq_true rfl⟩ (Nat.le_of_ble_eq_true rfl) (Nat.le_of_ble_eq_true rfl) (Nat.le_of_ble_eq_true rfl) rfl dX8_joinQueue_8 rfl (fun hb2 n hn => ?_) (fun hb2 => ?_)
  · rw [if_pos hb2]
    exact xO.exc hx hn rfl
  rw [if_neg hb2]
  refine WP.iload_n (pc := 11) dX8_joinQueue_11 rfl ?_
  refine WP.iconst (pc := 12) (v := 1) dX8_joinQueue_12 (by decide) ?_
  refine WP.bipush (pc := 13) (v := 99) dX8_joinQueue_13 (by decide) ?_
  refine WP.cSt (pc := 15) (mc2 := 29) (ms2 := 428) kX8_83 (CX8_needRange Γ l 1 99) rfl ⟨Nat.le_of_ble_eq_true rfl, Nat.le_of_ble_eq_true rfl⟩ (Nat.le_of_ble_eq_true rfl) (Nat.le_of_ble_eq_true rfl) (Nat.le_of_ble_eq_true rfl) rfl dX8_joinQueue_15 rfl (fun hb3 n hn => ?_) (fun hb3 => ?_)
  · rw [if_pos hb3]
    exact xO.exc hx hn rfl
  rw [if_neg hb3]
  refine WP.iload (pc := 18) dX8_joinQueue_18 rfl ?_
  refine WP.iconst (pc := 20) (v := 0) dX8_joinQueue_20 (by decide) ?_
  refine WP.sipush (pc := 21) (v := 999) dX8_joinQueue_21 (by decide) ?_
  refine WP.cSt (pc := 24) (mc2 := 28) (ms2 := 422) kX8_83 (CX8_needRange Γ p 0 999) rfl ⟨Nat.le_of_ble_eq_true rfl, Nat.le_of_ble_eq_true rfl⟩ (Nat.le_of_ble_eq_true rfl) (Nat.le_of_ble_eq_true rfl) (Nat.le_of_ble_eq_true rfl) rfl dX8_joinQueue_24 rfl (fun hb4 n hn => ?_) (fun hb4 => ?_)
  · rw [if_pos hb4]
    exact xO.exc hx hn rfl
  rw [if_neg hb4]
  refine WP.iload (pc := 27) dX8_joinQueue_27 rfl ?_
  refine WP.iconst (pc := 29) (v := 1) dX8_joinQueue_29 (by decide) ?_
  refine WP.bipush (pc := 30) (v := 99) dX8_joinQueue_30 (by decide) ?_
  refine WP.cSt (pc := 32) (mc2 := 27) (ms2 := 416) kX8_83 (CX8_needRange Γ t 1 99) rfl ⟨Nat.le_of_ble_eq_true rfl, Nat.le_of_ble_eq_true rfl⟩ (Nat.le_of_ble_eq_true rfl) (Nat.le_of_ble_eq_true rfl) (Nat.le_of_ble_eq_true rfl) rfl dX8_joinQueue_32 rfl (fun hb5 n hn => ?_) (fun hb5 => ?_)
  · rw [if_pos hb5]
    exact xO.exc hx hn rfl
  rw [if_neg hb5]
  refine WP.self ?_
  refine WP.aload_n (pc := 35) dX8_joinQueue_35 rfl ?_
  refine WP.gR (pc := 36) uX8 fX8_26 hx.1.t0 hx.1.r0_3 dX8_joinQueue_36 ?_
  refine WP.iconst (pc := 39) (v := 0) dX8_joinQueue_39 (by decide) ?_
  refine WP.aload_n (pc := 40) dX8_joinQueue_40 rfl ?_
  refine WP.gIv (pc := 41) (v := (nI m.n)) uX8 fX8_69 hx.1.t0 (by simp [up_eq, h9]) dX8_joinQueue_41 ?_
  refine (?_ : WP Γ _ MX8_joinQueue _ 44 _ [.int (nI m.n), .int (nI 0), .ref (x + 56)] _)
  rw [show [Value.int (nI m.n), Value.int (nI 0), Value.ref (x + 56)] = [Value.int (nI (0 + m.n)), Value.int (nI 0), Value.ref (x + 56)] by rw [Nat.zero_add]]
  refine WP.cS1 (pc := 44) (mc2 := 27) (ms2 := 416) kX8_295 (CX8_packName Γ σ (aI σ) hx.1.t56 (by omega) (s := 0) (m := m.n) (by omega)) rfl ⟨Nat.le_of_ble_eq_true rfl, Nat.le_of_ble_eq_true rfl⟩ (Nat.le_of_ble_eq_true rfl) (Nat.le_of_ble_eq_true rfl) (Nat.le_of_ble_eq_true rfl) rfl dX8_joinQueue_44 ?_
  rw [hF]
  refine WP.istore (pc := 47) dX8_joinQueue_47 (by decide) rfl ?_
  refine WP.iload (pc := 49) dX8_joinQueue_49 rfl ?_
  refine WP.iconst (pc := 51) (v := (-1)) dX8_joinQueue_51 (by decide) ?_
  refine WP.icmp_ne (pc := 52) (tgt := 66) dX8_joinQueue_52 (by decide) (fun hm => ?_) (fun hm => ?_)
  · rw [if_neg hm]
    refine WP.aload_n (pc := 66) dX8_joinQueue_66 rfl ?_
    refine WP.gR (pc := 67) uX8 fX8_10 hx.1.t0 hx.1.r0_0 dX8_joinQueue_67 ?_
    refine WP.gR (pc := 70) uX5 fX8_108 hx.1.a.t0 hx.1.a.r0_3 dX8_joinQueue_70 ?_
    refine WP.gIv (pc := 73) (v := (nI m.s.2.2.2.1.length)) uX2 fX8_112 hx.1.a.t13 (by simp [up_eq, hcu.1]) dX8_joinQueue_73 ?_
    refine WP.bipush (pc := 76) (v := 10) dX8_joinQueue_76 (by decide) ?_
    have hbad : (10 ≤ m.s.2.2.2.1.length ∨ hasN m.s (pkN m.f 0 m.n) = true) → WP Γ (8, 131, 27, 416) MX8_joinQueue (xO σ x [eIO, eIA, eIS] (if 10 ≤ m.s.2.2.2.1.length ∨ hasN m.s (pkN m.f 0 m.n) = true then (3, 0, m) else (0, m.s.1 11, (mX.w_n (psh m (wlC m.s (nmF m.f 0 m.n) k w l p t)) (0))))) 93 [some (.ref x), some (.int k), some (.int w), some (.int l), some (.int p), some (.int t), some (.int (pkN m.f 0 m.n))] [] (wI σ (aI σ)) := by
      intro hb
      rw [if_pos hb]
      refine WP.throwSW (pc := 93) rfl tX8_joinQueue_93 ⟨by decide, by decide, by decide, by decide⟩ dX8_joinQueue_93 dX8_joinQueue_96 dX8_joinQueue_97 dX8_joinQueue_100 dX8_joinQueue_103 (fun n hn => ?_)
      exact xO.exc hx hn rfl
    refine WP.icmp_ge (pc := 78) (tgt := 93) dX8_joinQueue_78 (by decide) (fun hc => ?_) (fun hc => ?_)
    · exact hbad (Or.inl (Nat.not_lt.mp fun q => nI_ge (b := 10) q (by omega) hc))
    · refine WP.aload_n (pc := 81) dX8_joinQueue_81 rfl ?_
      refine WP.gR (pc := 82) uX8 fX8_10 hx.1.t0 hx.1.r0_0 dX8_joinQueue_82 ?_
      refine WP.iload (pc := 85) dX8_joinQueue_85 rfl ?_
      refine WP.cV1 (pc := 87) (mc2 := 27) (ms2 := 416) (ci := 5) kX8_301 (CX5_hasName Γ hx.1.a hx.2.2.1 _) (by decide) rfl hx.1.a.t0 rfl ⟨Nat.le_of_ble_eq_true rfl, Nat.le_of_ble_eq_true rfl⟩ (Nat.le_of_ble_eq_true rfl) (Nat.le_of_ble_eq_true rfl) (Nat.le_of_ble_eq_true rfl) rfl dX8_joinQueue_87 ?_
      refine WP.if_eq (pc := 90) (tgt := 104) dX8_joinQueue_90 (by decide) (fun hh => ?_) (fun hh => ?_)
      · have hno : ¬ (10 ≤ m.s.2.2.2.1.length ∨ hasN m.s (pkN m.f 0 m.n) = true) := fun q => q.elim (fun z => hc (nI_le (a := 10) z (by omega))) (fun z => by rw [z] at hh; exact absurd hh (by decide))
        have hlt : m.s.2.2.2.1.length < 10 := Nat.not_le.mp fun q => hno (Or.inl q)
        rw [if_neg hno]
        refine WP.aload_n (pc := 104) dX8_joinQueue_104 rfl ?_
        refine WP.cVo (pc := 105) (mc2 := 0) (ms2 := 0) (ci := 8) kX8_101 (CX8_remember Γ hx) (by decide) rfl hx.1.t0 rfl ⟨Nat.le_of_ble_eq_true rfl, Nat.le_of_ble_eq_true rfl⟩ (Nat.le_of_ble_eq_true rfl) (Nat.le_of_ble_eq_true rfl) (Nat.le_of_ble_eq_true rfl) rfl dX8_joinQueue_105 (fun τ ⟨hτ, kτ⟩ => ?_)
        refine WP.self ?_
        refine WP.aload_n (pc := 108) dX8_joinQueue_108 rfl ?_
        refine WP.iconst (pc := 109) (v := 0) dX8_joinQueue_109 (by decide) ?_
        refine WP.pI (pc := 110) uX8 fX8_69 rfl rfl hτ.1.t0 dX8_joinQueue_110 ?_
        refine WP.aload_n (pc := 113) dX8_joinQueue_113 rfl ?_
        refine WP.gR (pc := 114) uX8 fX8_10 hτ.1.t0 hτ.1.r0_0 dX8_joinQueue_114 ?_
        refine WP.iload (pc := 117) dX8_joinQueue_117 rfl ?_
        refine WP.iload_n (pc := 119) dX8_joinQueue_119 rfl ?_
        refine WP.iload_n (pc := 120) dX8_joinQueue_120 rfl ?_
        refine WP.iload_n (pc := 121) dX8_joinQueue_121 rfl ?_
        refine WP.iload (pc := 122) dX8_joinQueue_122 rfl ?_
        refine WP.iload (pc := 124) dX8_joinQueue_124 rfl ?_
        rw [(pkN_nm hm).1]
        have hst2 : stAt (up (aI τ) x 9 0) (x + 1) m.s := hτ.2.2.1.ext (fun a c1 c2 => by funext j'; rw [up_eq, if_neg (fun z => by omega)])
        refine WP.cVp (pc := 126) (mc2 := 0) (ms2 := 0) (ci := 5) kX8_307 (CX5_welcome Γ hτ.1.a hst2 _ _ _ _ _ _ hlt) (by decide) rfl hτ.1.a.t0 rfl ⟨Nat.le_of_ble_eq_true rfl, Nat.le_of_ble_eq_true rfl⟩ (Nat.le_of_ble_eq_true rfl) (Nat.le_of_ble_eq_true rfl) (Nat.le_of_ble_eq_true rfl) rfl dX8_joinQueue_126 (fun v I1 ⟨hv, f1, g1⟩ => ?_)
        refine WP.iret (pc := 129) rfl dX8_joinQueue_129 ?_
        rw [hv]
        have f2 : ∀ a, a ≠ x → (a < x + 1 ∨ x + 1 + 25 ≤ a) → I1 a = aI τ a := fun a h1 h2 => by
          rw [f1 a h2]
          funext j'
          rw [up_eq, if_neg (fun z => h1 z.1)]
        have f3 : ∀ j, j ≠ 9 → I1 x j = aI τ x j := fun j hj => by
          rw [f1 x (by omega), up_eq, if_neg (fun z => hj z.2)]
        have hf : fr (aI τ) I1 x 62 := fun a ha => f2 a (by omega) (by omega)
        refine xO.ret2 (hτ.mv (m' := (mX.w_n (psh m (wlC m.s (nmF m.f 0 m.n) k w l p t)) (0))) hf g1 ?_ rfl) (kτ.trans (kpM.mv hf))
        obtain ⟨b1, b2, b3, b4, b5, b6, b7, b8, b9, b10, b11, b12⟩ := hτ.2.2.2.1
        exact ⟨fun j' hj' => by rw [f2 _ (by omega) (by omega)]; exact b1 j' hj', by rw [f2 _ (by omega) (by omega)]; exact b2, by rw [f1 x (by omega)]; simp [up_eq]; rfl, Nat.zero_le _, by rw [f3 _ (by omega)]; exact b5, b6, by rw [f3 _ (by omega)]; exact b7, by rw [f3 _ (by omega)]; exact b8, b9, fun i v hv => by rw [f2 _ (by omega) (by omega)]; exact b10 i v hv, by rw [f3 _ (by omega)]; exact b11, b12⟩
      · refine hbad (Or.inr ?_)
        cases q : hasN m.s (pkN m.f 0 m.n)
        · rw [q] at hh
          exact absurd rfl hh
        · rfl
  · rw [if_pos hm]
    refine WP.throwSW (pc := 55) rfl tX8_joinQueue_55 ⟨by decide, by decide, by decide, by decide⟩ dX8_joinQueue_55 dX8_joinQueue_58 dX8_joinQueue_59 dX8_joinQueue_62 dX8_joinQueue_65 (fun n hn => ?_)
    exact xO.exc hx hn rfl
end T
