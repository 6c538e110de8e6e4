def xV (σ : cAS) (x : Nat) (m' : mX) : cRes → cAS → Prop := fun r τ => r = .inl none ∧ xAt τ x m' ∧ kpM σ τ x ∧ aR τ (x + 60) = aR σ (x + 60) ∧ ∀ a, x + 26 ≤ a → a < x + 51 → aI τ a = aI σ a
section CALL
variable {Γ : cG} {M : cM} {Φ : cRes → cAS → Prop} {pc : Nat} {L : List (Option Value)} {σ : cAS}
variable {f lo mc ms mc2 ms2 f' lo' mc' ms' n index x : Nat} {M' : cM} {av rest stk : List Value} {m' : mX}
theorem WP.cVo {b ci k0 : Nat} (lk : cKV (mY M).cls index M' n) (hC : Ctr Γ (f', lo', mc', ms') M' (.ref b :: av) σ (xV σ x m')) (hci : ci < 10 ∨ ci = 15 ∨ ci = 16) (hcl : (mY M').cls = (cCl ci).1) (ht : aT σ b = (ci + 1, k0)) (hn : av.length = n) (hr : f' + 1 ≤ f ∧ 8 + (mL M' + 11) + lo' ≤ lo) (hmc : mc2 + mc' ≤ mc) (hms : ms2 + ms' ≤ ms) (hst : (rest.map fun v => v.category).sum ≤ 8) (hstk : stk = av.reverse ++ .ref b :: rest) (d : decode (mC M) pc = .ok (.invokevirtual index, 3)) (k : ∀ τ, xAt τ x m' ∧ kpM σ τ x → WP Γ (f, lo, mc2, ms2) M Φ (pc + 3) L rest τ) : WP Γ (f, lo, mc, ms) M Φ pc L stk σ :=
  WP.callV lk hC hci hcl ht hn hr hmc hms hst hstk d (fun v σ' h => by
    obtain ⟨h1, h2, h3, -⟩ := h
    cases h1
    exact k σ' ⟨h2, h3⟩) (fun E σ' h => nomatch h.1)
theorem WP.cVo2 {b ci k0 : Nat} (lk : cKV (mY M).cls index M' n) (hC : Ctr Γ (f', lo', mc', ms') M' (.ref b :: av) σ (xV σ x m')) (hci : ci < 10 ∨ ci = 15 ∨ ci = 16) (hcl : (mY M').cls = (cCl ci).1) (ht : aT σ b = (ci + 1, k0)) (hn : av.length = n) (hr : f' + 1 ≤ f ∧ 8 + (mL M' + 11) + lo' ≤ lo) (hmc : mc2 + mc' ≤ mc) (hms : ms2 + ms' ≤ ms) (hst : (rest.map fun v => v.category).sum ≤ 8) (hstk : stk = av.reverse ++ .ref b :: rest) (d : decode (mC M) pc = .ok (.invokevirtual index, 3)) (k : ∀ τ, xAt τ x m' ∧ kpM σ τ x ∧ aR τ (x + 60) = aR σ (x + 60) → WP Γ (f, lo, mc2, ms2) M Φ (pc + 3) L rest τ) : WP Γ (f, lo, mc, ms) M Φ pc L stk σ :=
  WP.callV lk hC hci hcl ht hn hr hmc hms hst hstk d (fun v σ' h => by
    obtain ⟨h1, h2⟩ := h
    cases h1
    exact k σ' ⟨h2.1, h2.2.1, h2.2.2.1⟩) (fun E σ' h => nomatch h.1)
theorem WP.cVo3 {b ci k0 : Nat} (lk : cKV (mY M).cls index M' n) (hC : Ctr Γ (f', lo', mc', ms') M' (.ref b :: av) σ (xV σ x m')) (hci : ci < 10 ∨ ci = 15 ∨ ci = 16) (hcl : (mY M').cls = (cCl ci).1) (ht : aT σ b = (ci + 1, k0)) (hn : av.length = n) (hr : f' + 1 ≤ f ∧ 8 + (mL M' + 11) + lo' ≤ lo) (hmc : mc2 + mc' ≤ mc) (hms : ms2 + ms' ≤ ms) (hst : (rest.map fun v => v.category).sum ≤ 8) (hstk : stk = av.reverse ++ .ref b :: rest) (d : decode (mC M) pc = .ok (.invokevirtual index, 3)) (k : ∀ τ, xAt τ x m' ∧ kpM σ τ x ∧ aR τ (x + 60) = aR σ (x + 60) ∧ (∀ a, x + 26 ≤ a → a < x + 51 → aI τ a = aI σ a) → WP Γ (f, lo, mc2, ms2) M Φ (pc + 3) L rest τ) : WP Γ (f, lo, mc, ms) M Φ pc L stk σ :=
  WP.callV lk hC hci hcl ht hn hr hmc hms hst hstk d (fun v σ' h => by
    obtain ⟨h1, h2⟩ := h
    cases h1
    exact k σ' h2) (fun E σ' h => nomatch h.1)
end CALL
theorem fl_past {I I' : Nat → Nat → Int32} {x : Nat} {m m' : mX} (h : flAt I x m) (hx : ∀ a, a = x + 27 ∨ a = x + 56 ∨ a = x + 59 → I' a = I a) (h8 : I' x 8 = nI m'.past.length) (hl : m'.past.length ≤ 8) (ho : ∀ j, j ≠ 8 → I' x j = I x j) (hf : m'.f = m.f) (hn : m'.n = m.n) (he : m'.e = m.e) (hep : m'.ep = m.ep) (hoo : m'.o = m.o) : flAt I' x m' := by
  unfold flAt at h ⊢
  rw [hx (x + 27) (by omega), hx (x + 56) (by omega), hx (x + 59) (by omega), ho 9 (by omega), ho 11 (by omega), ho 12 (by omega), ho 10 (by omega), hf, hn, he, hep, hoo]
  obtain ⟨b1, b2, b3, b4, b5, b6, b7, b8, b9, b10, b11, b12⟩ := h
  exact ⟨b1, b2, b3, b4, b5, b6, b7, b8, b9, b10, h8, hl⟩
theorem occ_push {m : mX} (hL : m.past.length < 8) (k : Nat) : occ (mX.w_past m (m.past ++ [m.s])) k = if k = m.past.length then some m.s else occ m k := by
  show (if k < 8 then (m.past ++ [m.s])[k]? else m.sl (k - 8)) = if k = m.past.length then some m.s else (if k < 8 then m.past[k]? else m.sl (k - 8))
  by_cases c1 : k < 8
  · rw [if_pos c1, if_pos c1]
    by_cases c2 : k = m.past.length
    · rw [if_pos c2, c2]
      simp
    · rw [if_neg c2]
      rcases Nat.lt_or_ge k m.past.length with q | q
      · rw [List.getElem?_append_left q]
      · rw [List.getElem?_eq_none (by simp; omega), List.getElem?_eq_none (by omega)]
  · rw [if_neg c1, if_neg c1, if_neg (by omega)]
section T
variable (Γ : cG) {σ : cAS} {x : Nat} {m : mX}
theorem LX8_rem45 {σ0 : cAS} {q : Nat} (hk0 : kpM σ0 σ x) (hr0 : aR σ (x + 60) = aR σ0 (x + 60) ∧ ∀ a, x + 26 ≤ a → a < x + 51 → aI σ a = aI σ0 a) (h : xBut σ x m.past.length m) (hL : m.past.length < 8) (hq : plc σ x m.past.length = some q) {mc ms : Nat} : WP Γ (4, 104, mc, ms) MX8_remember (xV σ0 x (mX.w_past m (m.past ++ [m.s]))) 45 [some (.ref x), some (.ref q)] [] σ := by
  have hx := h.1
  obtain ⟨r1, r2, r3⟩ := h.2.2.2.2.1.1 _ (by omega) q hq
  refine WP.self ?_
  refine WP.aload_n (pc := 45) dX8_remember_45 rfl ?_
  refine WP.aload_n (pc := 46) dX8_remember_46 rfl ?_
  refine WP.gR (pc := 47) uX8 fX8_10 hx.t0 hx.r0_0 dX8_remember_47 ?_
  refine WP.cVw (pc := 50) (mc2 := 0) (ms2 := 0) (ci := 5) kX8_104 (CX5_copyFrom Γ r1 hx.a (by omega) h.2.2.1) (by decide) rfl r1.t0 rfl ⟨Nat.le_of_ble_eq_true rfl, Nat.le_of_ble_eq_true rfl⟩ (Nat.zero_le _) (Nat.zero_le _) (Nat.le_of_ble_eq_true rfl) rfl dX8_remember_50 (fun I1 ⟨f1, g1⟩ => ?_)
  have h8 : I1 x 8 = nI m.past.length := by
    rw [f1 x (by omega)]
    exact h.2.2.2.1.2.2.2.2.2.2.2.2.2.2.1
  refine WP.aload_n (pc := 53) dX8_remember_53 rfl ?_
  refine WP.dup (pc := 54) dX8_remember_54 rfl ?_
  refine WP.gIv (pc := 55) (v := (nI m.past.length)) uX8 fX8_342 hx.t0 (by simp [up_eq, h8]) dX8_remember_55 ?_
  refine WP.iconst (pc := 58) (v := 1) dX8_remember_58 (by decide) ?_
  refine WP.iadd (pc := 59) dX8_remember_59 ?_
  rw [nI_1]
  refine WP.pI (pc := 60) uX8 fX8_342 rfl rfl hx.t0 dX8_remember_60 ?_
  refine WP.vret (pc := 63) rfl dX8_remember_63 ?_
  have hw := h.wr (m' := (mX.w_past m (m.past ++ [m.s]))) (I := up I1 x 8 (nI (m.past.length + 1))) (s := m.s) (by omega) hq (fun a ha hr => by
    funext j
    rw [up_eq, if_neg (fun z => ha z.1), f1 a hr]) (g1.ext (fun a c1 c2 => by
    funext j
    rw [up_eq, if_neg (fun z => by omega)])) rfl (fl_past h.2.2.2.1 (fun a ha => by
      funext j
      rw [up_eq, if_neg (fun z => by omega), f1 a (by omega)]) (by
      rw [up_eq, if_pos ⟨rfl, rfl⟩]
      show _ = nI (m.past ++ [m.s]).length
      simp) (by show (m.past ++ [m.s]).length ≤ 8; simp; omega) (fun j hj => by rw [up_eq, if_neg (fun z => hj z.2), f1 x (by omega)]) rfl rfl rfl rfl rfl) (fun k' _ => occ_push hL k')
  exact ⟨rfl, hw.1, hk0.trans hw.2, hr0.1, fun a c1 c2 => (funext fun j => by
    show up I1 x 8 _ a j = aI σ a j
    rw [up_eq, if_neg (fun z => by omega), f1 a (by omega)] : up I1 x 8 (nI (m.past.length + 1)) a = aI σ a).trans (hr0.2 a c1 c2)⟩
theorem LX8_rem13 {σ0 : cAS} (hk0 : kpM σ0 σ x) (hr0 : aR σ (x + 60) = aR σ0 (x + 60) ∧ ∀ a, x + 26 ≤ a → a < x + 51 → aI σ a = aI σ0 a) (h : xAt σ x m) (hL : m.past.length < 8) : WP Γ (4, 104, 25, 404) MX8_remember (xV σ0 x (mX.w_past m (m.past ++ [m.s]))) 13 [some (.ref x), none] [] σ := by
  have h8 : aI σ x 8 = nI m.past.length := h.2.2.2.1.2.2.2.2.2.2.2.2.2.2.1
  refine WP.self ?_
  refine WP.aload_n (pc := 13) dX8_remember_13 rfl ?_
  refine WP.gR (pc := 14) uX8 fX8_46 h.1.t0 h.1.r0_7 dX8_remember_14 ?_
  refine WP.aload_n (pc := 17) dX8_remember_17 rfl ?_
  refine WP.gIv (pc := 18) (v := (nI m.past.length)) uX8 fX8_342 h.1.t0 (by simp [up_eq, h8]) dX8_remember_18 ?_
  refine WP.aald (pc := 21) h.1.t61 (by omega) (by decide) dX8_remember_21 ?_
  have hp : plc σ x m.past.length = aR σ (x + 61) m.past.length := if_pos hL
  cases hq : aR σ (x + 61) m.past.length with
  | some q =>
    refine WP.astore_n (pc := 22) dX8_remember_22 (by decide) rfl ?_
    refine WP.aload_n (pc := 23) dX8_remember_23 rfl ?_
    refine WP.ifnonnull (pc := 24) (tgt := 45) dX8_remember_24 (by decide) ?_
    exact LX8_rem45 Γ hk0 hr0 (h.but _) hL (hp.trans hq)
  | none =>
    obtain ⟨b1, b2, b3⟩ := h.al (k := m.past.length) (by omega) (hp.trans hq)
    refine WP.astore_nN (pc := 22) dX8_remember_22 (by decide) rfl ?_
    refine WP.aload_nN (pc := 23) dX8_remember_23 rfl ?_
    refine WP.ifnonnullN (pc := 24) dX8_remember_24 ?_
    refine WP.new (pc := 27) (mc := 24) (ms := 391) (ci := 5) uX5 (by decide) nX8_7 nI5 nJ5 nD5 dX8_remember_27 ?_
    refine (?_ : WP Γ (4, 104, 24, 391) MX8_remember _ 30 _ [.ref (aN σ)] (sA σ 6 13))
    refine WP.dup (pc := 30) dX8_remember_30 rfl ?_
    refine WP.cIN0 (pc := 31) (mc2 := 0) (ms2 := 0) kX8_9 (CX5_init Γ (σ := sA σ 6 13) sA_new sA_newL) rfl ⟨Nat.le_of_ble_eq_true rfl, Nat.le_of_ble_eq_true rfl⟩ (Nat.le_of_ble_eq_true rfl) (Nat.le_of_ble_eq_true rfl) (Nat.le_of_ble_eq_true rfl) rfl dX8_remember_31 ?_
    refine WP.astore_n (pc := 34) dX8_remember_34 (by decide) rfl ?_
    refine WP.self ?_
    have hN := h.2.1
    have hx2 : shX (nwS σ) x := h.1.ofs (fun a c1 c2 => (nwS_old (by omega)).1) (fun a c1 c2 => (nwS_old (by omega)).2.2.1)
    have h82 : aI (nwS σ) x 8 = nI m.past.length := by
      rw [(nwS_old (σ := σ) (d := x) (by omega)).2.1]
      exact h8
    refine WP.aload_n (pc := 35) dX8_remember_35 rfl ?_
    refine WP.gR (pc := 36) uX8 fX8_46 hx2.t0 hx2.r0_7 dX8_remember_36 ?_
    refine WP.aload_n (pc := 39) dX8_remember_39 rfl ?_
    refine WP.gIv (pc := 40) (v := (nI m.past.length)) uX8 fX8_342 hx2.t0 (by simp [up_eq, h82]) dX8_remember_40 ?_
    refine WP.aload_n (pc := 43) dX8_remember_43 rfl ?_
    refine WP.aastore (pc := 44) (nv := 13) (n := 8) (v := aN σ) hx2.t61 nwS_shS.t0 (cVin (by omega) (by decide)) dX8_remember_44 ?_
    rw [cClamp (n := 8) hL (by decide)]
    have e : sR (wI (nwS σ) (aI (nwS σ))) (x + 61) m.past.length (some (aN σ)) = stR (nwS σ) x m.past.length (some (aN σ)) := by
      unfold stR
      rw [if_pos hL, if_pos hL]
      rfl
    rw [e]
    have hr1 : aR (stR (nwS σ) x m.past.length (some (aN σ))) (x + 60) = aR σ0 (x + 60) := by
      rw [← hr0.1, ← (nwS_old (σ := σ) (d := x + 60) (by omega)).2.2.1]
      funext j
      unfold stR
      rw [if_pos hL, aR_sR, if_neg (fun z => by omega)]
    have hr2 : ∀ a, x + 26 ≤ a → a < x + 51 → aI (stR (nwS σ) x m.past.length (some (aN σ))) a = aI σ0 a := fun a c1 c2 => by
      rw [← hr0.2 a c1 c2, ← (nwS_old (σ := σ) (d := a) (by omega)).2.1]
      unfold stR
      rw [if_pos hL]
      rfl
    exact LX8_rem45 Γ (hk0.trans b3) ⟨hr1, hr2⟩ b1 hL b2
theorem CX8_remember (h : xAt σ x m) : Ctr Γ (4, 104, 25, 404) MX8_remember [.ref x] σ (xV σ x (mX.w_past m (pushP m.past m.s))) := by
  have h8 : aI σ x 8 = nI m.past.length := h.2.2.2.1.2.2.2.2.2.2.2.2.2.2.1
  have hl8 : m.past.length ≤ 8 := h.2.2.2.1.2.2.2.2.2.2.2.2.2.2.2
  refine Ctr.go rfl (by decide) rfl rfl ?_
  refine WP.self ?_
  refine WP.aload_n (pc := 0) dX8_remember_0 rfl ?_
  refine WP.gIv (pc := 1) (v := (nI m.past.length)) uX8 fX8_342 h.1.t0 (by simp [up_eq, h8]) dX8_remember_1 ?_
  refine WP.bipush (pc := 4) (v := 8) dX8_remember_4 (by decide) ?_
  refine WP.icmp_lt (pc := 6) (tgt := 13) dX8_remember_6 (by decide) (fun h1 => ?_) (fun h1 => ?_)
  · have hL : m.past.length < 8 := (nI_ltI (b := 8) (by omega) (by omega)).mp h1
    have e : pushP m.past m.s = m.past ++ [m.s] := by
      unfold pushP
      rw [if_neg (by omega)]
    rw [e]
    exact LX8_rem13 Γ kpM.rf ⟨rfl, fun _ _ _ => rfl⟩ h hL
  · have hL : m.past.length = 8 := by
      rcases Nat.lt_or_ge m.past.length 8 with q | q
      · exact absurd (nI_lt (b := 8) q (by omega)) h1
      · omega
    have ha : ∀ k, k < 8 → ∃ q, aR σ (x + 61) k = some q ∧ aT σ q = (6, 13) := fun k hk => by
      have hg : m.past[k]? = some (m.past[k]'(by omega)) := List.getElem?_eq_getElem (by omega)
      have ho : occ m k = some (m.past[k]'(by omega)) := by
        unfold occ
        rw [if_pos hk, hg]
      obtain ⟨q, hq, -⟩ := h.2.2.2.2.2.1 k (by omega) _ ho
      have hq' : aR σ (x + 61) k = some q := by
        unfold plc at hq
        rw [if_pos hk] at hq
        exact hq
      exact ⟨q, hq', (h.2.2.2.2.1.1 k (by omega) q hq).1.t0⟩
    obtain ⟨r1, r2⟩ := h.rot hL
    refine WP.aload_n (pc := 9) dX8_remember_9 rfl ?_
    refine WP.cV0 (pc := 10) (mc2 := 25) (ms2 := 404) (ci := 8) kX8_367 (CX8_forgetOldest Γ h.1 ha) (by decide) rfl h.1.t0 rfl ⟨Nat.le_of_ble_eq_true rfl, Nat.le_of_ble_eq_true rfl⟩ (Nat.le_of_ble_eq_true rfl) (Nat.le_of_ble_eq_true rfl) (Nat.le_of_ble_eq_true rfl) rfl dX8_remember_10 ?_
    have e : pushP m.past m.s = m.past.tail ++ [m.s] := by
      unfold pushP
      rw [if_pos (by omega)]
    rw [e]
    exact LX8_rem13 Γ r2 ⟨setR_aRo (by omega), fun a c1 c2 => funext fun j => by (show up (aI σ) x 8 7 a j = aI σ a j); rw [up_eq, if_neg (fun z => by omega)]⟩ r1 (by show m.past.tail.length < 8; rw [List.length_tail]; omega)
end T
