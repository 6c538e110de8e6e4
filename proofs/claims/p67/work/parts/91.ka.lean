section W
variable {Γ : cG} {r : cRm} {M : cM} {Φ : cRes → cAS → Prop} {pc : Nat} {L : List (Option Value)} {st : List Value} {σ : cAS}
theorem WX.catch2 {E name : String} (pre : List ExceptionTableEntry) (x : ExceptionTableEntry) (suf : List ExceptionTableEntry) (hsplit : tableOf (mH M) = pre ++ x :: suf) (hpass : ∀ z ∈ pre, covers z pc = false) (hx : covers x pc = true) (h0 : x.catchType ≠ 0) (hlink : Cond.classLink (mY M).cls x.catchType name ∈ cALL) (hcast : Cond.castable E name ∈ cNW) (k : ∀ q : Nat, WP Γ r M Φ x.handlerPc L [.ref q] σ) : WX Γ r M Φ pc L E σ := by
  intro p e R s m args below meth c H locs cells slots ls st q ce hO hS hce hcv hcl
  exact vx_catch hO.2.2.2.1 pre x suf (hO.2.2.2.2.2.2.2.2.2.1.trans hsplit) (fun z hz => Or.inl (hpass z hz)) hx h0 (cHts hO _ hlink) (va_Nw.use rfl (hO.w.2.2.1 _ hcast)) hce hcv hcl (k q p e R s m args below meth c H locs cells slots ls hO hS)
end W
theorem bC_117 : Cond.castable eIS eIS ∈ cNW := cInN 982 (by decide +kernel) (by decide +kernel)
theorem bL_117 : Cond.classLink RL 117 eIS ∈ cALL := cInT 1330 (by decide +kernel) (by decide +kernel)
section T
variable (Γ : cG) {σ : cAS} {x : Nat} {m m' : mX}
theorem xOk {r : cRm} {M : cM} {av : List Value} {Es : List String} {o : oR} {v : Int32} (hC : Ctr Γ r M av σ (xO σ x Es o)) (ho : o = (0, v, m')) : Ctr Γ r M av σ (rS (fun w τ => w = some (.int v) ∧ xAt τ x m' ∧ kpM σ τ x)) := hC.mono (fun q τ hq => by
  obtain ⟨h1, h2, h3⟩ := hq
  rw [ho] at h1 h2
  exact ⟨_, h1, rfl, h2, h3⟩)
theorem xEx {r : cRm} {M : cM} {av : List Value} {Es : List String} {o : oR} {v : Int32} {t : Nat} {E : String} (hC : Ctr Γ r M av σ (xO σ x Es o)) (ho : o = (t + 1, v, m')) (he : Es[t]? = some E) : Ctr Γ r M av σ (fun q τ => q = .inr E ∧ xAt τ x m' ∧ kpM σ τ x) := hC.mono (fun q τ hq => by
  obtain ⟨h1, h2, h3⟩ := hq
  rw [ho] at h1 h2
  refine ⟨h1.trans ?_, h2, h3⟩
  unfold xE
  rw [if_neg (by omega), Nat.add_sub_cancel, List.getD_eq_getElem?_getD, he]
  rfl)
theorem kpB.M {τ : cAS} (h : kpB σ τ (aN σ)) (hx : x + 62 ≤ aN σ) (hm : xAt σ x m) : kpM σ τ x := fun a hf => ⟨kpX_fre (kpB.X (x := x) (m := m) h) hx hf, h.2 a hf.2.1⟩
def nmT (t : Nat) : Nat := nm2 100 (97 + t % 26)
theorem nm2_f {f : Nat → Int32} {a b : Nat} (g0 : f 0 = nI a) (g1 : f 1 = nI b) (ha : 97 ≤ a ∧ a ≤ 122) (hb : 97 ≤ b ∧ b ≤ 122) : pkN f 0 2 = nI (a + 256 * b) ∧ nmF f 0 2 = nm2 a b := by
  have l0 : lc f 0 0 = a := by unfold lc; rw [show 0 + 0 = 0 from rfl, g0, nI_clamp (by omega)]
  have l1 : lc f 0 1 = b := by unfold lc; rw [show 0 + 1 = 1 from rfl, g1, nI_clamp (by omega)]
  have hal : allL f 0 2 = true := by
    show ((true && isLet (f (0 + 0))) && isLet (f (0 + 1))) = true
    rw [show (0 : Nat) + 0 = 0 from rfl, show (0 : Nat) + 1 = 1 from rfl, g0, g1, (sg_fact a (by omega)).1, (sg_fact b (by omega)).1]
    unfold lt1
    simp
    omega
  have hP : pkP f 0 2 = a + 256 * b := by
    show 2 ^ (8 * 1) * lc f 0 1 + (2 ^ (8 * 0) * lc f 0 0 + 0) = _
    rw [l0, l1]
    omega
  refine ⟨?_, ?_⟩
  · unfold pkN
    rw [if_pos ⟨by omega, by omega, hal⟩, (pkA_P 2 (by omega) hal).1, hP]
  · unfold nmF nmC nm2
    rw [if_pos (by omega), if_pos (by omega), if_neg (by omega), if_neg (by omega), l0, l1]
abbrev nxI (m m' : mX) : Prop := ∀ T C Z, T ≤ 2147483647 → C + 18000 < 2147483648 → inv T C Z m → inv (T + 1) (C + 18000) (Z + 2880) m'
abbrev acP (σ : cAS) (x : Nat) (m : mX) (X t : Nat) : cRes → cAS → Prop := rS (fun v τ => v = some (.int (hdAct (nmT t) m.s X).1) ∧ ∃ m', xAt τ x m' ∧ kpM σ τ x ∧ m'.s = (hdAct (nmT t) m.s X).2 ∧ m'.n = 0 ∧ nxI m m')
/-- what cannot be done -/
theorem LA_no {X t : Nat} {σ2 : cAS} {m2 : mX} {l4 : Option Value} (h2 : xAt σ2 x m2) (hk : kpM σ σ2 x) (hs : m2.s = m.s) (hi : ∀ T C Z, inv T C Z m → inv T C Z m2) (hA : hdAct (nmT t) m.s X = (-9, m.s)) (q : Nat) {mc ms : Nat} (h4 : cLc [some (.ref x), some (.int (nI X)), some (.int (nI t)), some (.int (nI (X / 16))), l4] = true) : WP Γ (11, 300, mc + 1, ms + 6) ML_acts (acP σ x m X t) 225 [some (.ref x), some (.int (nI X)), some (.int (nI t)), some (.int (nI (X / 16))), l4] [.ref q] σ2 := by
  have hq : q_truncateInput m2 0 = (0, 0, mX.w_n m2 0) := by
    unfold q_truncateInput
    rw [if_neg (fun z => z.elim (by decide) (fun z => by
      have := h2.2.2.2.1.2.2.2.1
      exact nI_pos (by omega) z))]
    rfl
  refine WP.astore (pc := 225) dL_acts_225 (by decide) h4 ?_
  refine WP.aload_n (pc := 227) dL_acts_227 rfl ?_
  refine WP.iconst (pc := 228) (v := 0) dL_acts_228 (by decide) ?_
  refine WP.cVs (pc := 229) (mc2 := mc) (ms2 := ms) (ci := 8) kL_24 (xOk Γ (CX8_truncateInput Γ h2 0) hq) (by decide) rfl h2.1.t0 rfl ⟨Nat.le_of_ble_eq_true rfl, Nat.le_of_ble_eq_true rfl⟩ (Nat.le_refl _) (Nat.le_refl _) (Nat.le_of_ble_eq_true rfl) rfl dL_acts_229 (fun w τ ⟨hw, hx2, hk2⟩ => ?_)
  subst hw
  refine WP.pop (pc := 232) dL_acts_232 rfl ?_
  refine WP.bipush (pc := 233) (v := -9) dL_acts_233 (by decide) ?_
  refine WP.iret (pc := 235) rfl dL_acts_235 ?_
  exact ⟨_, rfl, by rw [hA], _, hx2, hk.trans hk2, by rw [hA]; exact hs, rfl, fun T C Z hT hC h => (hi T C Z h).up⟩
theorem LA_bake {X t : Nat} (hX : X < 2147483648) (hx : xAt σ x m) (h3 : m.s.2.1.length = 3) (hn : m.n = 0) (hc : X % 16 < 3) : WP Γ (11, 300, 60, 2200) ML_acts (acP σ x m X t) 72 [some (.ref x), some (.int (nI X)), some (.int (nI t)), some (.int (nI (X / 16))), none] [] σ := by
  have hi : X / 16 % 3 < 3 := Nat.mod_lt _ (by decide)
  have hk3 : X / 16 / 4 % 3 < 3 := Nat.mod_lt _ (by decide)
  have hA : hdAct (nmT t) m.s X = (if rfB m.s (X / 16 % 3) = 0 then ((m.s.2.1.getD (X / 16 % 3) dB).2.1, bgB m.s (X / 16 % 3) (nI (X / 16 / 4 % 3))) else (-9, m.s)) := if_pos hc
  obtain ⟨e, he⟩ : ∃ e, m.s.2.1[X / 16 % 3]? = some e := ⟨_, List.getElem?_eq_getElem (by omega)⟩
  have hq : q_bake m (nI (X / 16 % 3)) (nI (X / 16 / 4 % 3)) = if rfB m.s (X / 16 % 3) = 0 then (0, (m.s.2.1.getD (X / 16 % 3) dB).2.1, psh m (bgB m.s (X / 16 % 3) (nI (X / 16 / 4 % 3)))) else (2, 0, m) := by
    unfold q_bake rfB
    rw [if_neg (ix_no (by omega) (by omega)), if_neg (ix_no hk3 (by decide)), nI_clamp (by omega), he, gd_of he]
  have hv := fun T C Z (h : inv T C Z m) => q_bake_inv h (nI (X / 16 % 3)) (nI (X / 16 / 4 % 3))
  refine WP.aload_n (pc := 72) dL_acts_72 rfl ?_
  refine WP.iload_n (pc := 73) dL_acts_73 rfl ?_
  refine WP.iconst (pc := 74) (v := 3) dL_acts_74 (by decide) ?_
  refine WP.irN (pc := 75) (b := 3) rfl (by omega) (by omega) (by omega) dL_acts_75 ?_
  refine WP.iload_n (pc := 76) dL_acts_76 rfl ?_
  refine WP.iconst (pc := 77) (v := 4) dL_acts_77 (by decide) ?_
  refine WP.idN (pc := 78) (b := 4) rfl (by omega) (by omega) (by omega) dL_acts_78 ?_
  refine WP.iconst (pc := 79) (v := 3) dL_acts_79 (by decide) ?_
  refine WP.irN (pc := 80) (b := 3) rfl (by omega) (by omega) (by omega) dL_acts_80 ?_
  by_cases hr : rfB m.s (X / 16 % 3) = 0
  · rw [if_pos hr] at hq hA
    refine WP.cVs (pc := 81) (mc2 := 0) (ms2 := 0) (ci := 8) kL_85 (xOk Γ (CX8_bake Γ hx (nI (X / 16 % 3)) (nI (X / 16 / 4 % 3))) hq) (by decide) rfl hx.1.t0 rfl ⟨Nat.le_of_ble_eq_true rfl, Nat.le_of_ble_eq_true rfl⟩ (Nat.le_of_ble_eq_true rfl) (Nat.le_of_ble_eq_true rfl) (Nat.le_of_ble_eq_true rfl) rfl dL_acts_81 (fun w τ ⟨hw, hx2, hk2⟩ => ?_)
    subst hw
    refine WP.iret (pc := 84) rfl dL_acts_84 ⟨_, rfl, by rw [hA], _, hx2, hk2, by rw [hA]; rfl, hn, fun T C Z hT hC h => ?_⟩
    have := hv T C Z h
    rw [hq] at this
    exact this
  · rw [if_neg hr] at hq hA
    refine WP.callV (pc := 81) (mc2 := 30) (ms2 := 1700) (ci := 8) kL_85 (xEx Γ (CX8_bake Γ hx (nI (X / 16 % 3)) (nI (X / 16 / 4 % 3))) hq (E := eIS) rfl) (by decide) rfl hx.1.t0 rfl ⟨Nat.le_of_ble_eq_true rfl, Nat.le_of_ble_eq_true rfl⟩ (Nat.le_of_ble_eq_true rfl) (Nat.le_of_ble_eq_true rfl) (Nat.le_of_ble_eq_true rfl) rfl dL_acts_81 (fun v τ h => nomatch h.1) (fun E τ h => ?_)
    obtain ⟨hE, hx2, hk2⟩ := h
    cases hE
    refine WX.catch2 (E := eIS) (name := eIS) [] ⟨5, 84, 225, 117⟩ [⟨85, 156, 225, 117⟩, ⟨157, 179, 225, 117⟩, ⟨180, 195, 225, 117⟩, ⟨196, 206, 225, 117⟩, ⟨207, 214, 225, 117⟩, ⟨215, 224, 225, 117⟩] rfl (fun z hz => (nomatch hz)) (by decide) (by decide) bL_117 bC_117 (fun q => ?_)
    exact LA_no Γ (mc := 29) (ms := 1694) hx2 hk2 rfl (fun T C Z h => h) hA q rfl
end T
