section T
variable (Γ : cG) {σ : cAS} {b : Nat}
def mkO (e : mBk) : mBk := if e.2.2.2.1 = -1 then e else if e.2.2.2.2.1 - 1 ≤ 0 then (e.1, e.2.1, e.2.2.1, -1, 0, e.2.2.2.2.2) else (e.1, e.2.1, e.2.2.1, e.2.2.2.1, e.2.2.2.2.1 - 1, e.2.2.2.2.2)
def ovF (s : mS) : Nat → List mLf × Int32 × List mEv
  | 0 => (s.2.2.1, s.1 6, s.2.2.2.2)
  | n + 1 => match s.2.1[n]? with
    | some e => if e.2.2.2.1 = -1 then ovF s n else if e.2.2.2.2.1 - 1 ≤ 0 then ((ovF s n).1 ++ List.replicate e.2.1.toNatClampNeg (e.2.2.2.1, nI n, s.1 3), (ovF s n).2.1 + e.2.1, evAdd (ovF s n).2.2 (0, nI n, e.2.1)) else ovF s n
    | none => ovF s n
def ovS (s : mS) (i : Nat) : mS := (zup s.1 6 (ovF s i).2.1, mix mkO s.2.1 i, (ovF s i).1, s.2.2.2.1, (ovF s i).2.2)
theorem ovS_0 (s : mS) : ovS s 0 = s := by
  unfold ovS
  rw [mix_0]
  show (zup s.1 6 (s.1 6), _) = _
  rw [zup_id]
  rfl
def ovOut (s : mS) : mS := (zup s.1 6 (ovF s s.2.1.length).2.1, s.2.1.map mkO, (ovF s s.2.1.length).1, s.2.2.2.1, (ovF s s.2.1.length).2.2)
/-- the loaves fit -/
def ovCap (s : mS) : Prop := ∀ i e, s.2.1[i]? = some e → e.2.2.2.1 ≠ -1 → e.2.2.2.2.1 - 1 ≤ 0 → ∃ o, e.2.1 = nI o ∧ (ovF s i).1.length + o ≤ 60
theorem LX5_emptyOvens (hs : shS σ b) {r : cRm} (hr : r = (2, 63, 0, 0)) {Φ : cRes → cAS → Prop} (s : mS) (hcap : ovCap s) : ∀ n i (I : Nat → Nat → Int32), i + n = s.2.1.length → stAt I b (ovS s i) → (∀ I', fr I I' b 25 → stAt I' b (ovS s s.2.1.length) → WP Γ r MX5_emptyOvens Φ 131 [some (.ref b), some (.int (nI s.2.1.length))] [] (wI σ I')) → WP Γ r MX5_emptyOvens Φ 2 [some (.ref b), some (.int (nI i))] [] (wI σ I) := by
  subst hr
  intro n
  induction n with
  | zero =>
    intro i I hi h H
    have hc : I (b + 2) 0 = nI s.2.1.length := by rw [h.2.1.1]; show nI (mix _ _ _).length = _; rw [mix_len]
    refine WP.iload_n (pc := 2) dX5_emptyOvens_2 rfl ?_
    refine WP.aload_n (pc := 3) dX5_emptyOvens_3 rfl ?_
    refine WP.gR (pc := 4) uX5 fX5_18 hs.t0 hs.r0_1 dX5_emptyOvens_4 ?_
    refine WP.gIv (pc := 7) (v := (nI s.2.1.length)) uX1 fX5_43 hs.t2 (by simp [up_eq, hc]) dX5_emptyOvens_7 ?_
    have hil : i = s.2.1.length := by omega
    refine WP.icmp_ge (pc := 10) (tgt := 131) dX5_emptyOvens_10 (by decide) (fun h1 => ?_) (fun h1 => ?_)
    · rw [hil] at h ⊢
      exact H I fr.rf h
    · exact absurd (by rw [hil]; exact Int32.le_refl _) h1
  | succ n ih =>
    intro i I hi h H
    have hc : I (b + 2) 0 = nI s.2.1.length := by rw [h.2.1.1]; show nI (mix _ _ _).length = _; rw [mix_len]
    have hl4 : s.2.1.length ≤ 4 := by have := h.2.1.2.1; rwa [show (ovS s i).2.1 = mix mkO s.2.1 i from rfl, mix_len] at this
    obtain ⟨e, he⟩ : ∃ e, s.2.1[i]? = some e := ⟨s.2.1[i]'(by omega), List.getElem?_eq_getElem (by omega)⟩
    have hm : (ovS s i).2.1[i]? = some e := mix_get _ _ he
    have hlen : i < (ovS s i).2.1.length := by show i < (mix _ _ _).length; rw [mix_len]; omega
    obtain ⟨b1, b2, b3, b4, b5, b6⟩ := h.2.1.2.2 i e hm
    refine WP.iload_n (pc := 2) dX5_emptyOvens_2 rfl ?_
    refine WP.aload_n (pc := 3) dX5_emptyOvens_3 rfl ?_
    refine WP.gR (pc := 4) uX5 fX5_18 hs.t0 hs.r0_1 dX5_emptyOvens_4 ?_
    refine WP.gIv (pc := 7) (v := (nI s.2.1.length)) uX1 fX5_43 hs.t2 (by simp [up_eq, hc]) dX5_emptyOvens_7 ?_
    refine WP.icmp_ge (pc := 10) (tgt := 131) dX5_emptyOvens_10 (by decide) (fun h1 => ?_) (fun h1 => ?_)
    · exact absurd h1 (nI_ge (by omega) (by omega))
    · refine WP.aload_n (pc := 13) dX5_emptyOvens_13 rfl ?_
      refine WP.gR (pc := 14) uX5 fX5_18 hs.t0 hs.r0_1 dX5_emptyOvens_14 ?_
      refine WP.gR (pc := 17) uX1 fX5_116 hs.t2 hs.r2_4 dX5_emptyOvens_17 ?_
      refine WP.iload_n (pc := 20) dX5_emptyOvens_20 rfl ?_
      refine WP.iald (pc := 21) hs.t6 (by omega) (by decide) dX5_emptyOvens_21 ?_
      refine WP.iconst (pc := 22) (v := (-1)) dX5_emptyOvens_22 (by decide) ?_
      rw [b4]
      refine WP.icmp_eq (pc := 23) (tgt := 125) dX5_emptyOvens_23 (by decide) (fun hk => ?_) (fun hk => ?_)
      · refine WP.iinc (pc := 125) dX5_emptyOvens_125 rfl (nI_1 _) (by decide) rfl ?_
        refine WP.goto (pc := 128) (tgt := 2) dX5_emptyOvens_128 (by decide) ?_
        refine ih (i + 1) I (by omega) ?_ H
        have e1 : ovF s (i + 1) = ovF s i := by simp [ovF, he, hk]
        have e2 : mix mkO s.2.1 (i + 1) = mix mkO s.2.1 i := mix_id _ _ he (by simp [mkO, hk])
        unfold ovS
        rw [e1, e2]
        exact h
      · refine WP.aload_n (pc := 26) dX5_emptyOvens_26 rfl ?_
        refine WP.gR (pc := 27) uX5 fX5_18 hs.t0 hs.r0_1 dX5_emptyOvens_27 ?_
        refine WP.gR (pc := 30) uX1 fX5_149 hs.t2 hs.r2_5 dX5_emptyOvens_30 ?_
        refine WP.iload_n (pc := 33) dX5_emptyOvens_33 rfl ?_
        refine WP.dup2 (pc := 34) dX5_emptyOvens_34 rfl rfl ?_
        refine WP.iald (pc := 35) hs.t7 (by omega) (by decide) dX5_emptyOvens_35 ?_
        refine WP.iconst (pc := 36) (v := 1) dX5_emptyOvens_36 (by decide) ?_
        refine WP.isub (pc := 37) dX5_emptyOvens_37 ?_
        rw [b5]
        refine WP.iast (pc := 38) hs.t7 (by omega) (by decide) dX5_emptyOvens_38 ?_
        have h2 := h.bk ((fr_up1 (a := b + 7) (k := i) (x := e.2.2.2.2.1 - 1)).mono (by omega) (by omega)) (h.2.1.setL (e.2.2.2.2.1 - 1) hm)
        have f2 : fr I (up I (b + 7) i (e.2.2.2.2.1 - 1)) b 25 := fr_up1.mono (by omega) (by omega)
        have c2 : up I (b + 7) i (e.2.2.2.2.1 - 1) (b + 7) i = e.2.2.2.2.1 - 1 := by simp [up_eq]
        generalize up I (b + 7) i (e.2.2.2.2.1 - 1) = J at h2 f2 c2 ⊢
        refine WP.aload_n (pc := 39) dX5_emptyOvens_39 rfl ?_
        refine WP.gR (pc := 40) uX5 fX5_18 hs.t0 hs.r0_1 dX5_emptyOvens_40 ?_
        refine WP.gR (pc := 43) uX1 fX5_149 hs.t2 hs.r2_5 dX5_emptyOvens_43 ?_
        refine WP.iload_n (pc := 46) dX5_emptyOvens_46 rfl ?_
        refine WP.iald (pc := 47) hs.t7 (by omega) (by decide) dX5_emptyOvens_47 ?_
        rw [c2]
        refine WP.if_gt (pc := 48) (tgt := 125) dX5_emptyOvens_48 (by decide) (fun h3 => ?_) (fun h3 => ?_)
        · refine WP.iinc (pc := 125) dX5_emptyOvens_125 rfl (nI_1 _) (by decide) rfl ?_
          refine WP.goto (pc := 128) (tgt := 2) dX5_emptyOvens_128 (by decide) ?_
          refine ih (i + 1) J (by omega) ?_ (fun I' q1 q2 => H I' (fr.trans f2 q1) q2)
          have h3' : ¬ e.2.2.2.2.1 - 1 ≤ 0 := Int32.not_le.mpr h3
          have e1 : ovF s (i + 1) = ovF s i := by simp [ovF, he, h3', hk]
          have e2 : mix mkO s.2.1 (i + 1) = (mix mkO s.2.1 i).set i (e.1, e.2.1, e.2.2.1, e.2.2.2.1, e.2.2.2.2.1 - 1, e.2.2.2.2.2) := by
            rw [← mix_set _ _ he]
            simp [mkO, h3', hk]
          unfold ovS
          rw [e1, e2]
          exact h2
        · have h3' : e.2.2.2.2.1 - 1 ≤ 0 := Int32.not_lt.mp h3
          obtain ⟨o, ho, hcp⟩ := hcap i e he hk h3'
          have hoc : e.2.1.toNatClampNeg = o := by rw [ho, nI_clamp (by omega)]
          have hm2 : ((mix mkO s.2.1 i).set i (e.1, e.2.1, e.2.2.1, e.2.2.2.1, e.2.2.2.2.1 - 1, e.2.2.2.2.2))[i]? = some (e.1, e.2.1, e.2.2.1, e.2.2.2.1, e.2.2.2.2.1 - 1, e.2.2.2.2.2) := by
            exact List.getElem?_set_self hlen
          obtain ⟨c1, d2, c3, c4, c5, c6⟩ := h2.2.1.2.2 i _ hm2
          have hh : J b 5 = s.1 3 := h2.1.2.2.2.1
          refine WP.aload_n (pc := 51) dX5_emptyOvens_51 rfl ?_
          refine WP.gR (pc := 52) uX5 fX5_25 hs.t0 hs.r0_2 dX5_emptyOvens_52 ?_
          refine WP.aload_n (pc := 55) dX5_emptyOvens_55 rfl ?_
          refine WP.gR (pc := 56) uX5 fX5_18 hs.t0 hs.r0_1 dX5_emptyOvens_56 ?_
          refine WP.gR (pc := 59) uX1 fX5_121 hs.t2 hs.r2_2 dX5_emptyOvens_59 ?_
          refine WP.iload_n (pc := 62) dX5_emptyOvens_62 rfl ?_
          refine WP.iald (pc := 63) hs.t4 (by omega) (by decide) dX5_emptyOvens_63 ?_
          refine WP.aload_n (pc := 64) dX5_emptyOvens_64 rfl ?_
          refine WP.gR (pc := 65) uX5 fX5_18 hs.t0 hs.r0_1 dX5_emptyOvens_65 ?_
          refine WP.gR (pc := 68) uX1 fX5_116 hs.t2 hs.r2_4 dX5_emptyOvens_68 ?_
          refine WP.iload_n (pc := 71) dX5_emptyOvens_71 rfl ?_
          refine WP.iald (pc := 72) hs.t6 (by omega) (by decide) dX5_emptyOvens_72 ?_
          refine WP.iload_n (pc := 73) dX5_emptyOvens_73 rfl ?_
          refine WP.aload_n (pc := 74) dX5_emptyOvens_74 rfl ?_
          refine WP.gIv (pc := 75) (v := (s.1 3)) uX5 fX5_53 hs.t0 (by simp [up_eq, hh]) dX5_emptyOvens_75 ?_
          rw [d2, c4]
          dsimp only
          rw [ho]
          refine WP.cVw (pc := 78) (mc2 := 0) (ms2 := 0) (ci := 6) kX5_152 (CX6_add Γ hs _ _ _ hcp h2.2.2.1) (by decide) rfl hs.t9 rfl ⟨Nat.le_of_ble_eq_true rfl, Nat.le_of_ble_eq_true rfl⟩ (Nat.le_of_ble_eq_true rfl) (Nat.le_of_ble_eq_true rfl) (Nat.le_of_ble_eq_true rfl) rfl dX5_emptyOvens_78 (fun J1 ⟨g1, g2⟩ => ?_)
          have k1 := h2.sk g1 g2
          obtain ⟨c1, d2, c3, c4, c5, c6⟩ := k1.2.1.2.2 i _ hm2
          have w6 : J1 b 8 = (ovF s i).2.1 := k1.1.2.2.2.2.2.2.1
          refine WP.aload_n (pc := 81) dX5_emptyOvens_81 rfl ?_
          refine WP.dup (pc := 82) dX5_emptyOvens_82 rfl ?_
          refine WP.gIv (pc := 83) (v := ((ovF s i).2.1)) uX5 fX5_62 hs.t0 (by simp [up_eq, w6]) dX5_emptyOvens_83 ?_
          refine WP.aload_n (pc := 86) dX5_emptyOvens_86 rfl ?_
          refine WP.gR (pc := 87) uX5 fX5_18 hs.t0 hs.r0_1 dX5_emptyOvens_87 ?_
          refine WP.gR (pc := 90) uX1 fX5_121 hs.t2 hs.r2_2 dX5_emptyOvens_90 ?_
          refine WP.iload_n (pc := 93) dX5_emptyOvens_93 rfl ?_
          refine WP.iald (pc := 94) hs.t4 (by omega) (by decide) dX5_emptyOvens_94 ?_
          rw [d2]
          dsimp only
          refine WP.iadd (pc := 95) dX5_emptyOvens_95 ?_
          refine WP.pI (pc := 96) uX5 fX5_62 rfl rfl hs.t0 dX5_emptyOvens_96 ?_
          have k2 := k1.z 6 ((ovF s i).2.1 + e.2.1) (by omega) (by omega)
          have f3 : fr J1 (up J1 b 8 ((ovF s i).2.1 + e.2.1)) b 25 := fr_up1.mono (by omega) (by omega)
          obtain ⟨c1, d2, c3, c4, c5, c6⟩ := k2.2.1.2.2 i _ hm2
          generalize up J1 b 8 ((ovF s i).2.1 + e.2.1) = J2 at k2 f3 d2 ⊢
          refine WP.aload_n (pc := 99) dX5_emptyOvens_99 rfl ?_
          refine WP.gR (pc := 100) uX5 fX5_39 hs.t0 hs.r0_4 dX5_emptyOvens_100 ?_
          refine WP.iconst (pc := 103) (v := 0) dX5_emptyOvens_103 (by decide) ?_
          refine WP.iload_n (pc := 104) dX5_emptyOvens_104 rfl ?_
          refine WP.aload_n (pc := 105) dX5_emptyOvens_105 rfl ?_
          refine WP.gR (pc := 106) uX5 fX5_18 hs.t0 hs.r0_1 dX5_emptyOvens_106 ?_
          refine WP.gR (pc := 109) uX1 fX5_121 hs.t2 hs.r2_2 dX5_emptyOvens_109 ?_
          refine WP.iload_n (pc := 112) dX5_emptyOvens_112 rfl ?_
          refine WP.iald (pc := 113) hs.t4 (by omega) (by decide) dX5_emptyOvens_113 ?_
          rw [d2]
          dsimp only
          refine WP.cVw (pc := 114) (mc2 := 0) (ms2 := 0) (ci := 3) kX5_131 (CX3_add Γ hs _ _ _ k2.2.2.2.2) (by decide) rfl hs.t21 rfl ⟨Nat.le_of_ble_eq_true rfl, Nat.le_of_ble_eq_true rfl⟩ (Nat.le_of_ble_eq_true rfl) (Nat.le_of_ble_eq_true rfl) (Nat.le_of_ble_eq_true rfl) rfl dX5_emptyOvens_114 (fun J3 ⟨g3, g4⟩ => ?_)
          have k3 := k2.ev g3 g4
          refine WP.aload_n (pc := 117) dX5_emptyOvens_117 rfl ?_
          refine WP.gR (pc := 118) uX5 fX5_18 hs.t0 hs.r0_1 dX5_emptyOvens_118 ?_
          refine WP.iload_n (pc := 121) dX5_emptyOvens_121 rfl ?_
          refine WP.cVw (pc := 122) (mc2 := 0) (ms2 := 0) (ci := 1) kX5_155 (CX1_rest Γ hs hm2 k3.2.1) (by decide) rfl hs.t2 rfl ⟨Nat.le_of_ble_eq_true rfl, Nat.le_of_ble_eq_true rfl⟩ (Nat.le_of_ble_eq_true rfl) (Nat.le_of_ble_eq_true rfl) (Nat.le_of_ble_eq_true rfl) rfl dX5_emptyOvens_122 (fun J4 ⟨g5, g6⟩ => ?_)
          have k4 := k3.bk g5 g6
          refine WP.iinc (pc := 125) dX5_emptyOvens_125 rfl (nI_1 _) (by decide) rfl ?_
          refine WP.goto (pc := 128) (tgt := 2) dX5_emptyOvens_128 (by decide) ?_
          refine ih (i + 1) J4 (by omega) ?_ (fun I' q1 q2 => H I' (fr.trans f2 (fr.trans (g1.mono (by omega) (by omega)) (fr.trans f3 (fr.trans (g3.mono (by omega) (by omega)) (fr.trans (g5.mono (by omega) (by omega)) q1))))) q2)
          have e1 : ovF s (i + 1) = ((ovF s i).1 ++ List.replicate o (e.2.2.2.1, nI i, s.1 3), (ovF s i).2.1 + e.2.1, evAdd (ovF s i).2.2 (0, nI i, e.2.1)) := by simp [ovF, he, h3', hk, hoc]
          have e2 : mix mkO s.2.1 (i + 1) = ((mix mkO s.2.1 i).set i (e.1, e.2.1, e.2.2.1, e.2.2.2.1, e.2.2.2.2.1 - 1, e.2.2.2.2.2)).set i (e.1, e.2.1, e.2.2.1, -1, 0, e.2.2.2.2.2) := by
            rw [← mix_set _ _ he, List.set_set]
            simp [mkO, h3', hk]
          have ez : zup (zup s.1 6 (ovF s i).2.1) 6 ((ovF s i).2.1 + e.2.1) = zup s.1 6 ((ovF s i).2.1 + e.2.1) := by
            funext j
            simp only [zup_eq]
            by_cases q : j = 6 <;> simp [q]
          show stAt _ b (zup s.1 6 (ovF s (i + 1)).2.1, mix mkO s.2.1 (i + 1), (ovF s (i + 1)).1, s.2.2.2.1, (ovF s (i + 1)).2.2)
          rw [e1, e2, ← ez]
          exact k4
theorem CX5_emptyOvens (hs : shS σ b) {I : Nat → Nat → Int32} {s : mS} (h : stAt I b s) (hcap : ovCap s) : Ctr Γ (2, 63, 0, 0) MX5_emptyOvens [.ref b] (wI σ I) (rW σ (fun I' => fr I I' b 25 ∧ stAt I' b (ovOut s))) := by
  refine Ctr.go rfl (by decide) rfl rfl ?_
  refine WP.iconst (pc := 0) (v := 0) dX5_emptyOvens_0 (by decide) ?_
  refine WP.istore_n (pc := 1) dX5_emptyOvens_1 (by decide) rfl ?_
  refine LX5_emptyOvens Γ hs rfl s hcap s.2.1.length 0 I (by omega) (by rw [ovS_0]; exact h) (fun I1 f1 h1 => ?_)
  skip
  refine WP.vret (pc := 131) rfl dX5_emptyOvens_131 ?_
  refine ⟨rfl, I1, rfl, f1, ?_⟩
  have e : ovS s s.2.1.length = ovOut s := by unfold ovS ovOut; rw [mix_full _ _ rfl]
  rw [← e]
  exact h1
/-- an hour -/
def hr1 (s : mS) : mS := (zup s.1 3 (s.1 3 + 1), s.2)
def hrOut (s : mS) : mS := let t := stOut (ovOut (hr1 s)); lpOut (spEat t.1, t.2)
theorem CX5_passHour (hs : shS σ b) {I : Nat → Nat → Int32} {s : mS} (h : stAt I b s) (hcap : ovCap (hr1 s)) : Ctr Γ (4, 106, 0, 0) MX5_passHour [.ref b] (wI σ I) (rW σ (fun I' => fr I I' b 25 ∧ stAt I' b (hrOut s))) := by
  refine Ctr.go rfl (by decide) rfl rfl ?_
  have hh := h.1.2.2.2.1
  refine WP.aload_n (pc := 0) dX5_passHour_0 rfl ?_
  refine WP.dup (pc := 1) dX5_passHour_1 rfl ?_
  refine WP.gIv (pc := 2) (v := (s.1 3)) uX5 fX5_53 hs.t0 (by simp [up_eq, hh]) dX5_passHour_2 ?_
  refine WP.iconst (pc := 5) (v := 1) dX5_passHour_5 (by decide) ?_
  refine WP.iadd (pc := 6) dX5_passHour_6 ?_
  refine WP.pI (pc := 7) uX5 fX5_53 rfl rfl hs.t0 dX5_passHour_7 ?_
  refine WP.aload_n (pc := 10) dX5_passHour_10 rfl ?_
  have h0 := h.z 3 (s.1 3 + 1) (by omega) (by omega)
  refine WP.cVw (pc := 11) (mc2 := 0) (ms2 := 0) (ci := 5) kX5_137 (CX5_emptyOvens Γ hs (s := hr1 s) h0 hcap) (by decide) rfl hs.t0 rfl ⟨Nat.le_of_ble_eq_true rfl, Nat.le_of_ble_eq_true rfl⟩ (Nat.le_of_ble_eq_true rfl) (Nat.le_of_ble_eq_true rfl) (Nat.le_of_ble_eq_true rfl) rfl dX5_passHour_11 (fun I1 ⟨f1, h1⟩ => ?_)
  refine WP.aload_n (pc := 14) dX5_passHour_14 rfl ?_
  refine WP.cVw (pc := 15) (mc2 := 0) (ms2 := 0) (ci := 5) kX5_140 (CX5_throwOutStale Γ hs h1) (by decide) rfl hs.t0 rfl ⟨Nat.le_of_ble_eq_true rfl, Nat.le_of_ble_eq_true rfl⟩ (Nat.le_of_ble_eq_true rfl) (Nat.le_of_ble_eq_true rfl) (Nat.le_of_ble_eq_true rfl) rfl dX5_passHour_15 (fun I2 ⟨f2, h2⟩ => ?_)
  refine WP.aload_n (pc := 18) dX5_passHour_18 rfl ?_
  refine WP.cVw (pc := 19) (mc2 := 0) (ms2 := 0) (ci := 5) kX5_143 (CX5_feedSparrows Γ hs h2) (by decide) rfl hs.t0 rfl ⟨Nat.le_of_ble_eq_true rfl, Nat.le_of_ble_eq_true rfl⟩ (Nat.le_of_ble_eq_true rfl) (Nat.le_of_ble_eq_true rfl) (Nat.le_of_ble_eq_true rfl) rfl dX5_passHour_19 (fun I3 ⟨f3, h3⟩ => ?_)
  refine WP.aload_n (pc := 22) dX5_passHour_22 rfl ?_
  refine WP.cVw (pc := 23) (mc2 := 0) (ms2 := 0) (ci := 5) kX5_146 (CX5_loseOnePatience Γ hs h3) (by decide) rfl hs.t0 rfl ⟨Nat.le_of_ble_eq_true rfl, Nat.le_of_ble_eq_true rfl⟩ (Nat.le_of_ble_eq_true rfl) (Nat.le_of_ble_eq_true rfl) (Nat.le_of_ble_eq_true rfl) rfl dX5_passHour_23 (fun I4 ⟨f4, h4⟩ => ?_)
  skip
  refine WP.vret (pc := 26) rfl dX5_passHour_26 ?_
  exact ⟨rfl, I4, rfl, fr.trans (fr_up1.mono (by omega) (by omega)) (fr.trans f1 (fr.trans f2 (fr.trans (f3.mono (by omega) (by omega)) f4))), h4⟩
end T
