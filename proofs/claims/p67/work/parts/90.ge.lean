section T
variable (Γ : cG) {x h : Nat} {m : mX}
def iS1 (s : mS) (k : Nat) (S : hBd) : Prop := S.1 = (fun _ => 0) ∧ (∀ j, j < k → S.2.1 j = s.1 j) ∧ (S.2.2.1.length = k ∧ ∀ (j : Nat) (e : mBk) (r : mHB), s.2.1[j]? = some e → S.2.2.1[j]? = some r → bkH False e r) ∧ S.2.2.2 = ([], [], [])
theorem LH_in1 {Φ : cRes → cAS → Prop} {mc ms : Nat} (h3 : m.s.2.1.length = 3) (hbk : ∀ (i : Nat) (e : mBk), m.s.2.1[i]? = some e → bkP i e)
    (kk : ∀ τ N S, hJ τ x m h N S → iS1 m.s 3 S → WP Γ (9, 160, mc, ms) MX9_init Φ 112 [some (.ref h), some (.ref x), some (.int (nI 3))] [] τ) : ∀ d k σ N S, k + d = 3 → hJ σ x m h N S → iS1 m.s k S → WP Γ (9, 160, mc + 6 * d, ms + 35 * d) MX9_init Φ 49 [some (.ref h), some (.ref x), some (.int (nI k))] [] σ := by
  have hl : m.s.2.1.length ≤ 2000 := by omega
  intro d
  induction d with
  | zero =>
    intro k σ N S h1 hj hS
    have hk : k = 3 := by omega
    subst hk
    refine WP.iload_n (pc := 49) dX9_init_49 rfl ?_
    refine WP.iconst (pc := 50) (v := 3) dX9_init_50 (by decide) ?_
    refine WP.icmp_ge (pc := 51) (tgt := 112) dX9_init_51 (by decide) (fun c => ?_) (fun c => ?_)
    · exact kk σ N S hj hS
    · exact absurd (by decide) c
  | succ d ih =>
    intro k σ N S h1 hj hS
    have hk3 : k < 3 := by omega
    obtain ⟨hS1, hS2, ⟨hS3, hS4⟩, hS5⟩ := hS
    obtain ⟨e, he⟩ : ∃ e, m.s.2.1[k]? = some e := ⟨_, List.getElem?_eq_getElem (by omega)⟩
    refine WP.iload_n (pc := 49) dX9_init_49 rfl ?_
    refine WP.iconst (pc := 50) (v := 3) dX9_init_50 (by decide) ?_
    refine WP.icmp_ge (pc := 51) (tgt := 112) dX9_init_51 (by decide) (fun c => ?_) (fun c => ?_)
    · exact absurd c (nI_ge (a := k) (b := 3) (by omega) (by omega))
    · refine WP.aload_n (pc := 54) dX9_init_54 rfl ?_
      refine WP.gRs (pc := 55) uX9 fX9_7 hj.t0 hj.r0_0 dX9_init_55 ?_
      refine WP.iload_n (pc := 58) dX9_init_58 rfl ?_
      refine WP.aload_n (pc := 59) dX9_init_59 rfl ?_
      refine WP.iload_n (pc := 60) dX9_init_60 rfl ?_
      refine WP.cVs (pc := 61) (mc2 := mc + 6 * d + 4) (ms2 := ms + 35 * d + 23) (ci := 8) kX9_27 (G_basePrice Γ hj hk3) (by decide) rfl hj.1.1.t0 rfl ⟨Nat.le_of_ble_eq_true rfl, Nat.le_of_ble_eq_true rfl⟩ (by omega) (by omega) (Nat.le_of_ble_eq_true rfl) rfl dX9_init_61 (fun v τ ⟨hv, hj', hk⟩ => ?_)
      subst hv
      replace hj := hj'
      clear hj' hk
      refine WP.iastS (pc := 64) hj.t1 (by omega) (by decide) dX9_init_64 ?_
      replace hj := hj.base k (m.s.1 k)
      generalize sI τ (h + 1) k _ = τ1 at hj ⊢
      refine WP.aload_n (pc := 65) dX9_init_65 rfl ?_
      refine WP.gRs (pc := 66) uX9 fX9_14 hj.t0 hj.r0_1 dX9_init_66 ?_
      refine WP.iload_n (pc := 69) dX9_init_69 rfl ?_
      refine WP.iconst (pc := 70) (v := 5) dX9_init_70 (by decide) ?_
      refine WP.less (mc2 := mc + 6 * d + 3 + 1) (ms2 := ms + 35 * d + 18 + 5) (by omega) (by omega) ?_
      refine WP.newarr (pc := 71) (kd := 11) (n := 5) (by decide) (by decide) rfl nA11 (by decide) (by decide) (by decide) dX9_init_71 ?_
      have hn := hj.nw 5
      replace hj := hj.alloc 11 5
      generalize aN τ1 = a at hn ⊢
      generalize sA τ1 11 5 = τ2 at hn hj ⊢
      refine WP.dup (pc := 73) dX9_init_73 rfl ?_
      refine WP.iconst (pc := 74) (v := 0) dX9_init_74 (by decide) ?_
      refine WP.aload_n (pc := 75) dX9_init_75 rfl ?_
      refine WP.iload_n (pc := 76) dX9_init_76 rfl ?_
      refine WP.cVs (pc := 77) (mc2 := mc + 6 * d + 2) (ms2 := ms + 35 * d + 12) (ci := 8) kX9_33 (G_ovenSize Γ hj he hl) (by decide) rfl hj.1.1.t0 rfl ⟨Nat.le_of_ble_eq_true rfl, Nat.le_of_ble_eq_true rfl⟩ (by omega) (by omega) (Nat.le_of_ble_eq_true rfl) rfl dX9_init_77 (fun v τ ⟨hv, hj', hk⟩ => ?_)
      subst hv
      replace hn := hn.M hk
      replace hj := hj'
      clear hj' hk
      refine WP.iastS (pc := 80) (k := 0) hn.2.2.1 (by omega) (by omega) dX9_init_80 ?_
      replace hj := hj.st (k := 0) (v := e.2.1) hn
      replace hn := hn.st 0 (e.2.1)
      refine WP.dup (pc := 81) dX9_init_81 rfl ?_
      refine WP.iconst (pc := 82) (v := 1) dX9_init_82 (by decide) ?_
      refine WP.iconst (pc := 83) (v := 0) dX9_init_83 (by decide) ?_
      refine WP.iastS (pc := 84) (k := 1) hn.2.2.1 (by omega) (by omega) dX9_init_84 ?_
      replace hj := hj.st (k := 1) (v := 0) hn
      replace hn := hn.st 1 (0)
      refine WP.dup (pc := 85) dX9_init_85 rfl ?_
      refine WP.iconst (pc := 86) (v := 2) dX9_init_86 (by decide) ?_
      refine WP.aload_n (pc := 87) dX9_init_87 rfl ?_
      refine WP.iload_n (pc := 88) dX9_init_88 rfl ?_
      refine WP.cVs (pc := 89) (mc2 := mc + 6 * d + 1) (ms2 := ms + 35 * d + 6) (ci := 8) kX9_36 (G_bakingKind Γ hj he hl) (by decide) rfl hj.1.1.t0 rfl ⟨Nat.le_of_ble_eq_true rfl, Nat.le_of_ble_eq_true rfl⟩ (by omega) (by omega) (Nat.le_of_ble_eq_true rfl) rfl dX9_init_89 (fun v τ ⟨hv, hj', hk⟩ => ?_)
      subst hv
      replace hn := hn.M hk
      replace hj := hj'
      clear hj' hk
      refine WP.iastS (pc := 92) (k := 2) hn.2.2.1 (by omega) (by omega) dX9_init_92 ?_
      replace hj := hj.st (k := 2) (v := e.2.2.2.1) hn
      replace hn := hn.st 2 (e.2.2.2.1)
      refine WP.dup (pc := 93) dX9_init_93 rfl ?_
      refine WP.iconst (pc := 94) (v := 3) dX9_init_94 (by decide) ?_
      refine WP.aload_n (pc := 95) dX9_init_95 rfl ?_
      refine WP.iload_n (pc := 96) dX9_init_96 rfl ?_
      refine WP.cVs (pc := 97) (mc2 := mc + 6 * d) (ms2 := ms + 35 * d) (ci := 8) kX9_39 (G_hoursLeft Γ hj he hl) (by decide) rfl hj.1.1.t0 rfl ⟨Nat.le_of_ble_eq_true rfl, Nat.le_of_ble_eq_true rfl⟩ (by omega) (by omega) (Nat.le_of_ble_eq_true rfl) rfl dX9_init_97 (fun v τ ⟨hv, hj', hk⟩ => ?_)
      subst hv
      replace hn := hn.M hk
      replace hj := hj'
      clear hj' hk
      refine WP.iastS (pc := 100) (k := 3) hn.2.2.1 (by omega) (by omega) dX9_init_100 ?_
      replace hj := hj.st (k := 3) (v := e.2.2.2.2.1) hn
      replace hn := hn.st 3 (e.2.2.2.2.1)
      refine WP.dup (pc := 101) dX9_init_101 rfl ?_
      refine WP.iconst (pc := 102) (v := 4) dX9_init_102 (by decide) ?_
      refine WP.iconst (pc := 103) (v := 0) dX9_init_103 (by decide) ?_
      refine WP.iastS (pc := 104) (k := 4) hn.2.2.1 (by omega) (by omega) dX9_init_104 ?_
      replace hj := hj.st (k := 4) (v := 0) hn
      replace hn := hn.st 4 (0)
      refine WP.aastS (pc := 105) hj.t2 hn.2.2.1 (by omega) (by decide) dX9_init_105 ?_
      have hjp := hj.pushB (e.2.1, 0, e.2.2.2.1, e.2.2.2.2.1, 0) hn.1 hn.2.1 hn.2.2.1 (hn.2.2.2.trans (new5 rfl))
      rw [hS3] at hjp
      refine WP.iinc (pc := 106) dX9_init_106 rfl (nI_1 _) (by decide) rfl ?_
      refine WP.goto (pc := 109) (tgt := 49) dX9_init_109 (by decide) ?_
      refine ih (k + 1) _ _ _ (by omega) hjp ⟨hS1, fun j hj => ?_, ⟨?_, fun j e' r' he' hr' => ?_⟩, hS5⟩
      · show u1 S.2.1 k (m.s.1 k) j = _
        unfold u1
        split
        · next q => rw [q]
        · exact hS2 j (by omega)
      · show (S.2.2.1 ++ [_]).length = _
        rw [List.length_append, hS3]
        rfl
      · rcases ap_ix (l := S.2.2.1) hr' with ⟨q1, q2⟩ | ⟨q1, rfl⟩
        · exact hS4 j e' r' he' q2
        · rw [q1, hS3, he] at he'
          cases he'
          exact ⟨rfl, Or.inl rfl, fun _ => rfl, Or.inl rfl, (hbk k e he).2.2.symm⟩
def iS2 (s : mS) (k : Nat) (S : hBd) : Prop := S.1 = u1 (fun _ => 0) 5 (nI s.2.2.2.1.length) ∧ (∀ j, j < 3 → S.2.1 j = s.1 j) ∧ hBk noP s.2.1 S.2.2.1 ∧ S.2.2.2.1 = s.2.2.2.1.take k ∧ S.2.2.2.2 = ([], [])
theorem LH_in2 {Φ : cRes → cAS → Prop} {mc ms : Nat} (h10 : m.s.2.2.2.1.length ≤ 10)
    (kk : ∀ τ N S, hJ τ x m h N S → iS2 m.s m.s.2.2.2.1.length S → WP Γ (9, 160, mc, ms) MX9_init Φ 194 [some (.ref h), some (.ref x), some (.int (nI m.s.2.2.2.1.length))] [] τ) : ∀ d k σ N S, k + d = m.s.2.2.2.1.length → hJ σ x m h N S → iS2 m.s k S → WP Γ (9, 160, mc + 7 * d, ms + 42 * d) MX9_init Φ 122 [some (.ref h), some (.ref x), some (.int (nI k))] [] σ := by
  have hl : m.s.2.2.2.1.length ≤ 2000 := by omega
  intro d
  induction d with
  | zero =>
    intro k σ N S h1 hj hS
    have hk : k = m.s.2.2.2.1.length := by omega
    subst hk
    have h5 : S.1 5 = nI m.s.2.2.2.1.length := by rw [hS.1]; rfl
    refine WP.iload_n (pc := 122) dX9_init_122 rfl ?_
    refine WP.aload_n (pc := 123) dX9_init_123 rfl ?_
    refine WP.gIs (pc := 124) uX9 fX9_46 hj.t0 (v := nI m.s.2.2.2.1.length) ((hj.fI 5).trans (h5)) dX9_init_124 ?_
    refine WP.icmp_ge (pc := 127) (tgt := 194) dX9_init_127 (by decide) (fun c => ?_) (fun c => ?_)
    · exact kk σ N S hj hS
    · exact absurd (nI_le (Nat.le_refl _) (by omega)) c
  | succ d ih =>
    intro k σ N S h1 hj hS
    have h5 : S.1 5 = nI m.s.2.2.2.1.length := by rw [hS.1]; rfl
    obtain ⟨hS1, hS2, hS3, hS4, hS5⟩ := hS
    obtain ⟨e, he⟩ : ∃ e, m.s.2.2.2.1[k]? = some e := ⟨_, List.getElem?_eq_getElem (by omega)⟩
    have hlen : S.2.2.2.1.length = k := by rw [hS4, List.length_take]; omega
    refine WP.iload_n (pc := 122) dX9_init_122 rfl ?_
    refine WP.aload_n (pc := 123) dX9_init_123 rfl ?_
    refine WP.gIs (pc := 124) uX9 fX9_46 hj.t0 (v := nI m.s.2.2.2.1.length) ((hj.fI 5).trans (h5)) dX9_init_124 ?_
    refine WP.icmp_ge (pc := 127) (tgt := 194) dX9_init_127 (by decide) (fun c => ?_) (fun c => ?_)
    · exact absurd c (nI_ge (by omega) (by omega))
    · refine WP.aload_n (pc := 130) dX9_init_130 rfl ?_
      refine WP.gRs (pc := 131) uX9 fX9_18 hj.t0 hj.r0_2 dX9_init_131 ?_
      refine WP.iload_n (pc := 134) dX9_init_134 rfl ?_
      refine WP.bipush (pc := 135) (v := 6) dX9_init_135 (by decide) ?_
      refine WP.less (mc2 := mc + 7 * d + 6 + 1) (ms2 := ms + 42 * d + 36 + 6) (by omega) (by omega) ?_
      refine WP.newarr (pc := 137) (kd := 11) (n := 6) (by decide) (by decide) rfl nA11 (by decide) (by decide) (by decide) dX9_init_137 ?_
      have hn := hj.nw 6
      replace hj := hj.alloc 11 6
      generalize aN σ = a at hn ⊢
      generalize sA σ 11 6 = τ2 at hn hj ⊢
      refine WP.dup (pc := 139) dX9_init_139 rfl ?_
      refine WP.iconst (pc := 140) (v := 0) dX9_init_140 (by decide) ?_
      refine WP.aload_n (pc := 141) dX9_init_141 rfl ?_
      refine WP.iload_n (pc := 142) dX9_init_142 rfl ?_
      refine WP.cVs (pc := 143) (mc2 := mc + 7 * d + 5) (ms2 := ms + 42 * d + 30) (ci := 8) kX9_50 (G_ticketOf Γ hj he hl) (by decide) rfl hj.1.1.t0 rfl ⟨Nat.le_of_ble_eq_true rfl, Nat.le_of_ble_eq_true rfl⟩ (by omega) (by omega) (Nat.le_of_ble_eq_true rfl) rfl dX9_init_143 (fun v τ ⟨hv, hj', hk⟩ => ?_)
      subst hv
      replace hn := hn.M hk
      replace hj := hj'
      clear hj' hk
      refine WP.iastS (pc := 146) (k := 0) hn.2.2.1 (by omega) (by omega) dX9_init_146 ?_
      replace hj := hj.st (k := 0) (v := e.2.1) hn
      replace hn := hn.st 0 (e.2.1)
      refine WP.dup (pc := 147) dX9_init_147 rfl ?_
      refine WP.iconst (pc := 148) (v := 1) dX9_init_148 (by decide) ?_
      refine WP.aload_n (pc := 149) dX9_init_149 rfl ?_
      refine WP.iload_n (pc := 150) dX9_init_150 rfl ?_
      refine WP.cVs (pc := 151) (mc2 := mc + 7 * d + 4) (ms2 := ms + 42 * d + 24) (ci := 8) kX9_53 (G_kindWanted Γ hj he hl) (by decide) rfl hj.1.1.t0 rfl ⟨Nat.le_of_ble_eq_true rfl, Nat.le_of_ble_eq_true rfl⟩ (by omega) (by omega) (Nat.le_of_ble_eq_true rfl) rfl dX9_init_151 (fun v τ ⟨hv, hj', hk⟩ => ?_)
      subst hv
      replace hn := hn.M hk
      replace hj := hj'
      clear hj' hk
      refine WP.iastS (pc := 154) (k := 1) hn.2.2.1 (by omega) (by omega) dX9_init_154 ?_
      replace hj := hj.st (k := 1) (v := e.2.2.1) hn
      replace hn := hn.st 1 (e.2.2.1)
      refine WP.dup (pc := 155) dX9_init_155 rfl ?_
      refine WP.iconst (pc := 156) (v := 2) dX9_init_156 (by decide) ?_
      refine WP.aload_n (pc := 157) dX9_init_157 rfl ?_
      refine WP.iload_n (pc := 158) dX9_init_158 rfl ?_
      refine WP.cVs (pc := 159) (mc2 := mc + 7 * d + 3) (ms2 := ms + 42 * d + 18) (ci := 8) kX9_56 (G_wanted Γ hj he hl) (by decide) rfl hj.1.1.t0 rfl ⟨Nat.le_of_ble_eq_true rfl, Nat.le_of_ble_eq_true rfl⟩ (by omega) (by omega) (Nat.le_of_ble_eq_true rfl) rfl dX9_init_159 (fun v τ ⟨hv, hj', hk⟩ => ?_)
      subst hv
      replace hn := hn.M hk
      replace hj := hj'
      clear hj' hk
      refine WP.iastS (pc := 162) (k := 2) hn.2.2.1 (by omega) (by omega) dX9_init_162 ?_
      replace hj := hj.st (k := 2) (v := e.2.2.2.1) hn
      replace hn := hn.st 2 (e.2.2.2.1)
      refine WP.dup (pc := 163) dX9_init_163 rfl ?_
      refine WP.iconst (pc := 164) (v := 3) dX9_init_164 (by decide) ?_
      refine WP.aload_n (pc := 165) dX9_init_165 rfl ?_
      refine WP.iload_n (pc := 166) dX9_init_166 rfl ?_
      refine WP.cVs (pc := 167) (mc2 := mc + 7 * d + 2) (ms2 := ms + 42 * d + 12) (ci := 8) kX9_59 (G_limitPrice Γ hj he hl) (by decide) rfl hj.1.1.t0 rfl ⟨Nat.le_of_ble_eq_true rfl, Nat.le_of_ble_eq_true rfl⟩ (by omega) (by omega) (Nat.le_of_ble_eq_true rfl) rfl dX9_init_167 (fun v τ ⟨hv, hj', hk⟩ => ?_)
      subst hv
      replace hn := hn.M hk
      replace hj := hj'
      clear hj' hk
      refine WP.iastS (pc := 170) (k := 3) hn.2.2.1 (by omega) (by omega) dX9_init_170 ?_
      replace hj := hj.st (k := 3) (v := e.2.2.2.2.1) hn
      replace hn := hn.st 3 (e.2.2.2.2.1)
      refine WP.dup (pc := 171) dX9_init_171 rfl ?_
      refine WP.iconst (pc := 172) (v := 4) dX9_init_172 (by decide) ?_
      refine WP.aload_n (pc := 173) dX9_init_173 rfl ?_
      refine WP.iload_n (pc := 174) dX9_init_174 rfl ?_
      refine WP.cVs (pc := 175) (mc2 := mc + 7 * d + 1) (ms2 := ms + 42 * d + 6) (ci := 8) kX9_62 (G_purse Γ hj he hl) (by decide) rfl hj.1.1.t0 rfl ⟨Nat.le_of_ble_eq_true rfl, Nat.le_of_ble_eq_true rfl⟩ (by omega) (by omega) (Nat.le_of_ble_eq_true rfl) rfl dX9_init_175 (fun v τ ⟨hv, hj', hk⟩ => ?_)
      subst hv
      replace hn := hn.M hk
      replace hj := hj'
      clear hj' hk
      refine WP.iastS (pc := 178) (k := 4) hn.2.2.1 (by omega) (by omega) dX9_init_178 ?_
      replace hj := hj.st (k := 4) (v := e.2.2.2.2.2.1) hn
      replace hn := hn.st 4 (e.2.2.2.2.2.1)
      refine WP.dup (pc := 179) dX9_init_179 rfl ?_
      refine WP.iconst (pc := 180) (v := 5) dX9_init_180 (by decide) ?_
      refine WP.aload_n (pc := 181) dX9_init_181 rfl ?_
      refine WP.iload_n (pc := 182) dX9_init_182 rfl ?_
      refine WP.cVs (pc := 183) (mc2 := mc + 7 * d) (ms2 := ms + 42 * d) (ci := 8) kX9_65 (G_patience Γ hj he hl) (by decide) rfl hj.1.1.t0 rfl ⟨Nat.le_of_ble_eq_true rfl, Nat.le_of_ble_eq_true rfl⟩ (by omega) (by omega) (Nat.le_of_ble_eq_true rfl) rfl dX9_init_183 (fun v τ ⟨hv, hj', hk⟩ => ?_)
      subst hv
      replace hn := hn.M hk
      replace hj := hj'
      clear hj' hk
      refine WP.iastS (pc := 186) (k := 5) hn.2.2.1 (by omega) (by omega) dX9_init_186 ?_
      replace hj := hj.st (k := 5) (v := e.2.2.2.2.2.2) hn
      replace hn := hn.st 5 (e.2.2.2.2.2.2)
      refine WP.aastS (pc := 187) hj.t3 hn.2.2.1 (by omega) (by decide) dX9_init_187 ?_
      have hjp := hj.pushQ e hn.1 hn.2.1 hn.2.2.1 (hn.2.2.2.trans (new6' (nm := e.1) rfl))
      rw [hlen] at hjp
      refine WP.iinc (pc := 188) dX9_init_188 rfl (nI_1 _) (by decide) rfl ?_
      refine WP.goto (pc := 191) (tgt := 122) dX9_init_191 (by decide) ?_
      refine ih (k + 1) _ _ _ (by omega) hjp ⟨hS1, hS2, hS3, ?_, hS5⟩
      show S.2.2.2.1 ++ [e] = _
      rw [hS4, tk_app he]
theorem CH_init {σ : cAS} (hx : xAt σ x m) (hN : aN σ = h + 1) (ht : aT σ h = (10, 12)) (hI : aI σ h = fun _ => 0) (hf : fre σ x h) (hP : PI 3 2 m.s) (hok : ∀ e ∈ m.s.2.1, okB e) {P : Nat} (hPt : hPt P m.s.2.1 m.s.2.2.1 m.s.2.2.2.1 []) : Ctr Γ (9, 160, 37, 2265) MX9_init [.ref h, .ref x] σ (rS (fun v τ => v = none ∧ ∃ N S, hJ τ x m h N S ∧ hRs noP P m.s S)) := by
  obtain ⟨⟨z3, z6, z7, z8, z10, z11, z9⟩, hL, hE, h3, hB, h2, hC⟩ := hP
  have hj0 := iH_J hx hN ht hI hf
  refine Ctr.go rfl (by decide) rfl rfl ?_
  refine WP.aload_n (pc := 0) dX9_init_0 rfl ?_
  refine WP.objInit (pc := 1) oX9_1 oI oC (Nat.le_of_ble_eq_true rfl) (Nat.le_of_ble_eq_true rfl) dX9_init_1 ?_
  refine WP.aload_n (pc := 4) dX9_init_4 rfl ?_
  refine WP.iconst (pc := 5) (v := 3) dX9_init_5 (by decide) ?_
  refine WP.newarr (pc := 6) (mc := 36) (ms := 2262) (kd := 11) (n := 3) (by decide) (by decide) rfl nA11 (by decide) (by decide) (by decide) dX9_init_6 ?_
  refine WP.putR (pc := 8) (k := 0) uX9 fX9_7 rfl rfl rfl rfl rfl (sA_T ht (by omega)) dX9_init_8 ?_
  have t1 := al_T (k := 0) (kd := 11) (n := 3) ht (by omega : h < aN σ)
  have l1 := al_L (k := 0) (kd := 11) (n := 3) (by omega : h < aN σ)
  refine WP.aload_n (pc := 11) dX9_init_11 rfl ?_
  refine WP.iconst (pc := 12) (v := 3) dX9_init_12 (by decide) ?_
  refine WP.anewarrQ (pc := 13) (mc := 35) (ms := 2259) (n := 3) nX9_13 (by decide) (by decide) (by decide) dX9_init_13 ?_
  refine WP.putR (pc := 16) (k := 1) uX9 fX9_14 rfl rfl rfl rfl rfl (sA_T t1 l1) dX9_init_16 ?_
  have t2 := al_T (k := 1) (kd := 14) (n := 3) t1 l1
  have l2 := al_L (k := 1) (kd := 14) (n := 3) l1
  refine WP.aload_n (pc := 19) dX9_init_19 rfl ?_
  refine WP.bipush (pc := 20) (v := 10) dX9_init_20 (by decide) ?_
  refine WP.anewarrQ (pc := 22) (mc := 34) (ms := 2249) (n := 10) nX9_13 (by decide) (by decide) (by decide) dX9_init_22 ?_
  refine WP.putR (pc := 25) (k := 2) uX9 fX9_18 rfl rfl rfl rfl rfl (sA_T t2 l2) dX9_init_25 ?_
  have t3 := al_T (k := 2) (kd := 14) (n := 10) t2 l2
  have l3 := al_L (k := 2) (kd := 14) (n := 10) l2
  refine WP.aload_n (pc := 28) dX9_init_28 rfl ?_
  refine WP.bipush (pc := 29) (v := 60) dX9_init_29 (by decide) ?_
  refine WP.anewarrQ (pc := 31) (mc := 33) (ms := 2189) (n := 60) nX9_13 (by decide) (by decide) (by decide) dX9_init_31 ?_
  refine WP.putR (pc := 34) (k := 3) uX9 fX9_21 rfl rfl rfl rfl rfl (sA_T t3 l3) dX9_init_34 ?_
  have t4 := al_T (k := 3) (kd := 14) (n := 60) t3 l3
  have l4 := al_L (k := 3) (kd := 14) (n := 60) l3
  refine WP.aload_n (pc := 37) dX9_init_37 rfl ?_
  refine WP.sipush (pc := 38) (v := 2000) dX9_init_38 (by decide) ?_
  refine WP.anewarrQ (pc := 41) (mc := 32) (ms := 189) (n := 2000) nX9_13 (by decide) (by decide) (by decide) dX9_init_41 ?_
  refine WP.putR (pc := 44) (k := 4) uX9 fX9_24 rfl rfl rfl rfl rfl (sA_T t4 l4) dX9_init_44 ?_
  refine WP.iconst (pc := 47) (v := 0) dX9_init_47 (by decide) ?_
  refine WP.istore_n (pc := 48) dX9_init_48 (by decide) rfl ?_
  refine LH_in1 Γ (mc := 14) (ms := 84) h3 hB (fun τ N S hj hS => ?_) 3 0 (iH σ h) (h + 6) iH0 rfl hj0 ⟨rfl, fun j hj => absurd hj (Nat.not_lt_zero _), ⟨rfl, fun j e r he hr => by simp at hr⟩, rfl⟩
  obtain ⟨hS1, hS2, ⟨hS3, hS4⟩, hS5⟩ := hS
  have hl : m.s.2.2.2.1.length ≤ 10 := by omega
  refine WP.aload_n (pc := 112) dX9_init_112 rfl ?_
  refine WP.aload_n (pc := 113) dX9_init_113 rfl ?_
  refine WP.cVs (pc := 114) (mc2 := 14) (ms2 := 84) (ci := 8) kX9_42 (G_customerCount Γ hj) (by decide) rfl hj.1.1.t0 rfl ⟨Nat.le_of_ble_eq_true rfl, Nat.le_of_ble_eq_true rfl⟩ (Nat.le_of_ble_eq_true rfl) (Nat.le_of_ble_eq_true rfl) (Nat.le_of_ble_eq_true rfl) rfl dX9_init_114 (fun v τ ⟨hv, hj', hk⟩ => ?_)
  subst hv
  replace hj := hj'
  clear hj' hk
  refine WP.putI (pc := 117) uX9 fX9_46 rfl rfl hj.t0 dX9_init_117 ?_
  replace hj := hj.scal 5 (nI m.s.2.2.2.1.length)
  generalize sI τ h 5 _ = τ1 at hj ⊢
  refine WP.iconst (pc := 120) (v := 0) dX9_init_120 (by decide) ?_
  refine WP.istore_n (pc := 121) dX9_init_121 (by decide) rfl ?_
  refine WP.less (mc2 := 0 + 7 * m.s.2.2.2.1.length) (ms2 := 0 + 42 * m.s.2.2.2.1.length) (by omega) (by omega) ?_
  refine LH_in2 Γ (mc := 0) (ms := 0) hl (fun τ N S hj hS => ?_) m.s.2.2.2.1.length 0 τ1 N _ (Nat.zero_add _) hj ⟨by rw [hS1], hS2, ⟨hS3, h3, hS4⟩, by rw [List.take_zero]; exact congrArg Prod.fst hS5, congrArg Prod.snd hS5⟩
  obtain ⟨g1, g2, g3, g4, g5⟩ := hS
  rw [List.take_length] at g4
  have h5 : S.1 5 = nI m.s.2.2.2.1.length := by rw [g1]; rfl
  refine WP.aload_n (pc := 194) dX9_init_194 rfl ?_
  refine WP.aload_n (pc := 195) dX9_init_195 rfl ?_
  refine WP.gIs (pc := 196) uX9 fX9_46 hj.t0 (v := nI m.s.2.2.2.1.length) ((hj.fI 5).trans (h5)) dX9_init_196 ?_
  refine WP.putI (pc := 199) uX9 fX9_68 rfl rfl hj.t0 dX9_init_199 ?_
  replace hj := hj.scal 8 (nI m.s.2.2.2.1.length)
  generalize sI τ h 8 _ = τ2 at hj ⊢
  refine WP.aload_n (pc := 202) dX9_init_202 rfl ?_
  refine WP.aload_n (pc := 203) dX9_init_203 rfl ?_
  refine WP.cVs (pc := 204) (mc2 := 0) (ms2 := 0) (ci := 8) kX9_71 (G_crumbs Γ hj) (by decide) rfl hj.1.1.t0 rfl ⟨Nat.le_of_ble_eq_true rfl, Nat.le_of_ble_eq_true rfl⟩ (Nat.le_of_ble_eq_true rfl) (Nat.le_of_ble_eq_true rfl) (Nat.le_of_ble_eq_true rfl) rfl dX9_init_204 (fun v τ ⟨hv, hj', hk⟩ => ?_)
  subst hv
  replace hj := hj'
  clear hj' hk
  refine WP.putI (pc := 207) uX9 fX9_74 rfl rfl hj.t0 dX9_init_207 ?_
  replace hj := hj.scal 10 (m.s.1 4)
  generalize sI τ h 10 _ = τ3 at hj ⊢
  refine WP.aload_n (pc := 210) dX9_init_210 rfl ?_
  refine WP.aload_n (pc := 211) dX9_init_211 rfl ?_
  refine WP.cVs (pc := 212) (mc2 := 0) (ms2 := 0) (ci := 8) kX9_76 (G_sparrows Γ hj) (by decide) rfl hj.1.1.t0 rfl ⟨Nat.le_of_ble_eq_true rfl, Nat.le_of_ble_eq_true rfl⟩ (Nat.le_of_ble_eq_true rfl) (Nat.le_of_ble_eq_true rfl) (Nat.le_of_ble_eq_true rfl) rfl dX9_init_212 (fun v τ ⟨hv, hj', hk⟩ => ?_)
  subst hv
  replace hj := hj'
  clear hj' hk
  refine WP.putI (pc := 215) uX9 fX9_79 rfl rfl hj.t0 dX9_init_215 ?_
  replace hj := hj.scal 11 (m.s.1 5)
  refine WP.vret (pc := 218) rfl dX9_init_218 ?_
  refine ⟨none, rfl, rfl, _, _, hj, ?_⟩
  obtain ⟨q1, q2⟩ := Prod.mk.inj (g5 : (S.2.2.2.2.1, S.2.2.2.2.2) = ([], []))
  refine ⟨⟨?_, ?_, rfl, rfl, g2⟩, ⟨?_, ?_, ?_⟩, g3, ⟨g4, ?_, ?_⟩, ?_⟩
  · show nI m.s.2.2.2.1.length = m.s.1 11
    rw [z11, h2]
  · show S.1 9 = m.s.1 3
    rw [g1, z3]
    rfl
  · show S.1 5 = nI S.2.2.2.1.length
    rw [h5, g4]
  · show S.1 6 = nI S.2.2.2.2.1.length
    rw [g1, q1]
    rfl
  · show S.1 7 = nI S.2.2.2.2.2.length
    rw [g1, q2]
    rfl
  · show S.2.2.2.2.1 = m.s.2.2.1
    rw [q1, hL]
  · show m.s.2.2.2.2 = S.2.2.2.2.2.drop _
    rw [q2, hE]
    rfl
  · show _root_.Jvm.Pilot.CLoafMarketLaw_law_r7276_f61985.hPt P m.s.2.1 m.s.2.2.1 m.s.2.2.2.1 S.2.2.2.2.2
    rw [q2]
    exact hPt
end T
