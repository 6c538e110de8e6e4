section T
variable (Γ : cG) {x h N : Nat} {m : mX}
theorem hBk.mono {pd pd' : Nat → Prop} {Bk : List mBk} {B : List mHB} (h : hBk pd Bk B) (hp : ∀ j, j < 3 → pd j → pd' j) : hBk pd' Bk B := ⟨h.1, h.2.1, fun k e r he hr => by
  obtain ⟨b1, b2, b3, b4, b5⟩ := h.2.2 k e r he hr
  have hk : k < 3 := by have := gE_lt he; have := h.2.1; omega
  exact ⟨b1, b2, b3, b4.imp id (fun z => ⟨hp k hk z.1, z.2⟩), b5⟩⟩
theorem hRel.mono {pd pd' : Nat → Prop} {P : Nat} {z : Nat → Int32} {Bk : List mBk} {L : List mLf} {C : List mCu} {V : List mEv} {S : hBd} (h : hRel pd P z Bk L C V S) (hp : ∀ j, j < 3 → pd j → pd' j) : hRel pd' P z Bk L C V S := ⟨h.1, h.2.1, h.2.2.1.mono hp, h.2.2.2⟩
theorem rw5_1 (r : mHB) (v : Int32) : rw5 (r.1, v, r.2.2.1, r.2.2.2.1, r.2.2.2.2) = u1 (rw5 r) 1 v := by
  funext j
  unfold u1 rw5
  by_cases q : j = 1
  · subst q
    rfl
  · rw [if_neg q]
    simp only [if_neg q]
-- the bakers
theorem LH_ag1c {Φ : cRes → cAS → Prop} {mc ms P i : Nat} {σ : cAS} {S : hBd} {e : mBk} {r : mHB} (hi : i < 3) (hj : hJ σ x m h N S) (hR : hRs (fun j => i + 1 ≤ j) P m.s S) (he : m.s.2.1[i]? = some e) (hr : S.2.2.1[i]? = some r) (hok : okB e) (h3 : m.s.2.1.length = 3)
    (kk : ∀ τ, hJ τ x m h N S → WP Γ (9, 160, mc, ms) MX9_agrees Φ 75 [some (.ref h), some (.ref x), some (.int (nI (i + 1))), none] [] τ) : WP Γ (9, 160, mc + 5, ms + 30) MX9_agrees Φ 117 [some (.ref h), some (.ref x), some (.int (nI i)), none] [] σ := by
  obtain ⟨b1, b2, b3, b4, b5⟩ := hR.2.2.1.2.2 i e r he hr
  have b4 : r.2.2.2.1 = e.2.2.2.2.1 := b4.elim id (fun z => absurd z.1 (by omega))
  have hl : m.s.2.1.length ≤ 2000 := by omega
  refine WP.aload_n (pc := 117) dX9_agrees_117 rfl ?_
  refine WP.iload_n (pc := 118) dX9_agrees_118 rfl ?_
  refine WP.cVs (pc := 119) (mc2 := mc + 4) (ms2 := ms + 24) (ci := 8) kX9_141 (G_income Γ hj he hl) (by decide) rfl hj.1.1.t0 rfl ⟨Nat.le_of_ble_eq_true rfl, Nat.le_of_ble_eq_true rfl⟩ (by omega) (by omega) (Nat.le_of_ble_eq_true rfl) rfl dX9_agrees_119 (fun v τ ⟨hv, hj', hk⟩ => ?_)
  subst hv
  replace hj := hj'
  clear hj' hk
  obtain ⟨a, a1, a2, a3, -, -⟩ := hj.bk hr
  refine WP.aload_n (pc := 122) dX9_agrees_122 rfl ?_
  refine WP.gRs (pc := 123) uX9 fX9_14 hj.t0 hj.r0_1 dX9_agrees_123 ?_
  refine WP.iload_n (pc := 126) dX9_agrees_126 rfl ?_
  refine WP.aaldS (pc := 127) hj.t2 (by omega) (by decide) a1 dX9_agrees_127 ?_
  refine WP.iconst (pc := 128) (v := 4) dX9_agrees_128 (by decide) ?_
  refine WP.ialdS (pc := 129) (k := 4) a2 (by decide) (by decide) (v := (e.2.2.2.2.2)) ((congrFun a3 4).trans (b5)) dX9_agrees_129 ?_
  refine WP.icmp_ne (pc := 130) (tgt := 194) dX9_agrees_130 (by decide) (fun c => ?_) (fun c => ?_)
  · exact absurd rfl c
  · refine WP.aload_n (pc := 133) dX9_agrees_133 rfl ?_
    refine WP.iload_n (pc := 134) dX9_agrees_134 rfl ?_
    clear a1 a2 a3
    refine WP.cVs (pc := 135) (mc2 := mc + 3) (ms2 := ms + 18) (ci := 8) kX9_39 (G_hoursLeft Γ hj he hl) (by decide) rfl hj.1.1.t0 rfl ⟨Nat.le_of_ble_eq_true rfl, Nat.le_of_ble_eq_true rfl⟩ (by omega) (by omega) (Nat.le_of_ble_eq_true rfl) rfl dX9_agrees_135 (fun v τ ⟨hv, hj', hk⟩ => ?_)
    subst hv
    replace hj := hj'
    clear hj' hk
    obtain ⟨a, a1, a2, a3, -, -⟩ := hj.bk hr
    refine WP.aload_n (pc := 138) dX9_agrees_138 rfl ?_
    refine WP.gRs (pc := 139) uX9 fX9_14 hj.t0 hj.r0_1 dX9_agrees_139 ?_
    refine WP.iload_n (pc := 142) dX9_agrees_142 rfl ?_
    refine WP.aaldS (pc := 143) hj.t2 (by omega) (by decide) a1 dX9_agrees_143 ?_
    refine WP.iconst (pc := 144) (v := 3) dX9_agrees_144 (by decide) ?_
    refine WP.ialdS (pc := 145) (k := 3) a2 (by decide) (by decide) (v := (e.2.2.2.2.1)) ((congrFun a3 3).trans (b4)) dX9_agrees_145 ?_
    refine WP.icmp_ne (pc := 146) (tgt := 194) dX9_agrees_146 (by decide) (fun c => ?_) (fun c => ?_)
    · exact absurd rfl c
    · refine WP.aload_n (pc := 149) dX9_agrees_149 rfl ?_
      refine WP.iload_n (pc := 150) dX9_agrees_150 rfl ?_
      clear a1 a2 a3
      refine WP.cVs (pc := 151) (mc2 := mc + 2) (ms2 := ms + 12) (ci := 8) kX9_36 (G_bakingKind Γ hj he hl) (by decide) rfl hj.1.1.t0 rfl ⟨Nat.le_of_ble_eq_true rfl, Nat.le_of_ble_eq_true rfl⟩ (by omega) (by omega) (Nat.le_of_ble_eq_true rfl) rfl dX9_agrees_151 (fun v τ ⟨hv, hj', hk⟩ => ?_)
      subst hv
      replace hj := hj'
      clear hj' hk
      have last : ∀ v, v = e.2.2.2.1 → WP Γ (9, 160, mc + 2, ms + 12) MX9_agrees Φ 177 [some (.ref h), some (.ref x), some (.int (nI i)), none] [.int v, .int e.2.2.2.1] τ := by
        intro v hv
        subst hv
        refine WP.icmp_ne (pc := 177) (tgt := 194) dX9_agrees_177 (by decide) (fun c => ?_) (fun c => ?_)
        · exact absurd rfl c
        · skip
          refine WP.aload_n (pc := 180) dX9_agrees_180 rfl ?_
          refine WP.iload_n (pc := 181) dX9_agrees_181 rfl ?_
          refine WP.cVs (pc := 182) (mc2 := mc) (ms2 := ms) (ci := 8) kX9_27 (G_basePrice Γ hj hi) (by decide) rfl hj.1.1.t0 rfl ⟨Nat.le_of_ble_eq_true rfl, Nat.le_of_ble_eq_true rfl⟩ (by omega) (by omega) (Nat.le_of_ble_eq_true rfl) rfl dX9_agrees_182 (fun v τ ⟨hv, hj', hk⟩ => ?_)
          subst hv
          replace hj := hj'
          clear hj' hk
          refine WP.aload_n (pc := 185) dX9_agrees_185 rfl ?_
          refine WP.gRs (pc := 186) uX9 fX9_7 hj.t0 hj.r0_0 dX9_agrees_186 ?_
          refine WP.iload_n (pc := 189) dX9_agrees_189 rfl ?_
          refine WP.ialdS (pc := 190) hj.t1 (by omega) (by decide) (v := (m.s.1 i)) ((hj.bI _).trans ((hR.1.2.2.2.2 i hi))) dX9_agrees_190 ?_
          refine WP.icmp_eq (pc := 191) (tgt := 196) dX9_agrees_191 (by decide) (fun c => ?_) (fun c => ?_)
          · refine WP.iinc (pc := 196) dX9_agrees_196 rfl (nI_1 _) (by decide) rfl ?_
            refine WP.goto (pc := 199) (tgt := 75) dX9_agrees_199 (by decide) ?_
            exact kk _ hj
          · exact absurd rfl c
      obtain ⟨a, a1, a2, a3, -, -⟩ := hj.bk hr
      refine WP.aload_n (pc := 154) dX9_agrees_154 rfl ?_
      refine WP.gRs (pc := 155) uX9 fX9_14 hj.t0 hj.r0_1 dX9_agrees_155 ?_
      refine WP.iload_n (pc := 158) dX9_agrees_158 rfl ?_
      refine WP.aaldS (pc := 159) hj.t2 (by omega) (by decide) a1 dX9_agrees_159 ?_
      refine WP.iconst (pc := 160) (v := 3) dX9_agrees_160 (by decide) ?_
      refine WP.ialdS (pc := 161) (k := 3) a2 (by decide) (by decide) (v := (e.2.2.2.2.1)) ((congrFun a3 3).trans (b4)) dX9_agrees_161 ?_
      rcases hok.2.2.2 with ⟨k1, k2⟩ | ⟨⟨kd, k1, -, k3⟩, l, k2, l1, l9⟩
      · refine WP.if_le (pc := 162) (tgt := 176) dX9_agrees_162 (by decide) (fun c => ?_) (fun c => ?_)
        · refine WP.iconst (pc := 176) (v := (-1)) dX9_agrees_176 (by decide) ?_
          exact last _ k1.symm
        · exact absurd (by rw [k2]; decide) c
      · refine WP.if_le (pc := 162) (tgt := 176) dX9_agrees_162 (by decide) (fun c => ?_) (fun c => ?_)
        · rw [k2] at c
          exact absurd c (nI_ge (a := 0) l1 (by omega))
        · skip
          refine WP.aload_n (pc := 165) dX9_agrees_165 rfl ?_
          refine WP.gRs (pc := 166) uX9 fX9_14 hj.t0 hj.r0_1 dX9_agrees_166 ?_
          refine WP.iload_n (pc := 169) dX9_agrees_169 rfl ?_
          refine WP.aaldS (pc := 170) hj.t2 (by omega) (by decide) a1 dX9_agrees_170 ?_
          refine WP.iconst (pc := 171) (v := 2) dX9_agrees_171 (by decide) ?_
          refine WP.ialdS (pc := 172) (k := 2) a2 (by decide) (by decide) (v := (e.2.2.2.1)) ((congrFun a3 2).trans ((b3 (by rw [k1]; exact nI_ne_m1 (by omega))))) dX9_agrees_172 ?_
          refine WP.goto (pc := 173) (tgt := 177) dX9_agrees_173 (by decide) ?_
          exact last _ rfl
theorem LH_ag1 {Φ : cRes → cAS → Prop} {mc ms P : Nat} (hok : ∀ e ∈ m.s.2.1, okB e) (h3 : m.s.2.1.length = 3)
    (kk : ∀ τ S, hJ τ x m h N S → hRs noP P m.s S → WP Γ (9, 160, mc, ms) MX9_agrees Φ 202 [some (.ref h), some (.ref x), some (.int (nI 3)), none] [] τ) : ∀ d i σ S, i + d = 3 → hJ σ x m h N S → hRs (fun j => i ≤ j) P m.s S → WP Γ (9, 160, mc + 7 * d, ms + 42 * d) MX9_agrees Φ 75 [some (.ref h), some (.ref x), some (.int (nI i)), none] [] σ := by
  have hl : m.s.2.1.length ≤ 2000 := by omega
  intro d
  induction d with
  | zero =>
    intro i σ S h1 hj hR
    have hi : i = 3 := by omega
    subst hi
    refine WP.iload_n (pc := 75) dX9_agrees_75 rfl ?_
    refine WP.iconst (pc := 76) (v := 3) dX9_agrees_76 (by decide) ?_
    refine WP.icmp_ge (pc := 77) (tgt := 202) dX9_agrees_77 (by decide) (fun c => ?_) (fun c => ?_)
    · exact kk σ S hj (hR.mono (fun j hj q => absurd hj (by omega)))
    · exact absurd (by decide) c
  | succ d ih =>
    intro i σ S h1 hj hR
    have hi : i < 3 := by omega
    obtain ⟨e, he⟩ : ∃ e, m.s.2.1[i]? = some e := ⟨_, List.getElem?_eq_getElem (by omega)⟩
    obtain ⟨r, hr⟩ : ∃ r, S.2.2.1[i]? = some r := ⟨_, List.getElem?_eq_getElem (by have := hR.2.2.1.1; omega)⟩
    have hoke := hok e (List.mem_of_getElem? he)
    obtain ⟨b1, b2, b3, b4, b5⟩ := hR.2.2.1.2.2 i e r he hr
    obtain ⟨a, a1, a2, a3, -, a5⟩ := hj.bk hr
    refine WP.iload_n (pc := 75) dX9_agrees_75 rfl ?_
    refine WP.iconst (pc := 76) (v := 3) dX9_agrees_76 (by decide) ?_
    refine WP.icmp_ge (pc := 77) (tgt := 202) dX9_agrees_77 (by decide) (fun c => ?_) (fun c => ?_)
    · exact absurd c (nI_ge (a := i) (b := 3) (by omega) (by omega))
    · refine WP.aload_n (pc := 80) dX9_agrees_80 rfl ?_
      refine WP.gRs (pc := 81) uX9 fX9_14 hj.t0 hj.r0_1 dX9_agrees_81 ?_
      refine WP.iload_n (pc := 84) dX9_agrees_84 rfl ?_
      refine WP.aaldS (pc := 85) hj.t2 (by omega) (by decide) a1 dX9_agrees_85 ?_
      refine WP.iconst (pc := 86) (v := 3) dX9_agrees_86 (by decide) ?_
      refine WP.ialdS (pc := 87) (k := 3) a2 (by decide) (by decide) (v := r.2.2.2.1) (congrFun a3 3) dX9_agrees_87 ?_
      rcases b4 with b4 | ⟨-, b4, b6, b7⟩
      · refine WP.if_ge (pc := 88) (tgt := 117) dX9_agrees_88 (by decide) (fun c2 => ?_) (fun c2 => ?_)
        · refine WP.less (mc2 := (mc + 7 * d) + 5) (ms2 := (ms + 42 * d) + 30) (by omega) (by omega) ?_
          have hb : bkH (i + 1 ≤ i) e r := ⟨b1, b2, b3, Or.inl b4, b5⟩
          have hR1 : hRs (fun j => i + 1 ≤ j) P m.s S := ⟨hR.1, hR.2.1, ⟨hR.2.2.1.1, hR.2.2.1.2.1, fun k e' r' he' hr' => by
            by_cases q : k = i
            · subst q
              rw [he] at he'
              rw [hr] at hr'
              cases he'
              cases hr'
              exact hb
            · obtain ⟨c1, c2, c3, c4, c5⟩ := hR.2.2.1.2.2 k e' r' he' hr'
              exact ⟨c1, c2, c3, c4.imp id (fun z => ⟨by have := z.1; omega, z.2⟩), c5⟩⟩, hR.2.2.2⟩
          exact LH_ag1c Γ hi hj hR1 he hr hoke h3 (fun τ hj => ih (i + 1) τ S (by omega) hj hR1)
        · rw [b4] at c2
          rcases hoke.2.2.2 with ⟨k1, k2⟩ | ⟨⟨kd, k1, -, k3⟩, l, k2, l1, l9⟩
          · rw [k2] at c2
            exact absurd (by decide) c2
          · rw [k2] at c2
            exact absurd (Int32.not_lt.mp (nI_pos (by omega))) c2
      · refine WP.if_ge (pc := 88) (tgt := 117) dX9_agrees_88 (by decide) (fun c2 => ?_) (fun c2 => ?_)
        · rw [b4] at c2
          exact absurd c2 (by decide)
        · clear c2 a1 a2 a3 a5
          clear a
          obtain ⟨a, a1, a2, a3, -, a5⟩ := hj.bk hr
          refine WP.aload_n (pc := 91) dX9_agrees_91 rfl ?_
          refine WP.gRs (pc := 92) uX9 fX9_14 hj.t0 hj.r0_1 dX9_agrees_92 ?_
          refine WP.iload_n (pc := 95) dX9_agrees_95 rfl ?_
          refine WP.aaldS (pc := 96) hj.t2 (by omega) (by decide) a1 dX9_agrees_96 ?_
          refine WP.iconst (pc := 97) (v := 1) dX9_agrees_97 (by decide) ?_
          refine WP.aload_n (pc := 98) dX9_agrees_98 rfl ?_
          refine WP.iload_n (pc := 99) dX9_agrees_99 rfl ?_
          refine WP.cVs (pc := 100) (mc2 := mc + 7 * d + 6) (ms2 := ms + 42 * d + 36) (ci := 8) kX9_39 (G_hoursLeft Γ hj he hl) (by decide) rfl hj.1.1.t0 rfl ⟨Nat.le_of_ble_eq_true rfl, Nat.le_of_ble_eq_true rfl⟩ (by omega) (by omega) (Nat.le_of_ble_eq_true rfl) rfl dX9_agrees_100 (fun v τ ⟨hv, hj', hk⟩ => ?_)
          subst hv
          obtain ⟨a1, a2, a3, a5⟩ := rowM hk (hj.fr (a := h + 2) (by omega) (by omega)) a5 a1 a2 a3
          replace hj := hj'
          clear hj' hk
          refine WP.iastS (pc := 103) (k := 1) a2 (by decide) (by decide) dX9_agrees_103 ?_
          replace hj := hj.bset (r.1, e.2.2.2.2.1, r.2.2.1, r.2.2.2.1, r.2.2.2.2) hr a1 (rw5_1 r _)
          generalize sI τ a 1 _ = τ2 at hj ⊢
          clear a1 a2 a3 a5
          have hr1 : (S.2.2.1.set i (r.1, e.2.2.2.2.1, r.2.2.1, r.2.2.2.1, r.2.2.2.2))[i]? = some (r.1, e.2.2.2.2.1, r.2.2.1, r.2.2.2.1, r.2.2.2.2) := List.getElem?_set_self (gE_lt hr)
          obtain ⟨a, a1, a2, a3, -, a5⟩ := hj.bk hr1
          refine WP.aload_n (pc := 104) dX9_agrees_104 rfl ?_
          refine WP.gRs (pc := 105) uX9 fX9_14 hj.t0 hj.r0_1 dX9_agrees_105 ?_
          refine WP.iload_n (pc := 108) dX9_agrees_108 rfl ?_
          refine WP.aaldS (pc := 109) hj.t2 (by omega) (by decide) a1 dX9_agrees_109 ?_
          refine WP.iconst (pc := 110) (v := 3) dX9_agrees_110 (by decide) ?_
          refine WP.aload_n (pc := 111) dX9_agrees_111 rfl ?_
          refine WP.iload_n (pc := 112) dX9_agrees_112 rfl ?_
          refine WP.cVs (pc := 113) (mc2 := mc + 7 * d + 5) (ms2 := ms + 42 * d + 30) (ci := 8) kX9_39 (G_hoursLeft Γ hj he hl) (by decide) rfl hj.1.1.t0 rfl ⟨Nat.le_of_ble_eq_true rfl, Nat.le_of_ble_eq_true rfl⟩ (by omega) (by omega) (Nat.le_of_ble_eq_true rfl) rfl dX9_agrees_113 (fun v τ ⟨hv, hj', hk⟩ => ?_)
          subst hv
          obtain ⟨a1, a2, a3, a5⟩ := rowM hk (hj.fr (a := h + 2) (by omega) (by omega)) a5 a1 a2 a3
          replace hj := hj'
          clear hj' hk
          refine WP.iastS (pc := 116) (k := 3) a2 (by decide) (by decide) dX9_agrees_116 ?_
          replace hj := hj.bset (r.1, e.2.2.2.2.1, r.2.2.1, e.2.2.2.2.1, r.2.2.2.2) hr1 a1 (rw5_3 (r.1, e.2.2.2.2.1, r.2.2.1, r.2.2.2.1, r.2.2.2.2) _)
          simp only [List.set_set] at hj
          generalize sI τ a 3 _ = τ3 at hj ⊢
          have hr2 : (S.2.2.1.set i (r.1, e.2.2.2.2.1, r.2.2.1, e.2.2.2.2.1, r.2.2.2.2))[i]? = some (r.1, e.2.2.2.2.1, r.2.2.1, e.2.2.2.2.1, r.2.2.2.2) := List.getElem?_set_self (gE_lt hr)
          have hset : m.s.2.1.set i e = m.s.2.1 := by
            obtain ⟨q1, q2⟩ := List.getElem?_eq_some_iff.mp he
            rw [← q2]
            exact List.set_getElem_self q1
          have hB := hR.2.2.1.set (pd' := fun j => i + 1 ≤ j) (k := i) (e' := e) (r' := (r.1, e.2.2.2.2.1, r.2.2.1, e.2.2.2.2.1, r.2.2.2.2)) ⟨b1, Or.inr b6, b3, Or.inl rfl, b5⟩ (fun j hne q => by omega)
          rw [hset] at hB
          have hR1 : hRs (fun j => i + 1 ≤ j) P m.s (S.1, S.2.1, S.2.2.1.set i (r.1, e.2.2.2.2.1, r.2.2.1, e.2.2.2.2.1, r.2.2.2.2), S.2.2.2) := ⟨hR.1, hR.2.1, hB, hR.2.2.2⟩
          exact LH_ag1c Γ hi hj hR1 he hr2 hoke h3 (fun τ hj => ih (i + 1) τ _ (by omega) hj hR1)
end T
