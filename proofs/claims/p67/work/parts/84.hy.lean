-- an act
def acW (s : mS) (X : Nat) : Nat := X / 16 % s.2.2.2.1.length
def hdAct (nm : Nat) (s : mS) (X : Nat) : Int32 × mS :=
  if X % 16 < 3 then (if rfB s (X / 16 % 3) = 0 then ((s.2.1.getD (X / 16 % 3) dB).2.1, bgB s (X / 16 % 3) (nI (X / 16 / 4 % 3))) else (-9, s))
  else if X % 16 < 6 then (if s.2.2.2.1.length = 10 then (-9, s) else (s.1 11, wlC s nm (nI (X / 16 % 3)) (nI (1 + X / 16 / 4 % 5)) (nI (1 + X / 16 / 32 % 40)) (nI (X / 16 / 2048 % 200)) (nI (1 + X / 16 / 65536 % 20))))
  else if X % 16 = 6 then (if s.2.2.2.1.length = 0 then (-9, s) else ((s.2.2.2.1.getD (acW s X) dC).2.2.2.2.2.1, sdA s (acW s X)))
  else if X % 16 = 7 then (s.1 (X / 16 % 3), (zup s.1 (X / 16 % 3) (nI (1 + X / 16 / 4 % 40)), s.2))
  else if X % 16 = 8 then (s.1 4 + nI (1 + X / 16 % 40), (zup s.1 4 (s.1 4 + nI (1 + X / 16 % 40)), s.2))
  else if X % 16 < 12 then (nI (plT s (nI (X / 16 % 3))), hdOut s (nI (X / 16 % 3)))
  else ((hrsN (X / 16 % 3 + 1) s).1 8 - s.1 8, hrsN (X / 16 % 3 + 1) s)
abbrev anyP : Nat → Prop := fun _ => True
section R
variable {P : Nat} {z : Nat → Int32} {Bk : List mBk} {L : List mLf} {C : List mCu} {V : List mEv} {S : hBd}
theorem hBk.any {B : List mHB} (h : hBk noP Bk B) : hBk anyP Bk B := ⟨h.1, h.2.1, fun k e r he hr => by
  obtain ⟨b1, b2, b3, b4, b5⟩ := h.2.2 k e r he hr
  exact ⟨b1, b2, b3, b4.imp id (fun z => z.1.elim), b5⟩⟩
theorem hRel.any (h : hRel noP P z Bk L C V S) : hRel anyP P z Bk L C V S := ⟨h.1, h.2.1, h.2.2.1.any, h.2.2.2⟩
theorem hRel.bake {e e' : mBk} {r' : mHB} {i o : Nat} (h : hRel noP P z Bk L C V S) (he : Bk[i]? = some e) (hk : e.2.2.2.1 = -1) (ho : e'.2.1 = nI o) (ho9 : o ≤ 12) (hk' : e'.2.2.2.1 ≠ -1) (hcap : L.length + ovU Bk + o ≤ 60) (hb : bkH True e' r') : hRel anyP (P + 13) z (Bk.set i e') L C V (S.1, S.2.1, S.2.2.1.set i r', S.2.2.2) := by
  obtain ⟨g1, g2, g3, g4, g5, g6⟩ := h
  have a1 := ovU_set (e' := e') he
  have a2 := bnN_set (e' := e') he
  have q1 : ovE e = 0 := if_pos hk
  have q2 : bnE e = 0 := if_pos hk
  have q3 : ovE e' = o := by
    unfold ovE
    rw [if_neg hk', ho, nI_clamp (by omega)]
  have q4 : bnE e' = 1 := if_neg hk'
  exact ⟨g1, g2, g3.any.set (pd' := anyP) hb (fun j _ z => z), g4, by omega, by show S.2.2.2.2.2.length + _ + _ + _ + _ ≤ P + 13; omega⟩
theorem hRel.base (h : hRel noP P z Bk L C V S) (k : Nat) (hk : k < 3) (v : Int32) : hRel noP P (zup z k v) Bk L C V (S.1, u1 S.2.1 k v, S.2.2) := by
  obtain ⟨h1, h2, h3⟩ := h
  have e : ∀ j, 3 ≤ j → zup z k v j = z j := fun j hj => if_neg (by omega)
  refine ⟨⟨by rw [e 11 (by omega)]; exact h1.1, by rw [e 3 (by omega)]; exact h1.2.1, by rw [e 4 (by omega)]; exact h1.2.2.1, by rw [e 5 (by omega)]; exact h1.2.2.2.1, fun j hj => ?_⟩, h2, h3⟩
  show u1 S.2.1 k v j = zup z k v j
  unfold u1 zup
  split
  · rfl
  · exact h1.2.2.2.2 j hj
theorem hRel.join (h : hRel noP P z Bk L C V S) (e : mCu) : hRel noP (P + 1) (zup z 11 (z 11 + 1)) Bk L (C ++ [e]) V (u1 (u1 S.1 5 (nI (S.2.2.2.1.length + 1))) 8 (z 11 + 1), S.2.1, S.2.2.1, S.2.2.2.1 ++ [e], S.2.2.2.2) := by
  obtain ⟨h1, h2, h3, ⟨h4, h5, h6⟩, h7, h8⟩ := h
  refine ⟨⟨rfl, h1.2.1, h1.2.2.1, h1.2.2.2.1, fun j hj => ?_⟩, ⟨?_, h2.2.1, h2.2.2⟩, h3, ⟨by show S.2.2.2.1 ++ [e] = _; rw [h4], h5, h6⟩, h7, ?_⟩
  · unfold zup
    rw [if_neg (by omega)]
    exact h1.2.2.2.2 j hj
  · show nI (S.2.2.2.1.length + 1) = nI (S.2.2.2.1 ++ [e]).length
    rw [List.length_append]
    rfl
  · rw [List.length_append, List.length_singleton]
    show S.2.2.2.2.2.length + _ + _ + _ + _ ≤ _
    omega
end R
theorem ovH_U {Bk : List mBk} {B : List mHB} (h : hBk noP Bk B) (hok : ∀ e ∈ Bk, okB e) : ∀ n, n ≤ 3 → ovH B n = nI (ovU (Bk.take n))
  | 0, _ => rfl
  | n + 1, hn => by
    have ih := ovH_U h hok n (by omega)
    have g1 : Bk[n]? = some (Bk[n]'(by have := h.2.1; omega)) := List.getElem?_eq_getElem (by have := h.2.1; omega)
    have g2 : B[n]? = some (B[n]'(by have := h.1; omega)) := List.getElem?_eq_getElem (by have := h.1; omega)
    generalize Bk[n]'(by have := h.2.1; omega) = e at g1
    generalize B[n]'(by have := h.1; omega) = r at g2
    obtain ⟨b1, b2, b3, b4, b5⟩ := h.2.2 n e r g1 g2
    have b4 : r.2.2.2.1 = e.2.2.2.2.1 := b4.elim id (fun z => z.1.elim)
    have hb := hok e (List.mem_of_getElem? g1)
    show (match B[n]? with | some e => if 0 < e.2.2.2.1 then ovH B n + e.1 else ovH B n | none => ovH B n) = _
    rw [g2, tk_app g1]
    have hsum : ovU (Bk.take n ++ [e]) = ovU (Bk.take n) + ovE e := by simp [ovU]
    rw [hsum]
    dsimp only
    rw [ih, b4]
    rcases hb.2.2.2 with ⟨k1, k2⟩ | ⟨⟨kd, k1, -, k3⟩, l, k2, l1, l9⟩
    · rw [k2, if_neg (by decide), show ovE e = 0 from if_pos k1, Nat.add_zero]
    · obtain ⟨o, ho, o1, o2⟩ := hb.2.1
      have hE : ovE e = o := by
        unfold ovE
        rw [if_neg (by rw [k1]; exact nI_ne_m1 (by omega)), ho, nI_clamp (by omega)]
      rw [k2, if_pos (show (0 : Int32) < nI l from nI_lt (a := 0) l1 (by omega)), b1, ho, hE, nI_add]
theorem rw5_2 (r : mHB) (v : Int32) : rw5 (r.1, r.2.1, v, r.2.2.2.1, r.2.2.2.2) = u1 (rw5 r) 2 v := by
  funext j
  unfold u1 rw5
  by_cases q : j = 2
  · subst q
    rfl
  · rw [if_neg q]
    simp only [if_neg q]
theorem new6 {σ : cAS} {a n nm : Nat} {v0 v1 v2 v3 v4 v5 : Int32} (ha : a = aN σ) : aI (sI (sI (sI (sI (sI (sI (sA σ 11 n) a 0 v0) a 1 v1) a 2 v2) a 3 v3) a 4 v4) a 5 v5) a = rw6 (nm, v0, v1, v2, v3, v4, v5) := by
  rw [aI_u1, aI_u1, aI_u1, aI_u1, aI_u1, aI_u1]
  funext j
  have e : aI (sA σ 11 n) a j = 0 := by rw [aI_sA, if_pos ha]
  unfold u1 rw6
  rw [e]
  by_cases q0 : j = 0
  · subst q0; rfl
  · by_cases q1 : j = 1
    · subst q1; rfl
    · by_cases q2 : j = 2
      · subst q2; rfl
      · by_cases q3 : j = 3
        · subst q3; rfl
        · by_cases q4 : j = 4
          · subst q4; rfl
          · by_cases q5 : j = 5
            · subst q5; rfl
            · simp only [if_neg q0, if_neg q1, if_neg q2, if_neg q3, if_neg q4, if_neg q5]
section T
variable (Γ : cG) {x h : Nat} {m : mX}
abbrev acQ (x : Nat) (m : mX) (h P nm : Nat) (s : mS) (X : Nat) : cRes → cAS → Prop := rS (fun v τ => v = some (.int (hdAct nm s X).1) ∧ ∃ N' S', hJ τ x m h N' S' ∧ hRs anyP (P + 13) (hdAct nm s X).2 S')
theorem HA_bake {σ : cAS} {N P TT C X nm : Nat} {S : hBd} {s : mS} (hj : hJ σ x m h N S) (hR : hRs noP P s S) (hw : wf TT C s) (hX : X < 2147483648) (hc : X % 16 < 3) : WP Γ (4, 102, 330, 990) MX9_acts (acQ x m h P nm s X) 76 [some (.ref h), some (.int (nI X)), some (.int (nI (X / 16))), some (.int (nI (X / 16 % 3))), none, none] [] σ := by
  have hA : hdAct nm s X = (if rfB s (X / 16 % 3) = 0 then ((s.2.1.getD (X / 16 % 3) dB).2.1, bgB s (X / 16 % 3) (nI (X / 16 / 4 % 3))) else (-9, s)) := if_pos hc
  have hi : X / 16 % 3 < 3 := Nat.mod_lt _ (by decide)
  have h3 : s.2.1.length = 3 := hR.2.2.1.2.1
  have h3B : S.2.2.1.length = 3 := hR.2.2.1.1
  generalize hq : X / 16 % 3 = i at hA hi ⊢
  obtain ⟨e, he⟩ : ∃ e, s.2.1[i]? = some e := ⟨_, List.getElem?_eq_getElem (by omega)⟩
  obtain ⟨r, hr⟩ : ∃ r, S.2.2.1[i]? = some r := ⟨_, List.getElem?_eq_getElem (by omega)⟩
  obtain ⟨b1, b2, b3, b4, b5⟩ := hR.2.2.1.2.2 i e r he hr
  have b4 : r.2.2.2.1 = e.2.2.2.2.1 := b4.elim id (fun z => z.1.elim)
  have hok := hw.2.1.2 e (List.mem_of_getElem? he)
  obtain ⟨o, ho, o1, o12⟩ := hok.2.1
  have hrf : rfB s i = if e.2.2.2.1 = -1 then (if 60 < s.2.2.1.length + ovU s.2.1 + o then 2 else 0) else 1 := by
    unfold rfB
    rw [he]
    exact rfU_N hw he ho o12
  have hov : ovH S.2.2.1 3 = nI (ovU s.2.1) := by
    rw [ovH_U hR.2.2.1 hw.2.1.2 3 (Nat.le_refl _), List.take_of_length_le (by omega)]
  have hL60 := hw.2.2.1
  have hno : rfB s i ≠ 0 → WP Γ (4, 102, 330, 990) MX9_acts (acQ x m h P nm s X) 110 [some (.ref h), some (.int (nI X)), some (.int (nI (X / 16))), some (.int (nI i)), none, none] [] σ := fun z => by
    rw [if_neg z] at hA
    refine WP.bipush (pc := 110) (v := (-9)) dX9_acts_110 (by decide) ?_
    refine WP.iret (pc := 112) rfl dX9_acts_112 ?_
    refine ⟨_, rfl, by rw [hA], N, S, hj, ?_⟩
    rw [hA]
    exact (hR.pp (Nat.le_add_right _ _)).any
  obtain ⟨a, a1, a2, a3, -, -⟩ := hj.bk hr
  refine WP.aload_n (pc := 76) dX9_acts_76 rfl ?_
  refine WP.gRs (pc := 77) uX9 fX9_14 hj.t0 hj.r0_1 dX9_acts_77 ?_
  refine WP.iload_n (pc := 80) dX9_acts_80 rfl ?_
  refine WP.aaldS (pc := 81) hj.t2 (by omega) (by decide) a1 dX9_acts_81 ?_
  refine WP.iconst (pc := 82) (v := 3) dX9_acts_82 (by decide) ?_
  refine WP.ialdS (pc := 83) (k := 3) a2 (by decide) (by decide) (v := r.2.2.2.1) (congrFun a3 3) dX9_acts_83 ?_
  rcases hok.2.2.2 with ⟨k1, k2⟩ | ⟨⟨kd, k1, -, k3⟩, l, k2, l1, l9⟩
  · refine WP.if_gt (pc := 84) (tgt := 110) dX9_acts_84 (by decide) (fun c => ?_) (fun c => ?_)
    · rw [b4, k2] at c
      exact absurd c (by decide)
    · rw [if_pos k1] at hrf
      refine WP.aload_n (pc := 87) dX9_acts_87 rfl ?_
      refine WP.gIs (pc := 88) uX9 fX9_93 hj.t0 (v := nI s.2.2.1.length) ((hj.fI 6).trans ((hR.h6.trans (by rw [hR.2.2.2.1.2.1])))) dX9_acts_88 ?_
      refine WP.aload_n (pc := 91) dX9_acts_91 rfl ?_
      refine WP.cV1 (pc := 92) (mc2 := 330) (ms2 := 990) (ci := 9) kX9_123 (CH_inOvens Γ hj h3B) (by decide) rfl hj.t0 rfl ⟨Nat.le_of_ble_eq_true rfl, Nat.le_of_ble_eq_true rfl⟩ (Nat.le_of_ble_eq_true rfl) (Nat.le_of_ble_eq_true rfl) (Nat.le_of_ble_eq_true rfl) rfl dX9_acts_92 ?_
      rw [hov]
      refine WP.iaN (pc := 95) rfl rfl dX9_acts_95 ?_
      refine WP.aload_n (pc := 96) dX9_acts_96 rfl ?_
      refine WP.gRs (pc := 97) uX9 fX9_14 hj.t0 hj.r0_1 dX9_acts_97 ?_
      refine WP.iload_n (pc := 100) dX9_acts_100 rfl ?_
      refine WP.aaldS (pc := 101) hj.t2 (by omega) (by decide) a1 dX9_acts_101 ?_
      refine WP.iconst (pc := 102) (v := 0) dX9_acts_102 (by decide) ?_
      refine WP.ialdS (pc := 103) (k := 0) a2 (by decide) (by decide) (v := (nI o)) ((congrFun a3 0).trans ((b1.trans ho))) dX9_acts_103 ?_
      refine WP.iaN (pc := 104) rfl rfl dX9_acts_104 ?_
      refine WP.bipush (pc := 105) (v := 60) dX9_acts_105 (by decide) ?_
      refine WP.icmp_le (pc := 107) (tgt := 113) dX9_acts_107 (by decide) (fun c2 => ?_) (fun c2 => ?_)
      · have hcap : s.2.2.1.length + ovU s.2.1 + o ≤ 60 := by
          rcases Nat.lt_or_ge 60 (s.2.2.1.length + ovU s.2.1 + o) with q | q
          · exact absurd c2 (nI_ge (a := 60) q (by omega))
          · exact q
        rw [if_neg (by omega)] at hrf
        rw [if_pos hrf] at hA
        have hbg : bgB s i (nI (X / 16 / 4 % 3)) = (s.1, s.2.1.set i (e.1, e.2.1, e.2.2.1, nI (X / 16 / 4 % 3), e.2.2.1, e.2.2.2.2.2), s.2.2) := by
          unfold bgB
          rw [he]
        have hgd : s.2.1.getD i dB = e := by rw [List.getD_eq_getElem?_getD, he]; rfl
        refine WP.aload_n (pc := 113) dX9_acts_113 rfl ?_
        refine WP.gRs (pc := 114) uX9 fX9_14 hj.t0 hj.r0_1 dX9_acts_114 ?_
        refine WP.iload_n (pc := 117) dX9_acts_117 rfl ?_
        refine WP.aaldS (pc := 118) hj.t2 (by omega) (by decide) a1 dX9_acts_118 ?_
        refine WP.iconst (pc := 119) (v := 2) dX9_acts_119 (by decide) ?_
        refine WP.iload_n (pc := 120) dX9_acts_120 rfl ?_
        refine WP.iconst (pc := 121) (v := 4) dX9_acts_121 (by decide) ?_
        refine WP.idN (pc := 122) (b := 4) rfl (by omega) (by omega) (by omega) dX9_acts_122 ?_
        refine WP.iconst (pc := 123) (v := 3) dX9_acts_123 (by decide) ?_
        refine WP.irN (pc := 124) (b := 3) rfl (by omega) (by omega) (by omega) dX9_acts_124 ?_
        refine WP.iastS (pc := 125) (k := 2) a2 (by decide) (by decide) dX9_acts_125 ?_
        replace hj := hj.bset (r.1, r.2.1, nI (X / 16 / 4 % 3), r.2.2.2.1, r.2.2.2.2) hr a1 (rw5_2 r _)
        generalize sI σ a 2 _ = τ at hj ⊢
        clear a1 a2 a3
        clear a
        have hr1 : (S.2.2.1.set i (r.1, r.2.1, nI (X / 16 / 4 % 3), r.2.2.2.1, r.2.2.2.2))[i]? = some (r.1, r.2.1, nI (X / 16 / 4 % 3), r.2.2.2.1, r.2.2.2.2) := List.getElem?_set_self (gE_lt hr)
        obtain ⟨a, a1, a2, a3, -, -⟩ := hj.bk hr1
        have last : ∀ v, bkH True (e.1, e.2.1, e.2.2.1, nI (X / 16 / 4 % 3), e.2.2.1, e.2.2.2.2.2) (r.1, r.2.1, nI (X / 16 / 4 % 3), v, r.2.2.2.2) → WP Γ (4, 102, 330, 990) MX9_acts (acQ x m h P nm s X) 156 [some (.ref h), some (.int (nI X)), some (.int (nI (X / 16))), some (.int (nI i)), none, none] [.int v, .int (nI 3), .ref a] τ := by
          intro v hbk
          refine WP.iastS (pc := 156) (k := 3) a2 (by decide) (by decide) dX9_acts_156 ?_
          replace hj := hj.bset (r.1, r.2.1, nI (X / 16 / 4 % 3), v, r.2.2.2.2) hr1 a1 (rw5_3 (r.1, r.2.1, nI (X / 16 / 4 % 3), r.2.2.2.1, r.2.2.2.2) v)
          simp only [List.set_set] at hj
          generalize sI τ a 3 _ = τ2 at hj ⊢
          clear a1 a2 a3
          clear a
          have hr2 : (S.2.2.1.set i (r.1, r.2.1, nI (X / 16 / 4 % 3), v, r.2.2.2.2))[i]? = some (r.1, r.2.1, nI (X / 16 / 4 % 3), v, r.2.2.2.2) := List.getElem?_set_self (gE_lt hr)
          obtain ⟨a, a1, a2, a3, -, -⟩ := hj.bk hr2
          refine WP.aload_n (pc := 157) dX9_acts_157 rfl ?_
          refine WP.gRs (pc := 158) uX9 fX9_14 hj.t0 hj.r0_1 dX9_acts_158 ?_
          refine WP.iload_n (pc := 161) dX9_acts_161 rfl ?_
          refine WP.aaldS (pc := 162) hj.t2 (by omega) (by decide) a1 dX9_acts_162 ?_
          refine WP.iconst (pc := 163) (v := 0) dX9_acts_163 (by decide) ?_
          refine WP.ialdS (pc := 164) (k := 0) a2 (by decide) (by decide) (v := (e.2.1)) ((congrFun a3 0).trans (b1)) dX9_acts_164 ?_
          refine WP.iret (pc := 165) rfl dX9_acts_165 ?_
          refine ⟨_, rfl, by rw [hA, hgd], _, _, hj, ?_⟩
          rw [hA, hbg]
          exact hR.bake he k1 ho o12 (nI_ne_m1 (by omega)) hcap hbk
        refine WP.aload_n (pc := 126) dX9_acts_126 rfl ?_
        refine WP.gRs (pc := 127) uX9 fX9_14 hj.t0 hj.r0_1 dX9_acts_127 ?_
        refine WP.iload_n (pc := 130) dX9_acts_130 rfl ?_
        refine WP.aaldS (pc := 131) hj.t2 (by omega) (by decide) a1 dX9_acts_131 ?_
        refine WP.iconst (pc := 132) (v := 3) dX9_acts_132 (by decide) ?_
        refine WP.aload_n (pc := 133) dX9_acts_133 rfl ?_
        refine WP.gRs (pc := 134) uX9 fX9_14 hj.t0 hj.r0_1 dX9_acts_134 ?_
        refine WP.iload_n (pc := 137) dX9_acts_137 rfl ?_
        refine WP.aaldS (pc := 138) hj.t2 (by omega) (by decide) a1 dX9_acts_138 ?_
        refine WP.iconst (pc := 139) (v := 1) dX9_acts_139 (by decide) ?_
        refine WP.ialdS (pc := 140) (k := 1) a2 (by decide) (by decide) (v := (r.2.1)) ((congrFun a3 1).trans (rfl)) dX9_acts_140 ?_
        refine WP.if_le (pc := 141) (tgt := 155) dX9_acts_141 (by decide) (fun c3 => ?_) (fun c3 => ?_)
        · refine WP.iconst (pc := 155) (v := (-1)) dX9_acts_155 (by decide) ?_
          refine last (-1) ⟨b1, b2, fun _ => rfl, Or.inr ⟨trivial, rfl, rfl, nI_ne_m1 (by omega)⟩, b5⟩
        · refine WP.aload_n (pc := 144) dX9_acts_144 rfl ?_
          refine WP.gRs (pc := 145) uX9 fX9_14 hj.t0 hj.r0_1 dX9_acts_145 ?_
          refine WP.iload_n (pc := 148) dX9_acts_148 rfl ?_
          refine WP.aaldS (pc := 149) hj.t2 (by omega) (by decide) a1 dX9_acts_149 ?_
          refine WP.iconst (pc := 150) (v := 1) dX9_acts_150 (by decide) ?_
          refine WP.ialdS (pc := 151) (k := 1) a2 (by decide) (by decide) (v := (r.2.1)) ((congrFun a3 1).trans (rfl)) dX9_acts_151 ?_
          refine WP.goto (pc := 152) (tgt := 156) dX9_acts_152 (by decide) ?_
          refine last r.2.1 ⟨b1, b2, fun _ => rfl, Or.inl ?_, b5⟩
          rcases b2 with q | q
          · exact absurd (by rw [q]; decide) c3
          · exact q
      · have hcap : 60 < s.2.2.1.length + ovU s.2.1 + o := by
          rcases Nat.lt_or_ge 60 (s.2.2.1.length + ovU s.2.1 + o) with q | q
          · exact q
          · exact absurd (nI_le (b := 60) q (by decide)) c2
        rw [if_pos hcap] at hrf
        exact hno (by rw [hrf]; decide)
  · have kne : e.2.2.2.1 ≠ -1 := by rw [k1]; exact nI_ne_m1 (by omega)
    rw [if_neg kne] at hrf
    refine WP.if_gt (pc := 84) (tgt := 110) dX9_acts_84 (by decide) (fun c => ?_) (fun c => ?_)
    · exact hno (by rw [hrf]; decide)
    · rw [b4, k2] at c
      exact absurd (nI_lt (a := 0) l1 (by omega)) c
end T
