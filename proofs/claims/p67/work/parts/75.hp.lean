section T
variable (Γ : cG) {x h : Nat} {m : mX}
theorem LH_bake {Φ : cRes → cAS → Prop} {mc ms k o : Nat} {w : Int32} {r : mHB} (ho : r.1 = nI o) (ho60 : o ≤ 60) (hk : k < 3) : ∀ d j N S σ, j + d = o → hJ σ x m h N S → S.2.2.1[k]? = some r → S.1 6 = nI S.2.2.2.2.1.length → S.2.2.2.2.1.length + d ≤ 60 →
    (∀ τ N', hJ τ x m h N' (u1 S.1 6 (nI (S.2.2.2.2.1.length + d)), S.2.1, S.2.2.1, S.2.2.2.1, S.2.2.2.2.1 ++ List.replicate d (r.2.2.1, nI k, S.1 9), S.2.2.2.2.2) → WP Γ (2, 48, mc, ms) MX9_passes Φ 123 [some (.ref h), some (.int w), some (.int (nI k)), some (.int (nI o))] [] τ) →
    WP Γ (2, 48, mc + d, ms + 3 * d) MX9_passes Φ 61 [some (.ref h), some (.int w), some (.int (nI k)), some (.int (nI j))] [] σ := by
  intro d
  induction d with
  | zero =>
    intro j N S σ h1 hj hr h6 h60 kk
    have hjo : j = o := by omega
    subst hjo
    obtain ⟨a, a1, a2, a3, -, -⟩ := hj.bk hr
    refine WP.iload_n (pc := 61) dX9_passes_61 rfl ?_
    refine WP.aload_n (pc := 62) dX9_passes_62 rfl ?_
    refine WP.gRs (pc := 63) uX9 fX9_14 hj.t0 hj.r0_1 dX9_passes_63 ?_
    refine WP.iload_n (pc := 66) dX9_passes_66 rfl ?_
    refine WP.aaldS (pc := 67) hj.t2 (by omega) (by decide) a1 dX9_passes_67 ?_
    refine WP.iconst (pc := 68) (v := 0) dX9_passes_68 (by decide) ?_
    refine WP.ialdS (pc := 69) (k := 0) a2 (by decide) (by decide) (v := (nI j)) ((congrFun a3 0).trans (ho)) dX9_passes_69 ?_
    refine WP.icmp_ge (pc := 70) (tgt := 123) dX9_passes_70 (by decide) (fun c => ?_) (fun c => ?_)
    · refine kk σ N ?_
      have e : u1 S.1 6 (nI (S.2.2.2.2.1.length + 0)) = S.1 := by
        funext i
        unfold u1
        split
        · next q => rw [q, h6]; rfl
        · rfl
      rw [e, List.replicate_zero, List.append_nil]
      exact hj
    · exact absurd (nI_le (Nat.le_refl _) (by omega)) c
  | succ d ih =>
    intro j N S σ h1 hj hr h6 h60 kk
    obtain ⟨a, a1, a2, a3, -, -⟩ := hj.bk hr
    refine WP.iload_n (pc := 61) dX9_passes_61 rfl ?_
    refine WP.aload_n (pc := 62) dX9_passes_62 rfl ?_
    refine WP.gRs (pc := 63) uX9 fX9_14 hj.t0 hj.r0_1 dX9_passes_63 ?_
    refine WP.iload_n (pc := 66) dX9_passes_66 rfl ?_
    refine WP.aaldS (pc := 67) hj.t2 (by omega) (by decide) a1 dX9_passes_67 ?_
    refine WP.iconst (pc := 68) (v := 0) dX9_passes_68 (by decide) ?_
    refine WP.ialdS (pc := 69) (k := 0) a2 (by decide) (by decide) (v := (nI o)) ((congrFun a3 0).trans (ho)) dX9_passes_69 ?_
    refine WP.icmp_ge (pc := 70) (tgt := 123) dX9_passes_70 (by decide) (fun c => ?_) (fun c => ?_)
    · exact absurd c (nI_ge (by omega) (by omega))
    · refine WP.aload_n (pc := 73) dX9_passes_73 rfl ?_
      refine WP.gRs (pc := 74) uX9 fX9_21 hj.t0 hj.r0_3 dX9_passes_74 ?_
      refine WP.aload_n (pc := 77) dX9_passes_77 rfl ?_
      refine WP.gIs (pc := 78) uX9 fX9_93 hj.t0 (v := nI S.2.2.2.2.1.length) ((hj.fI 6).trans (h6)) dX9_passes_78 ?_
      refine WP.iconst (pc := 81) (v := 3) dX9_passes_81 (by decide) ?_
      refine WP.less (mc2 := mc + d + 1) (ms2 := ms + 3 * d + 3) (by omega) (by omega) ?_
      refine WP.newarr (pc := 82) (kd := 11) (n := 3) (by decide) (by decide) rfl nA11 (by decide) (by decide) (by decide) dX9_passes_82 ?_
      have ht : aT (sA σ 11 3) (aN σ) = (11, 3) := by rw [aT_sA, if_pos rfl]
      have hf := hj.newF 11 3
      have hN := hj.newN
      replace hj := hj.alloc 11 3
      clear a1 a2 a3
      clear a
      obtain ⟨a, a1, a2, a3, -, -⟩ := hj.bk hr
      refine WP.dup (pc := 84) dX9_passes_84 rfl ?_
      refine WP.iconst (pc := 85) (v := 0) dX9_passes_85 (by decide) ?_
      refine WP.aload_n (pc := 86) dX9_passes_86 rfl ?_
      refine WP.gRs (pc := 87) uX9 fX9_14 hj.t0 hj.r0_1 dX9_passes_87 ?_
      refine WP.iload_n (pc := 90) dX9_passes_90 rfl ?_
      refine WP.aaldS (pc := 91) hj.t2 (by omega) (by decide) a1 dX9_passes_91 ?_
      refine WP.iconst (pc := 92) (v := 2) dX9_passes_92 (by decide) ?_
      refine WP.ialdS (pc := 93) (k := 2) a2 (by decide) (by decide) (v := r.2.2.1) (congrFun a3 2) dX9_passes_93 ?_
      refine WP.iastS (pc := 94) (k := 0) ht (by omega) (by omega) dX9_passes_94 ?_
      replace hj := hj.tmp hN hf (j := 0) (v := r.2.2.1)
      refine WP.dup (pc := 95) dX9_passes_95 rfl ?_
      refine WP.iconst (pc := 96) (v := 1) dX9_passes_96 (by decide) ?_
      refine WP.iload_n (pc := 97) dX9_passes_97 rfl ?_
      refine WP.iastS (pc := 98) (k := 1) ht (by omega) (by omega) dX9_passes_98 ?_
      replace hj := hj.tmp hN hf (j := 1) (v := nI k)
      refine WP.dup (pc := 99) dX9_passes_99 rfl ?_
      refine WP.iconst (pc := 100) (v := 2) dX9_passes_100 (by decide) ?_
      refine WP.aload_n (pc := 101) dX9_passes_101 rfl ?_
      refine WP.gIs (pc := 102) uX9 fX9_81 hj.t0 (hj.fI 9) dX9_passes_102 ?_
      refine WP.iastS (pc := 105) (k := 2) ht (by omega) (by omega) dX9_passes_105 ?_
      replace hj := (hj.tmp hN hf (j := 2) (v := S.1 9)).pushF (r.2.2.1, nI k, S.1 9) hN hf ht (new3 rfl)
      refine WP.aastS (pc := 106) hj.t4 ht (by omega) (by decide) dX9_passes_106 ?_
      generalize sR _ (h + 4) _ _ = τ at hj ⊢
      refine WP.aload_n (pc := 107) dX9_passes_107 rfl ?_
      refine WP.dup (pc := 108) dX9_passes_108 rfl ?_
      refine WP.gIs (pc := 109) uX9 fX9_93 hj.t0 (v := nI S.2.2.2.2.1.length) ((hj.fI 6).trans (h6)) dX9_passes_109 ?_
      refine WP.iconst (pc := 112) (v := 1) dX9_passes_112 (by decide) ?_
      refine WP.iaN (pc := 113) (b := 1) rfl rfl dX9_passes_113 ?_
      refine WP.putI (pc := 114) uX9 fX9_93 rfl rfl hj.t0 dX9_passes_114 ?_
      replace hj := hj.scal 6 (nI (S.2.2.2.2.1.length + 1))
      refine WP.iinc (pc := 117) dX9_passes_117 rfl (nI_1 _) (by decide) rfl ?_
      refine WP.goto (pc := 120) (tgt := 61) dX9_passes_120 (by decide) ?_
      refine ih (j + 1) _ _ _ (by omega) hj hr ?_ ?_ (fun υ N' hj' => kk υ N' ?_)
      · show nI (S.2.2.2.2.1.length + 1) = nI (S.2.2.2.2.1 ++ [_]).length
        rw [List.length_append]
        rfl
      · show (S.2.2.2.2.1 ++ [_]).length + d ≤ 60
        rw [List.length_append, List.length_singleton]
        omega
      · have e1 : S.2.2.2.2.1 ++ List.replicate (d + 1) (r.2.2.1, nI k, S.1 9) = S.2.2.2.2.1 ++ [(r.2.2.1, nI k, S.1 9)] ++ List.replicate d (r.2.2.1, nI k, S.1 9) := by
          rw [List.append_assoc]
          rfl
        have e2 : u1 (u1 S.1 6 (nI (S.2.2.2.2.1.length + 1))) 6 (nI ((S.2.2.2.2.1 ++ [(r.2.2.1, nI k, S.1 9)]).length + d)) = u1 S.1 6 (nI (S.2.2.2.2.1.length + (d + 1))) := by
          rw [u1_u1, List.length_append, List.length_singleton, show S.2.2.2.2.1.length + 1 + d = S.2.2.2.2.1.length + (d + 1) by omega]
        rw [e1, ← e2]
        exact hj'
theorem rw5_3 (r : mHB) (v : Int32) : rw5 (r.1, r.2.1, r.2.2.1, v, r.2.2.2.2) = u1 (rw5 r) 3 v := by
  funext j
  unfold u1 rw5
  by_cases q : j = 3
  · subst q
    rfl
  · rw [if_neg q]
    simp only [if_neg q]
-- the ovens
theorem LH_p1 {Φ : cRes → cAS → Prop} {mc ms P A T C : Nat} {s : mS} (hw : wfA A T C s) (h3 : s.2.1.length = 3) (hP : P ≤ 1900)
    (kk : ∀ τ N S, hJ τ x m h N S → hRs noP P (ovOut s) S → WP Γ (2, 48, mc, ms) MX9_passes Φ 143 [some (.ref h), some (.int 0), some (.int (nI 3)), none] [] τ) :
    ∀ d i N S σ, i + d = 3 → hJ σ x m h N S → hRs noP P (ovS s i) S → WP Γ (2, 48, mc + 13 * d, ms + 39 * d) MX9_passes Φ 14 [some (.ref h), some (.int 0), some (.int (nI i)), none] [] σ := by
  intro d
  induction d with
  | zero =>
    intro i N S σ h1 hj hR
    have hi : i = 3 := by omega
    subst hi
    refine WP.iload_n (pc := 14) dX9_passes_14 rfl ?_
    refine WP.iconst (pc := 15) (v := 3) dX9_passes_15 (by decide) ?_
    refine WP.icmp_ge (pc := 16) (tgt := 143) dX9_passes_16 (by decide) (fun c => ?_) (fun c => ?_)
    · refine kk σ N S hj ?_
      have : ovS s 3 = ovOut s := by
        unfold ovS ovOut
        rw [h3, mix_full mkO _ h3.symm]
      rw [← this]
      exact hR
    · exact absurd (by decide) c
  | succ d ih =>
    intro i N S σ h1 hj hR
    have hg : s.2.1[i]? = some (s.2.1[i]'(by omega)) := List.getElem?_eq_getElem (by omega)
    generalize s.2.1[i]'(by omega) = e at hg
    have hok : okB e := hw.2.1.2 e (List.mem_of_getElem? hg)
    have hmg := mix_get mkO _ hg
    obtain ⟨r, hr⟩ : ∃ r, S.2.2.1[i]? = some r := ⟨_, List.getElem?_eq_getElem (by have := hR.2.2.1.1; omega)⟩
    obtain ⟨b1, b2, b3, b4, b5⟩ := hR.2.2.1.2.2 i e r hmg hr
    have b4 : r.2.2.2.1 = e.2.2.2.2.1 := b4.elim id (fun z => z.1.elim)
    have hov : ovS s (i + 1) = if e.2.2.2.1 = -1 then ovS s i else if e.2.2.2.2.1 - 1 ≤ 0 then (zup s.1 6 ((ovF s i).2.1 + e.2.1), mix mkO s.2.1 (i + 1), (ovF s i).1 ++ List.replicate e.2.1.toNatClampNeg (e.2.2.2.1, nI i, s.1 3), s.2.2.2.1, evAdd (ovF s i).2.2 (0, nI i, e.2.1)) else (zup s.1 6 (ovF s i).2.1, mix mkO s.2.1 (i + 1), (ovF s i).1, s.2.2.2.1, (ovF s i).2.2) := by
      unfold ovS
      rw [show ovF s (i + 1) = if e.2.2.2.1 = -1 then ovF s i else if e.2.2.2.2.1 - 1 ≤ 0 then ((ovF s i).1 ++ List.replicate e.2.1.toNatClampNeg (e.2.2.2.1, nI i, s.1 3), (ovF s i).2.1 + e.2.1, evAdd (ovF s i).2.2 (0, nI i, e.2.1)) else ovF s i by
        show (match s.2.1[i]? with | some e => _ | none => _) = _
        rw [hg]]
      split
      · next q => rw [mix_id mkO _ hg (by unfold mkO; rw [if_pos q])]
      · split <;> rfl
    have ih := fun N' S' τ => ih (i + 1) N' S' τ (by omega)
    rw [hov] at ih
    obtain ⟨a, a1, a2, a3, -, -⟩ := hj.bk hr
    refine WP.iload_n (pc := 14) dX9_passes_14 rfl ?_
    refine WP.iconst (pc := 15) (v := 3) dX9_passes_15 (by decide) ?_
    refine WP.icmp_ge (pc := 16) (tgt := 143) dX9_passes_16 (by decide) (fun c => ?_) (fun c => ?_)
    · exact absurd c (nI_ge (a := i) (b := 3) (by omega) (by omega))
    · refine WP.aload_n (pc := 19) dX9_passes_19 rfl ?_
      refine WP.gRs (pc := 20) uX9 fX9_14 hj.t0 hj.r0_1 dX9_passes_20 ?_
      refine WP.iload_n (pc := 23) dX9_passes_23 rfl ?_
      refine WP.aaldS (pc := 24) hj.t2 (by omega) (by decide) a1 dX9_passes_24 ?_
      refine WP.iconst (pc := 25) (v := 3) dX9_passes_25 (by decide) ?_
      refine WP.ialdS (pc := 26) (k := 3) a2 (by decide) (by decide) (v := r.2.2.2.1) (congrFun a3 3) dX9_passes_26 ?_
      rcases hok.2.2.2 with ⟨k1, k2⟩ | ⟨⟨kd, k1, -, k3⟩, l, k2, l1, l9⟩
      · rw [if_pos k1] at ih
        refine WP.if_ne (pc := 27) (tgt := 33) dX9_passes_27 (by decide) (fun c2 => ?_) (fun c2 => ?_)
        · exact absurd (by rw [b4, k2] : r.2.2.2.1 = 0) c2
        · refine WP.less (mc2 := mc + 13 * d) (ms2 := ms + 39 * d) (by omega) (by omega) ?_
          refine WP.goto (pc := 30) (tgt := 137) dX9_passes_30 (by decide) ?_
          refine WP.iinc (pc := 137) dX9_passes_137 rfl (nI_1 _) (by decide) rfl ?_
          refine WP.goto (pc := 140) (tgt := 14) dX9_passes_140 (by decide) ?_
          exact ih N S σ hj hR
      · have kne : e.2.2.2.1 ≠ -1 := by rw [k1]; exact nI_ne_m1 (by omega)
        rw [if_neg kne] at ih
        have b4' : r.2.2.2.1 = nI l := b4.trans k2
        refine WP.if_ne (pc := 27) (tgt := 33) dX9_passes_27 (by decide) (fun c2 => ?_) (fun c2 => ?_)
        · skip
          refine WP.aload_n (pc := 33) dX9_passes_33 rfl ?_
          refine WP.gRs (pc := 34) uX9 fX9_14 hj.t0 hj.r0_1 dX9_passes_34 ?_
          refine WP.iload_n (pc := 37) dX9_passes_37 rfl ?_
          refine WP.aaldS (pc := 38) hj.t2 (by omega) (by decide) a1 dX9_passes_38 ?_
          refine WP.iconst (pc := 39) (v := 3) dX9_passes_39 (by decide) ?_
          refine WP.dup2 (pc := 40) dX9_passes_40 rfl rfl ?_
          refine WP.ialdS (pc := 41) (k := 3) a2 (by decide) (by decide) (v := (nI l)) ((congrFun a3 3).trans (b4')) dX9_passes_41 ?_
          refine WP.iconst (pc := 42) (v := 1) dX9_passes_42 (by decide) ?_
          refine WP.isub (pc := 43) dX9_passes_43 ?_
          obtain ⟨l', rfl⟩ : ∃ l', l = l' + 1 := ⟨l - 1, by omega⟩
          rw [show nI (l' + 1) - 1 = nI l' from pk_sub (a := l' + 1) (b := 1) (by omega)]
          have hR1 : hRel noP P s.1 (mix mkO s.2.1 i) (ovF s i).1 s.2.2.2.1 (ovF s i).2.2 S := hR.zz (z' := s.1) ⟨rfl, rfl, rfl, rfl, fun j hj => (if_neg (by omega)).symm⟩
          have hset := mix_set mkO _ hg
          have hl1 : e.2.2.2.2.1 - 1 = nI l' := by rw [k2]; exact pk_sub (a := l' + 1) (b := 1) (by omega)
          refine WP.iastS (pc := 44) (k := 3) a2 (by decide) (by decide) dX9_passes_44 ?_
          replace hj := hj.bset (r.1, r.2.1, r.2.2.1, nI l', r.2.2.2.2) hr a1 (rw5_3 r (nI l'))
          generalize sI σ a 3 (nI l') = τ at hj ⊢
          clear a1 a2 a3
          clear a
          have hr' : (S.2.2.1.set i (r.1, r.2.1, r.2.2.1, nI l', r.2.2.2.2))[i]? = some (r.1, r.2.1, r.2.2.1, nI l', r.2.2.2.2) := List.getElem?_set_self (gE_lt hr)
          obtain ⟨a, a1, a2, a3, -, -⟩ := hj.bk hr'
          refine WP.aload_n (pc := 45) dX9_passes_45 rfl ?_
          refine WP.gRs (pc := 46) uX9 fX9_14 hj.t0 hj.r0_1 dX9_passes_46 ?_
          refine WP.iload_n (pc := 49) dX9_passes_49 rfl ?_
          refine WP.aaldS (pc := 50) hj.t2 (by omega) (by decide) a1 dX9_passes_50 ?_
          refine WP.iconst (pc := 51) (v := 3) dX9_passes_51 (by decide) ?_
          refine WP.ialdS (pc := 52) (k := 3) a2 (by decide) (by decide) (v := (nI l')) ((congrFun a3 3).trans ((rfl : nI l' = nI l'))) dX9_passes_52 ?_
          refine WP.if_le (pc := 53) (tgt := 59) dX9_passes_53 (by decide) (fun c3 => ?_) (fun c3 => ?_)
          · have hl0 : l' = 0 := by
              rcases Nat.eq_zero_or_pos l' with q | q
              · exact q
              · exact absurd c3 (nI_ge (a := 0) (b := l') q (by omega))
            subst hl0
            obtain ⟨o, ho, o1, o12⟩ := hok.2.1
            have hmk : mkO e = (e.1, e.2.1, e.2.2.1, -1, 0, e.2.2.2.2.2) := by
              unfold mkO
              rw [if_neg kne, if_pos (by rw [hl1]; decide)]
            have hD := hR1.done (x := (e.2.2.2.1, nI i, s.1 3)) (ev := (0, nI i, e.2.1)) (r' := (r.1, r.2.1, r.2.2.1, nI 0, r.2.2.2.2)) (e' := mkO e) hmg kne ho (by omega) (by rw [hmk]) (by rw [hmk]; exact ⟨b1, b2, fun z => (z rfl).elim, Or.inl rfl, b5⟩)
            rw [hset] at hD
            have hcap : S.2.2.2.2.1.length + o ≤ 60 := by
              have := hD.2.2.2.2.1
              have := hD.2.2.2.1.2.1
              have := hD.lL
              have e1 : (S.2.2.2.2.1 ++ List.replicate o (e.2.2.2.1, nI i, s.1 3)).length ≤ 60 := this
              rw [List.length_append, List.length_replicate] at e1
              exact e1
            refine WP.iconst (pc := 59) (v := 0) dX9_passes_59 (by decide) ?_
            refine WP.istore_n (pc := 60) dX9_passes_60 (by decide) rfl ?_
            refine WP.less (mc2 := (mc + 13 * d + 1) + o) (ms2 := (ms + 39 * d + 3) + 3 * o) (by omega) (by omega) ?_
            refine LH_bake Γ (r := (r.1, r.2.1, r.2.2.1, nI 0, r.2.2.2.2)) (b1.trans ho) (by omega) (by omega) o 0 _ _ _ (by omega) hj hr' hR.h6 hcap (fun υ N' hj' => ?_)
            have ex : (r.2.2.1, nI i, S.1 9) = (e.2.2.2.1, nI i, s.1 3) := by rw [b3 kne, hR.h9]; rfl
            rw [show ((r.1, r.2.1, r.2.2.1, nI 0, r.2.2.2.2) : mHB).2.2.1 = r.2.2.1 from rfl, show (S.1, S.2.1, S.2.2.1.set i (r.1, r.2.1, r.2.2.1, nI 0, r.2.2.2.2), S.2.2.2).1 9 = S.1 9 from rfl, ex] at hj'
            clear a1 a2 a3
            clear a
            obtain ⟨a, a1, a2, a3, -, -⟩ := hj'.bk hr'
            refine WP.aload_n (pc := 123) dX9_passes_123 rfl ?_
            refine WP.iconst (pc := 124) (v := 0) dX9_passes_124 (by decide) ?_
            refine WP.iload_n (pc := 125) dX9_passes_125 rfl ?_
            refine WP.aload_n (pc := 126) dX9_passes_126 rfl ?_
            refine WP.gRs (pc := 127) uX9 fX9_14 hj'.t0 hj'.r0_1 dX9_passes_127 ?_
            refine WP.iload_n (pc := 130) dX9_passes_130 rfl ?_
            refine WP.aaldS (pc := 131) hj'.t2 (by omega) (by decide) a1 dX9_passes_131 ?_
            refine WP.iconst (pc := 132) (v := 0) dX9_passes_132 (by decide) ?_
            refine WP.ialdS (pc := 133) (k := 0) a2 (by decide) (by decide) (v := (e.2.1)) ((congrFun a3 0).trans (b1)) dX9_passes_133 ?_
            refine WP.cVs (pc := 134) (mc2 := mc + 13 * d) (ms2 := ms + 39 * d) (ci := 9) kX9_96 (CH_tells Γ hj' hR.h7 (by have := hR.lE; show S.2.2.2.2.2.length < 2000; omega) 0 (nI i) e.2.1) (by decide) rfl hj'.t0 rfl ⟨Nat.le_of_ble_eq_true rfl, Nat.le_of_ble_eq_true rfl⟩ (by omega) (by omega) (Nat.le_of_ble_eq_true rfl) rfl dX9_passes_134 (fun v υ' ⟨hv, N'', hj''⟩ => ?_)
            subst hv
            refine WP.drop 3 ?_
            refine WP.iinc (pc := 137) dX9_passes_137 rfl (nI_1 _) (by decide) rfl ?_
            refine WP.goto (pc := 140) (tgt := 14) dX9_passes_140 (by decide) ?_
            rw [if_pos (by rw [hl1]; decide)] at ih
            refine ih _ _ _ hj'' ?_
            rw [ho, nI_clamp (by omega)]
            rw [ho] at hD
            exact hD.zz ⟨rfl, rfl, rfl, rfl, fun j hj => if_neg (by omega)⟩
          · have hl0 : 0 < l' := by
              rcases Nat.eq_zero_or_pos l' with q | q
              · subst q
                exact absurd (by decide) c3
              · exact q
            have hmk : mkO e = (e.1, e.2.1, e.2.2.1, e.2.2.2.1, nI l', e.2.2.2.2.2) := by
              unfold mkO
              rw [if_neg kne, if_neg (by rw [hl1]; exact nI_ge (a := 0) (b := l') hl0 (by omega)), hl1]
            have hD := hR1.tick (e' := mkO e) (r' := (r.1, r.2.1, r.2.2.1, nI l', r.2.2.2.2)) hmg (by rw [hmk]; rfl) (by rw [hmk]; rfl) (by rw [hmk]; exact ⟨b1, b2, b3, Or.inl rfl, b5⟩)
            rw [hset] at hD
            refine WP.less (mc2 := mc + 13 * d) (ms2 := ms + 39 * d) (by omega) (by omega) ?_
            refine WP.goto (pc := 56) (tgt := 137) dX9_passes_56 (by decide) ?_
            refine WP.iinc (pc := 137) dX9_passes_137 rfl (nI_1 _) (by decide) rfl ?_
            refine WP.goto (pc := 140) (tgt := 14) dX9_passes_140 (by decide) ?_
            rw [if_neg (by rw [hl1]; exact nI_ge (a := 0) (b := l') hl0 (by omega))] at ih
            exact ih _ _ _ hj (hD.zz ⟨rfl, rfl, rfl, rfl, fun j hj => if_neg (by omega)⟩)
        · exact absurd (b4'.symm.trans c2) (nI_ne0 (by omega) (by omega))
end T
