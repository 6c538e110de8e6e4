section T
variable (Γ : cG) {x h : Nat} {m : mX}
def hoT (σ : cAS) (x N kd n c : Nat) : Prop := N ≤ c ∧ fre σ x c ∧ aT σ c = (kd, n)
def hoD (σ : cAS) (x N : Nat) (bs ls : List mBd) (t cT cB cG : Nat) : Prop := (hoT σ x N 13 60 cT ∧ hoT σ x N 11 60 cB ∧ hoT σ x N 11 60 cG) ∧ tkP ls t (aI σ cT) ∧ (∀ (p : Nat) (y : mBd), p < t → bs[p]? = some y → aI σ cB p = y.1) ∧ ∀ (p : Nat) (u : mBd), p < t → ls[p]? = some u → aI σ cG p = u.1
theorem LH_trade {Φ : cRes → cAS → Prop} {mc ms TT C P N n cL cT cB cG : Nat} {s : mS} {S : hBd} {k : Int32} (hw : wfA 73 TT C s) (hR : hRs noP P s S) (hn : n = s.2.2.2.1.length) (hbg : cB ≠ cG)
    (kk : ∀ τ p, hJ τ x m h N S → hoD τ x N (plB s k) (plL s k) (plT s k) cT cB cG → (0 < plT s k → p = plP s k) → WP Γ (3, 72, mc, ms) MX9_holds Φ 217 [some (.ref h), some (.int k), some (.ref cL), some (.ref cT), some (.ref cB), some (.ref cG), some (.int (nI (plT s k))), some (.int p), none, none, none] [] τ) :
    ∀ d t σ, t + d = plT s k → hJ σ x m h N S → hoT σ x N 11 n cL → lfP s.2.2.2.1 k (plB s k) t (aI σ cL) → hoD σ x N (plB s k) (plL s k) t cT cB cG → WP Γ (3, 72, mc, ms) MX9_holds Φ 77 [some (.ref h), some (.int k), some (.ref cL), some (.ref cT), some (.ref cB), some (.ref cG), some (.int (nI t)), some (.int (prT (plL s k) t)), none, none, none] [] σ := by
  have hok := hw.2.2.2.2.1.2
  have hl10 := hw.2.2.2.2.1.1
  have hL60 : s.2.2.1.length ≤ 60 := by have := hw.2.2.1; omega
  have hSQ : S.2.2.2.1 = s.2.2.2.1 := hR.2.2.2.1.1
  have hSF : S.2.2.2.2.1 = s.2.2.1 := hR.2.2.2.1.2.1
  have h5 : S.1 5 = nI n := by rw [hR.h5, hSQ, hn]
  have h6 : S.1 6 = nI s.2.2.1.length := by rw [hR.h6, hSF]
  have hokF : ∀ e ∈ S.2.2.2.2.1, okL 73 s.1 s.2.1.length e := by rw [hSF]; exact hw.2.2.2.1.1
  intro d
  induction d with
  | zero =>
    intro t σ h1 hj ⟨lN, lf, tL⟩ hlf hD
    have ht : t = plT s k := by omega
    subst ht
    obtain ⟨⟨⟨tN, tf, tT⟩, ⟨bN, bf, tB⟩, ⟨gN, gf, tG⟩⟩, htk, hbu, hgo⟩ := id hD
    have tailA : ∀ (v9 : Int32), (plB s k)[plT s k]? = none → WP Γ (3, 72, mc, ms) MX9_holds Φ 130 [some (.ref h), some (.int k), some (.ref cL), some (.ref cT), some (.ref cB), some (.ref cG), some (.int (nI (plT s k))), some (.int (prT (plL s k) (plT s k))), some (.int (-1)), some (.int v9), none] [] σ := by
      intro v9 hno
      have fin : WP Γ (3, 72, mc, ms) MX9_holds Φ 217 [some (.ref h), some (.int k), some (.ref cL), some (.ref cT), some (.ref cB), some (.ref cG), some (.int (nI (plT s k))), some (.int (prT (plL s k) (plT s k))), some (.int (-1)), some (.int v9), some (.int 0)] [] σ := by
        refine WP.drop 8 (WP.drop 9 (WP.drop 10 ?_))
        refine kk σ _ hj hD (fun hp => ?_)
        unfold prT plP prN
        rw [if_neg (by omega), if_neg (by omega), hno]
      refine WP.iconst (pc := 130) (v := 0) dX9_holds_130 (by decide) ?_
      refine WP.istore (pc := 131) dX9_holds_131 (by decide) rfl ?_
      refine WP.iload (pc := 133) dX9_holds_133 rfl ?_
      refine WP.if_ne (pc := 135) (tgt := 167) dX9_holds_135 (by decide) (fun c => ?_) (fun c => ?_)
      · exact absurd rfl c
      · refine WP.iload (pc := 138) dX9_holds_138 rfl ?_
        refine WP.if_le (pc := 140) (tgt := 217) dX9_holds_140 (by decide) (fun c2 => ?_) (fun c2 => ?_)
        · exact fin
        · refine WP.iload (pc := 143) dX9_holds_143 rfl ?_
          refine WP.if_lt (pc := 145) (tgt := 217) dX9_holds_145 (by decide) (fun c3 => ?_) (fun c3 => ?_)
          · exact fin
          · exact absurd (by decide) c3
    have tailB : ∀ (v9 : Int32) (j0 : Nat) (e0 : mCu), (plB s k)[plT s k]? = some (nI j0, e0.2.2.2.2.1) → s.2.2.2.1[j0]? = some e0 → WP Γ (3, 72, mc, ms) MX9_holds Φ 130 [some (.ref h), some (.int k), some (.ref cL), some (.ref cT), some (.ref cB), some (.ref cG), some (.int (nI (plT s k))), some (.int (prT (plL s k) (plT s k))), some (.int (nI j0)), some (.int v9), none] [] σ := by
      intro v9 j0 e0 hbs he0
      have hj0 := gE_lt he0
      obtain ⟨a, a1, a2, a3, -, -⟩ := hj.qu (by rw [hSQ]; exact he0)
      refine WP.iconst (pc := 130) (v := 0) dX9_holds_130 (by decide) ?_
      refine WP.istore (pc := 131) dX9_holds_131 (by decide) rfl ?_
      refine WP.iload (pc := 133) dX9_holds_133 rfl ?_
      refine WP.if_ne (pc := 135) (tgt := 167) dX9_holds_135 (by decide) (fun c => ?_) (fun c => ?_)
      · exact absurd rfl c
      · refine WP.iload (pc := 138) dX9_holds_138 rfl ?_
        refine WP.if_le (pc := 140) (tgt := 217) dX9_holds_140 (by decide) (fun c2 => ?_) (fun c2 => ?_)
        · have hT0 : plT s k = 0 := by
            rcases Nat.eq_zero_or_pos (plT s k) with q | q
            · exact q
            · exact absurd c2 (nI_ge (a := 0) q (by have := plT_le hw k; omega))
          refine WP.drop 8 (WP.drop 9 (WP.drop 10 ?_))
          exact kk σ _ hj hD (fun hp => absurd hp (by omega))
        · refine WP.iload (pc := 143) dX9_holds_143 rfl ?_
          refine WP.if_lt (pc := 145) (tgt := 217) dX9_holds_145 (by decide) (fun c3 => ?_) (fun c3 => ?_)
          · exact absurd c3 (nI_pos (by omega))
          · refine WP.iload (pc := 148) dX9_holds_148 rfl ?_
            refine WP.aload_n (pc := 150) dX9_holds_150 rfl ?_
            refine WP.gRs (pc := 151) uX9 fX9_18 hj.t0 hj.r0_2 dX9_holds_151 ?_
            refine WP.iload (pc := 154) dX9_holds_154 rfl ?_
            refine WP.aaldS (pc := 156) hj.t3 (by omega) (by decide) a1 dX9_holds_156 ?_
            refine WP.iconst (pc := 157) (v := 3) dX9_holds_157 (by decide) ?_
            refine WP.ialdS (pc := 158) (k := 3) a2 (by decide) (by decide) (v := e0.2.2.2.2.1) (congrFun a3 3) dX9_holds_158 ?_
            refine WP.mmax (pc := 159) kX9_84 (by decide) (Nat.le_of_ble_eq_true rfl) dX9_holds_159 ?_
            refine WP.istore (pc := 162) dX9_holds_162 (by decide) rfl ?_
            refine WP.goto (pc := 164) (tgt := 217) dX9_holds_164 (by decide) ?_
            refine WP.drop 8 (WP.drop 9 (WP.drop 10 ?_))
            refine kk σ _ hj hD (fun hp => ?_)
            have e1 : prT (plL s k) (plT s k) = prH (plL s k) (plT s k) := if_neg (by omega)
            have e2 : plP s k = if prH (plL s k) (plT s k) < e0.2.2.2.2.1 then e0.2.2.2.2.1 else prH (plL s k) (plT s k) := by
              unfold plP prN
              rw [if_neg (show ¬ plT s k = 0 by omega), hbs]
            rw [e1, e2]
    refine WP.aload_n (pc := 77) dX9_holds_77 rfl ?_
    refine WP.iload_n (pc := 78) dX9_holds_78 rfl ?_
    refine WP.aload_n (pc := 79) dX9_holds_79 rfl ?_
    refine WP.cVs (pc := 80) (mc2 := mc) (ms2 := ms) (ci := 9) kX9_115 (CH_bestBidder Γ hj tL (by rw [hSQ, hn]) (by omega) h5) (by decide) rfl hj.t0 rfl ⟨Nat.le_of_ble_eq_true rfl, Nat.le_of_ble_eq_true rfl⟩ (by omega) (by omega) (Nat.le_of_ble_eq_true rfl) rfl dX9_holds_80 (fun v τ ⟨hτ, b, hv, hb⟩ => ?_)
    subst hτ
    subst hv
    rw [hSQ, hn] at hb
    have hbe := bb_eq hok hl10 hlf hb
    refine WP.istore (pc := 83) dX9_holds_83 (by decide) rfl ?_
    refine WP.aload_n (pc := 85) dX9_holds_85 rfl ?_
    refine WP.iload_n (pc := 86) dX9_holds_86 rfl ?_
    refine WP.aload_n (pc := 87) dX9_holds_87 rfl ?_
    refine WP.cVs (pc := 88) (mc2 := mc) (ms2 := ms) (ci := 9) kX9_119 (CH_cheapest Γ hj tT (by rw [hSF]) (by omega) h6 hw.1 (by decide : (73 : Nat) ≤ 2000) hokF hR.Z) (by decide) rfl hj.t0 rfl ⟨Nat.le_of_ble_eq_true rfl, Nat.le_of_ble_eq_true rfl⟩ (by omega) (by omega) (Nat.le_of_ble_eq_true rfl) rfl dX9_holds_88 (fun v τ2 ⟨hτ, b2, hv, hb2⟩ => ?_)
    subst hτ
    subst hv
    rw [hSF] at hb2
    have hbe2 := ch_eq hw.1 (by decide : (73 : Nat) ≤ 2000) hw.2.2.2.1 hL60 htk hb2
    refine WP.istore (pc := 91) dX9_holds_91 (by decide) rfl ?_
    refine WP.iload (pc := 93) dX9_holds_93 rfl ?_
    cases hbs : (plB s k)[plT s k]? with
    | none =>
      have e1 : b = -1 := by
        have hbs' : (bdF s.2.2.2.1 k s.2.2.2.1.length)[plT s k]? = none := hbs
        rw [hbs'] at hbe
        exact hbe
      subst e1
      refine WP.if_lt (pc := 95) (tgt := 130) dX9_holds_95 (by decide) (fun c => ?_) (fun c => ?_)
      · exact tailA b2 hbs
      · exact absurd (by decide) c
    | some y =>
      obtain ⟨j0, e0, y1, y2, rfl⟩ := bdF_mem s.2.2.2.1.length (List.mem_of_getElem? hbs)
      have e1 : b = nI j0 := by
        have hbs' : (bdF s.2.2.2.1 k s.2.2.2.1.length)[plT s k]? = some (nI j0, e0.2.2.2.2.1) := hbs
        rw [hbs'] at hbe
        exact hbe
      subst e1
      have tB' := tailB b2 j0 e0 hbs y2
      refine WP.if_lt (pc := 95) (tgt := 130) dX9_holds_95 (by decide) (fun c => ?_) (fun c => ?_)
      · exact absurd c (nI_pos (by omega))
      · refine WP.iload (pc := 98) dX9_holds_98 rfl ?_
        cases hls : (plL s k)[plT s k]? with
        | none =>
          have e2 : b2 = -1 := by
            have hls' : (lvF s.1 s.2.2.1 k s.2.2.1.length)[plT s k]? = none := hls
            rw [hls'] at hbe2
            exact hbe2
          subst e2
          refine WP.if_lt (pc := 100) (tgt := 130) dX9_holds_100 (by decide) (fun c2 => ?_) (fun c2 => ?_)
          · exact tB'
          · exact absurd (by decide) c2
        | some u =>
          obtain ⟨j1, e1, u1', u2, u3, rfl⟩ := lvF_mem s.2.2.1.length (List.mem_of_getElem? hls)
          have e2 : b2 = nI j1 := by
            have hls' : (lvF s.1 s.2.2.1 k s.2.2.1.length)[plT s k]? = some (nI j1, rsE s.1 e1) := hls
            rw [hls'] at hbe2
            exact hbe2
          subst e2
          have hst := trN_stop (bs := plB s k) (ls := plL s k) hbs hls
          obtain ⟨aQ, aQ1, aQ2, aQ3, -, -⟩ := hj.qu (by rw [hSQ]; exact y2)
          obtain ⟨aF, aF1, aF2, aF3, -, -⟩ := hj.lf (by rw [hSF]; exact u2)
          refine WP.if_lt (pc := 100) (tgt := 130) dX9_holds_100 (by decide) (fun c2 => ?_) (fun c2 => ?_)
          · exact absurd c2 (nI_pos (by omega))
          · refine WP.aload_n (pc := 103) dX9_holds_103 rfl ?_
            refine WP.gRs (pc := 104) uX9 fX9_18 hj.t0 hj.r0_2 dX9_holds_104 ?_
            refine WP.iload (pc := 107) dX9_holds_107 rfl ?_
            refine WP.aaldS (pc := 109) hj.t3 (by omega) (by decide) aQ1 dX9_holds_109 ?_
            refine WP.iconst (pc := 110) (v := 3) dX9_holds_110 (by decide) ?_
            refine WP.ialdS (pc := 111) (k := 3) aQ2 (by decide) (by decide) (v := e0.2.2.2.2.1) (congrFun aQ3 3) dX9_holds_111 ?_
            refine WP.aload_n (pc := 112) dX9_holds_112 rfl ?_
            refine WP.aload_n (pc := 113) dX9_holds_113 rfl ?_
            refine WP.gRs (pc := 114) uX9 fX9_21 hj.t0 hj.r0_3 dX9_holds_114 ?_
            refine WP.iload (pc := 117) dX9_holds_117 rfl ?_
            refine WP.aaldS (pc := 119) hj.t4 (by omega) (by decide) aF1 dX9_holds_119 ?_
            refine WP.cV1 (pc := 120) (mc2 := mc) (ms2 := ms) (ci := 9) kX9_100 (CH_reserve Γ hj aF2 aF3 hw.1 (by decide : (73 : Nat) ≤ 2000) (hw.2.2.2.1.1 e1 (List.mem_of_getElem? u2)) hR.Z) (by decide) rfl hj.t0 rfl ⟨Nat.le_of_ble_eq_true rfl, Nat.le_of_ble_eq_true rfl⟩ (by omega) (by omega) (Nat.le_of_ble_eq_true rfl) rfl dX9_holds_120 ?_
            refine WP.icmp_lt (pc := 123) (tgt := 130) dX9_holds_123 (by decide) (fun c3 => ?_) (fun c3 => ?_)
            · exact tB'
            · exact absurd (Int32.not_le.mp hst) c3
  | succ d ih =>
    intro t σ h1 hj ⟨lN, lf, tL⟩ hlf hD
    obtain ⟨⟨⟨tN, tf, tT⟩, ⟨bN, bf, tB⟩, ⟨gN, gf, tG⟩⟩, htk, hbu, hgo⟩ := id hD
    have hT60 := plT_le hw k
    obtain ⟨y, u, hbs, hls, hyu⟩ := trN_get (bs := plB s k) (ls := plL s k) (t := t) (by show t < plT s k; omega)
    obtain ⟨j0, e0, y1, y2, rfl⟩ := bdF_mem s.2.2.2.1.length (List.mem_of_getElem? hbs)
    obtain ⟨j1, e1, u1', u2, u3, rfl⟩ := lvF_mem s.2.2.1.length (List.mem_of_getElem? hls)
    have hyu : rsE s.1 e1 ≤ e0.2.2.2.2.1 := hyu
    refine WP.aload_n (pc := 77) dX9_holds_77 rfl ?_
    refine WP.iload_n (pc := 78) dX9_holds_78 rfl ?_
    refine WP.aload_n (pc := 79) dX9_holds_79 rfl ?_
    refine WP.cVs (pc := 80) (mc2 := mc) (ms2 := ms) (ci := 9) kX9_115 (CH_bestBidder Γ hj tL (by rw [hSQ, hn]) (by omega) h5) (by decide) rfl hj.t0 rfl ⟨Nat.le_of_ble_eq_true rfl, Nat.le_of_ble_eq_true rfl⟩ (by omega) (by omega) (Nat.le_of_ble_eq_true rfl) rfl dX9_holds_80 (fun v τ ⟨hτ, b, hv, hb⟩ => ?_)
    subst hτ
    subst hv
    rw [hSQ, hn] at hb
    have hbe := bb_eq hok hl10 hlf hb
    refine WP.istore (pc := 83) dX9_holds_83 (by decide) rfl ?_
    refine WP.aload_n (pc := 85) dX9_holds_85 rfl ?_
    refine WP.iload_n (pc := 86) dX9_holds_86 rfl ?_
    refine WP.aload_n (pc := 87) dX9_holds_87 rfl ?_
    refine WP.cVs (pc := 88) (mc2 := mc) (ms2 := ms) (ci := 9) kX9_119 (CH_cheapest Γ hj tT (by rw [hSF]) (by omega) h6 hw.1 (by decide : (73 : Nat) ≤ 2000) hokF hR.Z) (by decide) rfl hj.t0 rfl ⟨Nat.le_of_ble_eq_true rfl, Nat.le_of_ble_eq_true rfl⟩ (by omega) (by omega) (Nat.le_of_ble_eq_true rfl) rfl dX9_holds_88 (fun v τ2 ⟨hτ, b2, hv, hb2⟩ => ?_)
    subst hτ
    subst hv
    rw [hSF] at hb2
    have hbe2 := ch_eq hw.1 (by decide : (73 : Nat) ≤ 2000) hw.2.2.2.1 hL60 htk hb2
    have ee : b = nI j0 := by
      have hbs' : (bdF s.2.2.2.1 k s.2.2.2.1.length)[t]? = some (nI j0, e0.2.2.2.2.1) := hbs
      rw [hbs'] at hbe
      exact hbe
    have ee2 : b2 = nI j1 := by
      have hls' : (lvF s.1 s.2.2.1 k s.2.2.1.length)[t]? = some (nI j1, rsE s.1 e1) := hls
      rw [hls'] at hbe2
      exact hbe2
    subst ee
    subst ee2
    obtain ⟨aQ, aQ1, aQ2, aQ3, -, -⟩ := hj.qu (by rw [hSQ]; exact y2)
    obtain ⟨aF, aF1, aF2, aF3, -, -⟩ := hj.lf (by rw [hSF]; exact u2)
    refine WP.istore (pc := 91) dX9_holds_91 (by decide) rfl ?_
    refine WP.iload (pc := 93) dX9_holds_93 rfl ?_
    refine WP.if_lt (pc := 95) (tgt := 130) dX9_holds_95 (by decide) (fun c => ?_) (fun c => ?_)
    · exact absurd c (nI_pos (by omega))
    · refine WP.iload (pc := 98) dX9_holds_98 rfl ?_
      refine WP.if_lt (pc := 100) (tgt := 130) dX9_holds_100 (by decide) (fun c2 => ?_) (fun c2 => ?_)
      · exact absurd c2 (nI_pos (by omega))
      · refine WP.aload_n (pc := 103) dX9_holds_103 rfl ?_
        refine WP.gRs (pc := 104) uX9 fX9_18 hj.t0 hj.r0_2 dX9_holds_104 ?_
        refine WP.iload (pc := 107) dX9_holds_107 rfl ?_
        refine WP.aaldS (pc := 109) hj.t3 (by omega) (by decide) aQ1 dX9_holds_109 ?_
        refine WP.iconst (pc := 110) (v := 3) dX9_holds_110 (by decide) ?_
        refine WP.ialdS (pc := 111) (k := 3) aQ2 (by decide) (by decide) (v := e0.2.2.2.2.1) (congrFun aQ3 3) dX9_holds_111 ?_
        refine WP.aload_n (pc := 112) dX9_holds_112 rfl ?_
        refine WP.aload_n (pc := 113) dX9_holds_113 rfl ?_
        refine WP.gRs (pc := 114) uX9 fX9_21 hj.t0 hj.r0_3 dX9_holds_114 ?_
        refine WP.iload (pc := 117) dX9_holds_117 rfl ?_
        refine WP.aaldS (pc := 119) hj.t4 (by omega) (by decide) aF1 dX9_holds_119 ?_
        refine WP.cV1 (pc := 120) (mc2 := mc) (ms2 := ms) (ci := 9) kX9_100 (CH_reserve Γ hj aF2 aF3 hw.1 (by decide : (73 : Nat) ≤ 2000) (hw.2.2.2.1.1 e1 (List.mem_of_getElem? u2)) hR.Z) (by decide) rfl hj.t0 rfl ⟨Nat.le_of_ble_eq_true rfl, Nat.le_of_ble_eq_true rfl⟩ (by omega) (by omega) (Nat.le_of_ble_eq_true rfl) rfl dX9_holds_120 ?_
        refine WP.icmp_lt (pc := 123) (tgt := 130) dX9_holds_123 (by decide) (fun c3 => ?_) (fun c3 => ?_)
        · exact absurd c3 (Int32.not_lt.mpr hyu)
        · refine WP.iconst (pc := 126) (v := 1) dX9_holds_126 (by decide) ?_
          refine WP.goto (pc := 127) (tgt := 131) dX9_holds_127 (by decide) ?_
          refine WP.istore (pc := 131) dX9_holds_131 (by decide) rfl ?_
          refine WP.iload (pc := 133) dX9_holds_133 rfl ?_
          refine WP.if_ne (pc := 135) (tgt := 167) dX9_holds_135 (by decide) (fun c4 => ?_) (fun c4 => ?_)
          · refine WP.iconst (pc := 167) (v := 1) dX9_holds_167 (by decide) ?_
            refine WP.aload_n (pc := 168) dX9_holds_168 rfl ?_
            refine WP.aload_n (pc := 169) dX9_holds_169 rfl ?_
            refine WP.gRs (pc := 170) uX9 fX9_21 hj.t0 hj.r0_3 dX9_holds_170 ?_
            refine WP.iload (pc := 173) dX9_holds_173 rfl ?_
            refine WP.aaldS (pc := 175) hj.t4 (by omega) (by decide) aF1 dX9_holds_175 ?_
            refine WP.cV1 (pc := 176) (mc2 := mc) (ms2 := ms) (ci := 9) kX9_100 (CH_reserve Γ hj aF2 aF3 hw.1 (by decide : (73 : Nat) ≤ 2000) (hw.2.2.2.1.1 e1 (List.mem_of_getElem? u2)) hR.Z) (by decide) rfl hj.t0 rfl ⟨Nat.le_of_ble_eq_true rfl, Nat.le_of_ble_eq_true rfl⟩ (by omega) (by omega) (Nat.le_of_ble_eq_true rfl) rfl dX9_holds_176 ?_
            refine WP.mmax (pc := 179) kX9_84 (by decide) (Nat.le_of_ble_eq_true rfl) dX9_holds_179 ?_
            rw [← prT_s hls]
            refine WP.istore (pc := 182) dX9_holds_182 (by decide) rfl ?_
            refine WP.aload_n (pc := 184) dX9_holds_184 rfl ?_
            refine WP.iload (pc := 185) dX9_holds_185 rfl ?_
            refine WP.dup2 (pc := 187) dX9_holds_187 rfl rfl ?_
            refine WP.ialdS (pc := 188) tL (by omega) (by omega) rfl dX9_holds_188 ?_
            refine WP.iconst (pc := 189) (v := 1) dX9_holds_189 (by decide) ?_
            refine WP.isub (pc := 190) dX9_holds_190 ?_
            refine WP.iastS (pc := 191) tL (by omega) (by omega) dX9_holds_191 ?_
            refine WP.aload_n (pc := 192) dX9_holds_192 rfl ?_
            refine WP.iload (pc := 193) dX9_holds_193 rfl ?_
            refine WP.iconst (pc := 195) (v := 1) dX9_holds_195 (by decide) ?_
            refine WP.zastS (pc := 196) tT (by omega) (by omega) rfl dX9_holds_196 ?_
            refine WP.aload (pc := 197) dX9_holds_197 rfl ?_
            refine WP.iload (pc := 199) dX9_holds_199 rfl ?_
            refine WP.iload (pc := 201) dX9_holds_201 rfl ?_
            refine WP.iastS (pc := 203) tB (by omega) (by omega) dX9_holds_203 ?_
            refine WP.aload (pc := 204) dX9_holds_204 rfl ?_
            refine WP.iload (pc := 206) dX9_holds_206 rfl ?_
            refine WP.iload (pc := 208) dX9_holds_208 rfl ?_
            refine WP.iastS (pc := 210) tG (by omega) (by omega) dX9_holds_210 ?_
            refine WP.iinc (pc := 211) dX9_holds_211 rfl (nI_1 _) (by decide) rfl ?_
            refine WP.goto (pc := 214) (tgt := 77) dX9_holds_214 (by decide) ?_
            refine WP.drop 8 (WP.drop 9 (WP.drop 10 ?_))
            have n1 : cL ≠ cT := ne_of_T tL tT (by simp)
            have n2 : cL ≠ cB := ne_of_T tL tB (by simp; omega)
            have n3 : cL ≠ cG := ne_of_T tL tG (by simp; omega)
            have n4 : cT ≠ cB := ne_of_T tT tB (by simp)
            have n5 : cT ≠ cG := ne_of_T tT tG (by simp)
            refine ih (t + 1) _ (by omega) ((((hj.tmp lN lf).tmp tN tf).tmp bN bf).tmp gN gf) ⟨lN, lf, tL⟩ ?_ ⟨⟨⟨tN, tf, tT⟩, ⟨bN, bf, tB⟩, ⟨gN, gf, tG⟩⟩, ?_, fun p y hp hy => ?_, fun p u hp hu => ?_⟩
            · rw [aI_ne _ n3, aI_ne _ n2, aI_ne _ n1, aI_u1]
              exact lfP_step hok hl10 hlf hbs y1
            · rw [aI_ne _ n5, aI_ne _ n4, aI_u1, aI_ne _ (Ne.symm n1)]
              exact tkP_step htk hls (by omega)
            · rw [aI_ne _ hbg, aI_u1, aI_ne _ (Ne.symm n4), aI_ne _ (Ne.symm n2)]
              unfold u1
              by_cases q : p = t
              · subst q
                rw [hbs] at hy
                rw [if_pos rfl, ← Option.some.inj hy]
              · rw [if_neg q]
                exact hbu p y (by omega) hy
            · rw [aI_u1, aI_ne _ (Ne.symm hbg), aI_ne _ (Ne.symm n5), aI_ne _ (Ne.symm n3)]
              unfold u1
              by_cases q : p = t
              · subst q
                rw [hls] at hu
                rw [if_pos rfl, ← Option.some.inj hu]
              · rw [if_neg q]
                exact hgo p u (by omega) hu
          · exact absurd c4 (by decide)
end T
