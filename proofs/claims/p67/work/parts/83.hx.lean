section T
variable (Γ : cG) {x h : Nat} {m : mX}
def dsK (t : mS) (i : Nat) : List mCu := (t.2.2.2.1.take i).filter (fun e => !noW e)
theorem dsK_s {t : mS} {i : Nat} {e : mCu} (hg : t.2.2.2.1[i]? = some e) : dsK t (i + 1) = if e.2.2.2.1 ≤ 0 then dsK t i else dsK t i ++ [e] := by
  unfold dsK
  rw [tk_app hg, List.filter_append]
  by_cases q : e.2.2.2.1 ≤ 0
  · rw [if_pos q, List.filter_cons_of_neg (by unfold noW; simp [q])]
    simp
  · rw [if_neg q, List.filter_cons_of_pos (by unfold noW; simp [q])]
    simp
theorem dsF_s {t : mS} {i : Nat} {e : mCu} (hg : t.2.2.2.1[i]? = some e) : dsF t noW 0 (i + 1) = if e.2.2.2.1 ≤ 0 then ((dsF t noW 0 i).1 + e.2.2.2.2.2.1, evAdd (dsF t noW 0 i).2 (3, e.2.1, 0)) else dsF t noW 0 i := by
  show (match t.2.2.2.1[i]? with | some e => if noW e = true then _ else _ | none => _) = _
  rw [hg]
  by_cases q : e.2.2.2.1 ≤ 0
  · rw [if_pos q]
    exact if_pos (decide_eq_true q)
  · rw [if_neg q]
    exact if_neg (fun z => q (of_decide_eq_true z))
theorem LH_dsm {Φ : cRes → cAS → Prop} {mc ms P T n cL cT cB cG : Nat} {t : mS} {k p : Int32} (hC10 : t.2.2.2.1.length ≤ 10) (hP : P ≤ 1900)
    (kk : ∀ τ N S, hJ τ x m h N S → hRs noP P (dsM t noW 0 t.2.2.2.1.length) S → Φ (.inl (some (.int (nI T)))) τ) :
    ∀ d i N S σ, i + d = t.2.2.2.1.length → hJ σ x m h N S → hRs noP P (dsM t noW 0 i) S → WP Γ (3, 72, mc + d, ms + 3 * d) MX9_holds Φ 346 [some (.ref h), some (.int k), some (.ref cL), some (.ref cT), some (.ref cB), some (.ref cG), some (.int (nI T)), some (.int p), some (.int (nI (dsK t i).length)), none, none] [] σ := by
  have hKle : ∀ i, (dsK t i).length ≤ i ∧ (dsK t i).length ≤ 10 := fun i => by
    unfold dsK
    have := List.length_filter_le (fun e => !noW e) (t.2.2.2.1.take i)
    rw [List.length_take] at this
    omega
  intro d
  induction d with
  | zero =>
    intro i N S σ h1 hj hR
    have hi : i = t.2.2.2.1.length := by omega
    subst hi
    have hQ : S.2.2.2.1.length = (dsK t t.2.2.2.1.length).length := by
      rw [hR.2.2.2.1.1]
      show (dsK t _ ++ List.drop _ _).length = _
      rw [List.drop_length, List.append_nil]
    have := (hKle t.2.2.2.1.length).2
    refine WP.iload (pc := 346) dX9_holds_346 rfl ?_
    refine WP.aload_n (pc := 348) dX9_holds_348 rfl ?_
    refine WP.gIs (pc := 349) uX9 fX9_46 hj.t0 (v := nI S.2.2.2.1.length) ((hj.fI 5).trans (hR.h5)) dX9_holds_349 ?_
    refine WP.icmp_ge (pc := 352) (tgt := 386) dX9_holds_352 (by decide) (fun c => ?_) (fun c => ?_)
    · refine WP.iload (pc := 386) dX9_holds_386 rfl ?_
      exact WP.iret (pc := 388) rfl dX9_holds_388 (kk σ N S hj hR)
    · exact absurd (by rw [hQ]; exact nI_le (Nat.le_refl _) (by omega)) c
  | succ d ih =>
    intro i N S σ h1 hj hR
    have hg : t.2.2.2.1[i]? = some (t.2.2.2.1[i]'(by omega)) := List.getElem?_eq_getElem (by omega)
    generalize t.2.2.2.1[i]'(by omega) = e at hg
    have hQl : S.2.2.2.1 = dsK t i ++ t.2.2.2.1.drop i := hR.2.2.2.1.1
    have hQe : S.2.2.2.1[(dsK t i).length]? = some e := by rw [hQl, cut_get]; exact hg
    have hlt := gE_lt hQe
    have hK := hKle i
    have hQ10 : S.2.2.2.1.length ≤ 10 := by
      rw [hQl, List.length_append, List.length_drop]
      omega
    obtain ⟨a, a1, a2, a3, -, -⟩ := hj.qu hQe
    have ih := fun N' S' τ => ih (i + 1) N' S' τ (by omega)
    rw [dsK_s hg] at ih
    refine WP.iload (pc := 346) dX9_holds_346 rfl ?_
    refine WP.aload_n (pc := 348) dX9_holds_348 rfl ?_
    refine WP.gIs (pc := 349) uX9 fX9_46 hj.t0 (v := nI S.2.2.2.1.length) ((hj.fI 5).trans (hR.h5)) dX9_holds_349 ?_
    refine WP.icmp_ge (pc := 352) (tgt := 386) dX9_holds_352 (by decide) (fun c => ?_) (fun c => ?_)
    · exact absurd c (nI_ge (by omega) (by omega))
    · refine WP.aload_n (pc := 355) dX9_holds_355 rfl ?_
      refine WP.gRs (pc := 356) uX9 fX9_18 hj.t0 hj.r0_2 dX9_holds_356 ?_
      refine WP.iload (pc := 359) dX9_holds_359 rfl ?_
      refine WP.aaldS (pc := 361) hj.t3 (by omega) (by decide) a1 dX9_holds_361 ?_
      refine WP.iconst (pc := 362) (v := 2) dX9_holds_362 (by decide) ?_
      refine WP.ialdS (pc := 363) (k := 2) a2 (by decide) (by decide) (v := e.2.2.2.1) (congrFun a3 2) dX9_holds_363 ?_
      refine WP.if_le (pc := 364) (tgt := 370) dX9_holds_364 (by decide) (fun c2 => ?_) (fun c2 => ?_)
      · rw [if_pos c2] at ih
        have hR1 := hR.leave (w := (dsK t i).length) (by rw [← hR.2.2.2.1.1]; exact hlt) (3, e.2.1, 0)
        refine WP.aload_n (pc := 370) dX9_holds_370 rfl ?_
        refine WP.iload (pc := 371) dX9_holds_371 rfl ?_
        refine WP.iconst (pc := 373) (v := 0) dX9_holds_373 (by decide) ?_
        refine WP.cVs (pc := 374) (mc2 := mc + d) (ms2 := ms + 3 * d) (ci := 9) kX9_111 (CH_leaves Γ hj hR.h5 hR.h7 (by have := hR.lE; omega) hQ10 hQe 0) (by decide) rfl hj.t0 rfl ⟨Nat.le_of_ble_eq_true rfl, Nat.le_of_ble_eq_true rfl⟩ (by omega) (by omega) (Nat.le_of_ble_eq_true rfl) rfl dX9_holds_374 (fun v τ2 ⟨hv2, N', hj'⟩ => ?_)
        subst hv2
        refine WP.iinc (pc := 377) dX9_holds_377 rfl rfl (by decide) rfl ?_
        refine WP.iinc (pc := 380) (v := nI (dsK t i).length) dX9_holds_380 rfl (iinc_back _) (by decide) rfl ?_
        refine WP.goto (pc := 383) (tgt := 346) dX9_holds_383 (by decide) ?_
        refine ih _ _ _ hj' ?_
        have eM : dsM t noW 0 (i + 1) = (zup t.1 10 ((dsF t noW 0 i).1 + e.2.2.2.2.2.1), t.2.1, t.2.2.1, dsK t i ++ t.2.2.2.1.drop (i + 1), evAdd (dsF t noW 0 i).2 (3, e.2.1, 0)) := by
          show (zup t.1 10 (dsF t noW 0 (i + 1)).1, t.2.1, t.2.2.1, dsK t (i + 1) ++ t.2.2.2.1.drop (i + 1), (dsF t noW 0 (i + 1)).2) = _
          rw [dsF_s hg, dsK_s hg, if_pos c2, if_pos c2]
        rw [eM, ← cut_er (dsK t i) t.2.2.2.1 (gE_lt hg)]
        exact hR1.zz ⟨rfl, rfl, rfl, rfl, fun j hj => by
          show zup t.1 10 _ j = zup t.1 10 _ j
          unfold zup
          rw [if_neg (by omega), if_neg (by omega)]⟩
      · rw [if_neg c2] at ih
        refine WP.less (mc2 := mc + d) (ms2 := ms + 3 * d) (by omega) (by omega) ?_
        refine WP.goto (pc := 367) (tgt := 380) dX9_holds_367 (by decide) ?_
        refine WP.iinc (pc := 380) dX9_holds_380 rfl (nI_1 _) (by decide) rfl ?_
        refine WP.goto (pc := 383) (tgt := 346) dX9_holds_383 (by decide) ?_
        rw [List.length_append] at ih
        refine ih _ _ _ hj ?_
        have eM : dsM t noW 0 (i + 1) = dsM t noW 0 i := by
          show (zup t.1 10 (dsF t noW 0 (i + 1)).1, t.2.1, t.2.2.1, dsK t (i + 1) ++ t.2.2.2.1.drop (i + 1), (dsF t noW 0 (i + 1)).2) = _
          rw [dsF_s hg, dsK_s hg, if_neg c2, if_neg c2, cut_nx _ _ hg]
          rfl
        rw [eM]
        exact hR
theorem plT_bs (s : mS) (k : Int32) : plT s k ≤ (plB s k).length ∧ plT s k ≤ (plL s k).length := trN_le _ _
theorem hdOut_ds {TT C : Nat} {s : mS} {k : Int32} (hw : wf TT C s) (hT : TT ≤ 2147483647) : hdOut s k = dsOut (if plT s k = 0 then s else hdB s k) noW 0 := by
  unfold hdOut
  split
  · next q =>
    rw [dsOut_no]
    · intro e he
      obtain ⟨w, h1, h2, h3⟩ := (hw.2.2.2.2.1.2 e he).2.2.2.1
      unfold noW
      rw [h1]
      exact decide_eq_false (nI_ge (a := 0) h2 (by omega))
    · intro e he
      obtain ⟨t, h1, h2⟩ := (hw.2.2.2.2.1.2 e he).2.1
      rw [h1]
      exact nI_ne_m1 (by omega)
  · rfl
theorem CH_holds {σ : cAS} {N P TT C : Nat} {S : hBd} {s : mS} {k : Int32} (hj : hJ σ x m h N S) (hR : hRs noP P s S) (hw : wf TT C s) (hk : inR k 0 2) (hP : P + 1 ≤ 1900) (hT : TT ≤ 2147483647) : Ctr Γ (3, 72, 15, 223) MX9_holds [.ref h, .int k] σ (rS (fun v τ => v = some (.int (nI (plT s k))) ∧ ∃ N' S', hJ τ x m h N' S' ∧ hRs noP (P + 1) (hdOut s k) S')) := by
  have hok := hw.2.2.2.2.1.2
  have hl10 := hw.2.2.2.2.1.1
  have hL60 : s.2.2.1.length ≤ 60 := by have := hw.2.2.1; omega
  have hT60 := plT_le hw k
  have hSQ : S.2.2.2.1 = s.2.2.2.1 := hR.2.2.2.1.1
  have h5 : S.1 5 = nI s.2.2.2.1.length := by rw [hR.h5, hSQ]
  refine Ctr.go rfl (by decide) rfl rfl ?_
  refine WP.aload_n (pc := 0) dX9_holds_0 rfl ?_
  refine WP.gIs (pc := 1) uX9 fX9_46 hj.t0 (v := nI s.2.2.2.1.length) ((hj.fI 5).trans (h5)) dX9_holds_1 ?_
  refine WP.less (mc2 := 14 + 1) (ms2 := 213 + s.2.2.2.1.length) (by omega) (by omega) ?_
  refine WP.newarr (pc := 4) (kd := 11) (n := s.2.2.2.1.length) (by decide) (by decide) rfl nA11 (nI_pos (by omega)) (nI_clamp (by omega)) (by omega) dX9_holds_4 ?_
  have tL : aT (sA σ 11 s.2.2.2.1.length) (aN σ) = (11, s.2.2.2.1.length) := by rw [aT_sA, if_pos rfl]
  have lf := hj.newF 11 s.2.2.2.1.length
  have lN := hj.newN
  replace hj := hj.alloc 11 s.2.2.2.1.length
  refine WP.astore_n (pc := 6) dX9_holds_6 (by decide) rfl ?_
  refine WP.iconst (pc := 7) (v := 0) dX9_holds_7 (by decide) ?_
  refine WP.istore_n (pc := 8) dX9_holds_8 (by decide) rfl ?_
  generalize hcL : aN σ = cL at *
  refine LH_lf Γ (T := TT) (k := k) (Q := s.2.2.2.1) rfl hl10 hok hSQ h5 lN (fun τ hj tL lf hlf => ?_) s.2.2.2.1.length 0 _ (Nat.zero_add _) hj tL lf (fun j e hj' => absurd hj' (Nat.not_lt_zero _))
  clear hcL
  refine WP.bipush (pc := 54) (v := 60) dX9_holds_54 (by decide) ?_
  refine WP.less (mc2 := 13 + 1) (ms2 := 153 + 60) (by omega) (by omega) ?_
  refine WP.newarr (pc := 56) (kd := 13) (n := 60) (by decide) (by decide) rfl nA13 (by decide) (by decide) (by decide) dX9_holds_56 ?_
  have hnT : aT (sA τ 13 60) (aN τ) = (13, 60) := by rw [aT_sA, if_pos rfl]
  have ffT := hj.newF 13 60
  have iT : aI (sA τ 13 60) (aN τ) = fun _ => 0 := by
    funext j
    rw [aI_sA, if_pos rfl]
  have NT := hj.newN
  have lt0 : cL < aN τ := lf.2.1
  have lf1 := kpX_fre (kpX.sA (x := x) (σ := τ) (kd := 13) (n := 60)) hj.1.2.1 lf
  have tL1 : aT (sA τ 13 60) cL = (11, s.2.2.2.1.length) := by rw [aT_sA, if_neg (by omega)]; exact tL
  have hlf1 : aI (sA τ 13 60) cL = aI τ cL := by
    funext j
    rw [aI_sA, if_neg (by omega)]
  rw [← hlf1] at hlf
  replace hj := hj.alloc 13 60
  clear lf tL hlf1
  generalize hcT : aN τ = cT at *
  generalize sA τ 13 60 = τ1 at *
  clear hcT
  refine WP.astore_n (pc := 58) dX9_holds_58 (by decide) rfl ?_
  refine WP.bipush (pc := 59) (v := 60) dX9_holds_59 (by decide) ?_
  refine WP.less (mc2 := 12 + 1) (ms2 := 93 + 60) (by omega) (by omega) ?_
  refine WP.newarr (pc := 61) (kd := 11) (n := 60) (by decide) (by decide) rfl nA11 (by decide) (by decide) (by decide) dX9_holds_61 ?_
  have hnB : aT (sA τ1 11 60) (aN τ1) = (11, 60) := by rw [aT_sA, if_pos rfl]
  have ffB := hj.newF 11 60
  have NB := hj.newN
  have lt1 : cT < aN τ1 := ffT.2.1
  have lt2 : cL < aN τ1 := lf1.2.1
  have kx := kpX.sA (x := x) (σ := τ1) (kd := 11) (n := 60)
  have lf2 := kpX_fre kx hj.1.2.1 lf1
  have ffT2 := kpX_fre kx hj.1.2.1 ffT
  have tL2 : aT (sA τ1 11 60) cL = (11, s.2.2.2.1.length) := by rw [aT_sA, if_neg (by omega)]; exact tL1
  have hnT2 : aT (sA τ1 11 60) cT = (13, 60) := by rw [aT_sA, if_neg (by omega)]; exact hnT
  have hlf2 : aI (sA τ1 11 60) cL = aI τ1 cL := by
    funext j
    rw [aI_sA, if_neg (by omega)]
  have iT2 : aI (sA τ1 11 60) cT = fun _ => 0 := by
    rw [← iT]
    funext j
    rw [aI_sA, if_neg (by omega)]
  rw [← hlf2] at hlf
  replace hj := hj.alloc 11 60
  clear lf1 ffT tL1 hnT hlf2 iT kx
  generalize hcB : aN τ1 = cB at *
  generalize sA τ1 11 60 = τ2 at *
  clear hcB
  refine WP.astore (pc := 63) dX9_holds_63 (by decide) rfl ?_
  refine WP.bipush (pc := 65) (v := 60) dX9_holds_65 (by decide) ?_
  refine WP.less (mc2 := 11 + 1) (ms2 := 33 + 60) (by omega) (by omega) ?_
  refine WP.newarr (pc := 67) (kd := 11) (n := 60) (by decide) (by decide) rfl nA11 (by decide) (by decide) (by decide) dX9_holds_67 ?_
  have hnG : aT (sA τ2 11 60) (aN τ2) = (11, 60) := by rw [aT_sA, if_pos rfl]
  have ffG := hj.newF 11 60
  have NG := hj.newN
  have lt3 : cT < aN τ2 := ffT2.2.1
  have lt4 : cL < aN τ2 := lf2.2.1
  have lt5 : cB < aN τ2 := ffB.2.1
  have kx := kpX.sA (x := x) (σ := τ2) (kd := 11) (n := 60)
  have lf3 := kpX_fre kx hj.1.2.1 lf2
  have ffT3 := kpX_fre kx hj.1.2.1 ffT2
  have ffB3 := kpX_fre kx hj.1.2.1 ffB
  have tL3 : aT (sA τ2 11 60) cL = (11, s.2.2.2.1.length) := by rw [aT_sA, if_neg (by omega)]; exact tL2
  have hnT3 : aT (sA τ2 11 60) cT = (13, 60) := by rw [aT_sA, if_neg (by omega)]; exact hnT2
  have hnB3 : aT (sA τ2 11 60) cB = (11, 60) := by rw [aT_sA, if_neg (by omega)]; exact hnB
  have hlf3 : aI (sA τ2 11 60) cL = aI τ2 cL := by
    funext j
    rw [aI_sA, if_neg (by omega)]
  have iT3 : aI (sA τ2 11 60) cT = fun _ => 0 := by
    rw [← iT2]
    funext j
    rw [aI_sA, if_neg (by omega)]
  rw [← hlf3] at hlf
  replace hj := hj.alloc 11 60
  clear lf2 ffT2 tL2 hnT2 hlf3 iT2 kx ffB hnB
  generalize hcG : aN τ2 = cG at *
  generalize sA τ2 11 60 = τ3 at *
  clear hcG
  refine WP.astore (pc := 69) dX9_holds_69 (by decide) rfl ?_
  refine WP.iconst (pc := 71) (v := 0) dX9_holds_71 (by decide) ?_
  refine WP.istore (pc := 72) dX9_holds_72 (by decide) rfl ?_
  refine WP.iconst (pc := 74) (v := 1) dX9_holds_74 (by decide) ?_
  refine WP.istore (pc := 75) dX9_holds_75 (by decide) rfl ?_
  have fin : ∀ (t : mS) (υ : cAS) (N' : Nat) (S' : hBd) (p : Int32), hdOut s k = dsOut t noW 0 → t.2.2.2.1.length ≤ 10 → (∀ e ∈ t.2.2.2.1, e.2.1 ≠ -1) → hJ υ x m h N' S' → hRs noP (P + 1) t S' → WP Γ (3, 72, 10, 30) MX9_holds (rS (fun v τ => v = some (.int (nI (plT s k))) ∧ ∃ N' S', hJ τ x m h N' S' ∧ hRs noP (P + 1) (hdOut s k) S')) 343 [some (.ref h), some (.int k), some (.ref cL), some (.ref cT), some (.ref cB), some (.ref cG), some (.int (nI (plT s k))), some (.int p), none, none, none] [] υ := by
    intro t υ N' S' p hdO ht10 htk hj hR
    refine WP.iconst (pc := 343) (v := 0) dX9_holds_343 (by decide) ?_
    refine WP.istore (pc := 344) dX9_holds_344 (by decide) rfl ?_
    refine WP.less (mc2 := 0 + t.2.2.2.1.length) (ms2 := 0 + 3 * t.2.2.2.1.length) (by omega) (by omega) ?_
    refine LH_dsm Γ (n := 0) (t := t) ht10 hP (fun τ N S hj hR => ?_) t.2.2.2.1.length 0 N' S' υ (Nat.zero_add _) hj (by rw [dsM_0]; exact hR)
    rw [dsM_full htk, ← hdO] at hR
    exact ⟨_, rfl, rfl, N, S, hj, hR⟩
  have hbs : ∀ y ∈ plB s k, ∃ c, y.1 = nI c ∧ c < s.2.2.2.1.length := fun y hy => by
    obtain ⟨j, e, h1, h2, rfl⟩ := bdF_mem _ hy
    exact ⟨j, rfl, h1⟩
  have hls : ∀ y ∈ plL s k, ∃ c, y.1 = nI c ∧ c < s.2.2.1.length := fun y hy => by
    obtain ⟨j, e, h1, h2, h3, rfl⟩ := lvF_mem _ hy
    exact ⟨j, rfl, h1⟩
  have hne : ∀ e ∈ s.2.2.1, e.1 ≠ -1 := fun e he => by
    obtain ⟨j, h1, h2, h3⟩ := (hw.2.2.2.1.1 e he).1
    rw [h1]
    exact nI_ne_m1 (by omega)
  have htk : ∀ e ∈ s.2.2.2.1, e.2.1 ≠ -1 := fun e he => by
    obtain ⟨t, h1, h2⟩ := (hok e he).2.1
    rw [h1]
    exact nI_ne_m1 (by omega)
  obtain ⟨tb, tl⟩ := plT_bs s k
  refine LH_trade Γ (P := P) (s := s) (S := S) (k := k) (TT := TT) (C := C) hw hR rfl (by omega : cB ≠ cG) (fun υ p hj hD hp => ?_) (plT s k) 0 τ3 (Nat.zero_add _) hj ⟨lN, lf3, tL3⟩ hlf ⟨⟨⟨NT, ffT3, hnT3⟩, ⟨NB, ffB3, hnB3⟩, ⟨NG, ffG, hnG⟩⟩, (fun j hj => by rw [iT3]; simp), (fun p y hp => absurd hp (Nat.not_lt_zero _)), (fun p y hp => absurd hp (Nat.not_lt_zero _))⟩
  clear hlf lf3 tL3 ffT3 hnT3 ffB3 hnB3 ffG hnG iT3
  refine WP.iconst (pc := 217) (v := 0) dX9_holds_217 (by decide) ?_
  refine WP.istore (pc := 218) dX9_holds_218 (by decide) rfl ?_
  refine LH_settle Γ (P := P) (n := s.2.2.2.1.length) hw hk (fun υ2 S2 hj hD hR2 => ?_) (plT s k) 0 S υ (Nat.zero_add _) hj hD hR
  obtain ⟨o1, o2, o3, o4, o5, o6⟩ := sellN_ok hw k p hk (plB s k) (plL s k) hbs hls (plT s k) tb tl
  obtain ⟨n1, n2, n3⟩ := sellN_len s k p (plB s k) (plL s k) (plT s k)
  refine WP.bipush (pc := 302) (v := 59) dX9_holds_302 (by decide) ?_
  refine WP.istore (pc := 304) dX9_holds_304 (by decide) rfl ?_
  have hcf : cutL s.2.2.1 (sellN s k p (plB s k) (plL s k) (plT s k)).2.2.1 60 = s.2.2.1 := cutL_full n2 hL60
  rw [show (59 : Int32) = nI 60 - 1 by decide]
  refine LH_cut Γ (n := s.2.2.2.1.length) (T := plT s k) (ls := plL s k) (Lm := (sellN s k p (plB s k) (plL s k) (plT s k)).2.2.1) hw n2 (sell_mk hw.bk hne hL60 hw.2.1.1 hl10 hbs hls (plT s k) tb tl) (fun j el e h1 h2 => by
    obtain ⟨e0, q1, q2, q3⟩ := sellN_lf _ h1
    have : e0 = e := Option.some.inj (q1.symm.trans h2)
    subst this
    exact q3.symm) hls (fun υ3 S3 hj hR3 => ?_) 60 S2 υ2 (Nat.le_refl _) hj hD.1.1.2.2 hD.2.1 (by rw [hcf]; exact hR2)
  refine WP.iload (pc := 330) dX9_holds_330 rfl ?_
  refine WP.if_le (pc := 332) (tgt := 343) dX9_holds_332 (by decide) (fun c => ?_) (fun c => ?_)
  · have hT0 : plT s k = 0 := by
      rcases Nat.eq_zero_or_pos (plT s k) with q | q
      · exact q
      · exact absurd c (nI_ge (a := 0) q (by omega))
    refine WP.less (mc2 := 10) (ms2 := 30) (by omega) (by omega) ?_
    refine fin s υ3 _ S3 p (by rw [hdOut_ds hw hT, if_pos hT0]) hl10 htk hj ?_
    rw [hT0] at hR3
    have hR3 : hRel noP P s.1 s.2.1 (s.2.2.1.filter pK) s.2.2.2.1 s.2.2.2.2 S3 := hR3
    rw [List.filter_eq_self.mpr (fun e he => by simp [pK, hne e he])] at hR3
    exact hR3.pp (Nat.le_succ P)
  · have hT1 : 0 < plT s k := by
      rcases Nat.eq_zero_or_pos (plT s k) with q | q
      · rw [q] at c
        exact absurd (by decide) c
      · exact q
    have hpe := hp hT1
    subst hpe
    refine WP.aload_n (pc := 335) dX9_holds_335 rfl ?_
    refine WP.iconst (pc := 336) (v := 1) dX9_holds_336 (by decide) ?_
    refine WP.iload_n (pc := 337) dX9_holds_337 rfl ?_
    refine WP.iload (pc := 338) dX9_holds_338 rfl ?_
    refine WP.cVs (pc := 340) (mc2 := 10) (ms2 := 30) (ci := 9) kX9_96 (CH_tells Γ hj hR3.h7 (by have := hR3.lE; omega) 1 k (plP s k)) (by decide) rfl hj.t0 rfl ⟨Nat.le_of_ble_eq_true rfl, Nat.le_of_ble_eq_true rfl⟩ (Nat.le_of_ble_eq_true rfl) (Nat.le_of_ble_eq_true rfl) (Nat.le_of_ble_eq_true rfl) rfl dX9_holds_340 (fun v υ4 ⟨hv, N4, hj4⟩ => ?_)
    subst hv
    have hR4 := hR3.ev (1, k, plP s k)
    refine fin (hdB s k) υ4 _ _ (plP s k) (by rw [hdOut_ds hw hT, if_neg (by omega)]) (by show (sellN s k (plP s k) (plB s k) (plL s k) (plT s k)).2.2.2.1.length ≤ 10; rw [n3]; exact hl10) (fun e he => ?_) hj4 ?_
    · have he : e ∈ (sellN s k (plP s k) (plB s k) (plL s k) (plT s k)).2.2.2.1 := he
      obtain ⟨c', hc, rfl⟩ := List.getElem_of_mem he
      have hc2 : c' < s.2.2.2.1.length := by rw [← n3]; exact hc
      have := o5 c' _ (List.getElem?_eq_getElem hc2)
      have e2 := Option.some.inj ((List.getElem?_eq_getElem hc).symm.trans this)
      rw [e2]
      exact htk s.2.2.2.1[c'] (List.getElem_mem hc2)
    · show hRel noP (P + 1) (hdA s k).1 (hdA s k).2.1 ((hdA s k).2.2.1.filter pK) (hdA s k).2.2.2.1 (evAdd (hdA s k).2.2.2.2 (1, k, plP s k)) _
      rw [show (hdA s k).2.2.2.2 = s.2.2.2.2 from o6]
      exact hR4
end T
