section T
variable (Γ : cG) {σ : cAS} {x h N : Nat} {m : mX} {S : hBd}
theorem new3 {σ : cAS} {a n : Nat} {v0 v1 v2 : Int32} (ha : a = aN σ) : aI (sI (sI (sI (sA σ 11 n) a 0 v0) a 1 v1) a 2 v2) a = rw3 (v0, v1, v2) := by
  rw [aI_u1, aI_u1, aI_u1]
  funext j
  have e : aI (sA σ 11 n) a j = 0 := by rw [aI_sA, if_pos ha]
  show (if j = 2 then v2 else if j = 1 then v1 else if j = 0 then v0 else aI (sA σ 11 n) a j) = (if j = 0 then v0 else if j = 1 then v1 else if j = 2 then v2 else 0)
  rw [e]
  by_cases q0 : j = 0
  · subst q0
    rfl
  · by_cases q1 : j = 1
    · subst q1
      rfl
    · rw [if_neg q0, if_neg q1, if_neg q0, if_neg q1]
abbrev tlS (S : hBd) (e : mEv) : hBd := (u1 S.1 7 (nI (S.2.2.2.2.2.length + 1)), S.2.1, S.2.2.1, S.2.2.2.1, S.2.2.2.2.1, S.2.2.2.2.2 ++ [e])
theorem CH_tells (hj : hJ σ x m h N S) (h7 : S.1 7 = nI S.2.2.2.2.2.length) (hE : S.2.2.2.2.2.length < 2000) (v0 v1 v2 : Int32) : Ctr Γ (0, 0, 1, 3) MX9_tells [.ref h, .int v0, .int v1, .int v2] σ (rS (fun w τ => w = none ∧ ∃ N', hJ τ x m h N' (tlS S (v0, v1, v2)))) := by
  refine Ctr.go rfl (by decide) rfl rfl ?_
  refine WP.aload_n (pc := 0) dX9_tells_0 rfl ?_
  refine WP.gRs (pc := 1) uX9 fX9_24 hj.t0 hj.r0_4 dX9_tells_1 ?_
  refine WP.aload_n (pc := 4) dX9_tells_4 rfl ?_
  refine WP.gIs (pc := 5) uX9 fX9_90 hj.t0 (v := nI S.2.2.2.2.2.length) ((hj.fI 7).trans (h7)) dX9_tells_5 ?_
  refine WP.iconst (pc := 8) (v := 3) dX9_tells_8 (by decide) ?_
  refine WP.newarr (pc := 9) (kd := 11) (n := 3) (by decide) (by decide) rfl nA11 (by decide) (by decide) (by decide) dX9_tells_9 ?_
  have ht : aT (sA σ 11 3) (aN σ) = (11, 3) := by rw [aT_sA, if_pos rfl]
  have hf := hj.newF 11 3
  have hN := hj.newN
  replace hj := hj.alloc 11 3
  refine WP.dup (pc := 11) dX9_tells_11 rfl ?_
  refine WP.iconst (pc := 12) (v := 0) dX9_tells_12 (by decide) ?_
  refine WP.iload_n (pc := 13) dX9_tells_13 rfl ?_
  refine WP.iastS (pc := 14) (k := 0) ht (by omega) (by omega) dX9_tells_14 ?_
  refine WP.dup (pc := 15) dX9_tells_15 rfl ?_
  refine WP.iconst (pc := 16) (v := 1) dX9_tells_16 (by decide) ?_
  refine WP.iload_n (pc := 17) dX9_tells_17 rfl ?_
  refine WP.iastS (pc := 18) (k := 1) ht (by omega) (by omega) dX9_tells_18 ?_
  refine WP.dup (pc := 19) dX9_tells_19 rfl ?_
  refine WP.iconst (pc := 20) (v := 2) dX9_tells_20 (by decide) ?_
  refine WP.iload_n (pc := 21) dX9_tells_21 rfl ?_
  refine WP.iastS (pc := 22) (k := 2) ht (by omega) (by omega) dX9_tells_22 ?_
  refine WP.aastS (pc := 23) hj.t5 ht (by omega) (by decide) dX9_tells_23 ?_
  replace hj := (((hj.tmp hN hf (j := 0) (v := v0)).tmp hN hf (j := 1) (v := v1)).tmp hN hf (j := 2) (v := v2)).pushE (v0, v1, v2) hN hf ht (new3 rfl)
  generalize sR _ (h + 5) _ _ = τ at hj ⊢
  refine WP.aload_n (pc := 24) dX9_tells_24 rfl ?_
  refine WP.dup (pc := 25) dX9_tells_25 rfl ?_
  refine WP.gIs (pc := 26) uX9 fX9_90 hj.t0 (v := nI S.2.2.2.2.2.length) ((hj.fI 7).trans (h7)) dX9_tells_26 ?_
  refine WP.iconst (pc := 29) (v := 1) dX9_tells_29 (by decide) ?_
  refine WP.iaN (pc := 30) (b := 1) rfl rfl dX9_tells_30 ?_
  refine WP.putI (pc := 31) uX9 fX9_90 rfl rfl hj.t0 dX9_tells_31 ?_
  refine WP.vret (pc := 34) rfl dX9_tells_34 ?_
  exact ⟨none, rfl, rfl, _, hj.scal 7 _⟩
-- a loaf goes
abbrev dlA (σ : cAS) (h w n : Nat) : cAS := setR (sI σ h 6 (nI (n - 1))) (h + 4) (erS (aR σ (h + 4)) w (n - 1))
abbrev dlS (S : hBd) (w : Nat) : hBd := (u1 S.1 6 (nI (S.2.2.2.2.1.length - 1)), S.2.1, S.2.2.1, S.2.2.2.1, S.2.2.2.2.1.eraseIdx w, S.2.2.2.2.2)
theorem hJ.drop (hj : hJ σ x m h N S) {w : Nat} (hw : w < S.2.2.2.2.1.length) : hJ (dlA σ h w S.2.2.2.2.1.length) x m h N (dlS S w) := (hj.scal 6 (nI (S.2.2.2.2.1.length - 1))).eraF hw
theorem LH_drop {r : cRm} {Φ : cRes → cAS → Prop} {n w : Nat} (hj : hJ σ x m h N S) (hn : S.2.2.2.2.1.length = n + 1) (hn6 : n < 60) (h6 : S.1 6 = nI n) (k : Φ (.inl none) (setR σ (h + 4) (erS (aR σ (h + 4)) w n))) : ∀ d i, i + d = n → w ≤ i → WP Γ r MX9_dropLoaf Φ 12 [some (.ref h), some (.int (nI w)), some (.int (nI i))] [] (setR σ (h + 4) (erS (aR σ (h + 4)) w i)) := by
  intro d
  induction d with
  | zero =>
    intro i h1 h2
    have hi : i = n := by omega
    subst hi
    refine WP.iload_n (pc := 12) dX9_dropLoaf_12 rfl ?_
    refine WP.aload_n (pc := 13) dX9_dropLoaf_13 rfl ?_
    refine WP.gIs (pc := 14) uX9 fX9_93 hj.t0 (v := nI i) ((hj.fI 6).trans (h6)) dX9_dropLoaf_14 ?_
    refine WP.icmp_ge (pc := 17) (tgt := 40) dX9_dropLoaf_17 (by decide) (fun c => ?_) (fun c => ?_)
    · exact WP.vret (pc := 40) rfl dX9_dropLoaf_40 k
    · exact absurd (nI_le (Nat.le_refl _) (by omega)) c
  | succ d ih =>
    intro i h1 h2
    have hr0 : aR (setR σ (h + 4) (erS (aR σ (h + 4)) w i)) h 3 = some (h + 4) := by
      rw [aR_set_ne σ (by omega)]
      exact hj.r0_3
    obtain ⟨e, he⟩ : ∃ e, S.2.2.2.2.1[i + 1]? = some e := ⟨_, List.getElem?_eq_getElem (by omega)⟩
    obtain ⟨a, a1, a2, -, -, -⟩ := hj.lf he
    have hra : aR (setR σ (h + 4) (erS (aR σ (h + 4)) w i)) (h + 4) (i + 1) = some a := by
      rw [aR_set]
      unfold erS
      rw [if_neg (by omega)]
      exact a1
    refine WP.iload_n (pc := 12) dX9_dropLoaf_12 rfl ?_
    refine WP.aload_n (pc := 13) dX9_dropLoaf_13 rfl ?_
    refine WP.gIs (pc := 14) uX9 fX9_93 hj.t0 (v := nI n) ((hj.fI 6).trans (h6)) dX9_dropLoaf_14 ?_
    refine WP.icmp_ge (pc := 17) (tgt := 40) dX9_dropLoaf_17 (by decide) (fun c => ?_) (fun c => ?_)
    · exact absurd c (nI_ge (by omega) (by omega))
    · refine WP.aload_n (pc := 20) dX9_dropLoaf_20 rfl ?_
      refine WP.gRs (pc := 21) uX9 fX9_21 hj.t0 hr0 dX9_dropLoaf_21 ?_
      refine WP.iload_n (pc := 24) dX9_dropLoaf_24 rfl ?_
      refine WP.aload_n (pc := 25) dX9_dropLoaf_25 rfl ?_
      refine WP.gRs (pc := 26) uX9 fX9_21 hj.t0 hr0 dX9_dropLoaf_26 ?_
      refine WP.iload_n (pc := 29) dX9_dropLoaf_29 rfl ?_
      refine WP.iconst (pc := 30) (v := 1) dX9_dropLoaf_30 (by decide) ?_
      refine WP.iaN (pc := 31) (b := 1) rfl rfl dX9_dropLoaf_31 ?_
      refine WP.aaldS (pc := 32) hj.t4 (by omega) (by decide) hra dX9_dropLoaf_32 ?_
      refine WP.aastS (pc := 33) hj.t4 a2 (by omega) (by decide) dX9_dropLoaf_33 ?_
      rw [← a1, sR_erS σ (h + 4) i w h2]
      refine WP.iinc (pc := 34) dX9_dropLoaf_34 rfl (nI_1 _) (by decide) rfl ?_
      refine WP.goto (pc := 37) (tgt := 12) dX9_dropLoaf_37 (by decide) ?_
      exact ih (i + 1) (by omega) (by omega)
theorem CH_dropLoaf (hj : hJ σ x m h N S) (h6 : S.1 6 = nI S.2.2.2.2.1.length) (h60 : S.2.2.2.2.1.length ≤ 60) {w : Nat} (hw : w < S.2.2.2.2.1.length) : Ctr Γ (0, 0, 0, 0) MX9_dropLoaf [.ref h, .int (nI w)] σ (rV none (dlA σ h w S.2.2.2.2.1.length)) := by
  obtain ⟨n, hn⟩ : ∃ n, S.2.2.2.2.1.length = n + 1 := ⟨S.2.2.2.2.1.length - 1, by omega⟩
  refine Ctr.go rfl (by decide) rfl rfl ?_
  refine WP.aload_n (pc := 0) dX9_dropLoaf_0 rfl ?_
  refine WP.dup (pc := 1) dX9_dropLoaf_1 rfl ?_
  refine WP.gIs (pc := 2) uX9 fX9_93 hj.t0 (v := nI S.2.2.2.2.1.length) ((hj.fI 6).trans (h6)) dX9_dropLoaf_2 ?_
  refine WP.iconst (pc := 5) (v := 1) dX9_dropLoaf_5 (by decide) ?_
  refine WP.isub (pc := 6) dX9_dropLoaf_6 ?_
  rw [hn, show nI (n + 1) - 1 = nI n from pk_sub (a := n + 1) (b := 1) (by omega)]
  refine WP.putI (pc := 7) uX9 fX9_93 rfl rfl hj.t0 dX9_dropLoaf_7 ?_
  refine WP.iload_n (pc := 10) dX9_dropLoaf_10 rfl ?_
  refine WP.istore_n (pc := 11) dX9_dropLoaf_11 (by decide) rfl ?_
  have := LH_drop Γ (hj.scal 6 (nI n)) hn (by omega) (r := (0, 0, 0, 0)) (Φ := rV none (dlA σ h w (n + 1))) (w := w) rfl ⟨rfl, rfl⟩ (n - w) w (by omega) (Nat.le_refl _)
  rw [erS_0, setR_rf] at this
  exact this
-- a customer goes
abbrev lvS (S : hBd) (w : Nat) (e : mEv) : hBd := (u1 (u1 S.1 7 (nI (S.2.2.2.2.2.length + 1))) 5 (nI (S.2.2.2.1.length - 1)), S.2.1, S.2.2.1, S.2.2.2.1.eraseIdx w, S.2.2.2.2.1, S.2.2.2.2.2 ++ [e])
theorem LH_lv {r : cRm} {Φ : cRes → cAS → Prop} {n w : Nat} {y : Int32} (hj : hJ σ x m h N S) (hn : S.2.2.2.1.length = n + 1) (hn6 : n < 10) (h5 : S.1 5 = nI n) (k : Φ (.inl none) (setR σ (h + 3) (erS (aR σ (h + 3)) w n))) : ∀ d i, i + d = n → w ≤ i → WP Γ r MX9_leaves Φ 26 [some (.ref h), some (.int (nI w)), some (.int y), some (.int (nI i))] [] (setR σ (h + 3) (erS (aR σ (h + 3)) w i)) := by
  intro d
  induction d with
  | zero =>
    intro i h1 h2
    have hi : i = n := by omega
    subst hi
    refine WP.iload_n (pc := 26) dX9_leaves_26 rfl ?_
    refine WP.aload_n (pc := 27) dX9_leaves_27 rfl ?_
    refine WP.gIs (pc := 28) uX9 fX9_46 hj.t0 (v := nI i) ((hj.fI 5).trans (h5)) dX9_leaves_28 ?_
    refine WP.icmp_ge (pc := 31) (tgt := 54) dX9_leaves_31 (by decide) (fun c => ?_) (fun c => ?_)
    · exact WP.vret (pc := 54) rfl dX9_leaves_54 k
    · exact absurd (nI_le (Nat.le_refl _) (by omega)) c
  | succ d ih =>
    intro i h1 h2
    have hr0 : aR (setR σ (h + 3) (erS (aR σ (h + 3)) w i)) h 2 = some (h + 3) := by
      rw [aR_set_ne σ (by omega)]
      exact hj.r0_2
    obtain ⟨e, he⟩ : ∃ e, S.2.2.2.1[i + 1]? = some e := ⟨_, List.getElem?_eq_getElem (by omega)⟩
    obtain ⟨a, a1, a2, -, -, -⟩ := hj.qu he
    have hra : aR (setR σ (h + 3) (erS (aR σ (h + 3)) w i)) (h + 3) (i + 1) = some a := by
      rw [aR_set]
      unfold erS
      rw [if_neg (by omega)]
      exact a1
    refine WP.iload_n (pc := 26) dX9_leaves_26 rfl ?_
    refine WP.aload_n (pc := 27) dX9_leaves_27 rfl ?_
    refine WP.gIs (pc := 28) uX9 fX9_46 hj.t0 (v := nI n) ((hj.fI 5).trans (h5)) dX9_leaves_28 ?_
    refine WP.icmp_ge (pc := 31) (tgt := 54) dX9_leaves_31 (by decide) (fun c => ?_) (fun c => ?_)
    · exact absurd c (nI_ge (by omega) (by omega))
    · refine WP.aload_n (pc := 34) dX9_leaves_34 rfl ?_
      refine WP.gRs (pc := 35) uX9 fX9_18 hj.t0 hr0 dX9_leaves_35 ?_
      refine WP.iload_n (pc := 38) dX9_leaves_38 rfl ?_
      refine WP.aload_n (pc := 39) dX9_leaves_39 rfl ?_
      refine WP.gRs (pc := 40) uX9 fX9_18 hj.t0 hr0 dX9_leaves_40 ?_
      refine WP.iload_n (pc := 43) dX9_leaves_43 rfl ?_
      refine WP.iconst (pc := 44) (v := 1) dX9_leaves_44 (by decide) ?_
      refine WP.iaN (pc := 45) (b := 1) rfl rfl dX9_leaves_45 ?_
      refine WP.aaldS (pc := 46) hj.t3 (by omega) (by decide) hra dX9_leaves_46 ?_
      refine WP.aastS (pc := 47) hj.t3 a2 (by omega) (by decide) dX9_leaves_47 ?_
      rw [← a1, sR_erS σ (h + 3) i w h2]
      refine WP.iinc (pc := 48) dX9_leaves_48 rfl (nI_1 _) (by decide) rfl ?_
      refine WP.goto (pc := 51) (tgt := 26) dX9_leaves_51 (by decide) ?_
      exact ih (i + 1) (by omega) (by omega)
theorem CH_leaves (hj : hJ σ x m h N S) (h5 : S.1 5 = nI S.2.2.2.1.length) (h7 : S.1 7 = nI S.2.2.2.2.2.length) (hE : S.2.2.2.2.2.length < 2000) (hQ : S.2.2.2.1.length ≤ 10) {w : Nat} {e : mCu} (he : S.2.2.2.1[w]? = some e) (y : Int32) : Ctr Γ (1, 23, 1, 3) MX9_leaves [.ref h, .int (nI w), .int y] σ (rS (fun v τ => v = none ∧ ∃ N', hJ τ x m h N' (lvS S w (3, e.2.1, y)))) := by
  have hw := gE_lt he
  obtain ⟨n, hn⟩ : ∃ n, S.2.2.2.1.length = n + 1 := ⟨S.2.2.2.1.length - 1, by omega⟩
  obtain ⟨a, a1, a2, a3, -, -⟩ := hj.qu he
  refine Ctr.go rfl (by decide) rfl rfl ?_
  refine WP.aload_n (pc := 0) dX9_leaves_0 rfl ?_
  refine WP.iconst (pc := 1) (v := 3) dX9_leaves_1 (by decide) ?_
  refine WP.aload_n (pc := 2) dX9_leaves_2 rfl ?_
  refine WP.gRs (pc := 3) uX9 fX9_18 hj.t0 hj.r0_2 dX9_leaves_3 ?_
  refine WP.iload_n (pc := 6) dX9_leaves_6 rfl ?_
  refine WP.aaldS (pc := 7) hj.t3 (by omega) (by decide) a1 dX9_leaves_7 ?_
  refine WP.iconst (pc := 8) (v := 0) dX9_leaves_8 (by decide) ?_
  refine WP.ialdS (pc := 9) (k := 0) a2 (by decide) (by decide) (v := e.2.1) (congrFun a3 0) dX9_leaves_9 ?_
  refine WP.iload_n (pc := 10) dX9_leaves_10 rfl ?_
  refine WP.cVs (pc := 11) (mc2 := 0) (ms2 := 0) (ci := 9) kX9_96 (CH_tells Γ hj h7 hE 3 e.2.1 y) (by decide) rfl hj.t0 rfl ⟨Nat.le_of_ble_eq_true rfl, Nat.le_of_ble_eq_true rfl⟩ (Nat.le_of_ble_eq_true rfl) (Nat.le_of_ble_eq_true rfl) (Nat.le_of_ble_eq_true rfl) rfl dX9_leaves_11 (fun v τ ⟨hv, N', hj'⟩ => ?_)
  subst hv
  replace hj := hj'
  clear hj'
  refine WP.aload_n (pc := 14) dX9_leaves_14 rfl ?_
  refine WP.dup (pc := 15) dX9_leaves_15 rfl ?_
  refine WP.gIs (pc := 16) uX9 fX9_46 hj.t0 (v := nI S.2.2.2.1.length) ((hj.fI 5).trans (h5)) dX9_leaves_16 ?_
  refine WP.iconst (pc := 19) (v := 1) dX9_leaves_19 (by decide) ?_
  refine WP.isub (pc := 20) dX9_leaves_20 ?_
  rw [hn, show nI (n + 1) - 1 = nI n from pk_sub (a := n + 1) (b := 1) (by omega)]
  refine WP.putI (pc := 21) uX9 fX9_46 rfl rfl hj.t0 dX9_leaves_21 ?_
  refine WP.iload_n (pc := 24) dX9_leaves_24 rfl ?_
  refine WP.istore_n (pc := 25) dX9_leaves_25 (by decide) rfl ?_
  replace hj := hj.scal 5 (nI n)
  have := LH_lv Γ hj hn (by omega) (r := (1, 23, 0, 0)) (Φ := rS (fun v τ => v = none ∧ ∃ N', hJ τ x m h N' (lvS S w (3, e.2.1, y)))) (w := w) (y := y) rfl ⟨none, rfl, rfl, N', by
    have hl := hj.eraQ (w := w) hw
    have e1 : S.2.2.2.1.length - 1 = n := by omega
    rw [show (lvS S w (3, e.2.1, y)) = (u1 (u1 S.1 7 (nI (S.2.2.2.2.2.length + 1))) 5 (nI n), S.2.1, S.2.2.1, S.2.2.2.1.eraseIdx w, S.2.2.2.2.1, S.2.2.2.2.2 ++ [(3, e.2.1, y)]) by unfold lvS; rw [e1]]
    rw [← e1] at hl ⊢
    exact hl⟩ (n - w) w (by omega) (Nat.le_refl _)
  rw [erS_0, setR_rf] at this
  exact this
def ovH (B : List mHB) : Nat → Int32
  | 0 => 0
  | n + 1 => match B[n]? with
    | some e => if 0 < e.2.2.2.1 then ovH B n + e.1 else ovH B n
    | none => ovH B n
theorem LH_ov {r : cRm} {Φ : cRes → cAS → Prop} (hj : hJ σ x m h N S) (h3 : S.2.2.1.length = 3) (k : Φ (.inl (some (.int (ovH S.2.2.1 3)))) σ) : ∀ d i, i + d = 3 → WP Γ r MX9_inOvens Φ 4 [some (.ref h), some (.int (ovH S.2.2.1 i)), some (.int (nI i))] [] σ := by
  intro d
  induction d with
  | zero =>
    intro i h1
    have hi : i = 3 := by omega
    subst hi
    refine WP.iload_n (pc := 4) dX9_inOvens_4 rfl ?_
    refine WP.iconst (pc := 5) (v := 3) dX9_inOvens_5 (by decide) ?_
    refine WP.icmp_ge (pc := 6) (tgt := 37) dX9_inOvens_6 (by decide) (fun c => ?_) (fun c => ?_)
    · refine WP.iload_n (pc := 37) dX9_inOvens_37 rfl ?_
      exact WP.iret (pc := 38) rfl dX9_inOvens_38 k
    · exact absurd (by decide) c
  | succ d ih =>
    intro i h1
    obtain ⟨e, he⟩ : ∃ e, S.2.2.1[i]? = some e := ⟨_, List.getElem?_eq_getElem (by omega)⟩
    obtain ⟨a, a1, a2, a3, -, -⟩ := hj.bk he
    have hs : ovH S.2.2.1 (i + 1) = if 0 < e.2.2.2.1 then ovH S.2.2.1 i + e.1 else ovH S.2.2.1 i := by
      show (match S.2.2.1[i]? with | some e => if 0 < e.2.2.2.1 then ovH S.2.2.1 i + e.1 else ovH S.2.2.1 i | none => ovH S.2.2.1 i) = _
      rw [he]
    have ih := ih (i + 1) (by omega)
    rw [hs] at ih
    refine WP.iload_n (pc := 4) dX9_inOvens_4 rfl ?_
    refine WP.iconst (pc := 5) (v := 3) dX9_inOvens_5 (by decide) ?_
    refine WP.icmp_ge (pc := 6) (tgt := 37) dX9_inOvens_6 (by decide) (fun c => ?_) (fun c => ?_)
    · exact absurd c (nI_ge (a := i) (b := 3) (by omega) (by omega))
    · refine WP.aload_n (pc := 9) dX9_inOvens_9 rfl ?_
      refine WP.gRs (pc := 10) uX9 fX9_14 hj.t0 hj.r0_1 dX9_inOvens_10 ?_
      refine WP.iload_n (pc := 13) dX9_inOvens_13 rfl ?_
      refine WP.aaldS (pc := 14) hj.t2 (by omega) (by decide) a1 dX9_inOvens_14 ?_
      refine WP.iconst (pc := 15) (v := 3) dX9_inOvens_15 (by decide) ?_
      refine WP.ialdS (pc := 16) (k := 3) a2 (by decide) (by decide) (v := e.2.2.2.1) (congrFun a3 3) dX9_inOvens_16 ?_
      refine WP.if_le (pc := 17) (tgt := 31) dX9_inOvens_17 (by decide) (fun c2 => ?_) (fun c2 => ?_)
      · rw [if_neg (fun z => Int32.lt_irrefl (Int32.lt_of_lt_of_le z c2))] at ih
        refine WP.iinc (pc := 31) dX9_inOvens_31 rfl (nI_1 _) (by decide) rfl ?_
        refine WP.goto (pc := 34) (tgt := 4) dX9_inOvens_34 (by decide) ?_
        exact ih
      · rw [if_pos (Int32.not_le.mp c2)] at ih
        refine WP.iload_n (pc := 20) dX9_inOvens_20 rfl ?_
        refine WP.aload_n (pc := 21) dX9_inOvens_21 rfl ?_
        refine WP.gRs (pc := 22) uX9 fX9_14 hj.t0 hj.r0_1 dX9_inOvens_22 ?_
        refine WP.iload_n (pc := 25) dX9_inOvens_25 rfl ?_
        refine WP.aaldS (pc := 26) hj.t2 (by omega) (by decide) a1 dX9_inOvens_26 ?_
        refine WP.iconst (pc := 27) (v := 0) dX9_inOvens_27 (by decide) ?_
        refine WP.ialdS (pc := 28) (k := 0) a2 (by decide) (by decide) (v := e.1) (congrFun a3 0) dX9_inOvens_28 ?_
        refine WP.iadd (pc := 29) dX9_inOvens_29 ?_
        refine WP.istore_n (pc := 30) dX9_inOvens_30 (by decide) rfl ?_
        refine WP.iinc (pc := 31) dX9_inOvens_31 rfl (nI_1 _) (by decide) rfl ?_
        refine WP.goto (pc := 34) (tgt := 4) dX9_inOvens_34 (by decide) ?_
        exact ih
theorem CH_inOvens (hj : hJ σ x m h N S) (h3 : S.2.2.1.length = 3) : Ctr Γ (0, 0, 0, 0) MX9_inOvens [.ref h] σ (rV (some (.int (ovH S.2.2.1 3))) σ) := by
  refine Ctr.go rfl (by decide) rfl rfl ?_
  refine WP.iconst (pc := 0) (v := 0) dX9_inOvens_0 (by decide) ?_
  refine WP.istore_n (pc := 1) dX9_inOvens_1 (by decide) rfl ?_
  refine WP.iconst (pc := 2) (v := 0) dX9_inOvens_2 (by decide) ?_
  refine WP.istore_n (pc := 3) dX9_inOvens_3 (by decide) rfl ?_
  exact LH_ov Γ hj h3 ⟨rfl, rfl⟩ 3 0 rfl
end T
