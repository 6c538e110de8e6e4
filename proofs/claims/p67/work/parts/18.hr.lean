section MIX
variable {α : Type} (f : α → α) (l : List α)
/-- a list whose first i members have been treated -/
def mix (i : Nat) : List α := (l.take i).map f ++ l.drop i
theorem mix_0 : mix f l 0 = l := by simp [mix]
theorem mix_len (i : Nat) : (mix f l i).length = l.length := by simp [mix]; omega
theorem mix_full {i : Nat} (h : i = l.length) : mix f l i = l.map f := by subst h; simp [mix]
theorem mix_ge {i j : Nat} (h : i ≤ j) : (mix f l i)[j]? = l[j]? := by
  unfold mix
  rcases Nat.lt_or_ge j l.length with q | q
  · have hl : ((l.take i).map f).length = i := by simp; omega
    rw [List.getElem?_append_right (by omega), hl, List.getElem?_drop]
    congr 1
    omega
  · rw [List.getElem?_eq_none (by simp; omega), List.getElem?_eq_none (by omega)]
theorem mix_get {i : Nat} {e : α} (h : l[i]? = some e) : (mix f l i)[i]? = some e := by rw [mix_ge f l (Nat.le_refl i), h]
theorem mix_succ {i : Nat} {e : α} (h : l[i]? = some e) : mix f l (i + 1) = (l.take i).map f ++ f e :: l.drop (i + 1) := by
  unfold mix
  rw [tk_app h]
  simp
theorem mix_at {i : Nat} {e : α} (h : l[i]? = some e) : mix f l i = (l.take i).map f ++ e :: l.drop (i + 1) := by
  unfold mix
  congr 1
  obtain ⟨hi, he⟩ := List.getElem?_eq_some_iff.mp h
  rw [List.drop_eq_getElem_cons hi, he]
theorem mix_set {i : Nat} {e : α} (h : l[i]? = some e) : (mix f l i).set i (f e) = mix f l (i + 1) := by
  have hi := gE_lt h
  have hl : ((l.take i).map f).length = i := by simp; omega
  rw [mix_at f l h, mix_succ f l h, List.set_append, if_neg (by omega), hl]
  simp
theorem mix_id {i : Nat} {e : α} (h : l[i]? = some e) (he : f e = e) : mix f l (i + 1) = mix f l i := by
  rw [mix_at f l h, mix_succ f l h, he]
end MIX
theorem zup_id (z : Nat → Int32) (i : Nat) : zup z i (z i) = z := by
  funext j
  unfold zup
  split
  · next h => rw [h]
  · rfl
theorem bsO_zup {z : Nat → Int32} {i : Nat} (v k : Int32) (h : 3 ≤ i) : bsO (zup z i v) k = bsO z k := by
  unfold bsO
  split
  · next q =>
    obtain ⟨j, hj, rfl, -⟩ := pk_mu (L := 3) (Int32.not_lt.mpr q.1) (Int32.not_le.mpr q.2) (by omega)
    rw [nI_clamp (by omega), zup_eq, if_neg (by omega)]
  · rfl
theorem rsE_zup {z : Nat → Int32} {i : Nat} (v : Int32) (e : mLf) (h : 4 ≤ i) : rsE (zup z i v) e = rsE z e := by
  unfold rsE
  rw [bsO_zup v _ (by omega), zup_eq, if_neg (by omega)]
section T
variable (Γ : cG) {σ : cAS} {b : Nat}
-- stale loaves
def mkS (z : Nat → Int32) (e : mLf) : mLf := if rsE z e = 0 then (-1, e.2) else e
def tsF (s : mS) : Nat → Int32 × Int32 × List mEv
  | 0 => (s.1 8, s.1 4, s.2.2.2.2)
  | n + 1 => match s.2.2.1[n]? with
    | some e => if rsE s.1 e = 0 then ((tsF s n).1 + 1, (tsF s n).2.1 + 5, evAdd (tsF s n).2.2 (2, e.1, e.2.1)) else tsF s n
    | none => tsF s n
def tsS (s : mS) (i : Nat) : mS := (zup (zup s.1 8 (tsF s i).1) 4 (tsF s i).2.1, s.2.1, mix (mkS s.1) s.2.2.1 i, s.2.2.2.1, (tsF s i).2.2)
theorem tsS_0 (s : mS) : tsS s 0 = s := by
  unfold tsS
  rw [mix_0]
  show (zup (zup s.1 8 (s.1 8)) 4 (s.1 4), _) = _
  rw [zup_id, zup_id]
  rfl
def stOut (s : mS) : mS := ((tsS s s.2.2.1.length).1, s.2.1, (s.2.2.1.map (mkS s.1)).filter pK, s.2.2.2.1, (tsF s s.2.2.1.length).2.2)
theorem LX5_throwOutStale (hs : shS σ b) {r : cRm} (hr : r = (2, 63, 0, 0)) {Φ : cRes → cAS → Prop} (s : mS) : ∀ n i (I : Nat → Nat → Int32), i + n = s.2.2.1.length → stAt I b (tsS s i) → (∀ I', fr I I' b 25 → stAt I' b (tsS s s.2.2.1.length) → WP Γ r MX5_throwOutStale Φ 83 [some (.ref b), some (.int (nI s.2.2.1.length))] [] (wI σ I')) → WP Γ r MX5_throwOutStale Φ 2 [some (.ref b), some (.int (nI i))] [] (wI σ I) := by
  subst hr
  intro n
  induction n with
  | zero =>
    intro i I hi h H
    have hc : I (b + 9) 0 = nI s.2.2.1.length := by rw [h.2.2.1.1]; show nI (mix _ _ _).length = _; rw [mix_len]
    refine WP.iload_n (pc := 2) dX5_throwOutStale_2 rfl ?_
    refine WP.aload_n (pc := 3) dX5_throwOutStale_3 rfl ?_
    refine WP.gR (pc := 4) uX5 fX5_25 hs.t0 hs.r0_2 dX5_throwOutStale_4 ?_
    refine WP.gIv (pc := 7) (v := (nI s.2.2.1.length)) uX6 fX5_47 hs.t9 (by simp [up_eq, hc]) dX5_throwOutStale_7 ?_
    have hil : i = s.2.2.1.length := by omega
    refine WP.icmp_ge (pc := 10) (tgt := 83) dX5_throwOutStale_10 (by decide) (fun h1 => ?_) (fun h1 => ?_)
    · rw [hil] at h ⊢
      exact H I fr.rf h
    · exact absurd (by rw [hil]; exact Int32.le_refl _) h1
  | succ n ih =>
    intro i I hi h H
    have hc : I (b + 9) 0 = nI s.2.2.1.length := by rw [h.2.2.1.1]; show nI (mix _ _ _).length = _; rw [mix_len]
    have hl60 : s.2.2.1.length ≤ 60 := by have := h.2.2.1.2.1; rwa [show (tsS s i).2.2.1 = mix (mkS s.1) s.2.2.1 i from rfl, mix_len] at this
    obtain ⟨e, he⟩ : ∃ e, s.2.2.1[i]? = some e := ⟨s.2.2.1[i]'(by omega), List.getElem?_eq_getElem (by omega)⟩
    have hm : (tsS s i).2.2.1[i]? = some e := mix_get _ _ he
    have hrs : rsE (tsS s i).1 e = rsE s.1 e := by
      show rsE (zup (zup s.1 8 _) 4 _) e = _
      rw [rsE_zup _ _ (by omega), rsE_zup _ _ (by omega)]
    refine WP.iload_n (pc := 2) dX5_throwOutStale_2 rfl ?_
    refine WP.aload_n (pc := 3) dX5_throwOutStale_3 rfl ?_
    refine WP.gR (pc := 4) uX5 fX5_25 hs.t0 hs.r0_2 dX5_throwOutStale_4 ?_
    refine WP.gIv (pc := 7) (v := (nI s.2.2.1.length)) uX6 fX5_47 hs.t9 (by simp [up_eq, hc]) dX5_throwOutStale_7 ?_
    refine WP.icmp_ge (pc := 10) (tgt := 83) dX5_throwOutStale_10 (by decide) (fun h1 => ?_) (fun h1 => ?_)
    · exact absurd h1 (nI_ge (by omega) (by omega))
    · refine WP.aload_n (pc := 13) dX5_throwOutStale_13 rfl ?_
      refine WP.iload_n (pc := 14) dX5_throwOutStale_14 rfl ?_
      refine WP.cV1 (pc := 15) (mc2 := 0) (ms2 := 0) (ci := 5) kX5_159 (CX5_reserveOf Γ hs h hm) (by decide) rfl hs.t0 rfl ⟨Nat.le_of_ble_eq_true rfl, Nat.le_of_ble_eq_true rfl⟩ (Nat.le_of_ble_eq_true rfl) (Nat.le_of_ble_eq_true rfl) (Nat.le_of_ble_eq_true rfl) rfl dX5_throwOutStale_15 ?_
      rw [hrs]
      refine WP.if_ne (pc := 18) (tgt := 77) dX5_throwOutStale_18 (by decide) (fun h2 => ?_) (fun h2 => ?_)
      · refine WP.iinc (pc := 77) dX5_throwOutStale_77 rfl (nI_1 _) (by decide) rfl ?_
        refine WP.goto (pc := 80) (tgt := 2) dX5_throwOutStale_80 (by decide) ?_
        refine ih (i + 1) I (by omega) ?_ H
        have e1 : tsF s (i + 1) = tsF s i := by simp [tsF, he, h2]
        have e2 : mix (mkS s.1) s.2.2.1 (i + 1) = mix (mkS s.1) s.2.2.1 i := mix_id _ _ he (by simp [mkS, h2])
        unfold tsS
        rw [e1, e2]
        exact h
      · have e1 : tsF s (i + 1) = ((tsF s i).1 + 1, (tsF s i).2.1 + 5, evAdd (tsF s i).2.2 (2, e.1, e.2.1)) := by simp [tsF, he, h2]
        have e2 : mix (mkS s.1) s.2.2.1 (i + 1) = (mix (mkS s.1) s.2.2.1 i).set i (-1, e.2) := by
          rw [← mix_set _ _ he]
          simp [mkS, h2]
        obtain ⟨b1, b2, b3⟩ := h.2.2.1.2.2 i e hm
        refine WP.aload_n (pc := 21) dX5_throwOutStale_21 rfl ?_
        refine WP.gR (pc := 22) uX5 fX5_39 hs.t0 hs.r0_4 dX5_throwOutStale_22 ?_
        refine WP.iconst (pc := 25) (v := 2) dX5_throwOutStale_25 (by decide) ?_
        refine WP.aload_n (pc := 26) dX5_throwOutStale_26 rfl ?_
        refine WP.gR (pc := 27) uX5 fX5_25 hs.t0 hs.r0_2 dX5_throwOutStale_27 ?_
        refine WP.gR (pc := 30) uX6 fX5_97 hs.t9 hs.r9_1 dX5_throwOutStale_30 ?_
        refine WP.iload_n (pc := 33) dX5_throwOutStale_33 rfl ?_
        refine WP.iald (pc := 34) hs.t10 (by omega) (by decide) dX5_throwOutStale_34 ?_
        refine WP.aload_n (pc := 35) dX5_throwOutStale_35 rfl ?_
        refine WP.gR (pc := 36) uX5 fX5_25 hs.t0 hs.r0_2 dX5_throwOutStale_36 ?_
        refine WP.gR (pc := 39) uX6 fX5_162 hs.t9 hs.r9_2 dX5_throwOutStale_39 ?_
        refine WP.iload_n (pc := 42) dX5_throwOutStale_42 rfl ?_
        refine WP.iald (pc := 43) hs.t11 (by omega) (by decide) dX5_throwOutStale_43 ?_
        rw [b1, b2]
        refine WP.cVw (pc := 44) (mc2 := 0) (ms2 := 0) (ci := 3) kX5_131 (CX3_add Γ hs _ _ _ h.2.2.2.2) (by decide) rfl hs.t21 rfl ⟨Nat.le_of_ble_eq_true rfl, Nat.le_of_ble_eq_true rfl⟩ (Nat.le_of_ble_eq_true rfl) (Nat.le_of_ble_eq_true rfl) (Nat.le_of_ble_eq_true rfl) rfl dX5_throwOutStale_44 (fun I1 ⟨g1, g2⟩ => ?_)
        have h3 := h.ev g1 g2
        have w8 : I1 b 10 = (tsF s i).1 := h3.1.2.2.2.2.2.2.2.2.1
        refine WP.aload_n (pc := 47) dX5_throwOutStale_47 rfl ?_
        refine WP.dup (pc := 48) dX5_throwOutStale_48 rfl ?_
        refine WP.gIv (pc := 49) (v := ((tsF s i).1)) uX5 fX5_68 hs.t0 (by simp [up_eq, w8]) dX5_throwOutStale_49 ?_
        refine WP.iconst (pc := 52) (v := 1) dX5_throwOutStale_52 (by decide) ?_
        refine WP.iadd (pc := 53) dX5_throwOutStale_53 ?_
        refine WP.pI (pc := 54) uX5 fX5_68 rfl rfl hs.t0 dX5_throwOutStale_54 ?_
        have h4 := h3.z 8 ((tsF s i).1 + 1) (by omega) (by omega)
        have w4 : up I1 b 10 ((tsF s i).1 + 1) b 6 = (tsF s i).2.1 := h4.1.2.2.2.2.1
        refine WP.aload_n (pc := 57) dX5_throwOutStale_57 rfl ?_
        refine WP.dup (pc := 58) dX5_throwOutStale_58 rfl ?_
        refine WP.gIv (pc := 59) (v := (tsF s i).2.1) uX5 fX5_56 hs.t0 w4 dX5_throwOutStale_59 ?_
        refine WP.iconst (pc := 62) (v := 5) dX5_throwOutStale_62 (by decide) ?_
        refine WP.iadd (pc := 63) dX5_throwOutStale_63 ?_
        refine WP.pI (pc := 64) uX5 fX5_56 rfl rfl hs.t0 dX5_throwOutStale_64 ?_
        have h5 := h4.z 4 ((tsF s i).2.1 + 5) (by omega) (by omega)
        refine WP.aload_n (pc := 67) dX5_throwOutStale_67 rfl ?_
        refine WP.gR (pc := 68) uX5 fX5_25 hs.t0 hs.r0_2 dX5_throwOutStale_68 ?_
        refine WP.gR (pc := 71) uX6 fX5_97 hs.t9 hs.r9_1 dX5_throwOutStale_71 ?_
        refine WP.iload_n (pc := 74) dX5_throwOutStale_74 rfl ?_
        refine WP.iconst (pc := 75) (v := (-1)) dX5_throwOutStale_75 (by decide) ?_
        refine WP.iast (pc := 76) hs.t10 (by omega) (by decide) dX5_throwOutStale_76 ?_
        refine WP.iinc (pc := 77) dX5_throwOutStale_77 rfl (nI_1 _) (by decide) rfl ?_
        refine WP.goto (pc := 80) (tgt := 2) dX5_throwOutStale_80 (by decide) ?_
        refine ih (i + 1) _ (by omega) ?_ (fun I' q1 q2 => H I' (fr.trans (fr.trans (g1.mono (by omega) (by omega)) (((fr.rf.up (by omega) (by omega)).up (by omega) (by omega)).up (by omega) (by omega))) q1) q2)
        have h6 := h5.sk ((fr_up1 (a := b + 10) (k := i) (x := -1)).mono (by omega) (by omega)) (h5.2.2.1.setK (-1) hm)
        have ez : zup (zup (zup (zup s.1 8 (tsF s i).1) 4 (tsF s i).2.1) 8 ((tsF s i).1 + 1)) 4 ((tsF s i).2.1 + 5) = zup (zup s.1 8 ((tsF s i).1 + 1)) 4 ((tsF s i).2.1 + 5) := by
          funext j
          simp only [zup_eq]
          by_cases q : j = 4 <;> by_cases q2 : j = 8 <;> simp [q, q2]
        show stAt _ b (zup (zup s.1 8 (tsF s (i + 1)).1) 4 (tsF s (i + 1)).2.1, s.2.1, mix (mkS s.1) s.2.2.1 (i + 1), s.2.2.2.1, (tsF s (i + 1)).2.2)
        rw [e1, e2, ← ez]
        exact h6
theorem CX5_throwOutStale (hs : shS σ b) {I : Nat → Nat → Int32} {s : mS} (h : stAt I b s) : Ctr Γ (2, 63, 0, 0) MX5_throwOutStale [.ref b] (wI σ I) (rW σ (fun I' => fr I I' b 25 ∧ stAt I' b (stOut s))) := by
  refine Ctr.go rfl (by decide) rfl rfl ?_
  refine WP.iconst (pc := 0) (v := 0) dX5_throwOutStale_0 (by decide) ?_
  refine WP.istore_n (pc := 1) dX5_throwOutStale_1 (by decide) rfl ?_
  refine LX5_throwOutStale Γ hs rfl s s.2.2.1.length 0 I (by omega) (by rw [tsS_0]; exact h) (fun I1 f1 h1 => ?_)
  refine WP.aload_n (pc := 83) dX5_throwOutStale_83 rfl ?_
  refine WP.gR (pc := 84) uX5 fX5_25 hs.t0 hs.r0_2 dX5_throwOutStale_84 ?_
  refine WP.cVw (pc := 87) (mc2 := 0) (ms2 := 0) (ci := 6) kX5_165 (CX6_closeGaps Γ hs h1.2.2.1) (by decide) rfl hs.t9 rfl ⟨Nat.le_of_ble_eq_true rfl, Nat.le_of_ble_eq_true rfl⟩ (Nat.le_of_ble_eq_true rfl) (Nat.le_of_ble_eq_true rfl) (Nat.le_of_ble_eq_true rfl) rfl dX5_throwOutStale_87 (fun I2 ⟨f2, h2⟩ => ?_)
  skip
  refine WP.vret (pc := 90) rfl dX5_throwOutStale_90 ?_
  refine ⟨rfl, I2, rfl, fr.trans f1 (f2.mono (by omega) (by omega)), ?_⟩
  have := h1.sk f2 h2
  rw [show (tsS s s.2.2.1.length).2.2.1 = s.2.2.1.map (mkS s.1) from mix_full _ _ rfl] at this
  exact this
-- patience
def mkP (e : mCu) : mCu := if e.2.2.2.2.2.2 - 1 ≤ 0 then (e.1, -1, e.2.2.1, e.2.2.2.1, e.2.2.2.2.1, e.2.2.2.2.2.1, e.2.2.2.2.2.2 - 1) else (e.1, e.2.1, e.2.2.1, e.2.2.2.1, e.2.2.2.2.1, e.2.2.2.2.2.1, e.2.2.2.2.2.2 - 1)
def lpF (s : mS) : Nat → Int32 × List mEv
  | 0 => (s.1 10, s.2.2.2.2)
  | n + 1 => match s.2.2.2.1[n]? with
    | some e => if e.2.2.2.2.2.2 - 1 ≤ 0 then ((lpF s n).1 + e.2.2.2.2.2.1, evAdd (lpF s n).2 (3, e.2.1, 1)) else lpF s n
    | none => lpF s n
def lpS (s : mS) (i : Nat) : mS := (zup s.1 10 (lpF s i).1, s.2.1, s.2.2.1, mix mkP s.2.2.2.1 i, (lpF s i).2)
theorem lpS_0 (s : mS) : lpS s 0 = s := by
  unfold lpS
  rw [mix_0]
  show (zup s.1 10 (s.1 10), _) = _
  rw [zup_id]
  rfl
def lpOut (s : mS) : mS := (zup s.1 10 (lpF s s.2.2.2.1.length).1, s.2.1, s.2.2.1, (s.2.2.2.1.map mkP).filter pC, (lpF s s.2.2.2.1.length).2)
theorem LX5_loseOnePatience (hs : shS σ b) {r : cRm} (hr : r = (3, 85, 0, 0)) {Φ : cRes → cAS → Prop} (s : mS) : ∀ n i (I : Nat → Nat → Int32), i + n = s.2.2.2.1.length → stAt I b (lpS s i) → (∀ I', fr I I' b 25 → stAt I' b (lpS s s.2.2.2.1.length) → WP Γ r MX5_loseOnePatience Φ 50 [some (.ref b), some (.int (nI s.2.2.2.1.length))] [] (wI σ I')) → WP Γ r MX5_loseOnePatience Φ 2 [some (.ref b), some (.int (nI i))] [] (wI σ I) := by
  subst hr
  intro n
  induction n with
  | zero =>
    intro i I hi h H
    have hc : I (b + 13) 0 = nI s.2.2.2.1.length := by rw [h.2.2.2.1.1]; show nI (mix _ _ _).length = _; rw [mix_len]
    refine WP.iload_n (pc := 2) dX5_loseOnePatience_2 rfl ?_
    refine WP.aload_n (pc := 3) dX5_loseOnePatience_3 rfl ?_
    refine WP.gR (pc := 4) uX5 fX5_32 hs.t0 hs.r0_3 dX5_loseOnePatience_4 ?_
    refine WP.gIv (pc := 7) (v := (nI s.2.2.2.1.length)) uX2 fX5_48 hs.t13 (by simp [up_eq, hc]) dX5_loseOnePatience_7 ?_
    have hil : i = s.2.2.2.1.length := by omega
    refine WP.icmp_ge (pc := 10) (tgt := 50) dX5_loseOnePatience_10 (by decide) (fun h1 => ?_) (fun h1 => ?_)
    · rw [hil] at h ⊢
      exact H I fr.rf h
    · exact absurd (by rw [hil]; exact Int32.le_refl _) h1
  | succ n ih =>
    intro i I hi h H
    have hc : I (b + 13) 0 = nI s.2.2.2.1.length := by rw [h.2.2.2.1.1]; show nI (mix _ _ _).length = _; rw [mix_len]
    have hl10 : s.2.2.2.1.length ≤ 10 := by have := h.2.2.2.1.2.1; rwa [show (lpS s i).2.2.2.1 = mix mkP s.2.2.2.1 i from rfl, mix_len] at this
    obtain ⟨e, he⟩ : ∃ e, s.2.2.2.1[i]? = some e := ⟨s.2.2.2.1[i]'(by omega), List.getElem?_eq_getElem (by omega)⟩
    have hm : (lpS s i).2.2.2.1[i]? = some e := mix_get _ _ he
    obtain ⟨b1, b2, b3, b4, b5, b6, b7⟩ := h.2.2.2.1.2.2 i e hm
    refine WP.iload_n (pc := 2) dX5_loseOnePatience_2 rfl ?_
    refine WP.aload_n (pc := 3) dX5_loseOnePatience_3 rfl ?_
    refine WP.gR (pc := 4) uX5 fX5_32 hs.t0 hs.r0_3 dX5_loseOnePatience_4 ?_
    refine WP.gIv (pc := 7) (v := (nI s.2.2.2.1.length)) uX2 fX5_48 hs.t13 (by simp [up_eq, hc]) dX5_loseOnePatience_7 ?_
    refine WP.icmp_ge (pc := 10) (tgt := 50) dX5_loseOnePatience_10 (by decide) (fun h1 => ?_) (fun h1 => ?_)
    · exact absurd h1 (nI_ge (by omega) (by omega))
    · refine WP.aload_n (pc := 13) dX5_loseOnePatience_13 rfl ?_
      refine WP.gR (pc := 14) uX5 fX5_32 hs.t0 hs.r0_3 dX5_loseOnePatience_14 ?_
      refine WP.gR (pc := 17) uX2 fX5_168 hs.t13 hs.r13_8 dX5_loseOnePatience_17 ?_
      refine WP.iload_n (pc := 20) dX5_loseOnePatience_20 rfl ?_
      refine WP.dup2 (pc := 21) dX5_loseOnePatience_21 rfl rfl ?_
      refine WP.iald (pc := 22) hs.t20 (by omega) (by decide) dX5_loseOnePatience_22 ?_
      refine WP.iconst (pc := 23) (v := 1) dX5_loseOnePatience_23 (by decide) ?_
      refine WP.isub (pc := 24) dX5_loseOnePatience_24 ?_
      rw [b7]
      refine WP.iast (pc := 25) hs.t20 (by omega) (by decide) dX5_loseOnePatience_25 ?_
      have h2 := h.cu ((fr_up1 (a := b + 20) (k := i) (x := e.2.2.2.2.2.2 - 1)).mono (by omega) (by omega)) (by simp [up_eq]) (h.2.2.2.1.setP (e.2.2.2.2.2.2 - 1) hm)
      have f2 : fr I (up I (b + 20) i (e.2.2.2.2.2.2 - 1)) b 25 := fr_up1.mono (by omega) (by omega)
      have c2 : up I (b + 20) i (e.2.2.2.2.2.2 - 1) (b + 20) i = e.2.2.2.2.2.2 - 1 := by simp [up_eq]
      generalize up I (b + 20) i (e.2.2.2.2.2.2 - 1) = J at h2 f2 c2 ⊢
      refine WP.aload_n (pc := 26) dX5_loseOnePatience_26 rfl ?_
      refine WP.gR (pc := 27) uX5 fX5_32 hs.t0 hs.r0_3 dX5_loseOnePatience_27 ?_
      refine WP.gR (pc := 30) uX2 fX5_168 hs.t13 hs.r13_8 dX5_loseOnePatience_30 ?_
      refine WP.iload_n (pc := 33) dX5_loseOnePatience_33 rfl ?_
      refine WP.iald (pc := 34) hs.t20 (by omega) (by decide) dX5_loseOnePatience_34 ?_
      rw [c2]
      have hlen : i < (lpS s i).2.2.2.1.length := by show i < (mix _ _ _).length; rw [mix_len]; omega
      refine WP.if_gt (pc := 35) (tgt := 44) dX5_loseOnePatience_35 (by decide) (fun h3 => ?_) (fun h3 => ?_)
      · refine WP.iinc (pc := 44) dX5_loseOnePatience_44 rfl (nI_1 _) (by decide) rfl ?_
        refine WP.goto (pc := 47) (tgt := 2) dX5_loseOnePatience_47 (by decide) ?_
        refine ih (i + 1) J (by omega) ?_ (fun I' q1 q2 => H I' (fr.trans f2 q1) q2)
        have h3' : ¬ e.2.2.2.2.2.2 - 1 ≤ 0 := Int32.not_le.mpr h3
        have e1 : lpF s (i + 1) = lpF s i := by simp [lpF, he, h3']
        have e2 : mix mkP s.2.2.2.1 (i + 1) = (mix mkP s.2.2.2.1 i).set i (e.1, e.2.1, e.2.2.1, e.2.2.2.1, e.2.2.2.2.1, e.2.2.2.2.2.1, e.2.2.2.2.2.2 - 1) := by
          rw [← mix_set _ _ he]
          simp [mkP, h3']
        unfold lpS
        rw [e1, e2]
        exact h2
      · refine WP.aload_n (pc := 38) dX5_loseOnePatience_38 rfl ?_
        refine WP.iload_n (pc := 39) dX5_loseOnePatience_39 rfl ?_
        refine WP.iconst (pc := 40) (v := 1) dX5_loseOnePatience_40 (by decide) ?_
        have hm2 : ((lpS s i).1, (lpS s i).2.1, (lpS s i).2.2.1, (lpS s i).2.2.2.1.set i (e.1, e.2.1, e.2.2.1, e.2.2.2.1, e.2.2.2.2.1, e.2.2.2.2.2.1, e.2.2.2.2.2.2 - 1), (lpS s i).2.2.2.2).2.2.2.1[i]? = some (e.1, e.2.1, e.2.2.1, e.2.2.2.1, e.2.2.2.2.1, e.2.2.2.2.2.1, e.2.2.2.2.2.2 - 1) := by
          show ((lpS s i).2.2.2.1.set i _)[i]? = _
          exact List.getElem?_set_self hlen
        refine WP.cVw (pc := 41) (mc2 := 0) (ms2 := 0) (ci := 5) kX5_171 (CX5_dismiss Γ hs h2 hm2 _) (by decide) rfl hs.t0 rfl ⟨Nat.le_of_ble_eq_true rfl, Nat.le_of_ble_eq_true rfl⟩ (Nat.le_of_ble_eq_true rfl) (Nat.le_of_ble_eq_true rfl) (Nat.le_of_ble_eq_true rfl) rfl dX5_loseOnePatience_41 (fun I1 ⟨g1, g2⟩ => ?_)
        refine WP.iinc (pc := 44) dX5_loseOnePatience_44 rfl (nI_1 _) (by decide) rfl ?_
        refine WP.goto (pc := 47) (tgt := 2) dX5_loseOnePatience_47 (by decide) ?_
        refine ih (i + 1) I1 (by omega) ?_ (fun I' q1 q2 => H I' (fr.trans f2 (fr.trans g1 q1)) q2)
        have h3' : e.2.2.2.2.2.2 - 1 ≤ 0 := Int32.not_lt.mp h3
        have e1 : lpF s (i + 1) = ((lpF s i).1 + e.2.2.2.2.2.1, evAdd (lpF s i).2 (3, e.2.1, 1)) := by simp [lpF, he, h3']
        have e2 : mix mkP s.2.2.2.1 (i + 1) = ((mix mkP s.2.2.2.1 i).set i (e.1, e.2.1, e.2.2.1, e.2.2.2.1, e.2.2.2.2.1, e.2.2.2.2.2.1, e.2.2.2.2.2.2 - 1)).set i (e.1, -1, e.2.2.1, e.2.2.2.1, e.2.2.2.2.1, e.2.2.2.2.2.1, e.2.2.2.2.2.2 - 1) := by
          rw [← mix_set _ _ he, List.set_set]
          simp [mkP, h3']
        have ez : zup (zup s.1 10 (lpF s i).1) 10 ((lpF s i).1 + e.2.2.2.2.2.1) = zup s.1 10 ((lpF s i).1 + e.2.2.2.2.2.1) := by
          funext j
          simp only [zup_eq]
          by_cases q : j = 10 <;> simp [q]
        show stAt _ b (zup s.1 10 (lpF s (i + 1)).1, s.2.1, s.2.2.1, mix mkP s.2.2.2.1 (i + 1), (lpF s (i + 1)).2)
        rw [e1, e2, ← ez]
        exact g2
theorem CX5_loseOnePatience (hs : shS σ b) {I : Nat → Nat → Int32} {s : mS} (h : stAt I b s) : Ctr Γ (3, 85, 0, 0) MX5_loseOnePatience [.ref b] (wI σ I) (rW σ (fun I' => fr I I' b 25 ∧ stAt I' b (lpOut s))) := by
  refine Ctr.go rfl (by decide) rfl rfl ?_
  refine WP.iconst (pc := 0) (v := 0) dX5_loseOnePatience_0 (by decide) ?_
  refine WP.istore_n (pc := 1) dX5_loseOnePatience_1 (by decide) rfl ?_
  refine LX5_loseOnePatience Γ hs rfl s s.2.2.2.1.length 0 I (by omega) (by rw [lpS_0]; exact h) (fun I1 f1 h1 => ?_)
  refine WP.aload_n (pc := 50) dX5_loseOnePatience_50 rfl ?_
  refine WP.gR (pc := 51) uX5 fX5_32 hs.t0 hs.r0_3 dX5_loseOnePatience_51 ?_
  refine WP.cVw (pc := 54) (mc2 := 0) (ms2 := 0) (ci := 2) kX5_175 (CX2_closeGaps Γ hs h1.2.2.2.1) (by decide) rfl hs.t13 rfl ⟨Nat.le_of_ble_eq_true rfl, Nat.le_of_ble_eq_true rfl⟩ (Nat.le_of_ble_eq_true rfl) (Nat.le_of_ble_eq_true rfl) (Nat.le_of_ble_eq_true rfl) rfl dX5_loseOnePatience_54 (fun I2 ⟨f2, t2, h2⟩ => ?_)
  skip
  refine WP.vret (pc := 57) rfl dX5_loseOnePatience_57 ?_
  refine ⟨rfl, I2, rfl, fr.trans f1 (f2.mono (by omega) (by omega)), ?_⟩
  have := h1.cu f2 t2 h2
  rw [show (lpS s s.2.2.2.1.length).2.2.2.1 = s.2.2.2.1.map mkP from mix_full _ _ rfl] at this
  exact this
end T
