-- what an auction does
def crK (k : Int32) : Int32 := if k = 0 then 1 else if k = 1 then 2 else 3
def payC (e : mCu) (p : Int32) : mCu := (e.1, e.2.1, e.2.2.1, e.2.2.2.1 - 1, e.2.2.2.2.1, e.2.2.2.2.2.1 - p, e.2.2.2.2.2.2)
def ernB (e : mBk) (p : Int32) : mBk := (e.1, e.2.1, e.2.2.1, e.2.2.2.1, e.2.2.2.2.1, e.2.2.2.2.2 + p)
def slS (s : mS) (k p : Int32) (c l bi : Nat) (ec : mCu) (el : mLf) (eb : mBk) : mS := (zup (zup s.1 7 (s.1 7 + 1)) 4 (s.1 4 + crK k), s.2.1.set bi (ernB eb p), s.2.2.1.set l (-1, el.2), s.2.2.2.1.set c (payC ec p), s.2.2.2.2)
def sellS (s : mS) (k p : Int32) (c l : Nat) : mS := match s.2.2.2.1[c]?, s.2.2.1[l]? with
  | some ec, some el => match s.2.1[el.2.1.toNatClampNeg]? with
    | some eb => slS s k p c l el.2.1.toNatClampNeg ec el eb
    | none => s
  | _, _ => s
def sellN (s : mS) (k p : Int32) (bs ls : List mBd) : Nat → mS
  | 0 => s
  | i + 1 => match bs[i]?, ls[i]? with
    | some b, some l => sellS (sellN s k p bs ls i) k p b.1.toNatClampNeg l.1.toNatClampNeg
    | _, _ => sellN s k p bs ls i
/-- a loaf's baker is one of the bakers -/
def bkOk (s : mS) : Prop := ∀ e ∈ s.2.2.1, ∃ j, e.2.1 = nI j ∧ j < s.2.1.length
theorem sellS_len (s : mS) (k p : Int32) (c l : Nat) : (sellS s k p c l).2.1.length = s.2.1.length ∧ (sellS s k p c l).2.2.1.length = s.2.2.1.length ∧ (sellS s k p c l).2.2.2.1.length = s.2.2.2.1.length := by
  unfold sellS
  split
  · split
    · simp [slS]
    · exact ⟨rfl, rfl, rfl⟩
  · exact ⟨rfl, rfl, rfl⟩
theorem sellS_bk {s : mS} (k p : Int32) (c l : Nat) (h : bkOk s) : bkOk (sellS s k p c l) := by
  unfold bkOk
  rw [(sellS_len s k p c l).1]
  unfold sellS
  split
  · next ec el h1 h2 =>
    split
    · intro e he
      rcases List.mem_or_eq_of_mem_set he with q | q
      · exact h e q
      · rw [q]
        exact h el (List.mem_of_getElem? h2)
    · exact h
  · exact h
theorem sellN_len (s : mS) (k p : Int32) (bs ls : List mBd) : ∀ i, (sellN s k p bs ls i).2.1.length = s.2.1.length ∧ (sellN s k p bs ls i).2.2.1.length = s.2.2.1.length ∧ (sellN s k p bs ls i).2.2.2.1.length = s.2.2.2.1.length := by
  intro i
  induction i with
  | zero => exact ⟨rfl, rfl, rfl⟩
  | succ i ih =>
    simp only [sellN]
    split
    · next b l h1 h2 =>
      obtain ⟨a1, a2, a3⟩ := sellS_len (sellN s k p bs ls i) k p b.1.toNatClampNeg l.1.toNatClampNeg
      exact ⟨a1.trans ih.1, a2.trans ih.2.1, a3.trans ih.2.2⟩
    · exact ih
theorem sellN_bk {s : mS} (k p : Int32) (bs ls : List mBd) (h : bkOk s) : ∀ i, bkOk (sellN s k p bs ls i) := by
  intro i
  induction i with
  | zero => exact h
  | succ i ih =>
    simp only [sellN]
    split
    · exact sellS_bk _ _ _ _ ih
    · exact ih
theorem insM_mem {l : List mBd} {x y : mBd} {m : Nat} (h : y ∈ insM l x m) : y ∈ l ∨ y = x := by
  unfold insM at h
  rcases List.mem_append.mp h with h | h
  · rcases List.mem_append.mp h with h | h
    · exact Or.inl (List.mem_filter.mp h).1
    · exact Or.inr (List.mem_replicate.mp h).2
  · exact Or.inl (List.mem_filter.mp h).1
theorem bdF_mem {l : List mCu} {k : Int32} {y : mBd} : ∀ i, y ∈ bdF l k i → ∃ j e, j < i ∧ l[j]? = some e ∧ y = (nI j, e.2.2.2.2.1) := by
  intro i
  induction i with
  | zero => intro h; simp [bdF] at h
  | succ i ih =>
    simp only [bdF]
    intro h
    split at h
    · next e he =>
      rcases insM_mem h with q | q
      · obtain ⟨j, e', a1, a2, a3⟩ := ih q
        exact ⟨j, e', by omega, a2, a3⟩
      · exact ⟨i, e, by omega, he, q⟩
    · obtain ⟨j, e', a1, a2, a3⟩ := ih h
      exact ⟨j, e', by omega, a2, a3⟩
theorem lvF_mem {z : Nat → Int32} {l : List mLf} {k : Int32} {y : mBd} : ∀ i, y ∈ lvF z l k i → ∃ j e, j < i ∧ l[j]? = some e ∧ e.1 = k ∧ y = (nI j, rsE z e) := by
  intro i
  induction i with
  | zero => intro h; simp [lvF] at h
  | succ i ih =>
    simp only [lvF]
    intro h
    split at h
    · next e he =>
      split at h
      · next hk =>
        rcases List.mem_append.mp h with q | q
        · obtain ⟨j, e', a1, a2, a3⟩ := ih q
          exact ⟨j, e', by omega, a2, a3⟩
        · exact ⟨i, e, by omega, he, hk, List.mem_singleton.mp q⟩
      · obtain ⟨j, e', a1, a2, a3⟩ := ih h
        exact ⟨j, e', by omega, a2, a3⟩
    · obtain ⟨j, e', a1, a2, a3⟩ := ih h
      exact ⟨j, e', by omega, a2, a3⟩
-- customers that want no more
def mkD (q : mCu → Bool) (e : mCu) : mCu := if q e = true then (e.1, -1, e.2.2) else e
def dsF (s : mS) (q : mCu → Bool) (why : Int32) : Nat → Int32 × List mEv
  | 0 => (s.1 10, s.2.2.2.2)
  | n + 1 => match s.2.2.2.1[n]? with
    | some e => if q e = true then ((dsF s q why n).1 + e.2.2.2.2.2.1, evAdd (dsF s q why n).2 (3, e.2.1, why)) else dsF s q why n
    | none => dsF s q why n
def dsS (s : mS) (q : mCu → Bool) (why : Int32) (i : Nat) : mS := (zup s.1 10 (dsF s q why i).1, s.2.1, s.2.2.1, mix (mkD q) s.2.2.2.1 i, (dsF s q why i).2)
theorem dsS_0 (s : mS) (q : mCu → Bool) (why : Int32) : dsS s q why 0 = s := by
  unfold dsS
  rw [mix_0]
  show (zup s.1 10 (s.1 10), _) = _
  rw [zup_id]
  rfl
def dsOut (s : mS) (q : mCu → Bool) (why : Int32) : mS := (zup s.1 10 (dsF s q why s.2.2.2.1.length).1, s.2.1, s.2.2.1, (s.2.2.2.1.map (mkD q)).filter pC, (dsF s q why s.2.2.2.1.length).2)
def noW (e : mCu) : Bool := decide (e.2.2.2.1 ≤ 0)
def hdA (s : mS) (k : Int32) : mS := sellN s k (plP s k) (plB s k) (plL s k) (plT s k)
def hdB (s : mS) (k : Int32) : mS := ((hdA s k).1, (hdA s k).2.1, (hdA s k).2.2.1.filter pK, (hdA s k).2.2.2.1, evAdd (hdA s k).2.2.2.2 (1, k, plP s k))
def hdOut (s : mS) (k : Int32) : mS := if plT s k = 0 then s else dsOut (hdB s k) noW 0
section T
variable (Γ : cG) {σ : cAS} {x b : Nat}
theorem LX0_hold2 (hx : shX σ x) (hs : shS σ b) (hd : b + 25 ≤ x + 51) {r : cRm} (hr : r = (3, 85, 0, 0)) {Φ : cRes → cAS → Prop} {k : Int32} (s : mS) : ∀ n i (I : Nat → Nat → Int32), i + n = s.2.2.2.1.length → stAt I b (dsS s noW 0 i) → (∀ I', fr I I' b 25 → stAt I' b (dsS s noW 0 s.2.2.2.1.length) → WP Γ r MX0_hold Φ 108 [some (.ref (x + 51)), some (.ref b), some (.int k), some (.ref (b + 13)), some (.int (nI s.2.2.2.1.length))] [] (wI σ I')) → WP Γ r MX0_hold Φ 76 [some (.ref (x + 51)), some (.ref b), some (.int k), some (.ref (b + 13)), some (.int (nI i))] [] (wI σ I) := by
  subst hr
  intro n
  induction n with
  | zero =>
    intro i I hi h H
    have hc : I (b + 13) 0 = nI s.2.2.2.1.length := by rw [h.2.2.2.1.1]; show nI (mix _ _ _).length = _; rw [mix_len]
    refine WP.iload (pc := 76) dX0_hold_76 rfl ?_
    refine WP.aload_n (pc := 78) dX0_hold_78 rfl ?_
    refine WP.gIv (pc := 79) (v := (nI s.2.2.2.1.length)) uX2 fX0_34 hs.t13 (by simp [up_eq, hc]) dX0_hold_79 ?_
    have hil : i = s.2.2.2.1.length := by omega
    refine WP.icmp_ge (pc := 82) (tgt := 108) dX0_hold_82 (by decide) (fun h1 => ?_) (fun h1 => ?_)
    · rw [hil] at h ⊢
      exact H I fr.rf h
    · exact absurd (by rw [hil]; exact Int32.le_refl _) h1
  | succ n ih =>
    intro i I hi h H
    have hc : I (b + 13) 0 = nI s.2.2.2.1.length := by rw [h.2.2.2.1.1]; show nI (mix _ _ _).length = _; rw [mix_len]
    have hl10 : s.2.2.2.1.length ≤ 10 := by have := h.2.2.2.1.2.1; rwa [show (dsS s noW 0 i).2.2.2.1 = mix (mkD noW) s.2.2.2.1 i from rfl, mix_len] at this
    obtain ⟨e, he⟩ : ∃ e, s.2.2.2.1[i]? = some e := ⟨s.2.2.2.1[i]'(by omega), List.getElem?_eq_getElem (by omega)⟩
    have hm : (dsS s noW 0 i).2.2.2.1[i]? = some e := mix_get _ _ he
    obtain ⟨b1, b2, b3, b4, b5, b6, b7⟩ := h.2.2.2.1.2.2 i e hm
    refine WP.iload (pc := 76) dX0_hold_76 rfl ?_
    refine WP.aload_n (pc := 78) dX0_hold_78 rfl ?_
    refine WP.gIv (pc := 79) (v := (nI s.2.2.2.1.length)) uX2 fX0_34 hs.t13 (by simp [up_eq, hc]) dX0_hold_79 ?_
    refine WP.icmp_ge (pc := 82) (tgt := 108) dX0_hold_82 (by decide) (fun h1 => ?_) (fun h1 => ?_)
    · exact absurd h1 (nI_ge (by omega) (by omega))
    · refine WP.aload_n (pc := 85) dX0_hold_85 rfl ?_
      refine WP.gR (pc := 86) uX2 fX0_97 hs.t13 hs.r13_5 dX0_hold_86 ?_
      refine WP.iload (pc := 89) dX0_hold_89 rfl ?_
      refine WP.iald (pc := 91) hs.t17 (by omega) (by decide) dX0_hold_91 ?_
      rw [b4]
      refine WP.if_gt (pc := 92) (tgt := 102) dX0_hold_92 (by decide) (fun h3 => ?_) (fun h3 => ?_)
      · refine WP.iinc (pc := 102) dX0_hold_102 rfl (nI_1 _) (by decide) rfl ?_
        refine WP.goto (pc := 105) (tgt := 76) dX0_hold_105 (by decide) ?_
        refine ih (i + 1) I (by omega) ?_ H
        have h3' : noW e = false := by simp [noW, Int32.not_le.mpr h3]
        have e1 : dsF s noW 0 (i + 1) = dsF s noW 0 i := by simp [dsF, he, h3']
        have e2 : mix (mkD noW) s.2.2.2.1 (i + 1) = mix (mkD noW) s.2.2.2.1 i := mix_id _ _ he (by simp [mkD, h3'])
        unfold dsS
        rw [e1, e2]
        exact h
      · refine WP.aload_n (pc := 95) dX0_hold_95 rfl ?_
        refine WP.iload (pc := 96) dX0_hold_96 rfl ?_
        refine WP.iconst (pc := 98) (v := 0) dX0_hold_98 (by decide) ?_
        refine WP.cVw (pc := 99) (mc2 := 0) (ms2 := 0) (ci := 5) kX0_100 (CX5_dismiss Γ hs h hm _) (by decide) rfl hs.t0 rfl ⟨Nat.le_of_ble_eq_true rfl, Nat.le_of_ble_eq_true rfl⟩ (Nat.le_of_ble_eq_true rfl) (Nat.le_of_ble_eq_true rfl) (Nat.le_of_ble_eq_true rfl) rfl dX0_hold_99 (fun I1 ⟨g1, g2⟩ => ?_)
        refine WP.iinc (pc := 102) dX0_hold_102 rfl (nI_1 _) (by decide) rfl ?_
        refine WP.goto (pc := 105) (tgt := 76) dX0_hold_105 (by decide) ?_
        refine ih (i + 1) I1 (by omega) ?_ (fun I' q1 q2 => H I' (fr.trans g1 q1) q2)
        have h3' : noW e = true := by simp [noW, Int32.not_lt.mp h3]
        have e1 : dsF s noW 0 (i + 1) = ((dsF s noW 0 i).1 + e.2.2.2.2.2.1, evAdd (dsF s noW 0 i).2 (3, e.2.1, 0)) := by simp [dsF, he, h3']
        have e2 : mix (mkD noW) s.2.2.2.1 (i + 1) = (mix (mkD noW) s.2.2.2.1 i).set i (e.1, -1, e.2.2) := by
          rw [← mix_set _ _ he]
          simp [mkD, h3']
        have ez : zup (zup s.1 10 (dsF s noW 0 i).1) 10 ((dsF s noW 0 i).1 + e.2.2.2.2.2.1) = zup s.1 10 ((dsF s noW 0 i).1 + e.2.2.2.2.2.1) := by
          funext j
          simp only [zup_eq]
          by_cases q : j = 10 <;> simp [q]
        show stAt _ b (zup s.1 10 (dsF s noW 0 (i + 1)).1, s.2.1, s.2.2.1, mix (mkD noW) s.2.2.2.1 (i + 1), (dsF s noW 0 (i + 1)).2)
        rw [e1, e2, ← ez]
        exact g2
theorem CX0_sell (hx : shX σ x) (hs : shS σ b) (hd : b + 25 ≤ x + 51) {I : Nat → Nat → Int32} {s : mS} (h : stAt I b s) {p : Int32} (hp : I (x + 51) 7 = p) (k : Int32) {c l bi : Nat} {ec : mCu} {el : mLf} {eb : mBk} (hc : s.2.2.2.1[c]? = some ec) (hl : s.2.2.1[l]? = some el) (hbi : el.2.1 = nI bi) (hb : s.2.1[bi]? = some eb) : Ctr Γ (1, 22, 0, 0) MX0_sell [.ref (x + 51), .ref b, .int (nI c), .int (nI l), .int k] (wI σ I) (rW σ (fun I' => fr I I' b 25 ∧ stAt I' b (slS s k p c l bi ec el eb))) := by
  refine Ctr.go rfl (by decide) rfl rfl ?_
  have hl60 := h.2.2.1.2.1
  have hln := gE_lt hl
  have hbn := gE_lt hb
  have hsk := h.2.2.1.1
  have hb4 := h.2.1.2.1
  refine WP.iload_n (pc := 0) dX0_sell_0 rfl ?_
  refine WP.if_lt (pc := 1) (tgt := 15) dX0_sell_1 (by decide) (fun h1 => ?_) (fun h1 => ?_)
  · exact absurd h1 (nI_pos (by omega))
  · refine WP.iload_n (pc := 4) dX0_sell_4 rfl ?_
    refine WP.aload_n (pc := 5) dX0_sell_5 rfl ?_
    refine WP.gR (pc := 6) uX5 fX0_53 hs.t0 hs.r0_2 dX0_sell_6 ?_
    refine WP.gIv (pc := 9) (v := (nI s.2.2.1.length)) uX6 fX0_57 hs.t9 (by simp [up_eq, hsk]) dX0_sell_9 ?_
    refine WP.icmp_lt (pc := 12) (tgt := 16) dX0_sell_12 (by decide) (fun h2 => ?_) (fun h2 => ?_)
    · refine WP.aload_n (pc := 16) dX0_sell_16 rfl ?_
      refine WP.gR (pc := 17) uX5 fX0_28 hs.t0 hs.r0_3 dX0_sell_17 ?_
      refine WP.iload_n (pc := 20) dX0_sell_20 rfl ?_
      refine WP.aload_n (pc := 21) dX0_sell_21 rfl ?_
      refine WP.gIv (pc := 22) (v := p) uX0 fX0_74 hx.t51 (by simp [up_eq, hp]) dX0_sell_22 ?_
      refine WP.cVw (pc := 25) (mc2 := 0) (ms2 := 0) (ci := 2) kX0_109 (CX2_pay Γ hs p hc h.2.2.2.1) (by decide) rfl hs.t13 rfl ⟨Nat.le_of_ble_eq_true rfl, Nat.le_of_ble_eq_true rfl⟩ (Nat.le_of_ble_eq_true rfl) (Nat.le_of_ble_eq_true rfl) (Nat.le_of_ble_eq_true rfl) rfl dX0_sell_25 (fun I1 ⟨f1, g1⟩ => ?_)
      have h1' := h.cu (f1.mono (by omega) (by omega)) (by rw [f1 (b + 13) (by omega)]) g1
      obtain ⟨l1, l2, l3⟩ := h1'.2.2.1.2.2 l el hl
      have hp1 : I1 (x + 51) 7 = p := by rw [f1 (x + 51) (by omega)]; exact hp
      refine WP.aload_n (pc := 28) dX0_sell_28 rfl ?_
      refine WP.gR (pc := 29) uX5 fX0_112 hs.t0 hs.r0_1 dX0_sell_29 ?_
      refine WP.aload_n (pc := 32) dX0_sell_32 rfl ?_
      refine WP.gR (pc := 33) uX5 fX0_53 hs.t0 hs.r0_2 dX0_sell_33 ?_
      refine WP.gR (pc := 36) uX6 fX0_116 hs.t9 hs.r9_2 dX0_sell_36 ?_
      refine WP.iload_n (pc := 39) dX0_sell_39 rfl ?_
      refine WP.iald (pc := 40) hs.t11 (by omega) (by decide) dX0_sell_40 ?_
      rw [l2, hbi]
      refine WP.aload_n (pc := 41) dX0_sell_41 rfl ?_
      refine WP.gIv (pc := 42) (v := p) uX0 fX0_74 hx.t51 (by simp [up_eq, hp1]) dX0_sell_42 ?_
      refine WP.cVw (pc := 45) (mc2 := 0) (ms2 := 0) (ci := 1) kX0_119 (CX1_earn Γ hs p hb h1'.2.1) (by decide) rfl hs.t2 rfl ⟨Nat.le_of_ble_eq_true rfl, Nat.le_of_ble_eq_true rfl⟩ (Nat.le_of_ble_eq_true rfl) (Nat.le_of_ble_eq_true rfl) (Nat.le_of_ble_eq_true rfl) rfl dX0_sell_45 (fun I2 ⟨f2, g2⟩ => ?_)
      have h2' := h1'.bk f2 g2
      refine WP.aload_n (pc := 48) dX0_sell_48 rfl ?_
      refine WP.gR (pc := 49) uX5 fX0_53 hs.t0 hs.r0_2 dX0_sell_49 ?_
      refine WP.gR (pc := 52) uX6 fX0_60 hs.t9 hs.r9_1 dX0_sell_52 ?_
      refine WP.iload_n (pc := 55) dX0_sell_55 rfl ?_
      refine WP.iconst (pc := 56) (v := (-1)) dX0_sell_56 (by decide) ?_
      refine WP.iast (pc := 57) hs.t10 (by omega) (by decide) dX0_sell_57 ?_
      have h3' := h2'.sk ((fr_up1 (a := b + 10) (k := l) (x := -1)).mono (by omega) (by omega)) (h2'.2.2.1.setK (-1) hl)
      have f3 : fr I (up I2 (b + 10) l (-1)) b 25 := ((f1.mono (by omega) (by omega)).trans (f2.mono (by omega) (by omega))).trans (fr_up1.mono (by omega) (by omega))
      generalize up I2 (b + 10) l (-1) = J at h3' f3 ⊢
      have w7 : J b 9 = s.1 7 := h3'.1.2.2.2.2.2.2.2.1
      refine WP.aload_n (pc := 58) dX0_sell_58 rfl ?_
      refine WP.dup (pc := 59) dX0_sell_59 rfl ?_
      refine WP.gIv (pc := 60) (v := (s.1 7)) uX5 fX0_124 hs.t0 (by simp [up_eq, w7]) dX0_sell_60 ?_
      refine WP.iconst (pc := 63) (v := 1) dX0_sell_63 (by decide) ?_
      refine WP.iadd (pc := 64) dX0_sell_64 ?_
      refine WP.pI (pc := 65) uX5 fX0_124 rfl rfl hs.t0 dX0_sell_65 ?_
      have h4' := h3'.z 7 (s.1 7 + 1) (by omega) (by omega)
      have f4 := f3.trans ((fr_up1 (I := J) (a := b) (k := 9) (x := s.1 7 + 1)).mono (lo' := b) (n' := 25) (by omega) (by omega))
      generalize eJ : up J b 9 (s.1 7 + 1) = K at *
      have w4 : K b 6 = s.1 4 := h4'.1.2.2.2.2.1
      have fin : ∀ v, v = crK k → WP Γ (1, 22, 0, 0) MX0_sell (rW σ (fun I' => fr I I' b 25 ∧ stAt I' b (slS s k p c l bi ec el eb))) 93 [some (.ref (x + 51)), some (.ref b), some (.int (nI c)), some (.int (nI l)), some (.int k)] [.int v, .int (s.1 4), .ref b] (wI σ K) := by
        intro v hv
        refine WP.iadd (pc := 93) dX0_sell_93 ?_
        refine WP.pI (pc := 94) uX5 fX0_127 rfl rfl hs.t0 dX0_sell_94 ?_
        refine WP.vret (pc := 97) rfl dX0_sell_97 ?_
        refine ⟨rfl, _, rfl, f4.trans ((fr_up1 (I := K) (a := b) (k := 6) (x := s.1 4 + v)).mono (lo' := b) (n' := 25) (by omega) (by omega)), ?_⟩
        have h5 := h4'.z 4 (s.1 4 + v) (by omega) (by omega)
        rw [hv] at h5 ⊢
        exact h5
      refine WP.aload_n (pc := 68) dX0_sell_68 rfl ?_
      refine WP.dup (pc := 69) dX0_sell_69 rfl ?_
      refine WP.gIv (pc := 70) (v := (s.1 4)) uX5 fX0_127 hs.t0 (by simp [up_eq, w4]) dX0_sell_70 ?_
      refine WP.iload (pc := 73) dX0_sell_73 rfl ?_
      refine WP.if_ne (pc := 75) (tgt := 82) dX0_sell_75 (by decide) (fun h5 => ?_) (fun h5 => ?_)
      · refine WP.iload (pc := 82) dX0_sell_82 rfl ?_
        refine WP.iconst (pc := 84) (v := 1) dX0_sell_84 (by decide) ?_
        refine WP.icmp_ne (pc := 85) (tgt := 92) dX0_sell_85 (by decide) (fun h6 => ?_) (fun h6 => ?_)
        · refine WP.iconst (pc := 92) (v := 3) dX0_sell_92 (by decide) ?_
          exact fin 3 (by simp [crK, h5, h6])
        · refine WP.iconst (pc := 88) (v := 2) dX0_sell_88 (by decide) ?_
          refine WP.goto (pc := 89) (tgt := 93) dX0_sell_89 (by decide) ?_
          exact fin 2 (by simp [crK, h5, h6])
      · refine WP.iconst (pc := 78) (v := 1) dX0_sell_78 (by decide) ?_
        refine WP.goto (pc := 79) (tgt := 93) dX0_sell_79 (by decide) ?_
        exact fin 1 (by simp [crK, h5])
    · exact absurd (nI_lt hln (by omega)) h2
theorem LX0_hold1 (hx : shX σ x) (hs : shS σ b) (hd : b + 25 ≤ x + 51) {r : cRm} (hr : r = (3, 85, 0, 0)) {Φ : cRes → cAS → Prop} {k : Int32} (s : mS) (hbk : bkOk s) : ∀ n i (I : Nat → Nat → Int32), i + n = plT s k → stAt I b (sellN s k (plP s k) (plB s k) (plL s k) i) → auAt I x s k → (∀ I', fr I I' b 25 → stAt I' b (hdA s k) → auAt I' x s k → WP Γ r MX0_hold Φ 48 [some (.ref (x + 51)), some (.ref b), some (.int k), some (.int (nI (plT s k))), none] [] (wI σ I')) → WP Γ r MX0_hold Φ 16 [some (.ref (x + 51)), some (.ref b), some (.int k), some (.int (nI i)), none] [] (wI σ I) := by
  subst hr
  have ⟨t1, t2⟩ := trN_le (plB s k) (plL s k)
  intro n
  induction n with
  | zero =>
    intro i I hi h ha H
    have h6 := ha.2.2.1
    have hil : i = plT s k := by omega
    refine WP.iload_n (pc := 16) dX0_hold_16 rfl ?_
    refine WP.aload_n (pc := 17) dX0_hold_17 rfl ?_
    refine WP.gIv (pc := 18) (v := (nI (plT s k))) uX0 fX0_67 hx.t51 (by simp [up_eq, h6]) dX0_hold_18 ?_
    refine WP.icmp_ge (pc := 21) (tgt := 48) dX0_hold_21 (by decide) (fun h1 => ?_) (fun h1 => ?_)
    · rw [hil] at h ⊢
      exact H I fr.rf h ha
    · exact absurd (by rw [hil]; exact Int32.le_refl _) h1
  | succ n ih =>
    intro i I hi h ha H
    have h6 := ha.2.2.1
    have hb90 := ha.1.2.1
    have hl60 := ha.2.1.2.1
    have hT1 : plT s k ≤ (plB s k).length := t1
    have hT2 : plT s k ≤ (plL s k).length := t2
    have h7 := ha.2.2.2
    obtain ⟨n1, n2, n3⟩ := sellN_len s k (plP s k) (plB s k) (plL s k) i
    have hc10 : s.2.2.2.1.length ≤ 10 := n3 ▸ h.2.2.2.1.2.1
    have hs60 : s.2.2.1.length ≤ 60 := n2 ▸ h.2.2.1.2.1
    have hb4 : s.2.1.length ≤ 4 := n1 ▸ h.2.1.2.1
    obtain ⟨p, hp⟩ : ∃ e, (plB s k)[i]? = some e := ⟨(plB s k)[i]'(by omega), List.getElem?_eq_getElem (by omega)⟩
    obtain ⟨q, hq⟩ : ∃ e, (plL s k)[i]? = some e := ⟨(plL s k)[i]'(by omega), List.getElem?_eq_getElem (by omega)⟩
    obtain ⟨p1, p2⟩ := ha.1.2.2 i p hp
    obtain ⟨q1, q2⟩ := ha.2.1.2.2 i q hq
    obtain ⟨c, ec0, c1, c2, c3⟩ := bdF_mem _ (List.mem_of_getElem? hp)
    obtain ⟨l, el0, l1, l2, l3, l4⟩ := lvF_mem _ (List.mem_of_getElem? hq)
    have ec1 : p.1 = nI c := by rw [c3]
    have el1 : q.1 = nI l := by rw [l4]
    obtain ⟨ec, hec⟩ : ∃ e, (sellN s k (plP s k) (plB s k) (plL s k) i).2.2.2.1[c]? = some e := ⟨_, List.getElem?_eq_getElem (by omega)⟩
    obtain ⟨el, hel⟩ : ∃ e, (sellN s k (plP s k) (plB s k) (plL s k) i).2.2.1[l]? = some e := ⟨_, List.getElem?_eq_getElem (by omega)⟩
    obtain ⟨bi, hbi, hbl⟩ := sellN_bk k (plP s k) (plB s k) (plL s k) hbk i el (List.mem_of_getElem? hel)
    obtain ⟨eb, heb⟩ : ∃ e, (sellN s k (plP s k) (plB s k) (plL s k) i).2.1[bi]? = some e := ⟨_, List.getElem?_eq_getElem hbl⟩
    have es : sellN s k (plP s k) (plB s k) (plL s k) (i + 1) = slS (sellN s k (plP s k) (plB s k) (plL s k) i) k (plP s k) c l bi ec el eb := by
      simp only [sellN, hp, hq]
      rw [ec1, el1, nI_clamp (by omega), nI_clamp (by omega)]
      unfold sellS
      simp only [hec, hel]
      rw [hbi, nI_clamp (by omega)]
      simp only [heb]
    refine WP.iload_n (pc := 16) dX0_hold_16 rfl ?_
    refine WP.aload_n (pc := 17) dX0_hold_17 rfl ?_
    refine WP.gIv (pc := 18) (v := (nI (plT s k))) uX0 fX0_67 hx.t51 (by simp [up_eq, h6]) dX0_hold_18 ?_
    refine WP.icmp_ge (pc := 21) (tgt := 48) dX0_hold_21 (by decide) (fun h1 => ?_) (fun h1 => ?_)
    · exact absurd h1 (nI_ge (by omega) (by omega))
    · refine WP.aload_n (pc := 24) dX0_hold_24 rfl ?_
      refine WP.aload_n (pc := 25) dX0_hold_25 rfl ?_
      refine WP.aload_n (pc := 26) dX0_hold_26 rfl ?_
      refine WP.gR (pc := 27) uX0 fX0_9 hx.t51 hx.r51_1 dX0_hold_27 ?_
      refine WP.iload_n (pc := 30) dX0_hold_30 rfl ?_
      refine WP.iald (pc := 31) hx.t52 (by omega) (by decide) dX0_hold_31 ?_
      rw [p1, ec1]
      refine WP.aload_n (pc := 32) dX0_hold_32 rfl ?_
      refine WP.gR (pc := 33) uX0 fX0_18 hx.t51 hx.r51_4 dX0_hold_33 ?_
      refine WP.iload_n (pc := 36) dX0_hold_36 rfl ?_
      refine WP.iald (pc := 37) hx.t54 (by omega) (by decide) dX0_hold_37 ?_
      rw [q1, el1]
      refine WP.iload_n (pc := 38) dX0_hold_38 rfl ?_
      refine WP.cVw (pc := 39) (mc2 := 0) (ms2 := 0) (ci := 0) kX0_81 (CX0_sell Γ hx hs hd h h7 k hec hel hbi heb) (by decide) rfl hx.t51 rfl ⟨Nat.le_of_ble_eq_true rfl, Nat.le_of_ble_eq_true rfl⟩ (Nat.le_of_ble_eq_true rfl) (Nat.le_of_ble_eq_true rfl) (Nat.le_of_ble_eq_true rfl) rfl dX0_hold_39 (fun I1 ⟨f1, g1⟩ => ?_)
      refine WP.iinc (pc := 42) dX0_hold_42 rfl (nI_1 _) (by decide) rfl ?_
      refine WP.goto (pc := 45) (tgt := 16) dX0_hold_45 (by decide) ?_
      rw [← es] at g1
      exact ih (i + 1) I1 (by omega) g1 (ha.kp f1 (by omega)) (fun I' w0 w1 w2 => H I' (f1.trans w0) w1 w2)
theorem CX0_hold (hx : shX σ x) (hs : shS σ b) (hd : b + 25 ≤ x + 51) {I : Nat → Nat → Int32} {s : mS} (h : stAt I b s) (k : Int32) (hok : ∀ e ∈ s.2.2.2.1, cuOk e) (hbk : bkOk s) : Ctr Γ (3, 85, 0, 0) MX0_hold [.ref (x + 51), .ref b, .int k] (wI σ I) (rW σ (fun I' => (∀ a, (a < b ∨ b + 25 ≤ a) → (a < x + 51 ∨ x + 56 ≤ a) → I' a = I a) ∧ stAt I' b (hdOut s k) ∧ I' (x + 51) 6 = nI (plT s k))) := by
  refine Ctr.go rfl (by decide) rfl rfl ?_
  have ⟨t1, t2⟩ := trN_le (plB s k) (plL s k)
  refine WP.aload_n (pc := 0) dX0_hold_0 rfl ?_
  refine WP.aload_n (pc := 1) dX0_hold_1 rfl ?_
  refine WP.iload_n (pc := 2) dX0_hold_2 rfl ?_
  refine WP.cVw (pc := 3) (mc2 := 0) (ms2 := 0) (ci := 0) kX0_77 (CX0_prepare Γ hx hs hd h k hok) (by decide) rfl hx.t51 rfl ⟨Nat.le_of_ble_eq_true rfl, Nat.le_of_ble_eq_true rfl⟩ (Nat.le_of_ble_eq_true rfl) (Nat.le_of_ble_eq_true rfl) (Nat.le_of_ble_eq_true rfl) rfl dX0_hold_3 (fun I1 ⟨f1, s1, a1⟩ => ?_)
  have h6 := a1.2.2.1
  have hb90 := a1.1.2.1
  refine WP.aload_n (pc := 6) dX0_hold_6 rfl ?_
  refine WP.gIv (pc := 7) (v := (nI (plT s k))) uX0 fX0_67 hx.t51 (by simp [up_eq, h6]) dX0_hold_7 ?_
  refine WP.if_ne (pc := 10) (tgt := 14) dX0_hold_10 (by decide) (fun h1 => ?_) (fun h1 => ?_)
  · refine WP.iconst (pc := 14) (v := 0) dX0_hold_14 (by decide) ?_
    refine WP.istore_n (pc := 15) dX0_hold_15 (by decide) rfl ?_
    have hne : plT s k ≠ 0 := fun z => h1 (by rw [z]; rfl)
    refine LX0_hold1 Γ hx hs hd rfl s hbk (plT s k) 0 I1 (by omega) s1 a1 (fun I2 f2 s2 a2 => ?_)
    refine WP.aload_n (pc := 48) dX0_hold_48 rfl ?_
    refine WP.gR (pc := 49) uX5 fX0_53 hs.t0 hs.r0_2 dX0_hold_49 ?_
    refine WP.cVw (pc := 52) (mc2 := 0) (ms2 := 0) (ci := 6) kX0_85 (CX6_closeGaps Γ hs s2.2.2.1) (by decide) rfl hs.t9 rfl ⟨Nat.le_of_ble_eq_true rfl, Nat.le_of_ble_eq_true rfl⟩ (Nat.le_of_ble_eq_true rfl) (Nat.le_of_ble_eq_true rfl) (Nat.le_of_ble_eq_true rfl) rfl dX0_hold_52 (fun I3 ⟨f3, g3⟩ => ?_)
    have s3 := s2.sk f3 g3
    have h7 : I3 (x + 51) 7 = plP s k := by rw [f3 (x + 51) (by omega)]; exact a2.2.2.2
    refine WP.aload_n (pc := 55) dX0_hold_55 rfl ?_
    refine WP.gR (pc := 56) uX5 fX0_88 hs.t0 hs.r0_4 dX0_hold_56 ?_
    refine WP.iconst (pc := 59) (v := 1) dX0_hold_59 (by decide) ?_
    refine WP.iload_n (pc := 60) dX0_hold_60 rfl ?_
    refine WP.aload_n (pc := 61) dX0_hold_61 rfl ?_
    refine WP.gIv (pc := 62) (v := (plP s k)) uX0 fX0_74 hx.t51 (by simp [up_eq, h7]) dX0_hold_62 ?_
    refine WP.cVw (pc := 65) (mc2 := 0) (ms2 := 0) (ci := 3) kX0_92 (CX3_add Γ hs _ _ _ s3.2.2.2.2) (by decide) rfl hs.t21 rfl ⟨Nat.le_of_ble_eq_true rfl, Nat.le_of_ble_eq_true rfl⟩ (Nat.le_of_ble_eq_true rfl) (Nat.le_of_ble_eq_true rfl) (Nat.le_of_ble_eq_true rfl) rfl dX0_hold_65 (fun I4 ⟨f4, g4⟩ => ?_)
    have s4 := s3.ev f4 g4
    refine WP.aload_n (pc := 68) dX0_hold_68 rfl ?_
    refine WP.gR (pc := 69) uX5 fX0_28 hs.t0 hs.r0_3 dX0_hold_69 ?_
    refine WP.astore_n (pc := 72) dX0_hold_72 (by decide) rfl ?_
    refine WP.iconst (pc := 73) (v := 0) dX0_hold_73 (by decide) ?_
    refine WP.istore (pc := 74) dX0_hold_74 (by decide) rfl ?_
    refine LX0_hold2 Γ hx hs hd rfl (hdB s k) (hdB s k).2.2.2.1.length 0 I4 (by omega) (by rw [dsS_0]; exact s4) (fun I5 f5 s5 => ?_)
    refine WP.aload_n (pc := 108) dX0_hold_108 rfl ?_
    refine WP.cVw (pc := 109) (mc2 := 0) (ms2 := 0) (ci := 2) kX0_104 (CX2_closeGaps Γ hs s5.2.2.2.1) (by decide) rfl hs.t13 rfl ⟨Nat.le_of_ble_eq_true rfl, Nat.le_of_ble_eq_true rfl⟩ (Nat.le_of_ble_eq_true rfl) (Nat.le_of_ble_eq_true rfl) (Nat.le_of_ble_eq_true rfl) rfl dX0_hold_109 (fun I6 ⟨f6, t6, g6⟩ => ?_)
    have s6 := s5.cu f6 t6 g6
    skip
    refine WP.vret (pc := 112) rfl dX0_hold_112 ?_
    refine ⟨rfl, I6, rfl, fun a w1 w2 => ?_, ?_, ?_⟩
    · rw [f6 a (by omega), f5 a (by omega), f4 a (by omega), f3 a (by omega), f2 a (by omega), f1 a (by omega)]
    · unfold hdOut
      rw [if_neg hne]
      rw [show (dsS (hdB s k) noW 0 (hdB s k).2.2.2.1.length).2.2.2.1 = (hdB s k).2.2.2.1.map (mkD noW) from mix_full _ _ rfl] at s6
      exact s6
    · rw [f6 (x + 51) (by omega), f5 (x + 51) (by omega), f4 (x + 51) (by omega), f3 (x + 51) (by omega)]
      exact a2.2.2.1
  · skip
    refine WP.vret (pc := 13) rfl dX0_hold_13 ?_
    have e0 : plT s k = 0 := Nat.eq_zero_of_not_pos (fun z => absurd (h1) (nI_ne0 z (by unfold plT; omega)))
    refine ⟨rfl, I1, rfl, fun a _ w2 => f1 a (by omega), ?_, h6⟩
    unfold hdOut
    rw [if_pos e0]
    exact s1
end T
