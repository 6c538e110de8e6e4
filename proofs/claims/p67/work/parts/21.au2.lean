-- what an auction finds
def cuOk (e : mCu) : Prop := 1 ≤ e.2.2.2.2.1 ∧ e.2.2.2.2.1 ≤ 99 ∧ 0 ≤ e.2.2.2.1 ∧ e.2.2.2.1 ≤ 9 ∧ 0 ≤ e.2.2.2.2.2.1
def bdN (e : mCu) (k : Int32) : Nat := (bdI e k).toNatClampNeg
theorem bdI_nat {e : mCu} (h : cuOk e) (k : Int32) : bdI e k = nI (bdN e k) ∧ bdN e k ≤ 9 ∧ nI (bdN e k) ≤ e.2.2.2.1 := by
  obtain ⟨h1, h2, h3, h4, h5⟩ := h
  have key : ∀ v : Int32, 0 ≤ v → v ≤ e.2.2.2.1 → v = nI v.toNatClampNeg ∧ v.toNatClampNeg ≤ 9 ∧ nI v.toNatClampNeg ≤ e.2.2.2.1 := fun v p q => by
    obtain ⟨j, hj, rfl, -⟩ := pk_mu (L := 10) (Int32.not_lt.mpr p) (Int32.not_le.mpr (Int32.lt_of_le_of_lt (Int32.le_trans q h4) (by decide))) (by omega)
    rw [nI_clamp (by omega)]
    exact ⟨rfl, by omega, q⟩
  unfold bdN
  apply key
  · unfold bdI
    split
    · split
      · rw [Int32.le_iff_toInt_le, Int32.toInt_div_of_ne_right _ _ (fun q => by rw [q] at h1; revert h1; decide)]
        rw [Int32.le_iff_toInt_le] at h1 h5
        exact Int.tdiv_nonneg h5 (Int.le_trans (by decide) h1)
      · exact h3
    · exact Int32.le_refl _
  · unfold bdI
    split
    · split
      · next q => exact Int32.le_of_lt q
      · exact Int32.le_refl _
    · exact h3
def bdF (l : List mCu) (k : Int32) : Nat → List mBd
  | 0 => []
  | i + 1 => match l[i]? with
    | some e => insM (bdF l k i) (nI i, e.2.2.2.2.1) (bdN e k)
    | none => bdF l k i
theorem bdF_srt (l : List mCu) (k : Int32) : ∀ i, srt (bdF l k i) := by
  intro i
  induction i with
  | zero => exact List.Pairwise.nil
  | succ i ih =>
    simp only [bdF]
    split
    · exact insM_srt ih
    · exact ih
theorem bdF_len {l : List mCu} {k : Int32} (hok : ∀ e ∈ l, cuOk e) : ∀ i, (bdF l k i).length ≤ 9 * i := by
  intro i
  induction i with
  | zero => exact Nat.le_refl _
  | succ i ih =>
    simp only [bdF]
    split
    · next e he =>
      rw [insM_len (bdF_srt l k i)]
      have := (bdI_nat (hok e (List.mem_of_getElem? he)) k).2.1
      omega
    · omega
def lvF (z : Nat → Int32) (l : List mLf) (k : Int32) : Nat → List mBd
  | 0 => []
  | i + 1 => match l[i]? with
    | some e => if e.1 = k then lvF z l k i ++ [(nI i, rsE z e)] else lvF z l k i
    | none => lvF z l k i
theorem lvF_len {z : Nat → Int32} {l : List mLf} {k : Int32} : ∀ i, (lvF z l k i).length ≤ i := by
  intro i
  induction i with
  | zero => exact Nat.le_refl _
  | succ i ih =>
    simp only [lvF]
    split
    · split
      · simp; omega
      · omega
    · omega
def trN : List mBd → List mBd → Nat
  | b :: bs, l :: ls => if l.2 ≤ b.2 then trN bs ls + 1 else 0
  | _, _ => 0
theorem trN_le (bs ls : List mBd) : trN bs ls ≤ bs.length ∧ trN bs ls ≤ ls.length := by
  induction bs generalizing ls with
  | nil => simp [trN]
  | cons b bs ih =>
    cases ls with
    | nil => simp [trN]
    | cons l ls =>
      simp only [trN]
      split
      · have := ih ls
        simp only [List.length_cons]
        omega
      · simp
def prH (ls : List mBd) (T : Nat) : Int32 := match ls[T - 1]? with
  | some l => if 1 < l.2 then l.2 else 1
  | none => 1
def prN (bs ls : List mBd) (T : Nat) : Int32 := if T = 0 then 0 else match bs[T]? with
  | some b => if prH ls T < b.2 then b.2 else prH ls T
  | none => prH ls T
def plB (s : mS) (k : Int32) : List mBd := bdF s.2.2.2.1 k s.2.2.2.1.length
def plL (s : mS) (k : Int32) : List mBd := lvF s.1 s.2.2.1 k s.2.2.1.length
def plT (s : mS) (k : Int32) : Nat := trN (plB s k) (plL s k)
def plP (s : mS) (k : Int32) : Int32 := prN (plB s k) (plL s k) (plT s k)
def auAt (I : Nat → Nat → Int32) (x : Nat) (s : mS) (k : Int32) : Prop := paAt I x (plB s k) ∧ plAt I x (plL s k) ∧ I (x + 51) 6 = nI (plT s k) ∧ I (x + 51) 7 = plP s k
theorem auAt.kp {I I' : Nat → Nat → Int32} {x lo n : Nat} {s : mS} {k : Int32} (h : auAt I x s k) (hf : fr I I' lo n) (h1 : lo + n ≤ x + 51 ∨ x + 56 ≤ lo) : auAt I' x s k :=
  ⟨h.1.kp hf h1, h.2.1.kp hf h1, by rw [hf (x + 51) (by omega)]; exact h.2.2.1, by rw [hf (x + 51) (by omega)]; exact h.2.2.2⟩
section T
variable (Γ : cG) {σ : cAS} {x b : Nat}
theorem LX0_prepA (hx : shX σ x) (hs : shS σ b) (hd : b + 25 ≤ x + 51) {r : cRm} (hr : r = (2, 45, 0, 0)) {Φ : cRes → cAS → Prop} (s : mS) (k : Int32) (hok : ∀ e ∈ s.2.2.2.1, cuOk e) : ∀ n i (I : Nat → Nat → Int32), i + n = s.2.2.2.1.length → stAt I b s → paAt I x (bdF s.2.2.2.1 k i) → (∀ I', fr I I' (x + 51) 5 → stAt I' b s → paAt I' x (plB s k) → WP Γ r MX0_prepare Φ 47 [some (.ref (x + 51)), some (.ref b), some (.int k), some (.int (nI s.2.2.2.1.length))] [] (wI σ I')) → WP Γ r MX0_prepare Φ 7 [some (.ref (x + 51)), some (.ref b), some (.int k), some (.int (nI i))] [] (wI σ I) := by
  subst hr
  intro n
  induction n with
  | zero =>
    intro i I hi h hp H
    have hc : I (b + 13) 0 = nI s.2.2.2.1.length := h.2.2.2.1.1
    have hil : i = s.2.2.2.1.length := by omega
    refine WP.iload_n (pc := 7) dX0_prepare_7 rfl ?_
    refine WP.aload_n (pc := 8) dX0_prepare_8 rfl ?_
    refine WP.gR (pc := 9) uX5 fX0_28 hs.t0 hs.r0_3 dX0_prepare_9 ?_
    refine WP.gIv (pc := 12) (v := (nI s.2.2.2.1.length)) uX2 fX0_34 hs.t13 (by simp [up_eq, hc]) dX0_prepare_12 ?_
    refine WP.icmp_ge (pc := 15) (tgt := 47) dX0_prepare_15 (by decide) (fun h1 => ?_) (fun h1 => ?_)
    · rw [hil] at hp ⊢
      exact H I fr.rf h hp
    · exact absurd (by rw [hil]; exact Int32.le_refl _) h1
  | succ n ih =>
    intro i I hi h hp H
    have hc : I (b + 13) 0 = nI s.2.2.2.1.length := h.2.2.2.1.1
    have hl10 : s.2.2.2.1.length ≤ 10 := h.2.2.2.1.2.1
    obtain ⟨e, he⟩ : ∃ e, s.2.2.2.1[i]? = some e := ⟨s.2.2.2.1[i]'(by omega), List.getElem?_eq_getElem (by omega)⟩
    obtain ⟨b1, b2, b3, b4, b5, b6, b7⟩ := h.2.2.2.1.2.2 i e he
    have he1 := hok e (List.mem_of_getElem? he)
    obtain ⟨n1, n2, n3⟩ := bdI_nat he1 k
    refine WP.iload_n (pc := 7) dX0_prepare_7 rfl ?_
    refine WP.aload_n (pc := 8) dX0_prepare_8 rfl ?_
    refine WP.gR (pc := 9) uX5 fX0_28 hs.t0 hs.r0_3 dX0_prepare_9 ?_
    refine WP.gIv (pc := 12) (v := (nI s.2.2.2.1.length)) uX2 fX0_34 hs.t13 (by simp [up_eq, hc]) dX0_prepare_12 ?_
    refine WP.icmp_ge (pc := 15) (tgt := 47) dX0_prepare_15 (by decide) (fun h1 => ?_) (fun h1 => ?_)
    · exact absurd h1 (nI_ge (by omega) (by omega))
    · refine WP.aload_n (pc := 18) dX0_prepare_18 rfl ?_
      refine WP.iload_n (pc := 19) dX0_prepare_19 rfl ?_
      refine WP.aload_n (pc := 20) dX0_prepare_20 rfl ?_
      refine WP.gR (pc := 21) uX5 fX0_28 hs.t0 hs.r0_3 dX0_prepare_21 ?_
      refine WP.gR (pc := 24) uX2 fX0_39 hs.t13 hs.r13_6 dX0_prepare_24 ?_
      refine WP.iload_n (pc := 27) dX0_prepare_27 rfl ?_
      refine WP.iald (pc := 28) hs.t18 (by omega) (by decide) dX0_prepare_28 ?_
      rw [b5]
      refine WP.aload_n (pc := 29) dX0_prepare_29 rfl ?_
      refine WP.gR (pc := 30) uX5 fX0_28 hs.t0 hs.r0_3 dX0_prepare_30 ?_
      refine WP.iload_n (pc := 33) dX0_prepare_33 rfl ?_
      refine WP.iload_n (pc := 34) dX0_prepare_34 rfl ?_
      refine WP.cV1 (pc := 35) (mc2 := 0) (ms2 := 0) (ci := 2) kX0_42 (CX2_bidsOf Γ hs k he (Int32.lt_of_lt_of_le (by decide) he1.1) h.2.2.2.1) (by decide) rfl hs.t13 rfl ⟨Nat.le_of_ble_eq_true rfl, Nat.le_of_ble_eq_true rfl⟩ (Nat.le_of_ble_eq_true rfl) (Nat.le_of_ble_eq_true rfl) (Nat.le_of_ble_eq_true rfl) rfl dX0_prepare_35 ?_
      rw [n1]
      refine WP.cVw (pc := 38) (mc2 := 0) (ms2 := 0) (ci := 0) kX0_46 (CX0_insertBids Γ hx (l := bdF s.2.2.2.1 k i) (by have := bdF_len hok i (k := k); omega) (bdF_srt _ _ _) hp) (by decide) rfl hx.t51 rfl ⟨Nat.le_of_ble_eq_true rfl, Nat.le_of_ble_eq_true rfl⟩ (Nat.le_of_ble_eq_true rfl) (Nat.le_of_ble_eq_true rfl) (Nat.le_of_ble_eq_true rfl) rfl dX0_prepare_38 (fun I1 ⟨f1, g1⟩ => ?_)
      refine WP.iinc (pc := 41) dX0_prepare_41 rfl (nI_1 _) (by decide) rfl ?_
      refine WP.goto (pc := 44) (tgt := 7) dX0_prepare_44 (by decide) ?_
      refine ih (i + 1) I1 (by omega) (h.kp f1 (by omega)) (by simp only [bdF, he]; exact g1) (fun I' q0 q1 q2 => H I' (fr.trans (f1.mono (by omega) (by omega)) q0) q1 q2)
theorem LX0_prepB (hx : shX σ x) (hs : shS σ b) (hd : b + 25 ≤ x + 51) {r : cRm} (hr : r = (2, 45, 0, 0)) {Φ : cRes → cAS → Prop} (s : mS) (k : Int32) : ∀ n i (I : Nat → Nat → Int32), i + n = s.2.2.1.length → stAt I b s → plAt I x (lvF s.1 s.2.2.1 k i) → (∀ I', fr I I' (x + 51) 5 → stAt I' b s → I' (x + 51) 0 = I (x + 51) 0 → I' (x + 52) = I (x + 52) → I' (x + 53) = I (x + 53) → plAt I' x (plL s k) → WP Γ r MX0_prepare Φ 127 [some (.ref (x + 51)), some (.ref b), some (.int k), some (.int (nI s.2.2.1.length))] [] (wI σ I')) → WP Γ r MX0_prepare Φ 54 [some (.ref (x + 51)), some (.ref b), some (.int k), some (.int (nI i))] [] (wI σ I) := by
  subst hr
  intro n
  induction n with
  | zero =>
    intro i I hi h hp H
    have hc : I (b + 9) 0 = nI s.2.2.1.length := h.2.2.1.1
    have hil : i = s.2.2.1.length := by omega
    refine WP.iload_n (pc := 54) dX0_prepare_54 rfl ?_
    refine WP.aload_n (pc := 55) dX0_prepare_55 rfl ?_
    refine WP.gR (pc := 56) uX5 fX0_53 hs.t0 hs.r0_2 dX0_prepare_56 ?_
    refine WP.gIv (pc := 59) (v := (nI s.2.2.1.length)) uX6 fX0_57 hs.t9 (by simp [up_eq, hc]) dX0_prepare_59 ?_
    refine WP.icmp_ge (pc := 62) (tgt := 127) dX0_prepare_62 (by decide) (fun h1 => ?_) (fun h1 => ?_)
    · rw [hil] at hp ⊢
      exact H I fr.rf h rfl rfl rfl hp
    · exact absurd (by rw [hil]; exact Int32.le_refl _) h1
  | succ n ih =>
    intro i I hi h hp H
    have hc : I (b + 9) 0 = nI s.2.2.1.length := h.2.2.1.1
    have hl60 : s.2.2.1.length ≤ 60 := h.2.2.1.2.1
    have hll := lvF_len (z := s.1) (l := s.2.2.1) (k := k) i
    obtain ⟨e, he⟩ : ∃ e, s.2.2.1[i]? = some e := ⟨s.2.2.1[i]'(by omega), List.getElem?_eq_getElem (by omega)⟩
    obtain ⟨b1, b2, b3⟩ := h.2.2.1.2.2 i e he
    have hn3 : I (x + 51) 3 = nI (lvF s.1 s.2.2.1 k i).length := hp.1
    refine WP.iload_n (pc := 54) dX0_prepare_54 rfl ?_
    refine WP.aload_n (pc := 55) dX0_prepare_55 rfl ?_
    refine WP.gR (pc := 56) uX5 fX0_53 hs.t0 hs.r0_2 dX0_prepare_56 ?_
    refine WP.gIv (pc := 59) (v := (nI s.2.2.1.length)) uX6 fX0_57 hs.t9 (by simp [up_eq, hc]) dX0_prepare_59 ?_
    refine WP.icmp_ge (pc := 62) (tgt := 127) dX0_prepare_62 (by decide) (fun h1 => ?_) (fun h1 => ?_)
    · exact absurd h1 (nI_ge (by omega) (by omega))
    · refine WP.aload_n (pc := 65) dX0_prepare_65 rfl ?_
      refine WP.gIv (pc := 66) (v := (nI (lvF s.1 s.2.2.1 k i).length)) uX0 fX0_50 hx.t51 (by simp [up_eq, hn3]) dX0_prepare_66 ?_
      refine WP.bipush (pc := 69) (v := 60) dX0_prepare_69 (by decide) ?_
      refine WP.icmp_ge (pc := 71) (tgt := 127) dX0_prepare_71 (by decide) (fun h2 => ?_) (fun h2 => ?_)
      · exact absurd h2 (nI_ge (b := 60) (by omega) (by omega))
      · refine WP.aload_n (pc := 74) dX0_prepare_74 rfl ?_
        refine WP.gR (pc := 75) uX5 fX0_53 hs.t0 hs.r0_2 dX0_prepare_75 ?_
        refine WP.gR (pc := 78) uX6 fX0_60 hs.t9 hs.r9_1 dX0_prepare_78 ?_
        refine WP.iload_n (pc := 81) dX0_prepare_81 rfl ?_
        refine WP.iald (pc := 82) hs.t10 (by omega) (by decide) dX0_prepare_82 ?_
        rw [b1]
        refine WP.iload_n (pc := 83) dX0_prepare_83 rfl ?_
        refine WP.icmp_ne (pc := 84) (tgt := 121) dX0_prepare_84 (by decide) (fun h3 => ?_) (fun h3 => ?_)
        · refine WP.iinc (pc := 121) dX0_prepare_121 rfl (nI_1 _) (by decide) rfl ?_
          refine WP.goto (pc := 124) (tgt := 54) dX0_prepare_124 (by decide) ?_
          refine ih (i + 1) I (by omega) h (by simp only [lvF, he]; rw [if_neg h3]; exact hp) H
        · refine WP.aload_n (pc := 87) dX0_prepare_87 rfl ?_
          refine WP.gR (pc := 88) uX0 fX0_18 hx.t51 hx.r51_4 dX0_prepare_88 ?_
          refine WP.aload_n (pc := 91) dX0_prepare_91 rfl ?_
          refine WP.gIv (pc := 92) (v := (nI (lvF s.1 s.2.2.1 k i).length)) uX0 fX0_50 hx.t51 (by simp [up_eq, hn3]) dX0_prepare_92 ?_
          refine WP.iload_n (pc := 95) dX0_prepare_95 rfl ?_
          refine WP.iast (pc := 96) hx.t54 (by omega) (by decide) dX0_prepare_96 ?_
          have hs1 : stAt (up I (x + 54) (lvF s.1 s.2.2.1 k i).length (nI i)) b s := h.kp fr_up1 (by omega)
          refine WP.aload_n (pc := 97) dX0_prepare_97 rfl ?_
          refine WP.gR (pc := 98) uX0 fX0_21 hx.t51 hx.r51_5 dX0_prepare_98 ?_
          refine WP.aload_n (pc := 101) dX0_prepare_101 rfl ?_
          refine WP.gIv (pc := 102) (v := (nI (lvF s.1 s.2.2.1 k i).length)) uX0 fX0_50 hx.t51 (by simp [up_eq, hn3]) dX0_prepare_102 ?_
          refine WP.aload_n (pc := 105) dX0_prepare_105 rfl ?_
          refine WP.iload_n (pc := 106) dX0_prepare_106 rfl ?_
          refine WP.cV1 (pc := 107) (mc2 := 0) (ms2 := 0) (ci := 5) kX0_63 (CX5_reserveOf Γ hs hs1 he) (by decide) rfl hs.t0 rfl ⟨Nat.le_of_ble_eq_true rfl, Nat.le_of_ble_eq_true rfl⟩ (Nat.le_of_ble_eq_true rfl) (Nat.le_of_ble_eq_true rfl) (Nat.le_of_ble_eq_true rfl) rfl dX0_prepare_107 ?_
          refine WP.iast (pc := 110) hx.t55 (by omega) (by decide) dX0_prepare_110 ?_
          refine WP.aload_n (pc := 111) dX0_prepare_111 rfl ?_
          refine WP.dup (pc := 112) dX0_prepare_112 rfl ?_
          refine WP.gIv (pc := 113) (v := (nI (lvF s.1 s.2.2.1 k i).length)) uX0 fX0_50 hx.t51 (by simp [up_eq, hn3]) dX0_prepare_113 ?_
          refine WP.iconst (pc := 116) (v := 1) dX0_prepare_116 (by decide) ?_
          refine WP.iadd (pc := 117) dX0_prepare_117 ?_
          rw [nI_1]
          refine WP.pI (pc := 118) uX0 fX0_50 rfl rfl hx.t51 dX0_prepare_118 ?_
          refine WP.iinc (pc := 121) dX0_prepare_121 rfl (nI_1 _) (by decide) rfl ?_
          refine WP.goto (pc := 124) (tgt := 54) dX0_prepare_124 (by decide) ?_
          have fF := (((fr.rf (I := I) (lo := x + 51) (n := 5)).up (a := x + 54) (k := (lvF s.1 s.2.2.1 k i).length) (x := nI i) (by omega) (by omega)).up (a := x + 55) (k := (lvF s.1 s.2.2.1 k i).length) (x := rsE s.1 e) (by omega) (by omega)).up (a := x + 51) (k := 3) (x := nI ((lvF s.1 s.2.2.1 k i).length + 1)) (by omega) (by omega)
          refine ih (i + 1) _ (by omega) (h.kp fF (by omega)) ?_ (fun I' q0 q1 q2 q3 q4 q5 => H I' (fF.trans q0) q1 (by rw [q2]; simp [up_eq]) (by rw [q3]; funext j; simp [up_eq]) (by rw [q4]; funext j; simp [up_eq]) q5)
          simp only [lvF, he]
          rw [if_pos h3]
          refine ⟨by simp [up_eq], by simp; omega, fun j y hy => ?_⟩
          rcases gE_app hy with ⟨z1, z2⟩ | ⟨z1, rfl⟩
          · obtain ⟨a1, a2⟩ := hp.2.2 j y z2
            have : j ≠ (lvF s.1 s.2.2.1 k i).length := by omega
            simp [up_eq, this, a1, a2]
          · simp [up_eq, z1]
theorem LX0_prepC (hx : shX σ x) {r : cRm} (hr : r = (2, 45, 0, 0)) {Φ : cRes → cAS → Prop} {b : Nat} {k y : Int32} (bs ls : List mBd) : ∀ n t (I : Nat → Nat → Int32), t + n = bs.length → trN bs ls = t + trN (bs.drop t) (ls.drop t) → paAt I x bs → plAt I x ls → I (x + 51) 6 = nI t → (∀ I', fr I I' (x + 51) 5 → paAt I' x bs → plAt I' x ls → I' (x + 51) 6 = nI (trN bs ls) → WP Γ r MX0_prepare Φ 188 [some (.ref (x + 51)), some (.ref b), some (.int k), some (.int y)] [] (wI σ I')) → WP Γ r MX0_prepare Φ 132 [some (.ref (x + 51)), some (.ref b), some (.int k), some (.int y)] [] (wI σ I) := by
  subst hr
  intro n
  induction n with
  | zero =>
    intro t I ht htr hb hl h6 H
    have htb : t = bs.length := by omega
    have e0 : trN bs ls = t := by
      rw [htr, List.drop_eq_nil_of_le (by omega)]
      simp [trN]
    have hn0 := hb.1
    refine WP.aload_n (pc := 132) dX0_prepare_132 rfl ?_
    refine WP.gIv (pc := 133) (v := (nI t)) uX0 fX0_67 hx.t51 (by simp [up_eq, h6]) dX0_prepare_133 ?_
    refine WP.aload_n (pc := 136) dX0_prepare_136 rfl ?_
    refine WP.gIv (pc := 137) (v := (nI bs.length)) uX0 fX0_24 hx.t51 (by simp [up_eq, hn0]) dX0_prepare_137 ?_
    refine WP.icmp_ge (pc := 140) (tgt := 188) dX0_prepare_140 (by decide) (fun h1 => ?_) (fun h1 => ?_)
    · exact H I fr.rf hb hl (by rw [h6, e0])
    · exact absurd (by rw [htb]; exact Int32.le_refl _) h1
  | succ n ih =>
    intro t I ht htr hb hl h6 H
    have hb90 := hb.2.1
    have hl60 := hl.2.1
    have hn0 := hb.1
    have hn3 := hl.1
    obtain ⟨p, hp⟩ : ∃ e, bs[t]? = some e := ⟨bs[t]'(by omega), List.getElem?_eq_getElem (by omega)⟩
    have edb : bs.drop t = p :: bs.drop (t + 1) := by
      obtain ⟨hi, he⟩ := List.getElem?_eq_some_iff.mp hp
      rw [List.drop_eq_getElem_cons hi, he]
    obtain ⟨p1, p2⟩ := hb.2.2 t p hp
    refine WP.aload_n (pc := 132) dX0_prepare_132 rfl ?_
    refine WP.gIv (pc := 133) (v := (nI t)) uX0 fX0_67 hx.t51 (by simp [up_eq, h6]) dX0_prepare_133 ?_
    refine WP.aload_n (pc := 136) dX0_prepare_136 rfl ?_
    refine WP.gIv (pc := 137) (v := (nI bs.length)) uX0 fX0_24 hx.t51 (by simp [up_eq, hn0]) dX0_prepare_137 ?_
    refine WP.icmp_ge (pc := 140) (tgt := 188) dX0_prepare_140 (by decide) (fun h1 => ?_) (fun h1 => ?_)
    · exact absurd h1 (nI_ge (by omega) (by omega))
    · refine WP.aload_n (pc := 143) dX0_prepare_143 rfl ?_
      refine WP.gIv (pc := 144) (v := (nI t)) uX0 fX0_67 hx.t51 (by simp [up_eq, h6]) dX0_prepare_144 ?_
      refine WP.aload_n (pc := 147) dX0_prepare_147 rfl ?_
      refine WP.gIv (pc := 148) (v := (nI ls.length)) uX0 fX0_50 hx.t51 (by simp [up_eq, hn3]) dX0_prepare_148 ?_
      rcases Nat.lt_or_ge t ls.length with hq | hq
      · obtain ⟨q, hq1⟩ : ∃ e, ls[t]? = some e := ⟨ls[t]'(by omega), List.getElem?_eq_getElem (by omega)⟩
        have edl : ls.drop t = q :: ls.drop (t + 1) := by
          obtain ⟨hi, he⟩ := List.getElem?_eq_some_iff.mp hq1
          rw [List.drop_eq_getElem_cons hi, he]
        obtain ⟨q1, q2⟩ := hl.2.2 t q hq1
        refine WP.icmp_ge (pc := 151) (tgt := 188) dX0_prepare_151 (by decide) (fun h2 => ?_) (fun h2 => ?_)
        · exact absurd h2 (nI_ge (by omega) (by omega))
        · refine WP.aload_n (pc := 154) dX0_prepare_154 rfl ?_
          refine WP.gR (pc := 155) uX0 fX0_15 hx.t51 hx.r51_2 dX0_prepare_155 ?_
          refine WP.aload_n (pc := 158) dX0_prepare_158 rfl ?_
          refine WP.gIv (pc := 159) (v := (nI t)) uX0 fX0_67 hx.t51 (by simp [up_eq, h6]) dX0_prepare_159 ?_
          refine WP.iald (pc := 162) hx.t53 (by omega) (by decide) dX0_prepare_162 ?_
          rw [p2]
          refine WP.aload_n (pc := 163) dX0_prepare_163 rfl ?_
          refine WP.gR (pc := 164) uX0 fX0_21 hx.t51 hx.r51_5 dX0_prepare_164 ?_
          refine WP.aload_n (pc := 167) dX0_prepare_167 rfl ?_
          refine WP.gIv (pc := 168) (v := (nI t)) uX0 fX0_67 hx.t51 (by simp [up_eq, h6]) dX0_prepare_168 ?_
          refine WP.iald (pc := 171) hx.t55 (by omega) (by decide) dX0_prepare_171 ?_
          rw [q2]
          refine WP.icmp_lt (pc := 172) (tgt := 188) dX0_prepare_172 (by decide) (fun h3 => ?_) (fun h3 => ?_)
          · refine H I fr.rf hb hl ?_
            rw [h6, htr, edb, edl]
            simp [trN, Int32.not_le.mpr h3]
          · refine WP.aload_n (pc := 175) dX0_prepare_175 rfl ?_
            refine WP.dup (pc := 176) dX0_prepare_176 rfl ?_
            refine WP.gIv (pc := 177) (v := (nI t)) uX0 fX0_67 hx.t51 (by simp [up_eq, h6]) dX0_prepare_177 ?_
            refine WP.iconst (pc := 180) (v := 1) dX0_prepare_180 (by decide) ?_
            refine WP.iadd (pc := 181) dX0_prepare_181 ?_
            rw [nI_1]
            refine WP.pI (pc := 182) uX0 fX0_67 rfl rfl hx.t51 dX0_prepare_182 ?_
            refine WP.goto (pc := 185) (tgt := 132) dX0_prepare_185 (by decide) ?_
            have fF := (fr.rf (I := I) (lo := x + 51) (n := 5)).up (a := x + 51) (k := 6) (x := nI (t + 1)) (by omega) (by omega)
            refine ih (t + 1) _ (by omega) ?_ ⟨by simp [up_eq, hn0], hb90, fun j y hy => by simp [up_eq, hb.2.2 j y hy]⟩ ⟨by simp [up_eq, hn3], hl60, fun j y hy => by simp [up_eq, hl.2.2 j y hy]⟩ (by simp [up_eq]) (fun I' w0 w1 w2 w3 => H I' (fF.trans w0) w1 w2 w3)
            rw [htr, edb, edl]
            simp only [trN]
            rw [if_pos (Int32.not_lt.mp h3)]
            omega
      · refine WP.icmp_ge (pc := 151) (tgt := 188) dX0_prepare_151 (by decide) (fun h2 => ?_) (fun h2 => ?_)
        · refine H I fr.rf hb hl ?_
          rw [h6, htr, edb, List.drop_eq_nil_of_le hq]
          rfl
        · exact absurd (nI_le (by omega) (by omega)) h2
theorem CX0_priceOfTrades (hx : shX σ x) {I : Nat → Nat → Int32} (bs ls : List mBd) {T : Nat} (hT : T = trN bs ls) (h0 : 0 < T) (hb : paAt I x bs) (hl : plAt I x ls) (h6 : I (x + 51) 6 = nI T) : Ctr Γ (0, 0, 0, 0) MX0_priceOfTrades [.ref (x + 51)] (wI σ I) (rV (some (.int (prN bs ls T))) (wI σ I)) := by
  refine Ctr.go rfl (by decide) rfl rfl ?_
  have ⟨t1, t2⟩ := trN_le bs ls
  have hb90 := hb.2.1
  have hl60 := hl.2.1
  have hn0 := hb.1
  have hn3 := hl.1
  obtain ⟨q, hq1⟩ : ∃ e, ls[T - 1]? = some e := ⟨ls[T - 1]'(by omega), List.getElem?_eq_getElem (by omega)⟩
  obtain ⟨q1, q2⟩ := hl.2.2 (T - 1) q hq1
  obtain ⟨m, rfl⟩ : ∃ m, T = m + 1 := ⟨T - 1, by omega⟩
  have eT : m + 1 - 1 = m := rfl
  rw [eT] at q1 q2 hq1
  have hH : prH ls (m + 1) = if 1 < q.2 then q.2 else 1 := by unfold prH; rw [eT, hq1]
  have tail : ∀ (v : Int32), v = prH ls (m + 1) → WP Γ (0, 0, 0, 0) MX0_priceOfTrades (rV (some (.int (prN bs ls (m + 1)))) (wI σ I)) 47 [some (.ref (x + 51)), some (.int v)] [] (wI σ I) := by
    intro v hv
    refine WP.aload_n (pc := 47) dX0_priceOfTrades_47 rfl ?_
    refine WP.gIv (pc := 48) (v := (nI (m + 1))) uX0 fX0_67 hx.t51 (by simp [up_eq, h6]) dX0_priceOfTrades_48 ?_
    refine WP.aload_n (pc := 51) dX0_priceOfTrades_51 rfl ?_
    refine WP.gIv (pc := 52) (v := (nI bs.length)) uX0 fX0_24 hx.t51 (by simp [up_eq, hn0]) dX0_priceOfTrades_52 ?_
    rcases Nat.lt_or_ge (m + 1) bs.length with w | w
    · obtain ⟨p, hp⟩ : ∃ e, bs[m + 1]? = some e := ⟨bs[m + 1]'(by omega), List.getElem?_eq_getElem (by omega)⟩
      obtain ⟨p1, p2⟩ := hb.2.2 (m + 1) p hp
      have eP : prN bs ls (m + 1) = if prH ls (m + 1) < p.2 then p.2 else prH ls (m + 1) := by unfold prN; rw [if_neg (by omega), hp]
      refine WP.icmp_ge (pc := 55) (tgt := 81) dX0_priceOfTrades_55 (by decide) (fun h1 => ?_) (fun h1 => ?_)
      · exact absurd h1 (nI_ge (by omega) (by omega))
      · refine WP.aload_n (pc := 58) dX0_priceOfTrades_58 rfl ?_
        refine WP.gR (pc := 59) uX0 fX0_15 hx.t51 hx.r51_2 dX0_priceOfTrades_59 ?_
        refine WP.aload_n (pc := 62) dX0_priceOfTrades_62 rfl ?_
        refine WP.gIv (pc := 63) (v := (nI (m + 1))) uX0 fX0_67 hx.t51 (by simp [up_eq, h6]) dX0_priceOfTrades_63 ?_
        refine WP.iald (pc := 66) hx.t53 (by omega) (by decide) dX0_priceOfTrades_66 ?_
        rw [p2]
        refine WP.iload_n (pc := 67) dX0_priceOfTrades_67 rfl ?_
        refine WP.icmp_le (pc := 68) (tgt := 81) dX0_priceOfTrades_68 (by decide) (fun h2 => ?_) (fun h2 => ?_)
        · refine WP.iload_n (pc := 81) dX0_priceOfTrades_81 rfl ?_
          refine WP.iret (pc := 82) rfl dX0_priceOfTrades_82 ?_
          refine ⟨?_, rfl⟩
          rw [eP, ← hv, if_neg (Int32.not_lt.mpr h2)]
        · refine WP.aload_n (pc := 71) dX0_priceOfTrades_71 rfl ?_
          refine WP.gR (pc := 72) uX0 fX0_15 hx.t51 hx.r51_2 dX0_priceOfTrades_72 ?_
          refine WP.aload_n (pc := 75) dX0_priceOfTrades_75 rfl ?_
          refine WP.gIv (pc := 76) (v := (nI (m + 1))) uX0 fX0_67 hx.t51 (by simp [up_eq, h6]) dX0_priceOfTrades_76 ?_
          refine WP.iald (pc := 79) hx.t53 (by omega) (by decide) dX0_priceOfTrades_79 ?_
          rw [p2]
          refine WP.istore_n (pc := 80) dX0_priceOfTrades_80 (by decide) rfl ?_
          refine WP.iload_n (pc := 81) dX0_priceOfTrades_81 rfl ?_
          refine WP.iret (pc := 82) rfl dX0_priceOfTrades_82 ?_
          refine ⟨?_, rfl⟩
          rw [eP, ← hv, if_pos (Int32.not_le.mp h2)]
    · refine WP.icmp_ge (pc := 55) (tgt := 81) dX0_priceOfTrades_55 (by decide) (fun h1 => ?_) (fun h1 => ?_)
      · refine WP.iload_n (pc := 81) dX0_priceOfTrades_81 rfl ?_
        refine WP.iret (pc := 82) rfl dX0_priceOfTrades_82 ?_
        refine ⟨?_, rfl⟩
        have eP : prN bs ls (m + 1) = prH ls (m + 1) := by unfold prN; rw [if_neg (by omega), List.getElem?_eq_none w]
        rw [eP, hv]
      · exact absurd (nI_le w (by omega)) h1
  refine WP.iconst (pc := 0) (v := 1) dX0_priceOfTrades_0 (by decide) ?_
  refine WP.istore_n (pc := 1) dX0_priceOfTrades_1 (by decide) rfl ?_
  refine WP.aload_n (pc := 2) dX0_priceOfTrades_2 rfl ?_
  refine WP.gIv (pc := 3) (v := (nI (m + 1))) uX0 fX0_67 hx.t51 (by simp [up_eq, h6]) dX0_priceOfTrades_3 ?_
  refine WP.if_le (pc := 6) (tgt := 47) dX0_priceOfTrades_6 (by decide) (fun h1 => ?_) (fun h1 => ?_)
  · exact absurd h1 (nI_nle (by omega) (by omega))
  · refine WP.aload_n (pc := 9) dX0_priceOfTrades_9 rfl ?_
    refine WP.gIv (pc := 10) (v := (nI (m + 1))) uX0 fX0_67 hx.t51 (by simp [up_eq, h6]) dX0_priceOfTrades_10 ?_
    refine WP.aload_n (pc := 13) dX0_priceOfTrades_13 rfl ?_
    refine WP.gIv (pc := 14) (v := (nI ls.length)) uX0 fX0_50 hx.t51 (by simp [up_eq, hn3]) dX0_priceOfTrades_14 ?_
    refine WP.icmp_gt (pc := 17) (tgt := 47) dX0_priceOfTrades_17 (by decide) (fun h2 => ?_) (fun h2 => ?_)
    · exact absurd (nI_lt (b := m + 1) (a := m) (by omega) (by omega)) (fun _ => by have := nI_le (a := m + 1) (b := ls.length) (by omega) (by omega); exact Int32.not_le.mpr h2 this)
    · refine WP.aload_n (pc := 20) dX0_priceOfTrades_20 rfl ?_
      refine WP.gR (pc := 21) uX0 fX0_21 hx.t51 hx.r51_5 dX0_priceOfTrades_21 ?_
      refine WP.aload_n (pc := 24) dX0_priceOfTrades_24 rfl ?_
      refine WP.gIv (pc := 25) (v := (nI (m + 1))) uX0 fX0_67 hx.t51 (by simp [up_eq, h6]) dX0_priceOfTrades_25 ?_
      refine WP.iconst (pc := 28) (v := 1) dX0_priceOfTrades_28 (by decide) ?_
      refine WP.isub (pc := 29) dX0_priceOfTrades_29 ?_
      rw [nI_pred]
      refine WP.iald (pc := 30) hx.t55 (by omega) (by decide) dX0_priceOfTrades_30 ?_
      rw [q2]
      refine WP.iload_n (pc := 31) dX0_priceOfTrades_31 rfl ?_
      refine WP.icmp_le (pc := 32) (tgt := 47) dX0_priceOfTrades_32 (by decide) (fun h3 => ?_) (fun h3 => ?_)
      · exact tail 1 (by rw [hH, if_neg (Int32.not_lt.mpr h3)])
      · refine WP.aload_n (pc := 35) dX0_priceOfTrades_35 rfl ?_
        refine WP.gR (pc := 36) uX0 fX0_21 hx.t51 hx.r51_5 dX0_priceOfTrades_36 ?_
        refine WP.aload_n (pc := 39) dX0_priceOfTrades_39 rfl ?_
        refine WP.gIv (pc := 40) (v := (nI (m + 1))) uX0 fX0_67 hx.t51 (by simp [up_eq, h6]) dX0_priceOfTrades_40 ?_
        refine WP.iconst (pc := 43) (v := 1) dX0_priceOfTrades_43 (by decide) ?_
        refine WP.isub (pc := 44) dX0_priceOfTrades_44 ?_
        rw [nI_pred]
        refine WP.iald (pc := 45) hx.t55 (by omega) (by decide) dX0_priceOfTrades_45 ?_
        rw [q2]
        refine WP.istore_n (pc := 46) dX0_priceOfTrades_46 (by decide) rfl ?_
        exact tail q.2 (by rw [hH, if_pos (Int32.not_le.mp h3)])
theorem CX0_prepare (hx : shX σ x) (hs : shS σ b) (hd : b + 25 ≤ x + 51) {I : Nat → Nat → Int32} {s : mS} (h : stAt I b s) (k : Int32) (hok : ∀ e ∈ s.2.2.2.1, cuOk e) : Ctr Γ (2, 45, 0, 0) MX0_prepare [.ref (x + 51), .ref b, .int k] (wI σ I) (rW σ (fun I' => fr I I' (x + 51) 5 ∧ stAt I' b s ∧ auAt I' x s k)) := by
  refine Ctr.go rfl (by decide) rfl rfl ?_
  refine WP.aload_n (pc := 0) dX0_prepare_0 rfl ?_
  refine WP.iconst (pc := 1) (v := 0) dX0_prepare_1 (by decide) ?_
  refine WP.pI (pc := 2) uX0 fX0_24 rfl rfl hx.t51 dX0_prepare_2 ?_
  refine WP.iconst (pc := 5) (v := 0) dX0_prepare_5 (by decide) ?_
  refine WP.istore_n (pc := 6) dX0_prepare_6 (by decide) rfl ?_
  have f0 : fr I (up I (x + 51) 0 (nI 0)) (x + 51) 5 := fr_up1.mono (by omega) (by omega)
  refine LX0_prepA Γ hx hs hd rfl s k hok s.2.2.2.1.length 0 (up I (x + 51) 0 (nI 0)) (by omega) (h.kp f0 (by omega)) ⟨by simp [up_eq]; rfl, by simp [bdF], fun j y hy => by simp [bdF] at hy⟩ (fun I1 f1 s1 g1 => ?_)
  refine WP.aload_n (pc := 47) dX0_prepare_47 rfl ?_
  refine WP.iconst (pc := 48) (v := 0) dX0_prepare_48 (by decide) ?_
  refine WP.pI (pc := 49) uX0 fX0_50 rfl rfl hx.t51 dX0_prepare_49 ?_
  refine WP.iconst (pc := 52) (v := 0) dX0_prepare_52 (by decide) ?_
  refine WP.istore_n (pc := 53) dX0_prepare_53 (by decide) rfl ?_
  have f2 : fr I1 (up I1 (x + 51) 3 (nI 0)) (x + 51) 5 := fr_up1.mono (by omega) (by omega)
  refine LX0_prepB Γ hx hs hd rfl s k s.2.2.1.length 0 (up I1 (x + 51) 3 (nI 0)) (by omega) (s1.kp f2 (by omega)) ⟨by simp [up_eq]; rfl, by simp [lvF], fun j y hy => by simp [lvF] at hy⟩ (fun I2 f3 s2 c0 c1 c2 g2 => ?_)
  refine WP.aload_n (pc := 127) dX0_prepare_127 rfl ?_
  refine WP.iconst (pc := 128) (v := 0) dX0_prepare_128 (by decide) ?_
  refine WP.pI (pc := 129) uX0 fX0_67 rfl rfl hx.t51 dX0_prepare_129 ?_
  have f4 : fr I2 (up I2 (x + 51) 6 (nI 0)) (x + 51) 5 := fr_up1.mono (by omega) (by omega)
  have gb : paAt I2 x (plB s k) := by
    unfold paAt
    rw [c0, c1, c2]
    refine ⟨by simp [up_eq, g1.1], g1.2.1, fun j y hy => ?_⟩
    obtain ⟨a1, a2⟩ := g1.2.2 j y hy
    simp [up_eq, a1, a2]
  refine LX0_prepC Γ hx rfl (plB s k) (plL s k) (plB s k).length 0 (up I2 (x + 51) 6 (nI 0)) (by omega) (by simp) ⟨by simp [up_eq, gb.1], gb.2.1, fun j y hy => by simp [up_eq, gb.2.2 j y hy]⟩ ⟨by simp [up_eq, g2.1], g2.2.1, fun j y hy => by simp [up_eq, g2.2.2 j y hy]⟩ (by simp [up_eq]) (fun I3 f5 b5 l5 t5 => ?_)
  have fA := (((f0.trans f1).trans (f2.trans f3)).trans (f4.trans f5))
  have sA := h.kp fA (by omega)
  have ⟨t1, t2⟩ := trN_le (plB s k) (plL s k)
  have hb90 := b5.2.1
  have fin : ∀ v, v = plP s k → rW σ (fun I' => fr I I' (x + 51) 5 ∧ stAt I' b s ∧ auAt I' x s k) (.inl none) (wI σ (up I3 (x + 51) 7 v)) := by
    intro v hv
    have f9 : fr I3 (up I3 (x + 51) 7 v) (x + 51) 5 := fr_up1.mono (by omega) (by omega)
    refine ⟨rfl, _, rfl, fA.trans f9, sA.kp f9 (by omega), ⟨by simp [up_eq, b5.1], b5.2.1, fun j y hy => by simp [up_eq, b5.2.2 j y hy]⟩, ⟨by simp [up_eq, l5.1], l5.2.1, fun j y hy => by simp [up_eq, l5.2.2 j y hy]⟩, by simp [up_eq, t5]; rfl, by simp [up_eq, hv]⟩
  have t5 : I3 (x + 51) 6 = nI (plT s k) := t5
  refine WP.aload_n (pc := 188) dX0_prepare_188 rfl ?_
  refine WP.aload_n (pc := 189) dX0_prepare_189 rfl ?_
  refine WP.gIv (pc := 190) (v := (nI (plT s k))) uX0 fX0_67 hx.t51 (by simp [up_eq, t5]) dX0_prepare_190 ?_
  refine WP.if_ne (pc := 193) (tgt := 200) dX0_prepare_193 (by decide) (fun h1 => ?_) (fun h1 => ?_)
  · refine WP.aload_n (pc := 200) dX0_prepare_200 rfl ?_
    have hne : 0 < plT s k := by
      rcases Nat.eq_zero_or_pos (plT s k) with z | z
      · rw [z] at h1; exact absurd nI_0 h1
      · exact z
    refine WP.cV1 (pc := 201) (mc2 := 0) (ms2 := 0) (ci := 0) kX0_70 (CX0_priceOfTrades Γ hx (plB s k) (plL s k) (T := plT s k) rfl hne b5 l5 t5) (by decide) rfl hx.t51 rfl ⟨Nat.le_of_ble_eq_true rfl, Nat.le_of_ble_eq_true rfl⟩ (Nat.le_of_ble_eq_true rfl) (Nat.le_of_ble_eq_true rfl) (Nat.le_of_ble_eq_true rfl) rfl dX0_prepare_201 ?_
    refine WP.pI (pc := 204) uX0 fX0_74 rfl rfl hx.t51 dX0_prepare_204 ?_
    refine WP.vret (pc := 207) rfl dX0_prepare_207 ?_
    exact fin _ rfl
  · refine WP.iconst (pc := 196) (v := 0) dX0_prepare_196 (by decide) ?_
    refine WP.goto (pc := 197) (tgt := 204) dX0_prepare_197 (by decide) ?_
    refine WP.pI (pc := 204) uX0 fX0_74 rfl rfl hx.t51 dX0_prepare_204 ?_
    refine WP.vret (pc := 207) rfl dX0_prepare_207 ?_
    refine fin _ ?_
  
    have : plT s k = 0 := by
      rcases Nat.eq_zero_or_pos (plT s k) with z | z
      · exact z
      · exact absurd h1 (nI_ne0 z (by unfold plT; omega))
    unfold plP prN
    rw [if_pos this]
end T
