-- behind: 48
-- an auction as it would be now
def fr2 (I I' : Nat → Nat → Int32) (m c j0 : Nat) : Prop := (∀ b, b ≠ m → b ≠ c → I' b = I b) ∧ ∀ j, j ≠ j0 → I' m j = I m j
theorem fr2.rf {I : Nat → Nat → Int32} {m c j0 : Nat} : fr2 I I m c j0 := ⟨fun _ _ _ => rfl, fun _ _ => rfl⟩
theorem fr2.trans {I I' I'' : Nat → Nat → Int32} {m c j0 : Nat} (h : fr2 I I' m c j0) (h' : fr2 I' I'' m c j0) : fr2 I I'' m c j0 := ⟨fun b h1 h2 => (h'.1 b h1 h2).trans (h.1 b h1 h2), fun j hj => (h'.2 j hj).trans (h.2 j hj)⟩
theorem fr2.upM {I I' : Nat → Nat → Int32} {m c j0 : Nat} {v : Int32} (h : fr2 I I' m c j0) : fr2 I (up I' m j0 v) m c j0 := ⟨fun b h1 h2 => (up_ne h1).trans (h.1 b h1 h2), fun j hj => by rw [up_eq, if_neg (fun q => hj q.2)]; exact h.2 j hj⟩
theorem fr2.upR {I I' : Nat → Nat → Int32} {m c j0 k : Nat} {v : Int32} (hc : c ≠ m) (h : fr2 I I' m c j0) : fr2 I (up I' c k v) m c j0 := ⟨fun b h1 h2 => (up_ne h2).trans (h.1 b h1 h2), fun j hj => by rw [up_eq, if_neg (fun q => hc q.1.symm)]; exact h.2 j hj⟩
def pbM (I : Nat → Nat → Int32) (m : Nat) (l : List mBd) : Prop := I m 11 = nI l.length ∧ l.length ≤ 90 ∧ ∀ i y, l[i]? = some y → I (m + 7) i = y.1
def plM (I : Nat → Nat → Int32) (m : Nat) (l : List mBd) : Prop := I m 12 = nI l.length ∧ l.length ≤ 60 ∧ ∀ i y, l[i]? = some y → I (m + 8) i = y.1
theorem pbM.app {I : Nat → Nat → Int32} {m : Nat} {l : List mBd} (h : pbM I m l) (hl : l.length < 90) (y : mBd) : pbM (up (up I (m + 7) l.length y.1) m 11 (nI (l.length + 1))) m (l ++ [y]) := by
  refine ⟨by simp [up_eq], by simp; omega, fun i x hx => ?_⟩
  rcases gE_app hx with ⟨c, q⟩ | ⟨rfl, rfl⟩
  · rw [up_ne (by omega), up_eq, if_neg (by omega)]
    exact h.2.2 i x q
  · rw [up_ne (by omega), up_eq, if_pos ⟨rfl, rfl⟩]
theorem plM.app {I : Nat → Nat → Int32} {m : Nat} {l : List mBd} (h : plM I m l) (hl : l.length < 60) (y : mBd) : plM (up (up I (m + 8) l.length y.1) m 12 (nI (l.length + 1))) m (l ++ [y]) := by
  refine ⟨by simp [up_eq], by simp; omega, fun i x hx => ?_⟩
  rcases gE_app hx with ⟨c, q⟩ | ⟨rfl, rfl⟩
  · rw [up_ne (by omega), up_eq, if_neg (by omega)]
    exact h.2.2 i x q
  · rw [up_ne (by omega), up_eq, if_pos ⟨rfl, rfl⟩]
theorem pbM.fr {I I' : Nat → Nat → Int32} {m c j0 : Nat} {l : List mBd} (h : pbM I m l) (hf : fr2 I I' m c j0) (hc : c ≠ m + 7) (hj : j0 ≠ 11) : pbM I' m l := by
  unfold pbM
  rw [hf.2 11 (fun q => hj q.symm), hf.1 (m + 7) (by omega) (fun q => hc q.symm)]
  exact h
theorem plM.fr {I I' : Nat → Nat → Int32} {m c j0 : Nat} {l : List mBd} (h : plM I m l) (hf : fr2 I I' m c j0) (hc : c ≠ m + 8) (hj : j0 ≠ 12) : plM I' m l := by
  unfold plM
  rw [hf.2 12 (fun q => hj q.symm), hf.1 (m + 8) (by omega) (fun q => hc q.symm)]
  exact h
theorem gbI_mono {l : List mCu} {k v : Int32} {i : Nat} : ∀ n, (gbI l k v i).length ≤ (gbI l k v (i + n)).length := by
  intro n
  induction n with
  | zero => exact Nat.le_refl _
  | succ n ih =>
    refine Nat.le_trans ih ?_
    show _ ≤ (gbI l k v (i + n + 1)).length
    simp only [gbI]
    split
    · split
      · rw [List.length_append]
        omega
      · omega
    · omega
theorem gbT_mono {l : List mCu} {k : Int32} {i t : Nat} : ∀ n, (gbT l k i t).length ≤ (gbT l k i (t + n)).length := by
  intro n
  induction n with
  | zero => exact Nat.le_refl _
  | succ n ih =>
    refine Nat.le_trans ih ?_
    show _ ≤ (gbT l k i (t + n) ++ _).length
    rw [List.length_append]
    omega
theorem gb_cap {l : List mCu} {k : Int32} {T : Nat} (hok : ∀ e ∈ l, okC T e) (hl : l.length ≤ 10) {t i : Nat} (ht : t < 99) (hi : i ≤ l.length) : (gbT l k l.length t ++ gbI l k (nI (99 - t)) i).length ≤ 90 := by
  have h1 := gbI_mono (l := l) (k := k) (v := nI (99 - t)) (i := i) (l.length - i)
  rw [show i + (l.length - i) = l.length by omega] at h1
  have h2 := gbT_mono (l := l) (k := k) (i := l.length) (t := t + 1) (98 - t)
  rw [show t + 1 + (98 - t) = 99 by omega, gbT_bdF hok _ (Nat.le_refl _)] at h2
  have h3 := bdF_len (k := k) (fun e he => (hok e he).cu) l.length
  have h4 : (gbT l k l.length (t + 1)).length = (gbT l k l.length t).length + (gbI l k (nI (99 - t)) l.length).length := by
    show (gbT l k l.length t ++ _).length = _
    rw [List.length_append]
  rw [List.length_append]
  omega
section T
variable (Γ : cG) {σ : cAS} {a m : Nat}
theorem LX9_gb59 (hm : shM σ m) (hg : aT σ a = (11, 380)) (ha : a ≠ m ∧ a ≠ m + 7 ∧ a ≠ m + 8 ∧ a ≠ m + 9) {s : mS} {i T : Nat} {e : mCu} (he : s.2.2.2.1[i]? = some e) (ho : okC T e) {k v : Int32} (hk : e.2.2.1 = k) {bs : List mBd} (hcap : bs.length + bdN e k ≤ 90) {Φ : cRes → cAS → Prop} : ∀ d j (I : Nat → Nat → Int32), j + d = bdN e k → gAt (I a) s → pbM I m (bs ++ List.replicate j (nI i, v)) →
    (∀ I', fr2 I I' m (m + 7) 11 → pbM I' m (bs ++ List.replicate (bdN e k) (nI i, v)) → WP Γ (2, 43, 0, 0) MX9_gatherBids Φ 102 [some (.ref m), some (.ref a), some (.int k), some (.int v), some (.int (nI i)), none, none] [] (wI σ I')) →
    WP Γ (2, 43, 0, 0) MX9_gatherBids Φ 59 [some (.ref m), some (.ref a), some (.int k), some (.int v), some (.int (nI i)), some (.int 1), some (.int (nI j))] [] (wI σ I) := by
  have hbd : bdI e e.2.2.1 = nI (bdN e k) := by rw [hk]; exact (bdI_nat ho.cu k).1
  intro d
  induction d with
  | zero =>
    intro j I hj h hp H
    have hjn : j = bdN e k := by omega
    refine WP.iload (pc := 59) dX9_gatherBids_59 rfl ?_
    refine WP.if_eq (pc := 61) (tgt := 102) dX9_gatherBids_61 (by decide) (fun h1 => ?_) (fun h1 => ?_)
    · exact absurd h1 (by decide)
    · refine WP.iload (pc := 64) dX9_gatherBids_64 rfl ?_
      refine WP.aload_n (pc := 66) dX9_gatherBids_66 rfl ?_
      refine WP.iload (pc := 67) dX9_gatherBids_67 rfl ?_
      refine WP.cS1 (pc := 69) (mc2 := 0) (ms2 := 0) kX9_117 (CX9_bidsOf Γ hg h he ho) rfl ⟨Nat.le_of_ble_eq_true rfl, Nat.le_of_ble_eq_true rfl⟩ (Nat.le_of_ble_eq_true rfl) (Nat.le_of_ble_eq_true rfl) (Nat.le_of_ble_eq_true rfl) rfl dX9_gatherBids_69 ?_
      rw [hbd]
      refine WP.icmp_ge (pc := 72) (tgt := 102) dX9_gatherBids_72 (by decide) (fun h2 => ?_) (fun h2 => ?_)
      · rw [hjn] at hp
        exact WP.drop 5 (WP.drop 6 (H I fr2.rf hp))
      · exact absurd (by rw [hjn]; exact Int32.le_refl _) h2
  | succ d ih =>
    intro j I hj h hp H
    have hlen : (bs ++ List.replicate j (nI i, v)).length = bs.length + j := by simp
    refine WP.iload (pc := 59) dX9_gatherBids_59 rfl ?_
    refine WP.if_eq (pc := 61) (tgt := 102) dX9_gatherBids_61 (by decide) (fun h1 => ?_) (fun h1 => ?_)
    · exact absurd h1 (by decide)
    · refine WP.iload (pc := 64) dX9_gatherBids_64 rfl ?_
      refine WP.aload_n (pc := 66) dX9_gatherBids_66 rfl ?_
      refine WP.iload (pc := 67) dX9_gatherBids_67 rfl ?_
      refine WP.cS1 (pc := 69) (mc2 := 0) (ms2 := 0) kX9_117 (CX9_bidsOf Γ hg h he ho) rfl ⟨Nat.le_of_ble_eq_true rfl, Nat.le_of_ble_eq_true rfl⟩ (Nat.le_of_ble_eq_true rfl) (Nat.le_of_ble_eq_true rfl) (Nat.le_of_ble_eq_true rfl) rfl dX9_gatherBids_69 ?_
      rw [hbd]
      refine WP.icmp_ge (pc := 72) (tgt := 102) dX9_gatherBids_72 (by decide) (fun h2 => ?_) (fun h2 => ?_)
      · exact absurd h2 (nI_ge (by omega) (by omega))
      · have h11 : I m 11 = nI (bs.length + j) := by rw [hp.1, hlen]
        refine WP.aload_n (pc := 75) dX9_gatherBids_75 rfl ?_
        refine WP.gR (pc := 76) uX9 fX9_29 hm.t0 hm.r0_9 dX9_gatherBids_76 ?_
        refine WP.aload_n (pc := 79) dX9_gatherBids_79 rfl ?_
        refine WP.gIv (pc := 80) (v := nI (bs.length + j)) uX9 fX9_114 hm.t0 (by simp [up_eq, h11]) dX9_gatherBids_80 ?_
        refine WP.iload (pc := 83) dX9_gatherBids_83 rfl ?_
        refine WP.iast (pc := 85) hm.t7 (by omega) (by decide) dX9_gatherBids_85 ?_
        refine WP.aload_n (pc := 86) dX9_gatherBids_86 rfl ?_
        refine WP.dup (pc := 87) dX9_gatherBids_87 rfl ?_
        refine WP.gIv (pc := 88) (v := nI (bs.length + j)) uX9 fX9_114 hm.t0 (by simp [up_eq, h11]) dX9_gatherBids_88 ?_
        refine WP.iconst (pc := 91) (v := 1) dX9_gatherBids_91 (by decide) ?_
        refine WP.iaN (pc := 92) (b := 1) dX9_gatherBids_92 ?_
        refine WP.pI (pc := 93) uX9 fX9_114 rfl rfl hm.t0 dX9_gatherBids_93 ?_
        refine WP.iinc (pc := 96) dX9_gatherBids_96 rfl (nI_1 _) (by decide) rfl ?_
        refine WP.goto (pc := 99) (tgt := 59) dX9_gatherBids_99 (by decide) ?_
        have hp2 := hp.app (by omega) (nI i, v)
        rw [hlen] at hp2
        rw [List.append_assoc, ← List.replicate_succ'] at hp2
        refine ih (j + 1) _ (by omega) ?_ hp2 (fun I' f1 g1 => H I' (((fr2.rf.upR (by omega)).upM).trans f1) g1)
        rw [up_ne ha.1, up_ne ha.2.1]
        exact h
theorem LX9_gb15 (hm : shM σ m) (hg : aT σ a = (11, 380)) (ha : a ≠ m ∧ a ≠ m + 7 ∧ a ≠ m + 8 ∧ a ≠ m + 9) {s : mS} {T : Nat} (hok : ∀ e ∈ s.2.2.2.1, okC T e) {k : Int32} {t : Nat} (ht : t < 99) {Φ : cRes → cAS → Prop} : ∀ n i (I : Nat → Nat → Int32), i + n = s.2.2.2.1.length → gAt (I a) s → pbM I m (gbT s.2.2.2.1 k s.2.2.2.1.length t ++ gbI s.2.2.2.1 k (nI (99 - t)) i) →
    (∀ I', fr2 I I' m (m + 7) 11 → pbM I' m (gbT s.2.2.2.1 k s.2.2.2.1.length (t + 1)) → WP Γ (2, 43, 0, 0) MX9_gatherBids Φ 108 [some (.ref m), some (.ref a), some (.int k), some (.int (nI (99 - t))), none, none, none] [] (wI σ I')) →
    WP Γ (2, 43, 0, 0) MX9_gatherBids Φ 15 [some (.ref m), some (.ref a), some (.int k), some (.int (nI (99 - t))), some (.int (nI i)), none, none] [] (wI σ I) := by
  intro n
  induction n with
  | zero =>
    intro i I hi h hp H
    have hil : i = s.2.2.2.1.length := by omega
    refine WP.iload (pc := 15) dX9_gatherBids_15 rfl ?_
    refine WP.aload_n (pc := 17) dX9_gatherBids_17 rfl ?_
    refine WP.iconst (pc := 18) (v := 2) dX9_gatherBids_18 (by decide) ?_
    refine WP.ialdv (pc := 19) (k := 2) hg (by decide) (by omega) (v := (nI s.2.2.2.1.length)) (h.2.2.2.1.1) dX9_gatherBids_19 ?_
    refine WP.icmp_ge (pc := 20) (tgt := 108) dX9_gatherBids_20 (by decide) (fun h1 => ?_) (fun h1 => ?_)
    · rw [hil] at hp
      exact WP.drop 4 (H I fr2.rf hp)
    · exact absurd (by rw [hil]; exact Int32.le_refl _) h1
  | succ n ih =>
    intro i I hi h hp H
    have h10 := h.2.2.2.1.2.1
    obtain ⟨e, he⟩ : ∃ e, s.2.2.2.1[i]? = some e := ⟨s.2.2.2.1[i]'(by omega), List.getElem?_eq_getElem (by omega)⟩
    obtain ⟨c1, c2, c3, c4, c5, c6, c7⟩ := h.2.2.2.1.2.2 i e he
    have ho := hok e (List.mem_of_getElem? he)
    obtain ⟨L, hL1, hL2, hL3⟩ := ho.2.2.2.2.1
    have hcap := gb_cap (k := k) hok h10 ht (i := i + 1) (by omega)
    have none_ : ¬ (e.2.2.1 = k ∧ e.2.2.2.2.1 = nI (99 - t)) → WP Γ (2, 43, 0, 0) MX9_gatherBids Φ 53 [some (.ref m), some (.ref a), some (.int k), some (.int (nI (99 - t))), some (.int (nI i)), none, none] [] (wI σ I) := fun hno => by
      have e1 : gbI s.2.2.2.1 k (nI (99 - t)) (i + 1) = gbI s.2.2.2.1 k (nI (99 - t)) i := by simp only [gbI, he]; rw [if_neg hno]
      refine WP.iconst (pc := 53) (v := 0) dX9_gatherBids_53 (by decide) ?_
      refine WP.istore (pc := 54) dX9_gatherBids_54 (by decide) rfl ?_
      refine WP.iconst (pc := 56) (v := 0) dX9_gatherBids_56 (by decide) ?_
      refine WP.istore (pc := 57) dX9_gatherBids_57 (by decide) rfl ?_
      refine WP.iload (pc := 59) dX9_gatherBids_59 rfl ?_
      refine WP.if_eq (pc := 61) (tgt := 102) dX9_gatherBids_61 (by decide) (fun h3 => ?_) (fun h3 => ?_)
      · refine WP.drop 5 (WP.drop 6 ?_)
        refine WP.iinc (pc := 102) dX9_gatherBids_102 rfl (nI_1 _) (by decide) rfl ?_
        refine WP.goto (pc := 105) (tgt := 15) dX9_gatherBids_105 (by decide) ?_
        exact ih (i + 1) I (by omega) h (by rw [e1]; exact hp) H
      · exact absurd rfl h3
    refine WP.iload (pc := 15) dX9_gatherBids_15 rfl ?_
    refine WP.aload_n (pc := 17) dX9_gatherBids_17 rfl ?_
    refine WP.iconst (pc := 18) (v := 2) dX9_gatherBids_18 (by decide) ?_
    refine WP.ialdv (pc := 19) (k := 2) hg (by decide) (by omega) (v := (nI s.2.2.2.1.length)) (h.2.2.2.1.1) dX9_gatherBids_19 ?_
    refine WP.icmp_ge (pc := 20) (tgt := 108) dX9_gatherBids_20 (by decide) (fun h1 => ?_) (fun h1 => ?_)
    · exact absurd h1 (nI_ge (by omega) (by omega))
    · refine WP.aload_n (pc := 23) dX9_gatherBids_23 rfl ?_
      refine WP.iload (pc := 24) dX9_gatherBids_24 rfl ?_
      refine WP.cS1 (pc := 26) (mc2 := 0) (ms2 := 0) kX9_111 (CX9_ofCustomer Γ i) rfl ⟨Nat.le_of_ble_eq_true rfl, Nat.le_of_ble_eq_true rfl⟩ (Nat.le_of_ble_eq_true rfl) (Nat.le_of_ble_eq_true rfl) (Nat.le_of_ble_eq_true rfl) rfl dX9_gatherBids_26 ?_
      refine WP.iconst (pc := 29) (v := 1) dX9_gatherBids_29 (by decide) ?_
      refine WP.iaN (pc := 30) (b := 1) dX9_gatherBids_30 ?_
      refine WP.ialdv (pc := 31) hg (by omega) (by omega) (v := (e.2.2.1)) (c2) dX9_gatherBids_31 ?_
      refine WP.iload_n (pc := 32) dX9_gatherBids_32 rfl ?_
      refine WP.icmp_ne (pc := 33) (tgt := 53) dX9_gatherBids_33 (by decide) (fun h2 => ?_) (fun h2 => ?_)
      · exact none_ (fun z => h2 z.1)
      · refine WP.aload_n (pc := 36) dX9_gatherBids_36 rfl ?_
        refine WP.iload (pc := 37) dX9_gatherBids_37 rfl ?_
        refine WP.cS1 (pc := 39) (mc2 := 0) (ms2 := 0) kX9_111 (CX9_ofCustomer Γ i) rfl ⟨Nat.le_of_ble_eq_true rfl, Nat.le_of_ble_eq_true rfl⟩ (Nat.le_of_ble_eq_true rfl) (Nat.le_of_ble_eq_true rfl) (Nat.le_of_ble_eq_true rfl) rfl dX9_gatherBids_39 ?_
        refine WP.iconst (pc := 42) (v := 3) dX9_gatherBids_42 (by decide) ?_
        refine WP.iaN (pc := 43) (b := 3) dX9_gatherBids_43 ?_
        refine WP.ialdv (pc := 44) hg (by omega) (by omega) (v := (e.2.2.2.2.1)) (c4) dX9_gatherBids_44 ?_
        refine WP.iload_n (pc := 45) dX9_gatherBids_45 rfl ?_
        refine WP.icmp_ne (pc := 46) (tgt := 53) dX9_gatherBids_46 (by decide) (fun h3 => ?_) (fun h3 => ?_)
        · exact none_ (fun z => h3 z.2)
        · have e1 : gbI s.2.2.2.1 k (nI (99 - t)) (i + 1) = gbI s.2.2.2.1 k (nI (99 - t)) i ++ List.replicate (bdN e k) (nI i, nI (99 - t)) := by simp only [gbI, he]; rw [if_pos ⟨h2, h3⟩]
          rw [e1] at hcap
          refine WP.iconst (pc := 49) (v := 1) dX9_gatherBids_49 (by decide) ?_
          refine WP.goto (pc := 50) (tgt := 54) dX9_gatherBids_50 (by decide) ?_
          refine WP.istore (pc := 54) dX9_gatherBids_54 (by decide) rfl ?_
          refine WP.iconst (pc := 56) (v := 0) dX9_gatherBids_56 (by decide) ?_
          refine WP.istore (pc := 57) dX9_gatherBids_57 (by decide) rfl ?_
          refine LX9_gb59 Γ hm hg ha he ho h2 (bs := gbT s.2.2.2.1 k s.2.2.2.1.length t ++ gbI s.2.2.2.1 k (nI (99 - t)) i) (by simp at hcap ⊢; omega) (bdN e k) 0 I (by omega) h (by simpa using hp) (fun I1 f1 p1 => ?_)
          refine WP.iinc (pc := 102) dX9_gatherBids_102 rfl (nI_1 _) (by decide) rfl ?_
          refine WP.goto (pc := 105) (tgt := 15) dX9_gatherBids_105 (by decide) ?_
          exact ih (i + 1) I1 (by omega) (by rw [f1.1 a ha.1 ha.2.1]; exact h) (by rw [e1, ← List.append_assoc]; exact p1) (fun I2 f2 p2 => H I2 (f1.trans f2) p2)
theorem LX9_gb8 (hm : shM σ m) (hg : aT σ a = (11, 380)) (ha : a ≠ m ∧ a ≠ m + 7 ∧ a ≠ m + 8 ∧ a ≠ m + 9) {s : mS} {T : Nat} (hok : ∀ e ∈ s.2.2.2.1, okC T e) {k : Int32} {Φ : cRes → cAS → Prop} : ∀ d (I : Nat → Nat → Int32), d ≤ 99 → gAt (I a) s → pbM I m (gbT s.2.2.2.1 k s.2.2.2.1.length (99 - d)) →
    (∀ I', fr2 I I' m (m + 7) 11 → pbM I' m (gbT s.2.2.2.1 k s.2.2.2.1.length 99) → Φ (.inl none) (wI σ I')) →
    WP Γ (2, 43, 0, 0) MX9_gatherBids Φ 8 [some (.ref m), some (.ref a), some (.int k), some (.int (nI d)), none, none, none] [] (wI σ I) := by
  intro d
  induction d with
  | zero =>
    intro I hd h hp H
    refine WP.iload_n (pc := 8) dX9_gatherBids_8 rfl ?_
    refine WP.if_le (pc := 9) (tgt := 114) dX9_gatherBids_9 (by decide) (fun h1 => ?_) (fun h1 => ?_)
    · skip
      refine WP.vret (pc := 114) rfl dX9_gatherBids_114 ?_
      exact H I fr2.rf hp
    · exact absurd (by decide) h1
  | succ d ih =>
    intro I hd h hp H
    refine WP.iload_n (pc := 8) dX9_gatherBids_8 rfl ?_
    refine WP.if_le (pc := 9) (tgt := 114) dX9_gatherBids_9 (by decide) (fun h1 => ?_) (fun h1 => ?_)
    · exact absurd h1 (nI_nle (by omega) (by omega))
    · refine WP.iconst (pc := 12) (v := 0) dX9_gatherBids_12 (by decide) ?_
      refine WP.istore (pc := 13) dX9_gatherBids_13 (by decide) rfl ?_
      have e9 : 99 - (99 - (d + 1)) = d + 1 := by omega
      have hx := LX9_gb15 Γ hm hg ha hok (k := k) (t := 99 - (d + 1)) (by omega) (Φ := Φ) s.2.2.2.1.length 0 I (by omega) h (by simpa [gbI] using hp)
      rw [e9] at hx
      refine hx (fun I1 f1 p1 => ?_)
      refine WP.iinc (pc := 108) dX9_gatherBids_108 rfl (pk_m1 _) (by decide) rfl ?_
      refine WP.goto (pc := 111) (tgt := 8) dX9_gatherBids_111 (by decide) ?_
      exact ih I1 (by omega) (by rw [f1.1 a ha.1 ha.2.1]; exact h) (by rw [show 99 - d = 99 - (d + 1) + 1 by omega]; exact p1) (fun I2 f2 p2 => H I2 (f1.trans f2) p2)
theorem CX9_gatherBids (hm : shM σ m) (hg : aT σ a = (11, 380)) (ha : a ≠ m ∧ a ≠ m + 7 ∧ a ≠ m + 8 ∧ a ≠ m + 9) {s : mS} {T : Nat} (hok : ∀ e ∈ s.2.2.2.1, okC T e) (k : Int32) {I : Nat → Nat → Int32} (h : gAt (I a) s) : Ctr Γ (2, 43, 0, 0) MX9_gatherBids [.ref m, .ref a, .int k] (wI σ I) (rW σ (fun I' => fr2 I I' m (m + 7) 11 ∧ pbM I' m (plB s k))) := by
  refine Ctr.go rfl (by decide) rfl rfl ?_
  refine WP.aload_n (pc := 0) dX9_gatherBids_0 rfl ?_
  refine WP.iconst (pc := 1) (v := 0) dX9_gatherBids_1 (by decide) ?_
  refine WP.pI (pc := 2) uX9 fX9_114 rfl rfl hm.t0 dX9_gatherBids_2 ?_
  refine WP.bipush (pc := 5) (v := 99) dX9_gatherBids_5 (by decide) ?_
  refine WP.istore_n (pc := 7) dX9_gatherBids_7 (by decide) rfl ?_
  refine LX9_gb8 Γ hm hg ha hok 99 _ (Nat.le_refl _) (by rw [up_ne ha.1]; exact h) ⟨by simp [up_eq]; rfl, Nat.zero_le _, fun i y hy => by simp [gbT] at hy⟩ (fun I' f1 p1 => ⟨rfl, I', rfl, fr2.rf.upM.trans f1, ?_⟩)
  rw [gbT_bdF hok _ (Nat.le_refl _)] at p1
  exact p1
theorem rsE_mono {A T C nb : Nat} {z : Nat → Int32} {e e' : mLf} (h : okZ T C z) (hA : A ≤ 2000) (he : okL A z nb e) (he' : okL A z nb e') (hk : e.1 = e'.1) (hag : ag z e' ≤ ag z e) : rsE z e ≤ rsE z e' := by
  obtain ⟨j, b, h1, h2, h3, h4, h5⟩ := rsE_N h hA he
  obtain ⟨j', b', h1', h2', h3', h4', h5'⟩ := rsE_N h hA he'
  have hj : j = j' := (nI_eq (by omega) (by omega)).mp (by rw [← h1, ← h1', hk])
  subst hj
  have hb : b = b' := (nI_eq (by omega) (by omega)).mp (by rw [← h3, ← h3'])
  subst hb
  rw [h5, h5']
  have := rsvN_le (k := j) (b := b) (a := ag z e')
  exact nI_le (rsvN_anti hag) (by omega)
theorem LX9_gl7 (hm : shM σ m) (hg : aT σ a = (11, 380)) (ha : a ≠ m ∧ a ≠ m + 7 ∧ a ≠ m + 8 ∧ a ≠ m + 9) {s : mS} {A T C : Nat} (hA : A ≤ 2000) (hz : okZ T C s.1) (hS : okS A s.1 s.2.1.length s.2.2.1) {k : Int32} {Φ : cRes → cAS → Prop} : ∀ n i (I : Nat → Nat → Int32), i + n = s.2.2.1.length → gAt (I a) s → plM I m (lvF s.1 s.2.2.1 k i) →
    (∀ I', fr2 I I' m (m + 8) 12 → plM I' m (plL s k) → Φ (.inl none) (wI σ I')) →
    WP Γ (3, 66, 0, 0) MX9_gatherLoaves Φ 7 [some (.ref m), some (.ref a), some (.int k), some (.int (nI i)), none] [] (wI σ I) := by
  intro n
  induction n with
  | zero =>
    intro i I hi h hp H
    have hil : i = s.2.2.1.length := by omega
    refine WP.iload_n (pc := 7) dX9_gatherLoaves_7 rfl ?_
    refine WP.aload_n (pc := 8) dX9_gatherLoaves_8 rfl ?_
    refine WP.iconst (pc := 9) (v := 3) dX9_gatherLoaves_9 (by decide) ?_
    refine WP.ialdv (pc := 10) (k := 3) hg (by decide) (by omega) (v := (nI s.2.2.1.length)) (h.2.2.1.1) dX9_gatherLoaves_10 ?_
    refine WP.icmp_ge (pc := 11) (tgt := 104) dX9_gatherLoaves_11 (by decide) (fun h1 => ?_) (fun h1 => ?_)
    · skip
      refine WP.vret (pc := 104) rfl dX9_gatherLoaves_104 ?_
      rw [hil] at hp
      exact H I fr2.rf hp
    · exact absurd (by rw [hil]; exact Int32.le_refl _) h1
  | succ n ih =>
    intro i I hi h hp H
    have h60 := h.2.2.1.2.1
    obtain ⟨e, he⟩ : ∃ e, s.2.2.1[i]? = some e := ⟨s.2.2.1[i]'(by omega), List.getElem?_eq_getElem (by omega)⟩
    obtain ⟨c1, c2, c3⟩ := h.2.2.1.2.2 i e he
    have hoe := hS.1 e (List.mem_of_getElem? he)
    refine WP.iload_n (pc := 7) dX9_gatherLoaves_7 rfl ?_
    refine WP.aload_n (pc := 8) dX9_gatherLoaves_8 rfl ?_
    refine WP.iconst (pc := 9) (v := 3) dX9_gatherLoaves_9 (by decide) ?_
    refine WP.ialdv (pc := 10) (k := 3) hg (by decide) (by omega) (v := (nI s.2.2.1.length)) (h.2.2.1.1) dX9_gatherLoaves_10 ?_
    refine WP.icmp_ge (pc := 11) (tgt := 104) dX9_gatherLoaves_11 (by decide) (fun h1 => ?_) (fun h1 => ?_)
    · exact absurd h1 (nI_ge (by omega) (by omega))
    · refine WP.aload_n (pc := 14) dX9_gatherLoaves_14 rfl ?_
      refine WP.iload_n (pc := 15) dX9_gatherLoaves_15 rfl ?_
      refine WP.cS1 (pc := 16) (mc2 := 0) (ms2 := 0) kX9_89 (CX9_ofLoaf Γ i) rfl ⟨Nat.le_of_ble_eq_true rfl, Nat.le_of_ble_eq_true rfl⟩ (Nat.le_of_ble_eq_true rfl) (Nat.le_of_ble_eq_true rfl) (Nat.le_of_ble_eq_true rfl) rfl dX9_gatherLoaves_16 ?_
      refine WP.iconst (pc := 19) (v := 0) dX9_gatherLoaves_19 (by decide) ?_
      refine WP.ia0 (pc := 20) dX9_gatherLoaves_20 ?_
      refine WP.ialdv (pc := 21) hg (by omega) (by omega) (v := (e.1)) (c1) dX9_gatherLoaves_21 ?_
      refine WP.iload_n (pc := 22) dX9_gatherLoaves_22 rfl ?_
      refine WP.icmp_ne (pc := 23) (tgt := 98) dX9_gatherLoaves_23 (by decide) (fun h2 => ?_) (fun h2 => ?_)
      · have e1 : lvF s.1 s.2.2.1 k (i + 1) = lvF s.1 s.2.2.1 k i := by simp [lvF, he, h2]
        refine WP.iinc (pc := 98) dX9_gatherLoaves_98 rfl (nI_1 _) (by decide) rfl ?_
        refine WP.goto (pc := 101) (tgt := 7) dX9_gatherLoaves_101 (by decide) ?_
        exact ih (i + 1) I (by omega) h (by rw [e1]; exact hp) H
      · have e1 : lvF s.1 s.2.2.1 k (i + 1) = lvF s.1 s.2.2.1 k i ++ [(nI i, rsE s.1 e)] := by simp [lvF, he, h2]
        have hlv := lvF_len (z := s.1) (l := s.2.2.1) (k := k) i
        have hp2 := hp.app (by omega) (nI i, rsE s.1 e)
        have hp1 := hp.1
        have hpg := hp.2.2
        have hlast : ∀ N, (lvF s.1 s.2.2.1 k i).length = N + 1 → ∃ j ej, (lvF s.1 s.2.2.1 k i)[N]? = some (nI j, rsE s.1 ej) ∧ s.2.2.1[j]? = some ej ∧ rsE s.1 ej ≤ rsE s.1 e := fun N hN => by
          obtain ⟨y, hy⟩ : ∃ y, (lvF s.1 s.2.2.1 k i)[N]? = some y := ⟨(lvF s.1 s.2.2.1 k i)[N]'(by omega), List.getElem?_eq_getElem (by omega)⟩
          obtain ⟨j, ej, q1, q2, q3, rfl⟩ := lvF_mem i (List.mem_of_getElem? hy)
          refine ⟨j, ej, hy, q2, rsE_mono hz hA (hS.1 ej (List.mem_of_getElem? q2)) hoe (q3.trans h2.symm) ?_⟩
          obtain ⟨w1, w2⟩ := List.getElem?_eq_some_iff.mp q2
          obtain ⟨w3, w4⟩ := List.getElem?_eq_some_iff.mp he
          have := List.pairwise_iff_getElem.mp hS.2 j i w1 w3 q1
          rw [w2, w4] at this
          exact this
        generalize hN : (lvF s.1 s.2.2.1 k i).length = N at hlv hp2 hp1 hlast
        have fin : WP Γ (3, 66, 0, 0) MX9_gatherLoaves Φ 80 [some (.ref m), some (.ref a), some (.int k), some (.int (nI i)), some (.int (nI N))] [] (wI σ I) := by
          refine WP.aload_n (pc := 80) dX9_gatherLoaves_80 rfl ?_
          refine WP.gR (pc := 81) uX9 fX9_32 hm.t0 hm.r0_10 dX9_gatherLoaves_81 ?_
          refine WP.iload (pc := 84) dX9_gatherLoaves_84 rfl ?_
          refine WP.iload_n (pc := 86) dX9_gatherLoaves_86 rfl ?_
          refine WP.iast (pc := 87) hm.t8 (by omega) (by decide) dX9_gatherLoaves_87 ?_
          refine WP.aload_n (pc := 88) dX9_gatherLoaves_88 rfl ?_
          refine WP.dup (pc := 89) dX9_gatherLoaves_89 rfl ?_
          refine WP.gIv (pc := 90) (v := nI N) uX9 fX9_120 hm.t0 (by simp [up_eq, hp1]) dX9_gatherLoaves_90 ?_
          refine WP.iconst (pc := 93) (v := 1) dX9_gatherLoaves_93 (by decide) ?_
          refine WP.iaN (pc := 94) (b := 1) dX9_gatherLoaves_94 ?_
          refine WP.pI (pc := 95) uX9 fX9_120 rfl rfl hm.t0 dX9_gatherLoaves_95 ?_
          refine WP.iinc (pc := 98) dX9_gatherLoaves_98 rfl (nI_1 _) (by decide) rfl ?_
          refine WP.goto (pc := 101) (tgt := 7) dX9_gatherLoaves_101 (by decide) ?_
          refine WP.drop 4 ?_
          refine ih (i + 1) _ (by omega) ?_ (by rw [e1]; exact hp2) (fun I' f1 g1 => H I' (((fr2.rf.upR (by omega)).upM).trans f1) g1)
          rw [up_ne ha.1, up_ne ha.2.2.1]
          exact h
        refine WP.aload_n (pc := 26) dX9_gatherLoaves_26 rfl ?_
        refine WP.gIv (pc := 27) (v := nI N) uX9 fX9_120 hm.t0 (by simp [up_eq, hp1]) dX9_gatherLoaves_27 ?_
        refine WP.istore (pc := 30) dX9_gatherLoaves_30 (by decide) rfl ?_
        refine WP.iload (pc := 32) dX9_gatherLoaves_32 rfl ?_
        refine WP.if_le (pc := 34) (tgt := 80) dX9_gatherLoaves_34 (by decide) (fun h3 => ?_) (fun h3 => ?_)
        · exact fin
        · obtain ⟨N', rfl⟩ : ∃ N', N = N' + 1 := ⟨N - 1, by
            have : N ≠ 0 := fun q => h3 (by rw [q]; decide)
            omega⟩
          obtain ⟨j, ej, q1, q2, q3⟩ := hlast N' rfl
          refine WP.aload_n (pc := 37) dX9_gatherLoaves_37 rfl ?_
          refine WP.aload_n (pc := 38) dX9_gatherLoaves_38 rfl ?_
          refine WP.gR (pc := 39) uX9 fX9_32 hm.t0 hm.r0_10 dX9_gatherLoaves_39 ?_
          refine WP.iload (pc := 42) dX9_gatherLoaves_42 rfl ?_
          refine WP.iconst (pc := 44) (v := 1) dX9_gatherLoaves_44 (by decide) ?_
          refine WP.isub (pc := 45) dX9_gatherLoaves_45 ?_
          rw [nI_pred]
          refine WP.ialdv (pc := 46) hm.t8 (by omega) (by decide) (v := nI j) (hpg N' _ q1) dX9_gatherLoaves_46 ?_
          refine WP.cS1 (pc := 47) (mc2 := 0) (ms2 := 0) kX9_123 (CX9_reserve Γ hg h q2 (rsOk.of hz hA (hS.1 ej (List.mem_of_getElem? q2)))) rfl ⟨Nat.le_of_ble_eq_true rfl, Nat.le_of_ble_eq_true rfl⟩ (Nat.le_of_ble_eq_true rfl) (Nat.le_of_ble_eq_true rfl) (Nat.le_of_ble_eq_true rfl) rfl dX9_gatherLoaves_47 ?_
          refine WP.aload_n (pc := 50) dX9_gatherLoaves_50 rfl ?_
          refine WP.iload_n (pc := 51) dX9_gatherLoaves_51 rfl ?_
          refine WP.cS1 (pc := 52) (mc2 := 0) (ms2 := 0) kX9_123 (CX9_reserve Γ hg h he (rsOk.of hz hA hoe)) rfl ⟨Nat.le_of_ble_eq_true rfl, Nat.le_of_ble_eq_true rfl⟩ (Nat.le_of_ble_eq_true rfl) (Nat.le_of_ble_eq_true rfl) (Nat.le_of_ble_eq_true rfl) rfl dX9_gatherLoaves_52 ?_
          refine WP.icmp_le (pc := 55) (tgt := 80) dX9_gatherLoaves_55 (by decide) (fun h4 => ?_) (fun h4 => ?_)
          · exact fin
          · exact absurd q3 h4
theorem CX9_gatherLoaves (hm : shM σ m) (hg : aT σ a = (11, 380)) (ha : a ≠ m ∧ a ≠ m + 7 ∧ a ≠ m + 8 ∧ a ≠ m + 9) {s : mS} {A T C : Nat} (hA : A ≤ 2000) (hz : okZ T C s.1) (hS : okS A s.1 s.2.1.length s.2.2.1) (k : Int32) {I : Nat → Nat → Int32} (h : gAt (I a) s) : Ctr Γ (3, 66, 0, 0) MX9_gatherLoaves [.ref m, .ref a, .int k] (wI σ I) (rW σ (fun I' => fr2 I I' m (m + 8) 12 ∧ plM I' m (plL s k))) := by
  refine Ctr.go rfl (by decide) rfl rfl ?_
  refine WP.aload_n (pc := 0) dX9_gatherLoaves_0 rfl ?_
  refine WP.iconst (pc := 1) (v := 0) dX9_gatherLoaves_1 (by decide) ?_
  refine WP.pI (pc := 2) uX9 fX9_120 rfl rfl hm.t0 dX9_gatherLoaves_2 ?_
  refine WP.iconst (pc := 5) (v := 0) dX9_gatherLoaves_5 (by decide) ?_
  refine WP.istore_n (pc := 6) dX9_gatherLoaves_6 (by decide) rfl ?_
  exact LX9_gl7 Γ hm hg ha hA hz hS s.2.2.1.length 0 _ (by omega) (by rw [up_ne ha.1]; exact h) ⟨by simp [up_eq]; rfl, Nat.zero_le _, fun i y hy => by simp [lvF] at hy⟩ (fun I' f1 p1 => ⟨rfl, I', rfl, fr2.rf.upM.trans f1, p1⟩)
theorem CX9_bidAt (hm : shM σ m) (hg : aT σ a = (11, 380)) {I : Nat → Nat → Int32} {s : mS} (h : gAt (I a) s) {k : Int32} (hp : pbM I m (plB s k)) {t : Nat} {y : mBd} (hy : (plB s k)[t]? = some y) : Ctr Γ (1, 20, 0, 0) MX9_bidAt [.ref m, .ref a, .int (nI t)] (wI σ I) (rV (some (.int y.2)) (wI σ I)) := by
  obtain ⟨j, e, q1, q2, rfl⟩ := bdF_mem _ (List.mem_of_getElem? hy)
  have h10 := h.2.2.2.1.2.1
  have h90 := hp.2.1
  have ht := gE_lt hy
  obtain ⟨c1, c2, c3, c4, c5, c6, c7⟩ := h.2.2.2.1.2.2 j e q2
  refine Ctr.go rfl (by decide) rfl rfl ?_
  refine WP.aload_n (pc := 0) dX9_bidAt_0 rfl ?_
  refine WP.aload_n (pc := 1) dX9_bidAt_1 rfl ?_
  refine WP.gR (pc := 2) uX9 fX9_29 hm.t0 hm.r0_9 dX9_bidAt_2 ?_
  refine WP.iload_n (pc := 5) dX9_bidAt_5 rfl ?_
  refine WP.ialdv (pc := 6) hm.t7 (by omega) (by decide) (v := (nI j)) (hp.2.2 t _ hy) dX9_bidAt_6 ?_
  refine WP.cS1 (pc := 7) (mc2 := 0) (ms2 := 0) kX9_111 (CX9_ofCustomer Γ j) rfl ⟨Nat.le_of_ble_eq_true rfl, Nat.le_of_ble_eq_true rfl⟩ (Nat.le_of_ble_eq_true rfl) (Nat.le_of_ble_eq_true rfl) (Nat.le_of_ble_eq_true rfl) rfl dX9_bidAt_7 ?_
  refine WP.iconst (pc := 10) (v := 3) dX9_bidAt_10 (by decide) ?_
  refine WP.iaN (pc := 11) (b := 3) dX9_bidAt_11 ?_
  refine WP.ialdv (pc := 12) hg (by omega) (by omega) (v := (e.2.2.2.2.1)) (c4) dX9_bidAt_12 ?_
  refine WP.iret (pc := 13) rfl dX9_bidAt_13 ?_
  exact ⟨rfl, rfl⟩
def auM (I : Nat → Nat → Int32) (m : Nat) (s : mS) (k : Int32) : Prop := pbM I m (plB s k) ∧ plM I m (plL s k) ∧ I m 13 = nI (plT s k) ∧ I m 14 = if plT s k = 0 then -1 else plP s k
/-- an auction's own rows alone have moved -/
def frM (I I' : Nat → Nat → Int32) (m : Nat) : Prop := (∀ b, b ≠ m → b ≠ m + 7 → b ≠ m + 8 → b ≠ m + 9 → I' b = I b) ∧ ∀ j, (j < 11 ∨ 14 < j) → I' m j = I m j
theorem frM.rf {I : Nat → Nat → Int32} : frM I I m := ⟨fun _ _ _ _ _ => rfl, fun _ _ => rfl⟩
theorem frM.trans {I I' I'' : Nat → Nat → Int32} (h : frM I I' m) (h' : frM I' I'' m) : frM I I'' m := ⟨fun b h1 h2 h3 h4 => (h'.1 b h1 h2 h3 h4).trans (h.1 b h1 h2 h3 h4), fun j hj => (h'.2 j hj).trans (h.2 j hj)⟩
theorem frM.of2 {I I' : Nat → Nat → Int32} {c j0 : Nat} (h : fr2 I I' m c j0) (hc : m + 7 ≤ c ∧ c ≤ m + 9) (hj : 11 ≤ j0 ∧ j0 ≤ 14) : frM I I' m := ⟨fun b h1 h2 h3 h4 => h.1 b h1 (by omega), fun j hj' => h.2 j (by omega)⟩
theorem frM.upM {I I' : Nat → Nat → Int32} {j : Nat} {v : Int32} (h : frM I I' m) (hj : 11 ≤ j ∧ j ≤ 14) : frM I (up I' m j v) m := ⟨fun b h1 h2 h3 h4 => (up_ne h1).trans (h.1 b h1 h2 h3 h4), fun i hi => by rw [up_eq, if_neg (by omega)]; exact h.2 i hi⟩
theorem frM.upR {I I' : Nat → Nat → Int32} {c j : Nat} {v : Int32} (h : frM I I' m) (hc : m + 7 ≤ c ∧ c ≤ m + 9) : frM I (up I' c j v) m := ⟨fun b h1 h2 h3 h4 => (up_ne (by omega)).trans (h.1 b h1 h2 h3 h4), fun i hi => by rw [up_eq, if_neg (by omega)]; exact h.2 i hi⟩
theorem pbM.up {I : Nat → Nat → Int32} {l : List mBd} {j : Nat} {v : Int32} (h : pbM I m l) (hj : j ≠ 11) : pbM (up I m j v) m l := by
  unfold pbM
  rw [up_eq, if_neg (fun q => hj q.2.symm), up_ne (by omega)]
  exact h
theorem plM.up {I : Nat → Nat → Int32} {l : List mBd} {j : Nat} {v : Int32} (h : plM I m l) (hj : j ≠ 12) : plM (up I m j v) m l := by
  unfold plM
  rw [up_eq, if_neg (fun q => hj q.2.symm), up_ne (by omega)]
  exact h
end T
