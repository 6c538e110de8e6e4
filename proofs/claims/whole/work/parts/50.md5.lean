-- behind: 49
section T
variable (Γ : cG) {σ : cAS} {a m : Nat}
theorem LX9_set17 (hm : shM σ m) (hg : aT σ a = (11, 380)) (ha : a ≠ m ∧ a ≠ m + 7 ∧ a ≠ m + 8 ∧ a ≠ m + 9) {s : mS} {A T C : Nat} (hA : A ≤ 2000) (hw : wfA A T C s) {k : Int32} {Φ : cRes → cAS → Prop} : ∀ n t (I : Nat → Nat → Int32), t + n = (plB s k).length → plT s k = t + trN ((plB s k).drop t) ((plL s k).drop t) → gAt (I a) s → pbM I m (plB s k) → plM I m (plL s k) → I m 13 = nI t →
    (∀ I', frM I I' m → gAt (I' a) s → pbM I' m (plB s k) → plM I' m (plL s k) → I' m 13 = nI (plT s k) → WP Γ (4, 90, 0, 0) MX9_settle Φ 77 [some (.ref m), some (.ref a), some (.int k)] [] (wI σ I')) →
    WP Γ (4, 90, 0, 0) MX9_settle Φ 17 [some (.ref m), some (.ref a), some (.int k)] [] (wI σ I) := by
  intro n
  induction n with
  | zero =>
    intro t I ht htr h hb hl h13 H
    have htb : t = (plB s k).length := by omega
    have e0 : plT s k = t := by
      rw [htr, List.drop_eq_nil_of_le (by omega)]
      simp [trN]
    refine WP.aload_n (pc := 17) dX9_settle_17 rfl ?_
    refine WP.gIv (pc := 18) (v := nI t) uX9 fX9_133 hm.t0 (by simp [up_eq, h13]) dX9_settle_18 ?_
    refine WP.aload_n (pc := 21) dX9_settle_21 rfl ?_
    refine WP.gIv (pc := 22) (v := nI (plB s k).length) uX9 fX9_114 hm.t0 (by simp [up_eq, hb.1]) dX9_settle_22 ?_
    refine WP.icmp_ge (pc := 25) (tgt := 77) dX9_settle_25 (by decide) (fun h1 => ?_) (fun h1 => ?_)
    · exact H I frM.rf h hb hl (by rw [h13, e0])
    · exact absurd (by rw [htb]; exact Int32.le_refl _) h1
  | succ n ih =>
    intro t I ht htr h hb hl h13 H
    have hb90 := hb.2.1
    have hl60 := hl.2.1
    obtain ⟨p, hp⟩ : ∃ e, (plB s k)[t]? = some e := ⟨(plB s k)[t]'(by omega), List.getElem?_eq_getElem (by omega)⟩
    have edb : (plB s k).drop t = p :: (plB s k).drop (t + 1) := by
      obtain ⟨hi, he⟩ := List.getElem?_eq_some_iff.mp hp
      rw [List.drop_eq_getElem_cons hi, he]
    refine WP.aload_n (pc := 17) dX9_settle_17 rfl ?_
    refine WP.gIv (pc := 18) (v := nI t) uX9 fX9_133 hm.t0 (by simp [up_eq, h13]) dX9_settle_18 ?_
    refine WP.aload_n (pc := 21) dX9_settle_21 rfl ?_
    refine WP.gIv (pc := 22) (v := nI (plB s k).length) uX9 fX9_114 hm.t0 (by simp [up_eq, hb.1]) dX9_settle_22 ?_
    refine WP.icmp_ge (pc := 25) (tgt := 77) dX9_settle_25 (by decide) (fun h1 => ?_) (fun h1 => ?_)
    · exact absurd h1 (nI_ge (by omega) (by omega))
    · refine WP.aload_n (pc := 28) dX9_settle_28 rfl ?_
      refine WP.gIv (pc := 29) (v := nI t) uX9 fX9_133 hm.t0 (by simp [up_eq, h13]) dX9_settle_29 ?_
      refine WP.aload_n (pc := 32) dX9_settle_32 rfl ?_
      refine WP.gIv (pc := 33) (v := nI (plL s k).length) uX9 fX9_120 hm.t0 (by simp [up_eq, hl.1]) dX9_settle_33 ?_
      rcases Nat.lt_or_ge t (plL s k).length with hq | hq
      · obtain ⟨q, hq1⟩ : ∃ e, (plL s k)[t]? = some e := ⟨(plL s k)[t]'(by omega), List.getElem?_eq_getElem (by omega)⟩
        have edl : (plL s k).drop t = q :: (plL s k).drop (t + 1) := by
          obtain ⟨hi, he⟩ := List.getElem?_eq_some_iff.mp hq1
          rw [List.drop_eq_getElem_cons hi, he]
        obtain ⟨j, ej, w1, w2, w3, rfl⟩ := lvF_mem _ (List.mem_of_getElem? hq1)
        refine WP.icmp_ge (pc := 36) (tgt := 77) dX9_settle_36 (by decide) (fun h2 => ?_) (fun h2 => ?_)
        · exact absurd h2 (nI_ge (by omega) (by omega))
        · refine WP.aload_n (pc := 39) dX9_settle_39 rfl ?_
          refine WP.aload_n (pc := 40) dX9_settle_40 rfl ?_
          refine WP.aload_n (pc := 41) dX9_settle_41 rfl ?_
          refine WP.gIv (pc := 42) (v := nI t) uX9 fX9_133 hm.t0 (by simp [up_eq, h13]) dX9_settle_42 ?_
          refine WP.cV1 (pc := 45) (mc2 := 0) (ms2 := 0) (ci := 9) kX9_136 (CX9_bidAt Γ hm hg h hb hp) (by decide) rfl hm.t0 rfl ⟨Nat.le_of_ble_eq_true rfl, Nat.le_of_ble_eq_true rfl⟩ (Nat.le_of_ble_eq_true rfl) (Nat.le_of_ble_eq_true rfl) (Nat.le_of_ble_eq_true rfl) rfl dX9_settle_45 ?_
          refine WP.aload_n (pc := 48) dX9_settle_48 rfl ?_
          refine WP.aload_n (pc := 49) dX9_settle_49 rfl ?_
          refine WP.gR (pc := 50) uX9 fX9_32 hm.t0 hm.r0_10 dX9_settle_50 ?_
          refine WP.aload_n (pc := 53) dX9_settle_53 rfl ?_
          refine WP.gIv (pc := 54) (v := nI t) uX9 fX9_133 hm.t0 (by simp [up_eq, h13]) dX9_settle_54 ?_
          refine WP.ialdv (pc := 57) hm.t8 (by omega) (by decide) (v := (nI j)) (hl.2.2 t _ hq1) dX9_settle_57 ?_
          refine WP.cS1 (pc := 58) (mc2 := 0) (ms2 := 0) kX9_123 (CX9_reserve Γ hg h w2 (rsOk.of hw.1 hA (hw.2.2.2.1.1 ej (List.mem_of_getElem? w2)))) rfl ⟨Nat.le_of_ble_eq_true rfl, Nat.le_of_ble_eq_true rfl⟩ (Nat.le_of_ble_eq_true rfl) (Nat.le_of_ble_eq_true rfl) (Nat.le_of_ble_eq_true rfl) rfl dX9_settle_58 ?_
          refine WP.icmp_lt (pc := 61) (tgt := 77) dX9_settle_61 (by decide) (fun h3 => ?_) (fun h3 => ?_)
          · refine H I frM.rf h hb hl ?_
            rw [h13, htr, edb, edl]
            simp [trN, Int32.not_le.mpr h3]
          · refine WP.aload_n (pc := 64) dX9_settle_64 rfl ?_
            refine WP.dup (pc := 65) dX9_settle_65 rfl ?_
            refine WP.gIv (pc := 66) (v := nI t) uX9 fX9_133 hm.t0 (by simp [up_eq, h13]) dX9_settle_66 ?_
            refine WP.iconst (pc := 69) (v := 1) dX9_settle_69 (by decide) ?_
            refine WP.iaN (pc := 70) (b := 1) dX9_settle_70 ?_
            refine WP.pI (pc := 71) uX9 fX9_133 rfl rfl hm.t0 dX9_settle_71 ?_
            refine WP.goto (pc := 74) (tgt := 17) dX9_settle_74 (by decide) ?_
            refine ih (t + 1) _ (by omega) ?_ (by rw [up_ne ha.1]; exact h) (hb.up (by omega)) (hl.up (by omega)) (by simp [up_eq]) (fun I' w0 g0 w1 w2 w3 => H I' ((frM.rf.upM (by omega)).trans w0) g0 w1 w2 w3)
            rw [htr, edb, edl]
            simp only [trN]
            rw [if_pos (Int32.not_lt.mp h3)]
            omega
      · refine WP.icmp_ge (pc := 36) (tgt := 77) dX9_settle_36 (by decide) (fun h2 => ?_) (fun h2 => ?_)
        · refine H I frM.rf h hb hl ?_
          rw [h13, htr, edb, List.drop_eq_nil_of_le hq]
          rfl
        · exact absurd (nI_le hq (by omega)) h2
theorem LX9_set142 (hm : shM σ m) (hg : aT σ a = (11, 380)) (ha : a ≠ m ∧ a ≠ m + 7 ∧ a ≠ m + 8 ∧ a ≠ m + 9) {s : mS} {k : Int32} (h0 : plT s k ≠ 0) {I : Nat → Nat → Int32} (h : gAt (I a) s) (hb : pbM I m (plB s k)) (hl : plM I m (plL s k)) (h13 : I m 13 = nI (plT s k)) (h14 : I m 14 = prH (plL s k) (plT s k)) {Φ : cRes → cAS → Prop} (H : ∀ I', frM I I' m → auM I' m s k → Φ (.inl none) (wI σ I')) :
    WP Γ (4, 90, 0, 0) MX9_settle Φ 142 [some (.ref m), some (.ref a), some (.int k)] [] (wI σ I) := by
  have ⟨t1, t2⟩ := trN_le (plB s k) (plL s k)
  have hb90 := hb.2.1
  have fin : ∀ v, v = plP s k → Φ (.inl none) (wI σ (up I m 14 v)) := fun v hv => H _ (frM.rf.upM (by omega)) ⟨hb.up (by omega), hl.up (by omega), by rw [up_eq, if_neg (by omega)]; exact h13, by rw [up_eq, if_pos ⟨rfl, rfl⟩, if_neg h0]; exact hv⟩
  have eT : plT s k = trN (plB s k) (plL s k) := rfl
  refine WP.aload_n (pc := 142) dX9_settle_142 rfl ?_
  refine WP.aload_n (pc := 143) dX9_settle_143 rfl ?_
  refine WP.gIv (pc := 144) (v := nI (plT s k)) uX9 fX9_133 hm.t0 (by simp [up_eq, h13]) dX9_settle_144 ?_
  refine WP.aload_n (pc := 147) dX9_settle_147 rfl ?_
  refine WP.gIv (pc := 148) (v := nI (plB s k).length) uX9 fX9_114 hm.t0 (by simp [up_eq, hb.1]) dX9_settle_148 ?_
  rcases Nat.lt_or_ge (plT s k) (plB s k).length with w | w
  · obtain ⟨p, hp⟩ : ∃ e, (plB s k)[plT s k]? = some e := ⟨(plB s k)[plT s k]'(by omega), List.getElem?_eq_getElem (by omega)⟩
    have eP : plP s k = if prH (plL s k) (plT s k) < p.2 then p.2 else prH (plL s k) (plT s k) := by unfold plP prN; rw [if_neg h0, hp]
    refine WP.icmp_ge (pc := 151) (tgt := 182) dX9_settle_151 (by decide) (fun h1 => ?_) (fun h1 => ?_)
    · exact absurd h1 (nI_ge (by omega) (by omega))
    · refine WP.aload_n (pc := 154) dX9_settle_154 rfl ?_
      refine WP.aload_n (pc := 155) dX9_settle_155 rfl ?_
      refine WP.aload_n (pc := 156) dX9_settle_156 rfl ?_
      refine WP.gIv (pc := 157) (v := nI (plT s k)) uX9 fX9_133 hm.t0 (by simp [up_eq, h13]) dX9_settle_157 ?_
      refine WP.cV1 (pc := 160) (mc2 := 0) (ms2 := 0) (ci := 9) kX9_136 (CX9_bidAt Γ hm hg h hb hp) (by decide) rfl hm.t0 rfl ⟨Nat.le_of_ble_eq_true rfl, Nat.le_of_ble_eq_true rfl⟩ (Nat.le_of_ble_eq_true rfl) (Nat.le_of_ble_eq_true rfl) (Nat.le_of_ble_eq_true rfl) rfl dX9_settle_160 ?_
      refine WP.aload_n (pc := 163) dX9_settle_163 rfl ?_
      refine WP.gIv (pc := 164) (v := prH (plL s k) (plT s k)) uX9 fX9_139 hm.t0 (by simp [up_eq, h14]) dX9_settle_164 ?_
      refine WP.icmp_le (pc := 167) (tgt := 182) dX9_settle_167 (by decide) (fun h2 => ?_) (fun h2 => ?_)
      · refine WP.aload_n (pc := 182) dX9_settle_182 rfl ?_
        refine WP.gIv (pc := 183) (v := prH (plL s k) (plT s k)) uX9 fX9_139 hm.t0 (by simp [up_eq, h14]) dX9_settle_183 ?_
        refine WP.pI (pc := 186) uX9 fX9_139 rfl rfl hm.t0 dX9_settle_186 ?_
        refine WP.vret (pc := 189) rfl dX9_settle_189 ?_
        exact fin _ (by rw [eP, if_neg (Int32.not_lt.mpr h2)])
      · refine WP.aload_n (pc := 170) dX9_settle_170 rfl ?_
        refine WP.aload_n (pc := 171) dX9_settle_171 rfl ?_
        refine WP.aload_n (pc := 172) dX9_settle_172 rfl ?_
        refine WP.gIv (pc := 173) (v := nI (plT s k)) uX9 fX9_133 hm.t0 (by simp [up_eq, h13]) dX9_settle_173 ?_
        refine WP.cV1 (pc := 176) (mc2 := 0) (ms2 := 0) (ci := 9) kX9_136 (CX9_bidAt Γ hm hg h hb hp) (by decide) rfl hm.t0 rfl ⟨Nat.le_of_ble_eq_true rfl, Nat.le_of_ble_eq_true rfl⟩ (Nat.le_of_ble_eq_true rfl) (Nat.le_of_ble_eq_true rfl) (Nat.le_of_ble_eq_true rfl) rfl dX9_settle_176 ?_
        refine WP.goto (pc := 179) (tgt := 186) dX9_settle_179 (by decide) ?_
        refine WP.pI (pc := 186) uX9 fX9_139 rfl rfl hm.t0 dX9_settle_186 ?_
        refine WP.vret (pc := 189) rfl dX9_settle_189 ?_
        exact fin _ (by rw [eP, if_pos (Int32.not_le.mp h2)])
  · have eP : plP s k = prH (plL s k) (plT s k) := by unfold plP prN; rw [if_neg h0, List.getElem?_eq_none w]
    refine WP.icmp_ge (pc := 151) (tgt := 182) dX9_settle_151 (by decide) (fun h1 => ?_) (fun h1 => ?_)
    · refine WP.aload_n (pc := 182) dX9_settle_182 rfl ?_
      refine WP.gIv (pc := 183) (v := prH (plL s k) (plT s k)) uX9 fX9_139 hm.t0 (by simp [up_eq, h14]) dX9_settle_183 ?_
      refine WP.pI (pc := 186) uX9 fX9_139 rfl rfl hm.t0 dX9_settle_186 ?_
      refine WP.vret (pc := 189) rfl dX9_settle_189 ?_
      exact fin _ eP.symm
    · exact absurd (nI_le w (by omega)) h1
theorem CX9_settle (hm : shM σ m) (hg : aT σ a = (11, 380)) (ha : a ≠ m ∧ a ≠ m + 7 ∧ a ≠ m + 8 ∧ a ≠ m + 9) {s : mS} {A T C : Nat} (hA : A ≤ 2000) (hw : wfA A T C s) (k : Int32) {I : Nat → Nat → Int32} (h : gAt (I a) s) : Ctr Γ (4, 90, 0, 0) MX9_settle [.ref m, .ref a, .int k] (wI σ I) (rW σ (fun I' => frM I I' m ∧ auM I' m s k)) := by
  have ⟨t1, t2⟩ := trN_le (plB s k) (plL s k)
  have eT : plT s k = trN (plB s k) (plL s k) := rfl
  refine Ctr.go rfl (by decide) rfl rfl ?_
  refine WP.aload_n (pc := 0) dX9_settle_0 rfl ?_
  refine WP.aload_n (pc := 1) dX9_settle_1 rfl ?_
  refine WP.iload_n (pc := 2) dX9_settle_2 rfl ?_
  refine WP.cVw (pc := 3) (mc2 := 0) (ms2 := 0) (ci := 9) kX9_126 (CX9_gatherBids Γ hm hg ha hw.2.2.2.2.1.2 k h) (by decide) rfl hm.t0 rfl ⟨Nat.le_of_ble_eq_true rfl, Nat.le_of_ble_eq_true rfl⟩ (Nat.le_of_ble_eq_true rfl) (Nat.le_of_ble_eq_true rfl) (Nat.le_of_ble_eq_true rfl) rfl dX9_settle_3 (fun I1 ⟨f1, p1⟩ => ?_)
  have h1 : gAt (I1 a) s := by rw [f1.1 a ha.1 ha.2.1]; exact h
  refine WP.aload_n (pc := 6) dX9_settle_6 rfl ?_
  refine WP.aload_n (pc := 7) dX9_settle_7 rfl ?_
  refine WP.iload_n (pc := 8) dX9_settle_8 rfl ?_
  refine WP.cVw (pc := 9) (mc2 := 0) (ms2 := 0) (ci := 9) kX9_130 (CX9_gatherLoaves Γ hm hg ha hA hw.1 hw.2.2.2.1 k h1) (by decide) rfl hm.t0 rfl ⟨Nat.le_of_ble_eq_true rfl, Nat.le_of_ble_eq_true rfl⟩ (Nat.le_of_ble_eq_true rfl) (Nat.le_of_ble_eq_true rfl) (Nat.le_of_ble_eq_true rfl) rfl dX9_settle_9 (fun I2 ⟨f2, p2⟩ => ?_)
  have h2 : gAt (I2 a) s := by rw [f2.1 a ha.1 ha.2.2.1]; exact h1
  have p3 := p1.fr f2 (by omega) (by omega)
  refine WP.aload_n (pc := 12) dX9_settle_12 rfl ?_
  refine WP.iconst (pc := 13) (v := 0) dX9_settle_13 (by decide) ?_
  refine WP.pI (pc := 14) uX9 fX9_133 rfl rfl hm.t0 dX9_settle_14 ?_
  refine LX9_set17 Γ hm hg ha hA hw (plB s k).length 0 _ (by omega) (by simp [eT]) (by rw [up_ne ha.1]; exact h2) (p3.up (by omega)) (p2.up (by omega)) (by simp [up_eq]; rfl) (fun I3 f3 h3 b3 l3 n3 => ?_)
  have F : frM I I3 m := (((frM.of2 f1 (by omega) (by omega)).trans (frM.of2 f2 (by omega) (by omega))).trans (frM.rf.upM (by omega))).trans f3
  have hb90 := b3.2.1
  refine WP.aload_n (pc := 77) dX9_settle_77 rfl ?_
  refine WP.iconst (pc := 78) (v := (-1)) dX9_settle_78 (by decide) ?_
  refine WP.pI (pc := 79) uX9 fX9_139 rfl rfl hm.t0 dX9_settle_79 ?_
  refine WP.aload_n (pc := 82) dX9_settle_82 rfl ?_
  refine WP.gIv (pc := 83) (v := nI (plT s k)) uX9 fX9_133 hm.t0 (by simp [up_eq, n3]) dX9_settle_83 ?_
  refine WP.if_le (pc := 86) (tgt := 189) dX9_settle_86 (by decide) (fun h4 => ?_) (fun h4 => ?_)
  · have e0 : plT s k = 0 := Nat.eq_zero_of_not_pos fun q => nI_nle q (by omega) h4
    skip
    refine WP.vret (pc := 189) rfl dX9_settle_189 ?_
    refine ⟨rfl, _, rfl, F.trans (frM.rf.upM (by omega)), b3.up (by omega), l3.up (by omega), by rw [up_eq, if_neg (by omega)]; exact n3, ?_⟩
    rw [up_eq, if_pos ⟨rfl, rfl⟩, if_pos e0]
  · have h0 : plT s k ≠ 0 := fun q => h4 (by rw [q]; decide)
    obtain ⟨q, hq1⟩ : ∃ e, (plL s k)[plT s k - 1]? = some e := ⟨(plL s k)[plT s k - 1]'(by omega), List.getElem?_eq_getElem (by omega)⟩
    obtain ⟨j, ej, w1, w2, w3, rfl⟩ := lvF_mem _ (List.mem_of_getElem? hq1)
    have hH : prH (plL s k) (plT s k) = if 1 < rsE s.1 ej then rsE s.1 ej else 1 := by unfold prH; rw [hq1]
    have hl60 := l3.2.1
    have hok := rsOk.of hw.1 hA (hw.2.2.2.1.1 ej (List.mem_of_getElem? w2))
    refine WP.aload_n (pc := 89) dX9_settle_89 rfl ?_
    refine WP.iconst (pc := 90) (v := 1) dX9_settle_90 (by decide) ?_
    refine WP.pI (pc := 91) uX9 fX9_139 rfl rfl hm.t0 dX9_settle_91 ?_
    generalize hJ : up (up I3 m 14 (-1)) m 14 1 = J
    have FJ : frM I3 J m := by rw [← hJ]; exact (frM.rf.upM (by omega)).upM (by omega)
    have bJ : pbM J m (plB s k) := by rw [← hJ]; exact (b3.up (by omega)).up (by omega)
    have lJ : plM J m (plL s k) := by rw [← hJ]; exact (l3.up (by omega)).up (by omega)
    have nJ : J m 13 = nI (plT s k) := by rw [← hJ, up_eq, if_neg (by omega), up_eq, if_neg (by omega)]; exact n3
    have pJ : J m 14 = 1 := by rw [← hJ, up_eq, if_pos ⟨rfl, rfl⟩]
    have hJa : gAt (J a) s := by rw [← hJ, up_ne ha.1, up_ne ha.1]; exact h3
    have e1 : nI (plT s k) - 1 = nI (plT s k - 1) := by
      obtain ⟨w, hw⟩ : ∃ w, plT s k = w + 1 := ⟨plT s k - 1, by omega⟩
      rw [hw, nI_pred]
      rfl
    have hjj := lJ.2.2 _ _ hq1
    refine WP.aload_n (pc := 94) dX9_settle_94 rfl ?_
    refine WP.aload_n (pc := 95) dX9_settle_95 rfl ?_
    refine WP.aload_n (pc := 96) dX9_settle_96 rfl ?_
    refine WP.gR (pc := 97) uX9 fX9_32 hm.t0 hm.r0_10 dX9_settle_97 ?_
    refine WP.aload_n (pc := 100) dX9_settle_100 rfl ?_
    refine WP.gIv (pc := 101) (v := nI (plT s k)) uX9 fX9_133 hm.t0 (by simp [up_eq, nJ]) dX9_settle_101 ?_
    refine WP.iconst (pc := 104) (v := 1) dX9_settle_104 (by decide) ?_
    refine WP.isub (pc := 105) dX9_settle_105 ?_
    rw [e1]
    refine WP.ialdv (pc := 106) hm.t8 (by omega) (by decide) (v := nI j) hjj dX9_settle_106 ?_
    refine WP.cS1 (pc := 107) (mc2 := 0) (ms2 := 0) kX9_123 (CX9_reserve Γ hg hJa w2 hok) rfl ⟨Nat.le_of_ble_eq_true rfl, Nat.le_of_ble_eq_true rfl⟩ (Nat.le_of_ble_eq_true rfl) (Nat.le_of_ble_eq_true rfl) (Nat.le_of_ble_eq_true rfl) rfl dX9_settle_107 ?_
    refine WP.aload_n (pc := 110) dX9_settle_110 rfl ?_
    refine WP.gIv (pc := 111) (v := 1) uX9 fX9_139 hm.t0 (by simp [up_eq, pJ]) dX9_settle_111 ?_
    refine WP.icmp_le (pc := 114) (tgt := 135) dX9_settle_114 (by decide) (fun h5 => ?_) (fun h5 => ?_)
    · refine WP.aload_n (pc := 135) dX9_settle_135 rfl ?_
      refine WP.gIv (pc := 136) (v := 1) uX9 fX9_139 hm.t0 (by simp [up_eq, pJ]) dX9_settle_136 ?_
      refine WP.pI (pc := 139) uX9 fX9_139 rfl rfl hm.t0 dX9_settle_139 ?_
      refine LX9_set142 Γ hm hg ha h0 (by rw [up_ne ha.1]; exact hJa) (bJ.up (by omega)) (lJ.up (by omega)) (by rw [up_eq, if_neg (by omega)]; exact nJ) (by rw [up_eq, if_pos ⟨rfl, rfl⟩, hH, if_neg (Int32.not_lt.mpr h5)]) (fun I' f' a' => ⟨rfl, I', rfl, (F.trans FJ).trans ((frM.rf.upM (by omega)).trans f'), a'⟩)
    · refine WP.aload_n (pc := 117) dX9_settle_117 rfl ?_
      refine WP.aload_n (pc := 118) dX9_settle_118 rfl ?_
      refine WP.gR (pc := 119) uX9 fX9_32 hm.t0 hm.r0_10 dX9_settle_119 ?_
      refine WP.aload_n (pc := 122) dX9_settle_122 rfl ?_
      refine WP.gIv (pc := 123) (v := nI (plT s k)) uX9 fX9_133 hm.t0 (by simp [up_eq, nJ]) dX9_settle_123 ?_
      refine WP.iconst (pc := 126) (v := 1) dX9_settle_126 (by decide) ?_
      refine WP.isub (pc := 127) dX9_settle_127 ?_
      rw [e1]
      refine WP.ialdv (pc := 128) hm.t8 (by omega) (by decide) (v := nI j) hjj dX9_settle_128 ?_
      refine WP.cS1 (pc := 129) (mc2 := 0) (ms2 := 0) kX9_123 (CX9_reserve Γ hg hJa w2 hok) rfl ⟨Nat.le_of_ble_eq_true rfl, Nat.le_of_ble_eq_true rfl⟩ (Nat.le_of_ble_eq_true rfl) (Nat.le_of_ble_eq_true rfl) (Nat.le_of_ble_eq_true rfl) rfl dX9_settle_129 ?_
      refine WP.goto (pc := 132) (tgt := 139) dX9_settle_132 (by decide) ?_
      refine WP.pI (pc := 139) uX9 fX9_139 rfl rfl hm.t0 dX9_settle_139 ?_
      refine LX9_set142 Γ hm hg ha h0 (by rw [up_ne ha.1]; exact hJa) (bJ.up (by omega)) (lJ.up (by omega)) (by rw [up_eq, if_neg (by omega)]; exact nJ) (by rw [up_eq, if_pos ⟨rfl, rfl⟩, hH, if_pos (Int32.not_le.mp h5)]) (fun I' f' a' => ⟨rfl, I', rfl, (F.trans FJ).trans ((frM.rf.upM (by omega)).trans f'), a'⟩)
-- trading
theorem sellS_lf {s : mS} {k p : Int32} {c l : Nat} {j : Nat} {el : mLf} (h : (sellS s k p c l).2.2.1[j]? = some el) : ∃ e0, s.2.2.1[j]? = some e0 ∧ el.2 = e0.2 ∧ (el = e0 ∨ el.1 = -1) := by
  unfold sellS at h
  split at h
  · next ec e1 h1 h2 =>
    split at h
    · rcases gE_set h with ⟨rfl, rfl⟩ | ⟨q1, q2⟩
      · exact ⟨e1, h2, rfl, Or.inr rfl⟩
      · exact ⟨el, q2, rfl, Or.inl rfl⟩
    · exact ⟨el, h, rfl, Or.inl rfl⟩
  · exact ⟨el, h, rfl, Or.inl rfl⟩
theorem sellN_lf {s : mS} {k p : Int32} {bs ls : List mBd} : ∀ i {j : Nat} {el : mLf}, (sellN s k p bs ls i).2.2.1[j]? = some el → ∃ e0, s.2.2.1[j]? = some e0 ∧ el.2 = e0.2 ∧ (el = e0 ∨ el.1 = -1) := by
  intro i
  induction i with
  | zero => intro j el h; exact ⟨el, h, rfl, Or.inl rfl⟩
  | succ i ih =>
    intro j el h
    simp only [sellN] at h
    split at h
    · obtain ⟨e1, h1, h2, h3⟩ := sellS_lf h
      obtain ⟨e0, g1, g2, g3⟩ := ih h1
      refine ⟨e0, g1, h2.trans g2, ?_⟩
      rcases h3 with rfl | h3
      · exact g3
      · exact Or.inr h3
    · exact ih h
theorem sellN_step {s : mS} {k p : Int32} {bs ls : List mBd} {i c j bi : Nat} {lim r : Int32} {ec : mCu} {el : mLf} {eb : mBk} (hb : bs[i]? = some (nI c, lim)) (hl : ls[i]? = some (nI j, r)) (hc : (sellN s k p bs ls i).2.2.2.1[c]? = some ec) (hlf : (sellN s k p bs ls i).2.2.1[j]? = some el) (hbi : el.2.1 = nI bi) (heb : (sellN s k p bs ls i).2.1[bi]? = some eb) (hc2 : c < 100) (hj2 : j < 100) (hb2 : bi < 100) :
    sellN s k p bs ls (i + 1) = slS (sellN s k p bs ls i) k p c j bi ec el eb := by
  show (match bs[i]?, ls[i]? with
    | some b, some l => sellS (sellN s k p bs ls i) k p b.1.toNatClampNeg l.1.toNatClampNeg
    | _, _ => sellN s k p bs ls i) = _
  rw [hb, hl]
  dsimp only
  rw [nI_clamp (by omega), nI_clamp (by omega)]
  unfold sellS
  rw [hc, hlf]
  dsimp only
  rw [hbi, nI_clamp (by omega), heb]
theorem gAt.sell {g : Nat → Int32} {s : mS} {c bi : Nat} {ec : mCu} {eb : mBk} (h : gAt g s) (hc : s.2.2.2.1[c]? = some ec) (hb : s.2.1[bi]? = some eb) (p v : Int32) : gAt (uw (uw (uw (uw g (40 + 7 * c + 4) (ec.2.2.2.2.2.1 - p)) (40 + 7 * c + 2) (ec.2.2.2.1 - 1)) (16 + 6 * bi + 5) (eb.2.2.2.2.2 + p)) 4 v) (zup s.1 4 v, s.2.1.set bi (ernB eb p), s.2.2.1, s.2.2.2.1.set c (payC ec p), s.2.2.2.2) := by
  have hi := gE_lt hc
  have hl := h.2.2.2.1.2.1
  have hi2 := gE_lt hb
  have hl2 := h.2.1.2.1
  obtain ⟨c1, c2, c3, c4, c5, c6, c7⟩ := h.2.2.2.1.2.2 c ec hc
  obtain ⟨b1, b2, b3, b4, b5, b6⟩ := h.2.1.2.2.1 bi eb hb
  have h1 : gAt (uw (uw g (40 + 7 * c + 4) (ec.2.2.2.2.2.1 - p)) (40 + 7 * c + 2) (ec.2.2.2.1 - 1)) (s.1, s.2.1, s.2.2.1, s.2.2.2.1.set c (payC ec p), s.2.2.2.2) := by
    refine h.cu (fun k c1 c2 c3 => by simp (disch := omega) only [uw_ne]) (h.2.2.2.1.set ?_ (fun k c => by simp (disch := omega) only [uw_ne]))
    unfold payC
    refine ⟨?_, ?_, ?_, ?_, ?_, ?_, ?_⟩ <;> simp (disch := omega) only [uw_ne, uw_at] <;> assumption
  have h2 : gAt (uw (uw (uw g (40 + 7 * c + 4) (ec.2.2.2.2.2.1 - p)) (40 + 7 * c + 2) (ec.2.2.2.1 - 1)) (16 + 6 * bi + 5) (eb.2.2.2.2.2 + p)) (s.1, s.2.1.set bi (ernB eb p), s.2.2.1, s.2.2.2.1.set c (payC ec p), s.2.2.2.2) := by
    refine h1.bk (fun k c1 c2 c3 => by simp (disch := omega) only [uw_ne]) (h1.2.1.set hi2 ?_ (fun k c => by simp (disch := omega) only [uw_ne]))
    unfold ernB
    refine ⟨?_, ?_, ?_, fun z => ?_, ?_, ?_⟩ <;> simp (disch := omega) only [uw_ne, uw_at] <;> first | assumption | exact b4 z
  exact h2.z (j := 4) (by omega) v
theorem crK_of {k : Int32} (hk : inR k 0 2) : crK k = k + 1 := by
  obtain ⟨j, rfl, -, h⟩ := hk
  rcases (by omega : j = 0 ∨ j = 1 ∨ j = 2) with rfl | rfl | rfl <;> decide
end T
