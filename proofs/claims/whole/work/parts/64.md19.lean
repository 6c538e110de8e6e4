-- behind: 44 63
section T
variable (Γ : cG) {σ : cAS} {m : Nat} {I : Nat → Nat → Int32} {mm : mX}
/-- only the past has moved -/
def frP (I I' : Nat → Nat → Int32) (m : Nat) : Prop := (∀ b, b ≠ m → b ≠ m + 4 → I' b = I b) ∧ ∀ j, j ≠ 6 → j ≠ 7 → I' m j = I m j
theorem frP.T {I I' : Nat → Nat → Int32} (h : frP I I' m) : fr I I' m 12 := fun c hc => h.1 c (by omega) (by omega)
def pastM (I : Nat → Nat → Int32) (m : Nat) (L : List mS) (u : Nat) : Prop := I m 6 = nI L.length ∧ L.length ≤ 8 ∧ u < 8 ∧ I m 7 = nI u ∧ ∀ i s, L[i]? = some s → gAt (fun j => I (m + 4) (380 * ((u + i) % 8) + j)) s
theorem mdI.mk {I : Nat → Nat → Int32} {mm : mX} {u : Nat} (h1 : gAt (I (m + 1)) mm.s) (h2 : pastM I m mm.past u) (h3 : (∀ k, k < 2 → (∀ s, mm.sl k = some s → I (m + 6) k = 1 ∧ gAt (fun j => I (m + 5) (380 * k + j)) s) ∧ (mm.sl k = none → I (m + 6) k = 0))) (h4 : I m 17 = nI mm.n ∧ mm.n ≤ 600 ∧ tx mm.f (I (m + 10)) mm.n) (h5 : I m 23 = nI mm.e ∧ mm.e ≤ 6 ∧ I m 24 = mm.ep) (h6 : I m 26 = nI mm.o.length ∧ mm.o.length ≤ 120 ∧ ∀ i v, mm.o[i]? = some v → I (m + 11) i = v) : mdI I m mm :=
  ⟨h1, ⟨h2.1, h2.2.1, u, h2.2.2.1, h2.2.2.2.1, h2.2.2.2.2⟩, h3, h4, h5, h6⟩
theorem mdI.pst (h : mdI I m mm) : ∃ u, pastM I m mm.past u := by
  obtain ⟨-, ⟨h1, h2, u, h3, h4, h5⟩, -⟩ := h
  exact ⟨u, h1, h2, h3, h4, h5⟩
theorem mdI.setS {I I' : Nat → Nat → Int32} {s' : mS} (h : mdI I m mm) (h1 : ∀ b, b = m + 4 ∨ b = m + 5 ∨ b = m + 6 ∨ b = m + 10 ∨ b = m + 11 → I' b = I b) (h2 : ∀ j, j = 6 ∨ j = 7 ∨ j = 17 ∨ j = 23 ∨ j = 24 ∨ j = 26 → I' m j = I m j) (hs : gAt (I' (m + 1)) s') : mdI I' m (mX.w_s mm s') := by
  obtain ⟨-, k2⟩ := h
  refine ⟨hs, ?_⟩
  rw [h1 (m + 4) (by omega), h1 (m + 5) (by omega), h1 (m + 6) (by omega), h1 (m + 10) (by omega), h1 (m + 11) (by omega), h2 6 (by omega), h2 7 (by omega), h2 17 (by omega), h2 23 (by omega), h2 24 (by omega), h2 26 (by omega)]
  exact k2
theorem LX9_rem32 (hm : shM σ m) {L : List mS} {u : Nat} (hL : L.length < 8) (hs : gAt (I (m + 1)) mm.s) (hp : pastM I m L u) {Φ : cRes → cAS → Prop} (H : ∀ I', frP I I' m → pastM I' m (L ++ [mm.s]) u → Φ (.inl none) (wI σ I')) : WP Γ (1, 24, 0, 0) MX9_remember Φ 32 [some (.ref m)] [] (wI σ I) := by
  obtain ⟨p6, -, hu, p7, pg⟩ := hp
  have e8 : nI (u + L.length) - nI (u + L.length) / 8 * 8 = nI ((u + L.length) % 8) := by
    rw [show (8 : Int32) = nI 8 from rfl, pk_rem (by omega) (by omega) (by omega)]
  have hq : 380 * ((u + L.length) % 8) + 380 ≤ 3040 := by omega
  refine WP.aload_n (pc := 32) dX9_remember_32 rfl ?_
  refine WP.gR (pc := 33) uX9 fX9_7 hm.t0 hm.r0_0 dX9_remember_33 ?_
  refine WP.iconst (pc := 36) (v := 0) dX9_remember_36 (by decide) ?_
  refine WP.aload_n (pc := 37) dX9_remember_37 rfl ?_
  refine WP.gR (pc := 38) uX9 fX9_19 hm.t0 hm.r0_3 dX9_remember_38 ?_
  refine WP.sipush (pc := 41) (v := 380) dX9_remember_41 (by decide) ?_
  refine WP.aload_n (pc := 44) dX9_remember_44 rfl ?_
  refine WP.gIv (pc := 45) (v := nI u) uX9 fX9_311 hm.t0 (by simp [up_eq, p7]) dX9_remember_45 ?_
  refine WP.aload_n (pc := 48) dX9_remember_48 rfl ?_
  refine WP.gIv (pc := 49) (v := nI L.length) uX9 fX9_308 hm.t0 (by simp [up_eq, p6]) dX9_remember_49 ?_
  refine WP.iaN (pc := 52) dX9_remember_52 ?_
  refine WP.bipush (pc := 53) (v := 8) dX9_remember_53 (by decide) ?_
  refine WP.irem (pc := 55) dX9_remember_55 (by decide) ?_
  rw [e8]
  refine WP.imN (pc := 56) (a := 380) dX9_remember_56 ?_
  refine WP.cSw (pc := 57) (mc2 := 0) (ms2 := 0) kX9_61 (CX9_copyRow Γ hm.t1 hm.t4 (p := 0) (q := 380 * ((u + L.length) % 8)) (by omega) (by omega) hq (by omega) (by omega)) rfl ⟨Nat.le_of_ble_eq_true rfl, Nat.le_of_ble_eq_true rfl⟩ (Nat.le_of_ble_eq_true rfl) (Nat.le_of_ble_eq_true rfl) (Nat.le_of_ble_eq_true rfl) rfl dX9_remember_57 (fun I1 ⟨f1, e1⟩ => ?_)
  have k6 : I1 m 6 = nI L.length := by rw [f1 m (by omega)]; exact p6
  refine WP.aload_n (pc := 60) dX9_remember_60 rfl ?_
  refine WP.dup (pc := 61) dX9_remember_61 rfl ?_
  refine WP.gIv (pc := 62) (v := nI L.length) uX9 fX9_308 hm.t0 (by simp [up_eq, k6]) dX9_remember_62 ?_
  refine WP.iconst (pc := 65) (v := 1) dX9_remember_65 (by decide) ?_
  refine WP.iaN (pc := 66) (b := 1) dX9_remember_66 ?_
  refine WP.pI (pc := 67) uX9 fX9_308 rfl rfl hm.t0 dX9_remember_67 ?_
  refine WP.vret (pc := 70) rfl dX9_remember_70 ?_
  refine H _ ⟨fun b h1 h2 => by rw [up_ne h1]; exact f1 b h2, fun j h1 h2 => by rw [up_eq, if_neg (by omega), f1 m (by omega)]⟩ ⟨by simp [up_eq], by simp; omega, hu, by rw [up_eq, if_neg (by omega), f1 m (by omega)]; exact p7, fun i s' hs' => ?_⟩
  rw [up_ne (by omega), e1]
  rcases gE_app hs' with ⟨c, q⟩ | ⟨rfl, rfl⟩
  · refine (pg i s' q).ext (fun k hk => ?_)
    unfold cpR
    rw [if_neg (by omega)]
  · refine hs.ext (fun k hk => ?_)
    unfold cpR
    rw [if_pos (by omega)]
    congr 1
    omega
theorem CX9_remember (hm : shM σ m) (h : mdI I m mm) : Ctr Γ (1, 24, 0, 0) MX9_remember [.ref m] (wI σ I) (rW σ (fun I' => frP I I' m ∧ mdI I' m (mX.w_past mm (pushP mm.past mm.s)))) := by
  obtain ⟨u, hp⟩ := h.pst
  have fin : ∀ I', frP I I' m → ∀ u', pastM I' m (pushP mm.past mm.s) u' → rW σ (fun I' => frP I I' m ∧ mdI I' m (mX.w_past mm (pushP mm.past mm.s))) (.inl none) (wI σ I') := fun I' f u' p => by
    obtain ⟨h1, -, h3, h4, h5, h6⟩ := id h
    refine ⟨rfl, I', rfl, f, mdI.mk (u := u') ?_ p ?_ ?_ ?_ ?_⟩
    · rw [f.1 (m + 1) (by omega) (by omega)]
      exact h1
    · rw [f.1 (m + 5) (by omega) (by omega), f.1 (m + 6) (by omega) (by omega)]
      exact h3
    · rw [f.1 (m + 10) (by omega) (by omega), f.2 17 (by omega) (by omega)]
      exact h4
    · rw [f.2 23 (by omega) (by omega), f.2 24 (by omega) (by omega)]
      exact h5
    · rw [f.1 (m + 11) (by omega) (by omega), f.2 26 (by omega) (by omega)]
      exact h6
  have p6 := hp.1
  have p8 := hp.2.1
  have p7 := hp.2.2.2.1
  have hu := hp.2.2.1
  refine Ctr.go rfl (by decide) rfl rfl ?_
  refine WP.aload_n (pc := 0) dX9_remember_0 rfl ?_
  refine WP.gIv (pc := 1) (v := nI mm.past.length) uX9 fX9_308 hm.t0 (by simp [up_eq, p6]) dX9_remember_1 ?_
  refine WP.bipush (pc := 4) (v := 8) dX9_remember_4 (by decide) ?_
  refine WP.icmp_ne (pc := 6) (tgt := 32) dX9_remember_6 (by decide) (fun h1 => ?_) (fun h1 => ?_)
  · have hlt : mm.past.length < 8 := by
      rcases Nat.lt_or_ge mm.past.length 8 with q | q
      · exact q
      · exact absurd (by rw [show mm.past.length = 8 by omega]; rfl) h1
    refine LX9_rem32 Γ hm (mm := mm) hlt h.1 hp (fun I' f p => fin I' f u ?_)
    unfold pushP
    rw [if_neg (by omega)]
    exact p
  · have h8 : mm.past.length = 8 := (nI_eq (b := 8) (by omega) (by decide)).mp h1
    have e8 : nI (u + 1) - nI (u + 1) / 8 * 8 = nI ((u + 1) % 8) := by
      rw [show (8 : Int32) = nI 8 from rfl, pk_rem (by omega) (by omega) (by omega)]
    refine WP.aload_n (pc := 9) dX9_remember_9 rfl ?_
    refine WP.aload_n (pc := 10) dX9_remember_10 rfl ?_
    refine WP.gIv (pc := 11) (v := nI u) uX9 fX9_311 hm.t0 (by simp [up_eq, p7]) dX9_remember_11 ?_
    refine WP.iconst (pc := 14) (v := 1) dX9_remember_14 (by decide) ?_
    refine WP.iaN (pc := 15) (b := 1) dX9_remember_15 ?_
    refine WP.bipush (pc := 16) (v := 8) dX9_remember_16 (by decide) ?_
    refine WP.irem (pc := 18) dX9_remember_18 (by decide) ?_
    rw [e8]
    refine WP.pI (pc := 19) uX9 fX9_311 rfl rfl hm.t0 dX9_remember_19 ?_
    refine WP.aload_n (pc := 22) dX9_remember_22 rfl ?_
    refine WP.dup (pc := 23) dX9_remember_23 rfl ?_
    refine WP.gIv (pc := 24) (v := nI mm.past.length) uX9 fX9_308 hm.t0 (by simp [up_eq, p6]) dX9_remember_24 ?_
    refine WP.iconst (pc := 27) (v := 1) dX9_remember_27 (by decide) ?_
    refine WP.isub (pc := 28) dX9_remember_28 ?_
    rw [h8, show nI 8 - 1 = nI 7 by decide]
    refine WP.pI (pc := 29) uX9 fX9_308 rfl rfl hm.t0 dX9_remember_29 ?_
    have htl : mm.past.tail.length = 7 := by rw [List.length_tail, h8]
    have hp2 : pastM (up (up I m 7 (nI ((u + 1) % 8))) m 6 (nI 7)) m mm.past.tail ((u + 1) % 8) := by
      refine ⟨by rw [htl]; simp [up_eq], by omega, Nat.mod_lt _ (by decide), by rw [up_eq, if_neg (by omega), up_eq, if_pos ⟨rfl, rfl⟩], fun i s hs => ?_⟩
      rw [up_ne (by omega), up_ne (by omega)]
      rw [List.getElem?_tail] at hs
      have := hp.2.2.2.2 (i + 1) s hs
      rwa [show ((u + 1) % 8 + i) % 8 = (u + (i + 1)) % 8 by omega]
    refine LX9_rem32 Γ hm (mm := mm) (L := mm.past.tail) (by omega) (by rw [up_ne (by omega), up_ne (by omega)]; exact h.1) hp2 (fun I' f p => fin I' ⟨fun b h1 h2 => by rw [f.1 b h1 h2, up_ne h1, up_ne h1], fun j h1 h2 => by rw [f.2 j h1 h2, up_eq, if_neg (by omega), up_eq, if_neg (by omega)]⟩ ((u + 1) % 8) ?_)
    unfold pushP
    rw [if_pos (by omega)]
    exact p
theorem CX9_undo (hm : shM σ m) (h : mdI I m mm) : Ctr Γ (1, 24, 0, 0) MX9_undo [.ref m] (wI σ I) (mO σ I m (q_undo mm)) := by
  obtain ⟨u, hp⟩ := h.pst
  obtain ⟨p6, p8, hu, p7, pg⟩ := hp
  unfold q_undo
  refine Ctr.go rfl (by decide) rfl rfl ?_
  refine WP.aload_n (pc := 0) dX9_undo_0 rfl ?_
  refine WP.iconst (pc := 1) (v := 0) dX9_undo_1 (by decide) ?_
  refine WP.pI (pc := 2) uX9 fX9_75 rfl rfl hm.t0 dX9_undo_2 ?_
  refine WP.aload_n (pc := 5) dX9_undo_5 rfl ?_
  refine WP.aload_n (pc := 6) dX9_undo_6 rfl ?_
  refine WP.gIv (pc := 7) (v := nI mm.past.length) uX9 fX9_308 hm.t0 (by simp [up_eq, p6]) dX9_undo_7 ?_
  have k8 : up I m 8 0 m 8 = nI 0 := by rw [up_eq, if_pos ⟨rfl, rfl⟩]; rfl
  refine WP.if_ne (pc := 10) (tgt := 17) dX9_undo_10 (by decide) (fun h1 => ?_) (fun h1 => ?_)
  · have h0 : mm.past.length ≠ 0 := fun q => h1 (by rw [q]; rfl)
    rw [if_neg h0]
    obtain ⟨n, hn⟩ : ∃ n, mm.past.length = n + 1 := ⟨mm.past.length - 1, by omega⟩
    refine WP.iconst (pc := 17) (v := 0) dX9_undo_17 (by decide) ?_
    refine WP.iconst (pc := 18) (v := 1) dX9_undo_18 (by decide) ?_
    refine WP.cVp (pc := 19) (mc2 := 0) (ms2 := 0) (ci := 9) kX9_168 (CX9_refuses Γ hm false 1 0 (by omega) (by omega) k8) (by decide) rfl hm.t0 rfl ⟨Nat.le_of_ble_eq_true rfl, Nat.le_of_ble_eq_true rfl⟩ (Nat.le_of_ble_eq_true rfl) (Nat.le_of_ble_eq_true rfl) (Nat.le_of_ble_eq_true rfl) rfl dX9_undo_19 (fun v I1 ⟨hv, f1, g1⟩ => ?_)
    have F1 : fr_j I I1 m 8 8 := fr_j.rf.u1.trans f1
    rw [hv]
    refine WP.if_eq (pc := 22) (tgt := 27) dX9_undo_22 (by decide) (fun h2 => ?_) (fun h2 => ?_)
    · have q6 : I1 m 6 = nI (n + 1) := by rw [F1.2 6 (by omega) (by omega), p6, hn]
      have q7 : I1 m 7 = nI u := by rw [F1.2 7 (by omega) (by omega)]; exact p7
      have e8 : nI (u + n) - nI (u + n) / 8 * 8 = nI ((u + n) % 8) := by
        rw [show (8 : Int32) = nI 8 from rfl, pk_rem (by omega) (by omega) (by omega)]
      refine WP.aload_n (pc := 27) dX9_undo_27 rfl ?_
      refine WP.dup (pc := 28) dX9_undo_28 rfl ?_
      refine WP.gIv (pc := 29) (v := nI (n + 1)) uX9 fX9_308 hm.t0 (by simp [up_eq, q6]) dX9_undo_29 ?_
      refine WP.iconst (pc := 32) (v := 1) dX9_undo_32 (by decide) ?_
      refine WP.isub (pc := 33) dX9_undo_33 ?_
      rw [nI_pred]
      refine WP.pI (pc := 34) uX9 fX9_308 rfl rfl hm.t0 dX9_undo_34 ?_
      have r6 : up I1 m 6 (nI n) m 6 = nI n := by rw [up_eq, if_pos ⟨rfl, rfl⟩]
      have r7 : up I1 m 6 (nI n) m 7 = nI u := by rw [up_eq, if_neg (by omega)]; exact q7
      generalize hJ : up I1 m 6 (nI n) = J at r6 r7
      have FJ : ∀ b, b ≠ m → J b = I b := fun b hb => by rw [← hJ, up_ne hb]; exact F1.1 b hb
      have FJ2 : ∀ j, j ≠ 6 → j ≠ 8 → J m j = I m j := fun j h6 h8 => by rw [← hJ, up_eq, if_neg (by omega)]; exact F1.2 j h8 h8
      have J8 : J m 8 = 0 := by rw [← hJ, up_eq, if_neg (by omega)]; exact g1
      refine WP.aload_n (pc := 37) dX9_undo_37 rfl ?_
      refine WP.gR (pc := 38) uX9 fX9_19 hm.t0 hm.r0_3 dX9_undo_38 ?_
      refine WP.sipush (pc := 41) (v := 380) dX9_undo_41 (by decide) ?_
      refine WP.aload_n (pc := 44) dX9_undo_44 rfl ?_
      refine WP.gIv (pc := 45) (v := nI u) uX9 fX9_311 hm.t0 (by simp [up_eq, r7]) dX9_undo_45 ?_
      refine WP.aload_n (pc := 48) dX9_undo_48 rfl ?_
      refine WP.gIv (pc := 49) (v := nI n) uX9 fX9_308 hm.t0 (by simp [up_eq, r6]) dX9_undo_49 ?_
      refine WP.iaN (pc := 52) dX9_undo_52 ?_
      refine WP.bipush (pc := 53) (v := 8) dX9_undo_53 (by decide) ?_
      refine WP.irem (pc := 55) dX9_undo_55 (by decide) ?_
      rw [e8]
      refine WP.imN (pc := 56) (a := 380) dX9_undo_56 ?_
      refine WP.aload_n (pc := 57) dX9_undo_57 rfl ?_
      refine WP.gR (pc := 58) uX9 fX9_7 hm.t0 hm.r0_0 dX9_undo_58 ?_
      refine WP.iconst (pc := 61) (v := 0) dX9_undo_61 (by decide) ?_
      refine WP.cSw (pc := 62) (mc2 := 0) (ms2 := 0) kX9_61 (CX9_copyRow Γ hm.t4 hm.t1 (p := 380 * ((u + n) % 8)) (q := 0) (by omega) (by omega) (by omega) (by omega) (by omega)) rfl ⟨Nat.le_of_ble_eq_true rfl, Nat.le_of_ble_eq_true rfl⟩ (Nat.le_of_ble_eq_true rfl) (Nat.le_of_ble_eq_true rfl) (Nat.le_of_ble_eq_true rfl) rfl dX9_undo_62 (fun I2 ⟨f2, e2⟩ => ?_)
      have q62 : I2 m 6 = nI n := by rw [f2 m (by omega)]; exact r6
      refine WP.aload_n (pc := 65) dX9_undo_65 rfl ?_
      refine WP.gIv (pc := 66) (v := nI n) uX9 fX9_308 hm.t0 (by simp [up_eq, q62]) dX9_undo_66 ?_
      refine WP.iret (pc := 69) rfl dX9_undo_69 ?_
      have hlast := gD_of (l := mm.past) mm.s (j := n) (by omega)
      rw [show mm.past.length - 1 = n by omega]
      refine mO.ok (by rw [f2 m (by omega)]; exact J8) rfl ?_ (fun c hc => by rw [f2 c (by omega), FJ c (by omega)])
      obtain ⟨-, -, h3, h4, h5, h6⟩ := id h
      have hlen : (mm.past.take n).length = n := by rw [List.length_take]; omega
      refine mdI.mk (u := u) ?_ ⟨?_, ?_, hu, ?_, fun i s hs => ?_⟩ ?_ ?_ ?_ ?_
      · rw [e2]
        refine (pg n _ hlast).ext (fun k hk => ?_)
        unfold cpR
        rw [if_pos (by omega), FJ _ (by omega)]
        congr 1
      · show _ = nI (mm.past.take n).length
        rw [hlen]
        exact q62
      · show (mm.past.take n).length ≤ 8
        omega
      · rw [f2 m (by omega)]
        exact r7
      · rw [f2 (m + 4) (by omega), FJ _ (by omega)]
        have hs : (mm.past.take n)[i]? = some s := hs
        rw [List.getElem?_take] at hs
        split at hs
        · exact pg i s hs
        · cases hs
      · rw [f2 (m + 5) (by omega), f2 (m + 6) (by omega), FJ _ (by omega), FJ _ (by omega)]
        exact h3
      · rw [f2 m (by omega), f2 (m + 10) (by omega), FJ (m + 10) (by omega), FJ2 17 (by omega) (by omega)]
        exact h4
      · rw [f2 m (by omega), FJ2 23 (by omega) (by omega), FJ2 24 (by omega) (by omega)]
        exact h5
      · rw [f2 m (by omega), f2 (m + 11) (by omega), FJ (m + 11) (by omega), FJ2 26 (by omega) (by omega)]
        exact h6
    · exact absurd rfl h2
  · have h0 : mm.past.length = 0 := (nI_eq (b := 0) (by omega) (by decide)).mp h1
    rw [if_pos h0]
    refine WP.iconst (pc := 13) (v := 1) dX9_undo_13 (by decide) ?_
    refine WP.goto (pc := 14) (tgt := 18) dX9_undo_14 (by decide) ?_
    refine WP.iconst (pc := 18) (v := 1) dX9_undo_18 (by decide) ?_
    refine WP.cVp (pc := 19) (mc2 := 0) (ms2 := 0) (ci := 9) kX9_168 (CX9_refuses Γ hm true 1 0 (by omega) (by omega) k8) (by decide) rfl hm.t0 rfl ⟨Nat.le_of_ble_eq_true rfl, Nat.le_of_ble_eq_true rfl⟩ (Nat.le_of_ble_eq_true rfl) (Nat.le_of_ble_eq_true rfl) (Nat.le_of_ble_eq_true rfl) rfl dX9_undo_19 (fun v I1 ⟨hv, f1, g1⟩ => ?_)
    rw [hv]
    refine WP.if_eq (pc := 22) (tgt := 27) dX9_undo_22 (by decide) (fun h2 => ?_) (fun h2 => ?_)
    · exact absurd h2 (by decide)
    · refine WP.iconst (pc := 25) (v := 0) dX9_undo_25 (by decide) ?_
      refine WP.iret (pc := 26) rfl dX9_undo_26 ?_
      exact mO.err (by decide) g1 (h.j (fr_j.rf.u1.trans f1)) (fr_j.T (fr_j.rf.u1.trans f1))
theorem ix2 {i : Int32} : (decide (0 ≤ i) && decide (i ≤ (1 : Int32))) = true ↔ ¬ ixB i 2 := out_ix (n := 2) (by omega)
theorem CX9_save (hm : shM σ m) (h : mdI I m mm) (i : Int32) : Ctr Γ (2, 45, 0, 0) MX9_save [.ref m, .int i] (wI σ I) (mO σ I m (q_save mm i)) := by
  refine Ctr.go rfl (by decide) rfl rfl ?_
  refine WP.aload_n (pc := 0) dX9_save_0 rfl ?_
  refine WP.iload_n (pc := 1) dX9_save_1 rfl ?_
  refine WP.iconst (pc := 2) (v := 0) dX9_save_2 (by decide) ?_
  refine WP.iconst (pc := 3) (v := 1) dX9_save_3 (by decide) ?_
  refine WP.cVp (pc := 4) (mc2 := 0) (ms2 := 0) (ci := 9) kX9_176 (CX9_noNumber Γ hm i 0 1) (by decide) rfl hm.t0 rfl ⟨Nat.le_of_ble_eq_true rfl, Nat.le_of_ble_eq_true rfl⟩ (Nat.le_of_ble_eq_true rfl) (Nat.le_of_ble_eq_true rfl) (Nat.le_of_ble_eq_true rfl) rfl dX9_save_4 (fun v I1 ⟨hv, f1, g1⟩ => ?_)
  rw [hv]
  have h1 := h.j f1
  unfold q_save
  by_cases hq : ixB i 2
  · have hq2 : ¬ (decide (0 ≤ i) && decide (i ≤ (1 : Int32))) = true := fun z => ix2.mp z hq
    rw [if_neg hq2] at g1
    rw [Bool.not_eq_true] at hq2
    rw [if_pos hq, hq2]
    refine WP.if_eq (pc := 7) (tgt := 12) dX9_save_7 (by decide) (fun h4 => ?_) (fun h4 => ?_)
    · exact absurd h4 (by decide)
    · refine WP.iconst (pc := 10) (v := 0) dX9_save_10 (by decide) ?_
      refine WP.iret (pc := 11) rfl dX9_save_11 ?_
      exact mO.err (by decide) g1 h1 f1.T
  · have hq2 := ix2.mpr hq
    rw [if_pos hq2] at g1
    rw [if_neg hq, hq2]
    obtain ⟨j, rfl, hj⟩ := ixN hq (by omega)
    rw [nI_clamp (by omega)]
    refine WP.if_eq (pc := 7) (tgt := 12) dX9_save_7 (by decide) (fun h4 => ?_) (fun h4 => ?_)
    · refine WP.aload_n (pc := 12) dX9_save_12 rfl ?_
      refine WP.gR (pc := 13) uX9 fX9_7 hm.t0 hm.r0_0 dX9_save_13 ?_
      refine WP.iconst (pc := 16) (v := 0) dX9_save_16 (by decide) ?_
      refine WP.aload_n (pc := 17) dX9_save_17 rfl ?_
      refine WP.gR (pc := 18) uX9 fX9_22 hm.t0 hm.r0_4 dX9_save_18 ?_
      refine WP.sipush (pc := 21) (v := 380) dX9_save_21 (by decide) ?_
      refine WP.iload_n (pc := 24) dX9_save_24 rfl ?_
      refine WP.imN (pc := 25) (a := 380) dX9_save_25 ?_
      refine WP.cSw (pc := 26) (mc2 := 0) (ms2 := 0) kX9_61 (CX9_copyRow Γ hm.t1 hm.t5 (p := 0) (q := 380 * j) (by omega) (by omega) (by omega) (by omega) (by omega)) rfl ⟨Nat.le_of_ble_eq_true rfl, Nat.le_of_ble_eq_true rfl⟩ (Nat.le_of_ble_eq_true rfl) (Nat.le_of_ble_eq_true rfl) (Nat.le_of_ble_eq_true rfl) rfl dX9_save_26 (fun I2 ⟨f2, e2⟩ => ?_)
      refine WP.aload_n (pc := 29) dX9_save_29 rfl ?_
      refine WP.gR (pc := 30) uX9 fX9_25 hm.t0 hm.r0_5 dX9_save_30 ?_
      refine WP.iload_n (pc := 33) dX9_save_33 rfl ?_
      refine WP.iconst (pc := 34) (v := 1) dX9_save_34 (by decide) ?_
      refine WP.zast (pc := 35) hm.t6 (by omega) (by decide) (by decide) dX9_save_35 ?_
      refine WP.aload_n (pc := 36) dX9_save_36 rfl ?_
      refine WP.gR (pc := 37) uX9 fX9_7 hm.t0 hm.r0_0 dX9_save_37 ?_
      refine WP.iconst (pc := 40) (v := 0) dX9_save_40 (by decide) ?_
      refine WP.ialdv (pc := 41) (k := 0) hm.t1 (by decide) (by decide) (v := (mm.s.1 3)) (by rw [up_ne (by omega), f2 (m + 1) (by omega)]; exact h1.1.1 3 (by omega)) dX9_save_41 ?_
      refine WP.iret (pc := 42) rfl dX9_save_42 ?_
      have F : ∀ b, b ≠ m + 5 → b ≠ m + 6 → up I2 (m + 6) j 1 b = I1 b := fun b a1 a2 => by rw [up_ne a2]; exact f2 b a1
      refine mO.ok (by rw [F m (by omega) (by omega)]; exact g1) rfl ?_ (fun c hc => by rw [F c (by omega) (by omega)]; exact f1.T c hc)
      obtain ⟨u, hp⟩ := h1.pst
      obtain ⟨k1, -, k3, k4, k5, k6⟩ := id h1
      refine mdI.mk (u := u) ?_ ?_ (fun k hk => ?_) ?_ ?_ ?_
      · rw [F (m + 1) (by omega) (by omega)]
        exact k1
      · unfold pastM
        rw [F m (by omega) (by omega), F (m + 4) (by omega) (by omega)]
        exact hp
      · rw [up_ne (show m + 5 ≠ m + 6 by omega), e2]
        by_cases q : k = j
        · subst q
          refine ⟨fun s hs => ?_, fun hs => ?_⟩
          · have hs : (if k = k then some mm.s else mm.sl k) = some s := hs
            rw [if_pos rfl] at hs
            cases hs
            refine ⟨by rw [up_eq, if_pos ⟨rfl, rfl⟩], k1.ext (fun x hx => ?_)⟩
            unfold cpR
            rw [if_pos (by omega)]
            congr 1
            omega
          · have hs : (if k = k then some mm.s else mm.sl k) = none := hs
            rw [if_pos rfl] at hs
            cases hs
        · have hsl : ∀ z, (mX.w_sl mm (fun j' => if j' = j then some mm.s else mm.sl j')).sl k = z → mm.sl k = z := fun z hz => by
            have hz : (if k = j then some mm.s else mm.sl k) = z := hz
            rwa [if_neg q] at hz
          refine ⟨fun s hs => ?_, fun hs => ?_⟩
          · obtain ⟨w1, w2⟩ := (k3 k hk).1 s (hsl _ hs)
            refine ⟨by rw [up_eq, if_neg (fun z => q z.2), f2 (m + 6) (by omega)]; exact w1, w2.ext (fun x hx => ?_)⟩
            unfold cpR
            rw [if_neg (by omega)]
          · rw [up_eq, if_neg (fun z => q z.2), f2 (m + 6) (by omega)]
            exact (k3 k hk).2 (hsl _ hs)
      · rw [F m (by omega) (by omega), F (m + 10) (by omega) (by omega)]
        exact k4
      · rw [F m (by omega) (by omega)]
        exact k5
      · rw [F m (by omega) (by omega), F (m + 11) (by omega) (by omega)]
        exact k6
    · exact absurd rfl h4
theorem CX9_restore (hm : shM σ m) (h : mdI I m mm) (i : Int32) : Ctr Γ (2, 45, 0, 0) MX9_restore [.ref m, .int i] (wI σ I) (mO σ I m (q_restore mm i)) := by
  refine Ctr.go rfl (by decide) rfl rfl ?_
  refine WP.aload_n (pc := 0) dX9_restore_0 rfl ?_
  refine WP.iload_n (pc := 1) dX9_restore_1 rfl ?_
  refine WP.iconst (pc := 2) (v := 0) dX9_restore_2 (by decide) ?_
  refine WP.iconst (pc := 3) (v := 1) dX9_restore_3 (by decide) ?_
  refine WP.cVp (pc := 4) (mc2 := 0) (ms2 := 0) (ci := 9) kX9_176 (CX9_noNumber Γ hm i 0 1) (by decide) rfl hm.t0 rfl ⟨Nat.le_of_ble_eq_true rfl, Nat.le_of_ble_eq_true rfl⟩ (Nat.le_of_ble_eq_true rfl) (Nat.le_of_ble_eq_true rfl) (Nat.le_of_ble_eq_true rfl) rfl dX9_restore_4 (fun v I1 ⟨hv, f1, g1⟩ => ?_)
  rw [hv]
  have h1 := h.j f1
  unfold q_restore
  by_cases hq : ixB i 2
  · have hq2 : ¬ (decide (0 ≤ i) && decide (i ≤ (1 : Int32))) = true := fun z => ix2.mp z hq
    rw [if_neg hq2] at g1
    rw [Bool.not_eq_true] at hq2
    rw [if_pos hq, hq2]
    refine WP.if_ne (pc := 7) (tgt := 32) dX9_restore_7 (by decide) (fun h4 => ?_) (fun h4 => ?_)
    · refine WP.iconst (pc := 32) (v := 0) dX9_restore_32 (by decide) ?_
      refine WP.iret (pc := 33) rfl dX9_restore_33 ?_
      exact mO.err (by decide) g1 h1 f1.T
    · exact absurd h4 (by decide)
  · have hq2 := ix2.mpr hq
    rw [if_pos hq2] at g1
    rw [if_neg hq, hq2]
    obtain ⟨j, rfl, hj⟩ := ixN hq (by omega)
    rw [nI_clamp (by omega)]
    have hk := h1.2.2.1 j hj
    refine WP.if_ne (pc := 7) (tgt := 32) dX9_restore_7 (by decide) (fun h4 => ?_) (fun h4 => ?_)
    · exact absurd rfl h4
    · refine WP.aload_n (pc := 10) dX9_restore_10 rfl ?_
      refine WP.aload_n (pc := 11) dX9_restore_11 rfl ?_
      refine WP.gR (pc := 12) uX9 fX9_25 hm.t0 hm.r0_5 dX9_restore_12 ?_
      refine WP.iload_n (pc := 15) dX9_restore_15 rfl ?_
      refine WP.zald (pc := 16) hm.t6 (by omega) (by decide) dX9_restore_16 ?_
      cases hsl : mm.sl j with
      | none =>
        rw [hk.2 hsl]
        refine WP.if_ne (pc := 17) (tgt := 24) dX9_restore_17 (by decide) (fun h5 => ?_) (fun h5 => ?_)
        · exact absurd rfl h5
        · refine WP.iconst (pc := 20) (v := 1) dX9_restore_20 (by decide) ?_
          refine WP.goto (pc := 21) (tgt := 25) dX9_restore_21 (by decide) ?_
          refine WP.iconst (pc := 25) (v := 2) dX9_restore_25 (by decide) ?_
          refine WP.cVp (pc := 26) (mc2 := 0) (ms2 := 0) (ci := 9) kX9_168 (CX9_refuses Γ hm true 2 0 (by omega) (by omega) g1) (by decide) rfl hm.t0 rfl ⟨Nat.le_of_ble_eq_true rfl, Nat.le_of_ble_eq_true rfl⟩ (Nat.le_of_ble_eq_true rfl) (Nat.le_of_ble_eq_true rfl) (Nat.le_of_ble_eq_true rfl) rfl dX9_restore_26 (fun w I2 ⟨hv2, f2, g2⟩ => ?_)
          rw [hv2]
          refine WP.if_eq (pc := 29) (tgt := 34) dX9_restore_29 (by decide) (fun h6 => ?_) (fun h6 => ?_)
          · exact absurd h6 (by decide)
          · refine WP.iconst (pc := 32) (v := 0) dX9_restore_32 (by decide) ?_
            refine WP.iret (pc := 33) rfl dX9_restore_33 ?_
            exact mO.err (by decide) g2 (h1.j f2) (fr_j.T (f1.trans f2))
      | some s =>
        obtain ⟨w1, w2⟩ := hk.1 s hsl
        rw [w1]
        refine WP.if_ne (pc := 17) (tgt := 24) dX9_restore_17 (by decide) (fun h5 => ?_) (fun h5 => ?_)
        · refine WP.iconst (pc := 24) (v := 0) dX9_restore_24 (by decide) ?_
          refine WP.iconst (pc := 25) (v := 2) dX9_restore_25 (by decide) ?_
          refine WP.cVp (pc := 26) (mc2 := 0) (ms2 := 0) (ci := 9) kX9_168 (CX9_refuses Γ hm false 2 0 (by omega) (by omega) g1) (by decide) rfl hm.t0 rfl ⟨Nat.le_of_ble_eq_true rfl, Nat.le_of_ble_eq_true rfl⟩ (Nat.le_of_ble_eq_true rfl) (Nat.le_of_ble_eq_true rfl) (Nat.le_of_ble_eq_true rfl) rfl dX9_restore_26 (fun w I2 ⟨hv2, f2, g2⟩ => ?_)
          rw [hv2]
          refine WP.if_eq (pc := 29) (tgt := 34) dX9_restore_29 (by decide) (fun h6 => ?_) (fun h6 => ?_)
          · refine WP.aload_n (pc := 34) dX9_restore_34 rfl ?_
            refine WP.cVw (pc := 35) (mc2 := 0) (ms2 := 0) (ci := 9) kX9_305 (CX9_remember Γ hm (h1.j f2)) (by decide) rfl hm.t0 rfl ⟨Nat.le_of_ble_eq_true rfl, Nat.le_of_ble_eq_true rfl⟩ (Nat.le_of_ble_eq_true rfl) (Nat.le_of_ble_eq_true rfl) (Nat.le_of_ble_eq_true rfl) rfl dX9_restore_35 (fun I3 ⟨f3, g3⟩ => ?_)
            refine WP.aload_n (pc := 38) dX9_restore_38 rfl ?_
            refine WP.gR (pc := 39) uX9 fX9_22 hm.t0 hm.r0_4 dX9_restore_39 ?_
            refine WP.sipush (pc := 42) (v := 380) dX9_restore_42 (by decide) ?_
            refine WP.iload_n (pc := 45) dX9_restore_45 rfl ?_
            refine WP.imN (pc := 46) (a := 380) dX9_restore_46 ?_
            refine WP.aload_n (pc := 47) dX9_restore_47 rfl ?_
            refine WP.gR (pc := 48) uX9 fX9_7 hm.t0 hm.r0_0 dX9_restore_48 ?_
            refine WP.iconst (pc := 51) (v := 0) dX9_restore_51 (by decide) ?_
            refine WP.cSw (pc := 52) (mc2 := 0) (ms2 := 0) kX9_61 (CX9_copyRow Γ hm.t5 hm.t1 (p := 380 * j) (q := 0) (by omega) (by omega) (by omega) (by omega) (by omega)) rfl ⟨Nat.le_of_ble_eq_true rfl, Nat.le_of_ble_eq_true rfl⟩ (Nat.le_of_ble_eq_true rfl) (Nat.le_of_ble_eq_true rfl) (Nat.le_of_ble_eq_true rfl) rfl dX9_restore_52 (fun I4 ⟨f4, e4⟩ => ?_)
            have hs4 : gAt (I4 (m + 1)) s := by
              rw [e4]
              refine w2.ext (fun k hk => ?_)
              unfold cpR
              rw [if_pos (by omega), f3.1 (m + 5) (by omega) (by omega), f2.1 (m + 5) (by omega)]
              congr 1
            refine WP.aload_n (pc := 55) dX9_restore_55 rfl ?_
            refine WP.gR (pc := 56) uX9 fX9_7 hm.t0 hm.r0_0 dX9_restore_56 ?_
            refine WP.iconst (pc := 59) (v := 0) dX9_restore_59 (by decide) ?_
            refine WP.ialdv (pc := 60) (k := 0) hm.t1 (by decide) (by decide) (v := (s.1 3)) (hs4.1 3 (by omega)) dX9_restore_60 ?_
            refine WP.iret (pc := 61) rfl dX9_restore_61 ?_
            exact mO.ok (by rw [f4 m (by omega), f3.2 8 (by omega) (by omega)]; exact g2) rfl (g3.setS (fun b hb => f4 b (by omega)) (fun j' _ => by rw [f4 m (by omega)]) hs4) (fun c hc => by rw [f4 c (by omega), f3.T c hc]; exact fr_j.T (f1.trans f2) c hc)
          · exact absurd rfl h6
        · exact absurd h5 (by decide)
end T
