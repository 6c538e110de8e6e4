def eIO : String := "java/lang/IndexOutOfBoundsException"
def eIA : String := "java/lang/IllegalArgumentException"
def eIS : String := "java/lang/IllegalStateException"
abbrev ixB (i : Int32) (n : Nat) : Prop := i < 0 ∨ nI n ≤ i
theorem ixN {i : Int32} {n : Nat} (h : ¬ ixB i n) (hn : n < 2147483648) : ∃ j, i = nI j ∧ j < n := by
  obtain ⟨j, hj, rfl⟩ := nI_of (x := i) (fun q => h (Or.inl q))
  exact ⟨j, rfl, Nat.not_le.mp fun q => h (Or.inr (nI_le q hj))⟩
theorem gD_of {α : Type} {l : List α} {j : Nat} (d : α) (h : j < l.length) : l[j]? = some (l.getD j d) := by
  rw [List.getD_eq_getElem?_getD, List.getElem?_eq_getElem h]
  rfl
theorem WP.self {Γ : cG} {r : cRm} {M : cM} {Φ : cRes → cAS → Prop} {pc : Nat} {L : List (Option Value)} {st : List Value} {σ : cAS} (k : WP Γ r M Φ pc L st (wI σ (aI σ))) : WP Γ r M Φ pc L st σ := k
theorem fl_plan {I I' : Nat → Nat → Int32} {x : Nat} {m : mX} (h : flAt I x m) (hf : fr I I' (x + 51) 5) : flAt I' x m := by
  unfold flAt
  rw [hf (x + 27) (by omega), hf (x + 56) (by omega), hf x (by omega), hf (x + 59) (by omega)]
  exact h
theorem xAt.plan {σ : cAS} {x : Nat} {m : mX} {I : Nat → Nat → Int32} (h : xAt σ x m) (hf : fr (aI σ) I (x + 51) 5) : xAt (wI σ I) x m :=
  h.mv (hf.mono (by omega) (by omega)) (h.2.2.1.kp hf (by omega)) (fl_plan h.2.2.2.1 hf) rfl
theorem fl_scr {I I' : Nat → Nat → Int32} {x : Nat} {m : mX} (h : flAt I x m) (hf : fr I I' (x + 26) 30) (hb : ∀ j, j < 3 → inR (I' (x + 27) j) 0 99) : flAt I' x m := by
  unfold flAt at h ⊢
  rw [hf (x + 56) (by omega), hf x (by omega), hf (x + 59) (by omega)]
  exact ⟨hb, h.2⟩
theorem xAt.scr {σ : cAS} {x : Nat} {m : mX} {I : Nat → Nat → Int32} (h : xAt σ x m) (hf : fr (aI σ) I (x + 26) 30) (hb : ∀ j, j < 3 → inR (I (x + 27) j) 0 99) : xAt (wI σ I) x m :=
  h.mv (hf.mono (by omega) (by omega)) (h.2.2.1.kp hf (by omega)) (fl_scr h.2.2.2.1 hf hb) rfl
theorem stAt.bs {I : Nat → Nat → Int32} {b A T C : Nat} {s : mS} (h : stAt I b s) (hw : wfA A T C s) : ∀ j, j < 3 → inR (I (b + 1) j) 0 99 := fun j hj => by
  have hz := hw.1.1 j hj
  obtain ⟨z0, z1, z2, -⟩ := h.1
  rcases (by omega : j = 0 ∨ j = 1 ∨ j = 2) with rfl | rfl | rfl
  · rw [z0]; exact hz
  · rw [z1]; exact hz
  · rw [z2]; exact hz
section T
variable (Γ : cG) {σ : cAS} {x : Nat} {m : mX}
theorem CX8_needRange (v lo hi : Int32) : Ctr Γ (6, 90, 1, 6) MX8_needRange [.int v, .int lo, .int hi] σ (tR σ (v < lo ∨ hi < v) eIA none) := by
  refine Ctr.go rfl (by decide) rfl rfl ?_
  refine WP.iload_n (pc := 0) dX8_needRange_0 rfl ?_
  refine WP.iload_n (pc := 1) dX8_needRange_1 rfl ?_
  have hbad : (v < lo ∨ hi < v) → WP Γ (6, 90, 1, 6) MX8_needRange (tR σ (v < lo ∨ hi < v) eIA none) 10 [some (.int v), some (.int lo), some (.int hi)] [] σ := fun hb => by
    refine WP.throwSW (pc := 10) rfl tX8_needRange_10 ⟨by decide, by decide, by decide, by decide⟩ dX8_needRange_10 dX8_needRange_13 dX8_needRange_14 dX8_needRange_17 dX8_needRange_20 (fun n hn => ?_)
    exact Or.inl ⟨hb, rfl, n, hn, rfl⟩
  refine WP.icmp_lt (pc := 2) (tgt := 10) dX8_needRange_2 (by decide) (fun h1 => ?_) (fun h1 => ?_)
  · exact hbad (Or.inl h1)
  · refine WP.iload_n (pc := 5) dX8_needRange_5 rfl ?_
    refine WP.iload_n (pc := 6) dX8_needRange_6 rfl ?_
    refine WP.icmp_le (pc := 7) (tgt := 21) dX8_needRange_7 (by decide) (fun h2 => ?_) (fun h2 => ?_)
    · refine WP.vret (pc := 21) rfl dX8_needRange_21 ?_
      exact Or.inr ⟨fun q => q.elim h1 (Int32.not_lt.mpr h2), rfl, rfl⟩
    · exact hbad (Or.inr (Int32.not_le.mp h2))
theorem CX8_needIndex (i c : Int32) : Ctr Γ (6, 90, 1, 6) MX8_needIndex [.int i, .int c] σ (tR σ (i < 0 ∨ c ≤ i) eIO none) := by
  refine Ctr.go rfl (by decide) rfl rfl ?_
  refine WP.iload_n (pc := 0) dX8_needIndex_0 rfl ?_
  have hbad : (i < 0 ∨ c ≤ i) → WP Γ (6, 90, 1, 6) MX8_needIndex (tR σ (i < 0 ∨ c ≤ i) eIO none) 9 [some (.int i), some (.int c)] [] σ := fun hb => by
    refine WP.throwSW (pc := 9) rfl tX8_needIndex_9 ⟨by decide, by decide, by decide, by decide⟩ dX8_needIndex_9 dX8_needIndex_12 dX8_needIndex_13 dX8_needIndex_16 dX8_needIndex_19 (fun n hn => ?_)
    exact Or.inl ⟨hb, rfl, n, hn, rfl⟩
  refine WP.if_lt (pc := 1) (tgt := 9) dX8_needIndex_1 (by decide) (fun h1 => ?_) (fun h1 => ?_)
  · exact hbad (Or.inl h1)
  · refine WP.iload_n (pc := 4) dX8_needIndex_4 rfl ?_
    refine WP.iload_n (pc := 5) dX8_needIndex_5 rfl ?_
    refine WP.icmp_lt (pc := 6) (tgt := 20) dX8_needIndex_6 (by decide) (fun h2 => ?_) (fun h2 => ?_)
    · refine WP.vret (pc := 20) rfl dX8_needIndex_20 ?_
      exact Or.inr ⟨fun q => q.elim h1 (Int32.not_le.mpr h2), rfl, rfl⟩
    · exact hbad (Or.inr (Int32.not_lt.mp h2))
theorem CX8_needKind (i : Int32) : Ctr Γ (7, 111, 1, 6) MX8_needKind [.int i] σ (tR σ (ixB i 3) eIO none) := by
  refine Ctr.go rfl (by decide) rfl rfl ?_
  refine WP.iload_n (pc := 0) dX8_needKind_0 rfl ?_
  refine WP.iconst (pc := 1) (v := 3) dX8_needKind_1 (by decide) ?_
  refine WP.cSt (pc := 2) (mc2 := 0) (ms2 := 0) kX8_354 (CX8_needIndex Γ i 3) rfl ⟨Nat.le_of_ble_eq_true rfl, Nat.le_of_ble_eq_true rfl⟩ (Nat.le_of_ble_eq_true rfl) (Nat.le_of_ble_eq_true rfl) (Nat.le_of_ble_eq_true rfl) rfl dX8_needKind_2 rfl (fun hb n hn => ?_) (fun hb => ?_)
  · exact Or.inl ⟨hb, rfl, n, hn, rfl⟩
  · refine WP.vret (pc := 5) rfl dX8_needKind_5 ?_
    exact Or.inr ⟨hb, rfl, rfl⟩
theorem CX8_needBaker (hx : xAt σ x m) (i : Int32) : Ctr Γ (7, 111, 1, 6) MX8_needBaker [.ref x, .int i] σ (tR σ (ixB i m.s.2.1.length) eIO none) := by
  have hc := hx.2.2.1.2.1.1
  refine Ctr.go rfl (by decide) rfl rfl ?_
  refine WP.self ?_
  refine WP.iload_n (pc := 0) dX8_needBaker_0 rfl ?_
  refine WP.aload_n (pc := 1) dX8_needBaker_1 rfl ?_
  refine WP.gR (pc := 2) uX8 fX8_10 hx.1.t0 hx.1.r0_0 dX8_needBaker_2 ?_
  refine WP.gR (pc := 5) uX5 fX8_120 hx.1.a.t0 hx.1.a.r0_1 dX8_needBaker_5 ?_
  refine WP.gIv (pc := 8) (v := (nI m.s.2.1.length)) uX1 fX8_124 hx.1.a.t2 (by simp [up_eq, hc]) dX8_needBaker_8 ?_
  refine WP.cSt (pc := 11) (mc2 := 0) (ms2 := 0) kX8_354 (CX8_needIndex Γ i (nI m.s.2.1.length)) rfl ⟨Nat.le_of_ble_eq_true rfl, Nat.le_of_ble_eq_true rfl⟩ (Nat.le_of_ble_eq_true rfl) (Nat.le_of_ble_eq_true rfl) (Nat.le_of_ble_eq_true rfl) rfl dX8_needBaker_11 rfl (fun hb n hn => ?_) (fun hb => ?_)
  · exact Or.inl ⟨hb, rfl, n, hn, rfl⟩
  · refine WP.vret (pc := 14) rfl dX8_needBaker_14 ?_
    exact Or.inr ⟨hb, rfl, rfl⟩
theorem CX8_needCustomer (hx : xAt σ x m) (i : Int32) : Ctr Γ (7, 111, 1, 6) MX8_needCustomer [.ref x, .int i] σ (tR σ (ixB i m.s.2.2.2.1.length) eIO none) := by
  have hc := hx.2.2.1.2.2.2.1.1
  refine Ctr.go rfl (by decide) rfl rfl ?_
  refine WP.self ?_
  refine WP.iload_n (pc := 0) dX8_needCustomer_0 rfl ?_
  refine WP.aload_n (pc := 1) dX8_needCustomer_1 rfl ?_
  refine WP.gR (pc := 2) uX8 fX8_10 hx.1.t0 hx.1.r0_0 dX8_needCustomer_2 ?_
  refine WP.gR (pc := 5) uX5 fX8_108 hx.1.a.t0 hx.1.a.r0_3 dX8_needCustomer_5 ?_
  refine WP.gIv (pc := 8) (v := (nI m.s.2.2.2.1.length)) uX2 fX8_112 hx.1.a.t13 (by simp [up_eq, hc]) dX8_needCustomer_8 ?_
  refine WP.cSt (pc := 11) (mc2 := 0) (ms2 := 0) kX8_354 (CX8_needIndex Γ i (nI m.s.2.2.2.1.length)) rfl ⟨Nat.le_of_ble_eq_true rfl, Nat.le_of_ble_eq_true rfl⟩ (Nat.le_of_ble_eq_true rfl) (Nat.le_of_ble_eq_true rfl) (Nat.le_of_ble_eq_true rfl) rfl dX8_needCustomer_11 rfl (fun hb n hn => ?_) (fun hb => ?_)
  · exact Or.inl ⟨hb, rfl, n, hn, rfl⟩
  · refine WP.vret (pc := 14) rfl dX8_needCustomer_14 ?_
    exact Or.inr ⟨hb, rfl, rfl⟩
theorem CX8_needLoaf (hx : xAt σ x m) (i : Int32) : Ctr Γ (7, 111, 1, 6) MX8_needLoaf [.ref x, .int i] σ (tR σ (ixB i m.s.2.2.1.length) eIO none) := by
  have hc := hx.2.2.1.2.2.1.1
  refine Ctr.go rfl (by decide) rfl rfl ?_
  refine WP.self ?_
  refine WP.iload_n (pc := 0) dX8_needLoaf_0 rfl ?_
  refine WP.aload_n (pc := 1) dX8_needLoaf_1 rfl ?_
  refine WP.gR (pc := 2) uX8 fX8_10 hx.1.t0 hx.1.r0_0 dX8_needLoaf_2 ?_
  refine WP.gR (pc := 5) uX5 fX8_127 hx.1.a.t0 hx.1.a.r0_2 dX8_needLoaf_5 ?_
  refine WP.gIv (pc := 8) (v := (nI m.s.2.2.1.length)) uX6 fX8_131 hx.1.a.t9 (by simp [up_eq, hc]) dX8_needLoaf_8 ?_
  refine WP.cSt (pc := 11) (mc2 := 0) (ms2 := 0) kX8_354 (CX8_needIndex Γ i (nI m.s.2.2.1.length)) rfl ⟨Nat.le_of_ble_eq_true rfl, Nat.le_of_ble_eq_true rfl⟩ (Nat.le_of_ble_eq_true rfl) (Nat.le_of_ble_eq_true rfl) (Nat.le_of_ble_eq_true rfl) rfl dX8_needLoaf_11 rfl (fun hb n hn => ?_) (fun hb => ?_)
  · exact Or.inl ⟨hb, rfl, n, hn, rfl⟩
  · refine WP.vret (pc := 14) rfl dX8_needLoaf_14 ?_
    exact Or.inr ⟨hb, rfl, rfl⟩
theorem CX8_needEvent (hx : xAt σ x m) (i : Int32) : Ctr Γ (7, 111, 1, 6) MX8_needEvent [.ref x, .int i] σ (tR σ (ixB i m.s.2.2.2.2.length) eIO none) := by
  have hc := hx.2.2.1.2.2.2.2.1
  refine Ctr.go rfl (by decide) rfl rfl ?_
  refine WP.self ?_
  refine WP.iload_n (pc := 0) dX8_needEvent_0 rfl ?_
  refine WP.aload_n (pc := 1) dX8_needEvent_1 rfl ?_
  refine WP.gR (pc := 2) uX8 fX8_10 hx.1.t0 hx.1.r0_0 dX8_needEvent_2 ?_
  refine WP.gR (pc := 5) uX5 fX8_242 hx.1.a.t0 hx.1.a.r0_4 dX8_needEvent_5 ?_
  refine WP.gIv (pc := 8) (v := (nI m.s.2.2.2.2.length)) uX3 fX8_246 hx.1.a.t21 (by simp [up_eq, hc]) dX8_needEvent_8 ?_
  refine WP.cSt (pc := 11) (mc2 := 0) (ms2 := 0) kX8_354 (CX8_needIndex Γ i (nI m.s.2.2.2.2.length)) rfl ⟨Nat.le_of_ble_eq_true rfl, Nat.le_of_ble_eq_true rfl⟩ (Nat.le_of_ble_eq_true rfl) (Nat.le_of_ble_eq_true rfl) (Nat.le_of_ble_eq_true rfl) rfl dX8_needEvent_11 rfl (fun hb n hn => ?_) (fun hb => ?_)
  · exact Or.inl ⟨hb, rfl, n, hn, rfl⟩
  · refine WP.vret (pc := 14) rfl dX8_needEvent_14 ?_
    exact Or.inr ⟨hb, rfl, rfl⟩
end T
