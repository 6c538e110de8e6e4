-- the whole of a market
abbrev mS : Type := (Nat → Int32) × List mBk × List mLf × List mCu × List mEv
def zup (z : Nat → Int32) (i : Nat) (v : Int32) : Nat → Int32 := fun j => if j = i then v else z j
theorem zup_eq (z : Nat → Int32) (i : Nat) (v : Int32) (j : Nat) : zup z i v j = if j = i then v else z j := rfl
def scAt (I : Nat → Nat → Int32) (b : Nat) (z : Nat → Int32) : Prop := I (b + 1) 0 = z 0 ∧ I (b + 1) 1 = z 1 ∧ I (b + 1) 2 = z 2 ∧ I b 5 = z 3 ∧ I b 6 = z 4 ∧ I b 7 = z 5 ∧ I b 8 = z 6 ∧ I b 9 = z 7 ∧ I b 10 = z 8 ∧ I b 11 = z 9 ∧ I b 12 = z 10 ∧ I (b + 13) 1 = z 11
def stAt (I : Nat → Nat → Int32) (b : Nat) (s : mS) : Prop := scAt I b s.1 ∧ bkAt I b s.2.1 ∧ skAt I b s.2.2.1 ∧ cuAt I b s.2.2.2.1 ∧ evAt I b s.2.2.2.2
theorem scAt.rows {I I' : Nat → Nat → Int32} {b : Nat} {z : Nat → Int32} (h : scAt I b z) (h0 : I' b = I b) (h1 : I' (b + 1) = I (b + 1)) (h2 : I' (b + 13) 1 = I (b + 13) 1) : scAt I' b z := by
  unfold scAt
  rw [h0, h1, h2]
  exact h
theorem stAt.kp {I I' : Nat → Nat → Int32} {b lo n : Nat} {s : mS} (h : stAt I b s) (hf : fr I I' lo n) (h1 : lo + n ≤ b ∨ b + 25 ≤ lo) : stAt I' b s :=
  ⟨h.1.rows (hf b (by omega)) (hf _ (by omega)) (by rw [hf (b + 13) (by omega)]), h.2.1.kp hf (by omega), h.2.2.1.kp hf (by omega), h.2.2.2.1.kp hf (by omega), h.2.2.2.2.kp hf (by omega)⟩
theorem stAt.ev {I I' : Nat → Nat → Int32} {b : Nat} {s : mS} {l : List mEv} (h : stAt I b s) (hf : fr I I' (b + 21) 4) (hl : evAt I' b l) : stAt I' b (s.1, s.2.1, s.2.2.1, s.2.2.2.1, l) :=
  ⟨h.1.rows (hf b (by omega)) (hf _ (by omega)) (by rw [hf (b + 13) (by omega)]), h.2.1.kp hf (by omega), h.2.2.1.kp hf (by omega), h.2.2.2.1.kp hf (by omega), hl⟩
theorem stAt.sk {I I' : Nat → Nat → Int32} {b : Nat} {s : mS} {l : List mLf} (h : stAt I b s) (hf : fr I I' (b + 9) 4) (hl : skAt I' b l) : stAt I' b (s.1, s.2.1, l, s.2.2.2) :=
  ⟨h.1.rows (hf b (by omega)) (hf _ (by omega)) (by rw [hf (b + 13) (by omega)]), h.2.1.kp hf (by omega), hl, h.2.2.2.1.kp hf (by omega), h.2.2.2.2.kp hf (by omega)⟩
theorem stAt.bk {I I' : Nat → Nat → Int32} {b : Nat} {s : mS} {l : List mBk} (h : stAt I b s) (hf : fr I I' (b + 2) 7) (hl : bkAt I' b l) : stAt I' b (s.1, l, s.2.2) :=
  ⟨h.1.rows (hf b (by omega)) (hf _ (by omega)) (by rw [hf (b + 13) (by omega)]), hl, h.2.2.1.kp hf (by omega), h.2.2.2.1.kp hf (by omega), h.2.2.2.2.kp hf (by omega)⟩
theorem scAt.tk {I I' : Nat → Nat → Int32} {b : Nat} {z : Nat → Int32} {x : Int32} (h : scAt I b z) (h0 : I' b = I b) (h1 : I' (b + 1) = I (b + 1)) (h2 : I' (b + 13) 1 = x) : scAt I' b (zup z 11 x) := by
  obtain ⟨a1, a2, a3, a4, a5, a6, a7, a8, a9, a10, a11, a12⟩ := h
  unfold scAt
  simp [zup_eq, h0, h1, h2, a1, a2, a3, a4, a5, a6, a7, a8, a9, a10, a11]
theorem stAt.cu {I I' : Nat → Nat → Int32} {b : Nat} {s : mS} {l : List mCu} (h : stAt I b s) (hf : fr I I' (b + 13) 8) (ht : I' (b + 13) 1 = I (b + 13) 1) (hl : cuAt I' b l) : stAt I' b (s.1, s.2.1, s.2.2.1, l, s.2.2.2.2) :=
  ⟨h.1.rows (hf b (by omega)) (hf _ (by omega)) ht, h.2.1.kp hf (by omega), h.2.2.1.kp hf (by omega), hl, h.2.2.2.2.kp hf (by omega)⟩
theorem stAt.cuT {I I' : Nat → Nat → Int32} {b : Nat} {s : mS} {l : List mCu} {x : Int32} (h : stAt I b s) (hf : fr I I' (b + 13) 8) (ht : I' (b + 13) 1 = x) (hl : cuAt I' b l) : stAt I' b (zup s.1 11 x, s.2.1, s.2.2.1, l, s.2.2.2.2) :=
  ⟨h.1.tk (hf b (by omega)) (hf _ (by omega)) ht, h.2.1.kp hf (by omega), h.2.2.1.kp hf (by omega), hl, h.2.2.2.2.kp hf (by omega)⟩
theorem fr_up1 {I : Nat → Nat → Int32} {a k : Nat} {x : Int32} : fr I (up I a k x) a 1 := fr.rf.up (Nat.le_refl _) (by omega)
theorem stAt.z {I : Nat → Nat → Int32} {b : Nat} {s : mS} (h : stAt I b s) (j : Nat) (x : Int32) (h1 : 3 ≤ j) (h2 : j ≤ 10) : stAt (up I b (j + 2) x) b (zup s.1 j x, s.2) := by
  refine ⟨?_, h.2.1.kp fr_up1 (by omega), h.2.2.1.kp fr_up1 (by omega), h.2.2.2.1.kp fr_up1 (by omega), h.2.2.2.2.kp fr_up1 (by omega)⟩
  obtain ⟨a1, a2, a3, a4, a5, a6, a7, a8, a9, a10, a11, a12⟩ := h.1
  unfold scAt
  rcases (show j = 3 ∨ j = 4 ∨ j = 5 ∨ j = 6 ∨ j = 7 ∨ j = 8 ∨ j = 9 ∨ j = 10 by omega) with rfl | rfl | rfl | rfl | rfl | rfl | rfl | rfl <;> simp [up_eq, zup_eq, a1, a2, a3, a4, a5, a6, a7, a8, a9, a10, a11, a12]
/-- one row of the customers' table is written -/
theorem cuAt.setT {I : Nat → Nat → Int32} {b i : Nat} {l : List mCu} {e : mCu} (x : Int32) (h : cuAt I b l) (he : l[i]? = some e) : cuAt (up I (b + 15) i x) b (l.set i (e.1, x, e.2.2)) := by
  refine ⟨by simp [up_eq, h.1], by simpa using h.2.1, fun j y hy => ?_⟩
  obtain ⟨b1, b2, b3, b4, b5, b6, b7⟩ := h.2.2 i e he
  rcases gE_set hy with ⟨rfl, rfl⟩ | ⟨h1, h2⟩
  · simp [up_eq, b1, b2, b3, b4, b5, b6, b7]
  · obtain ⟨a1, a2, a3, a4, a5, a6, a7⟩ := h.2.2 j y h2
    simp [up_eq, h1, a1, a2, a3, a4, a5, a6, a7]
theorem cuAt.setP {I : Nat → Nat → Int32} {b i : Nat} {l : List mCu} {e : mCu} (x : Int32) (h : cuAt I b l) (he : l[i]? = some e) : cuAt (up I (b + 20) i x) b (l.set i (e.1, e.2.1, e.2.2.1, e.2.2.2.1, e.2.2.2.2.1, e.2.2.2.2.2.1, x)) := by
  refine ⟨by simp [up_eq, h.1], by simpa using h.2.1, fun j y hy => ?_⟩
  obtain ⟨b1, b2, b3, b4, b5, b6, b7⟩ := h.2.2 i e he
  rcases gE_set hy with ⟨rfl, rfl⟩ | ⟨h1, h2⟩
  · simp [up_eq, b1, b2, b3, b4, b5, b6, b7]
  · obtain ⟨a1, a2, a3, a4, a5, a6, a7⟩ := h.2.2 j y h2
    simp [up_eq, h1, a1, a2, a3, a4, a5, a6, a7]
theorem skAt.setK {I : Nat → Nat → Int32} {b i : Nat} {l : List mLf} {e : mLf} (x : Int32) (h : skAt I b l) (he : l[i]? = some e) : skAt (up I (b + 10) i x) b (l.set i (x, e.2)) := by
  refine ⟨by simp [up_eq, h.1], by simpa using h.2.1, fun j y hy => ?_⟩
  obtain ⟨b1, b2, b3⟩ := h.2.2 i e he
  rcases gE_set hy with ⟨rfl, rfl⟩ | ⟨h1, h2⟩
  · simp [up_eq, b1, b2, b3]
  · obtain ⟨a1, a2, a3⟩ := h.2.2 j y h2
    simp [up_eq, h1, a1, a2, a3]
theorem bkAt.setL {I : Nat → Nat → Int32} {b i : Nat} {l : List mBk} {e : mBk} (x : Int32) (h : bkAt I b l) (he : l[i]? = some e) : bkAt (up I (b + 7) i x) b (l.set i (e.1, e.2.1, e.2.2.1, e.2.2.2.1, x, e.2.2.2.2.2)) := by
  refine ⟨by simp [up_eq, h.1], by simpa using h.2.1, fun j y hy => ?_⟩
  obtain ⟨b1, b2, b3, b4, b5, b6⟩ := h.2.2 i e he
  rcases gE_set hy with ⟨rfl, rfl⟩ | ⟨h1, h2⟩
  · simp [up_eq, b1, b2, b3, b4, b5, b6]
  · obtain ⟨a1, a2, a3, a4, a5, a6⟩ := h.2.2 j y h2
    simp [up_eq, h1, a1, a2, a3, a4, a5, a6]
section T
variable (Γ : cG) {σ : cAS} {b : Nat}
def bsO (z : Nat → Int32) (kind : Int32) : Int32 := if 0 ≤ kind ∧ kind < 3 then z kind.toNatClampNeg else 0
theorem CX5_baseOf (hs : shS σ b) {I : Nat → Nat → Int32} {s : mS} (h : stAt I b s) (kind : Int32) : Ctr Γ (0, 0, 0, 0) MX5_baseOf [.ref b, .int kind] (wI σ I) (rV (some (.int (bsO s.1 kind))) (wI σ I)) := by
  refine Ctr.go rfl (by decide) rfl rfl ?_
  refine WP.iload_n (pc := 0) dX5_baseOf_0 rfl ?_
  refine WP.if_lt (pc := 1) (tgt := 18) dX5_baseOf_1 (by decide) (fun h1 => ?_) (fun h1 => ?_)
  · refine WP.iconst (pc := 18) (v := 0) dX5_baseOf_18 (by decide) ?_
    refine WP.iret (pc := 19) rfl dX5_baseOf_19 ?_
    exact ⟨by simp [bsO, Int32.not_le.mpr h1], rfl⟩
  · refine WP.iload_n (pc := 4) dX5_baseOf_4 rfl ?_
    refine WP.iconst (pc := 5) (v := 3) dX5_baseOf_5 (by decide) ?_
    refine WP.icmp_ge (pc := 6) (tgt := 18) dX5_baseOf_6 (by decide) (fun h2 => ?_) (fun h2 => ?_)
    · refine WP.iconst (pc := 18) (v := 0) dX5_baseOf_18 (by decide) ?_
      refine WP.iret (pc := 19) rfl dX5_baseOf_19 ?_
      exact ⟨by simp [bsO, Int32.not_lt.mpr h2], rfl⟩
    · obtain ⟨k, hk, rfl, -⟩ := pk_mu (L := 3) h1 h2 (by omega)
      refine WP.aload_n (pc := 9) dX5_baseOf_9 rfl ?_
      refine WP.gR (pc := 10) uX5 fX5_9 hs.t0 hs.r0_0 dX5_baseOf_10 ?_
      refine WP.iload_n (pc := 13) dX5_baseOf_13 rfl ?_
      refine WP.iald (pc := 14) hs.t1 (by omega) (by decide) dX5_baseOf_14 ?_
      refine WP.goto (pc := 15) (tgt := 19) dX5_baseOf_15 (by decide) ?_
      refine WP.iret (pc := 19) rfl dX5_baseOf_19 ?_
      refine ⟨?_, rfl⟩
      have e : bsO s.1 (nI k) = s.1 k := by
        unfold bsO
        rw [if_pos ⟨Int32.not_lt.mp h1, Int32.not_le.mp h2⟩, nI_clamp (by omega)]
      rw [e]
      obtain ⟨a1, a2, a3, -⟩ := h.1
      rcases (show k = 0 ∨ k = 1 ∨ k = 2 by omega) with rfl | rfl | rfl
      · rw [a1]
      · rw [a2]
      · rw [a3]
theorem CX5_ageOf (hs : shS σ b) {I : Nat → Nat → Int32} {s : mS} (h : stAt I b s) {i : Nat} {e : mLf} (he : s.2.2.1[i]? = some e) : Ctr Γ (0, 0, 0, 0) MX5_ageOf [.ref b, .int (nI i)] (wI σ I) (rV (some (.int (s.1 3 - e.2.2))) (wI σ I)) := by
  refine Ctr.go rfl (by decide) rfl rfl ?_
  have hc := h.2.2.1.1
  have hl := h.2.2.1.2.1
  have hi := gE_lt he
  obtain ⟨b1, b2, b3⟩ := h.2.2.1.2.2 i e he
  have hh := h.1.2.2.2.1
  refine WP.iload_n (pc := 0) dX5_ageOf_0 rfl ?_
  refine WP.if_lt (pc := 1) (tgt := 32) dX5_ageOf_1 (by decide) (fun h1 => ?_) (fun h1 => ?_)
  · exact absurd h1 (nI_pos (by omega))
  · refine WP.iload_n (pc := 4) dX5_ageOf_4 rfl ?_
    refine WP.aload_n (pc := 5) dX5_ageOf_5 rfl ?_
    refine WP.gR (pc := 6) uX5 fX5_25 hs.t0 hs.r0_2 dX5_ageOf_6 ?_
    refine WP.gIv (pc := 9) (v := (nI s.2.2.1.length)) uX6 fX5_47 hs.t9 (by simp [up_eq, hc]) dX5_ageOf_9 ?_
    refine WP.icmp_ge (pc := 12) (tgt := 32) dX5_ageOf_12 (by decide) (fun h2 => ?_) (fun h2 => ?_)
    · exact absurd h2 (nI_ge (by omega) (by omega))
    · refine WP.aload_n (pc := 15) dX5_ageOf_15 rfl ?_
      refine WP.gIv (pc := 16) (v := (s.1 3)) uX5 fX5_53 hs.t0 (by simp [up_eq, hh]) dX5_ageOf_16 ?_
      refine WP.aload_n (pc := 19) dX5_ageOf_19 rfl ?_
      refine WP.gR (pc := 20) uX5 fX5_25 hs.t0 hs.r0_2 dX5_ageOf_20 ?_
      refine WP.gR (pc := 23) uX6 fX5_94 hs.t9 hs.r9_3 dX5_ageOf_23 ?_
      refine WP.iload_n (pc := 26) dX5_ageOf_26 rfl ?_
      refine WP.iald (pc := 27) hs.t12 (by omega) (by decide) dX5_ageOf_27 ?_
      refine WP.isub (pc := 28) dX5_ageOf_28 ?_
      refine WP.goto (pc := 29) (tgt := 33) dX5_ageOf_29 (by decide) ?_
      refine WP.iret (pc := 33) rfl dX5_ageOf_33 ?_
      exact ⟨by rw [b3], rfl⟩
/-- the reserve price of a loaf -/
def rsE (z : Nat → Int32) (e : mLf) : Int32 := rsv e.1 (bsO z e.1) (z 3 - e.2.2)
theorem CX5_reserveOf (hs : shS σ b) {I : Nat → Nat → Int32} {s : mS} (h : stAt I b s) {i : Nat} {e : mLf} (he : s.2.2.1[i]? = some e) : Ctr Γ (1, 23, 0, 0) MX5_reserveOf [.ref b, .int (nI i)] (wI σ I) (rV (some (.int (rsE s.1 e))) (wI σ I)) := by
  refine Ctr.go rfl (by decide) rfl rfl ?_
  have hc := h.2.2.1.1
  have hl := h.2.2.1.2.1
  have hi := gE_lt he
  obtain ⟨b1, b2, b3⟩ := h.2.2.1.2.2 i e he
  have hh := h.1.2.2.2.1
  refine WP.iload_n (pc := 0) dX5_reserveOf_0 rfl ?_
  refine WP.if_lt (pc := 1) (tgt := 15) dX5_reserveOf_1 (by decide) (fun h1 => ?_) (fun h1 => ?_)
  · exact absurd h1 (nI_pos (by omega))
  · refine WP.iload_n (pc := 4) dX5_reserveOf_4 rfl ?_
    refine WP.aload_n (pc := 5) dX5_reserveOf_5 rfl ?_
    refine WP.gR (pc := 6) uX5 fX5_25 hs.t0 hs.r0_2 dX5_reserveOf_6 ?_
    refine WP.gIv (pc := 9) (v := (nI s.2.2.1.length)) uX6 fX5_47 hs.t9 (by simp [up_eq, hc]) dX5_reserveOf_9 ?_
    refine WP.icmp_lt (pc := 12) (tgt := 17) dX5_reserveOf_12 (by decide) (fun h2 => ?_) (fun h2 => ?_)
    · refine WP.aload_n (pc := 17) dX5_reserveOf_17 rfl ?_
      refine WP.gR (pc := 18) uX5 fX5_25 hs.t0 hs.r0_2 dX5_reserveOf_18 ?_
      refine WP.gR (pc := 21) uX6 fX5_97 hs.t9 hs.r9_1 dX5_reserveOf_21 ?_
      refine WP.iload_n (pc := 24) dX5_reserveOf_24 rfl ?_
      refine WP.iald (pc := 25) hs.t10 (by omega) (by decide) dX5_reserveOf_25 ?_
      refine WP.istore_n (pc := 26) dX5_reserveOf_26 (by decide) rfl ?_
      refine WP.iload_n (pc := 27) dX5_reserveOf_27 rfl ?_
      refine WP.aload_n (pc := 28) dX5_reserveOf_28 rfl ?_
      refine WP.iload_n (pc := 29) dX5_reserveOf_29 rfl ?_
      refine WP.cV1 (pc := 30) (mc2 := 0) (ms2 := 0) (ci := 5) kX5_100 (CX5_baseOf Γ hs h _) (by decide) rfl hs.t0 rfl ⟨Nat.le_of_ble_eq_true rfl, Nat.le_of_ble_eq_true rfl⟩ (Nat.le_of_ble_eq_true rfl) (Nat.le_of_ble_eq_true rfl) (Nat.le_of_ble_eq_true rfl) rfl dX5_reserveOf_30 ?_
      refine WP.aload_n (pc := 33) dX5_reserveOf_33 rfl ?_
      refine WP.gIv (pc := 34) (v := (s.1 3)) uX5 fX5_53 hs.t0 (by simp [up_eq, hh]) dX5_reserveOf_34 ?_
      refine WP.aload_n (pc := 37) dX5_reserveOf_37 rfl ?_
      refine WP.gR (pc := 38) uX5 fX5_25 hs.t0 hs.r0_2 dX5_reserveOf_38 ?_
      refine WP.gR (pc := 41) uX6 fX5_94 hs.t9 hs.r9_3 dX5_reserveOf_41 ?_
      refine WP.iload_n (pc := 44) dX5_reserveOf_44 rfl ?_
      refine WP.iald (pc := 45) hs.t12 (by omega) (by decide) dX5_reserveOf_45 ?_
      refine WP.isub (pc := 46) dX5_reserveOf_46 ?_
      refine WP.cN1 (pc := 47) (mc2 := 0) (ms2 := 0) kX5_104 (CX8_reserve Γ _ _ _ _) rfl ⟨Nat.le_of_ble_eq_true rfl, Nat.le_of_ble_eq_true rfl⟩ (Nat.le_of_ble_eq_true rfl) (Nat.le_of_ble_eq_true rfl) (Nat.le_of_ble_eq_true rfl) rfl dX5_reserveOf_47 ?_
      refine WP.iret (pc := 50) rfl dX5_reserveOf_50 ?_
      exact ⟨by rw [b1, b3]; rfl, rfl⟩
    · exact absurd (nI_lt hi (by omega)) h2
/-- why a baker can't begin -/
def rfU (s : mS) (e : mBk) : Int32 := if e.2.2.2.1 = -1 then (if 60 < nI s.2.2.1.length + ovN s.2.1 s.2.1.length + e.2.1 then 2 else 0) else 1
theorem CX5_refusal (hs : shS σ b) {I : Nat → Nat → Int32} {s : mS} (h : stAt I b s) {i : Nat} {e : mBk} (he : s.2.1[i]? = some e) : Ctr Γ (1, 22, 0, 0) MX5_refusal [.ref b, .int (nI i)] (wI σ I) (rV (some (.int (rfU s e))) (wI σ I)) := by
  refine Ctr.go rfl (by decide) rfl rfl ?_
  have hcs := h.2.2.1.1
  have hc := h.2.1.1
  have hl := h.2.1.2.1
  have hi := gE_lt he
  obtain ⟨b1, b2, b3, b4, b5, b6⟩ := h.2.1.2.2 i e he
  refine WP.iload_n (pc := 0) dX5_refusal_0 rfl ?_
  refine WP.if_lt (pc := 1) (tgt := 28) dX5_refusal_1 (by decide) (fun h1 => ?_) (fun h1 => ?_)
  · exact absurd h1 (nI_pos (by omega))
  · refine WP.iload_n (pc := 4) dX5_refusal_4 rfl ?_
    refine WP.aload_n (pc := 5) dX5_refusal_5 rfl ?_
    refine WP.gR (pc := 6) uX5 fX5_18 hs.t0 hs.r0_1 dX5_refusal_6 ?_
    refine WP.gIv (pc := 9) (v := (nI s.2.1.length)) uX1 fX5_43 hs.t2 (by simp [up_eq, hc]) dX5_refusal_9 ?_
    refine WP.icmp_ge (pc := 12) (tgt := 28) dX5_refusal_12 (by decide) (fun h2 => ?_) (fun h2 => ?_)
    · exact absurd h2 (nI_ge (by omega) (by omega))
    · refine WP.aload_n (pc := 15) dX5_refusal_15 rfl ?_
      refine WP.gR (pc := 16) uX5 fX5_18 hs.t0 hs.r0_1 dX5_refusal_16 ?_
      refine WP.gR (pc := 19) uX1 fX5_116 hs.t2 hs.r2_4 dX5_refusal_19 ?_
      refine WP.iload_n (pc := 22) dX5_refusal_22 rfl ?_
      refine WP.iald (pc := 23) hs.t6 (by omega) (by decide) dX5_refusal_23 ?_
      refine WP.iconst (pc := 24) (v := (-1)) dX5_refusal_24 (by decide) ?_
      rw [b4]
      refine WP.icmp_eq (pc := 25) (tgt := 30) dX5_refusal_25 (by decide) (fun h3 => ?_) (fun h3 => ?_)
      · refine WP.aload_n (pc := 30) dX5_refusal_30 rfl ?_
        refine WP.gR (pc := 31) uX5 fX5_25 hs.t0 hs.r0_2 dX5_refusal_31 ?_
        refine WP.gIv (pc := 34) (v := (nI s.2.2.1.length)) uX6 fX5_47 hs.t9 (by simp [up_eq, hcs]) dX5_refusal_34 ?_
        refine WP.aload_n (pc := 37) dX5_refusal_37 rfl ?_
        refine WP.gR (pc := 38) uX5 fX5_18 hs.t0 hs.r0_1 dX5_refusal_38 ?_
        refine WP.cV1 (pc := 41) (mc2 := 0) (ms2 := 0) (ci := 1) kX5_117 (CX1_loavesInOvens Γ hs h.2.1) (by decide) rfl hs.t2 rfl ⟨Nat.le_of_ble_eq_true rfl, Nat.le_of_ble_eq_true rfl⟩ (Nat.le_of_ble_eq_true rfl) (Nat.le_of_ble_eq_true rfl) (Nat.le_of_ble_eq_true rfl) rfl dX5_refusal_41 ?_
        refine WP.iadd (pc := 44) dX5_refusal_44 ?_
        refine WP.aload_n (pc := 45) dX5_refusal_45 rfl ?_
        refine WP.gR (pc := 46) uX5 fX5_18 hs.t0 hs.r0_1 dX5_refusal_46 ?_
        refine WP.gR (pc := 49) uX1 fX5_121 hs.t2 hs.r2_2 dX5_refusal_49 ?_
        refine WP.iload_n (pc := 52) dX5_refusal_52 rfl ?_
        refine WP.iald (pc := 53) hs.t4 (by omega) (by decide) dX5_refusal_53 ?_
        refine WP.iadd (pc := 54) dX5_refusal_54 ?_
        refine WP.bipush (pc := 55) (v := 60) dX5_refusal_55 (by decide) ?_
        rw [b2]
        refine WP.icmp_le (pc := 57) (tgt := 64) dX5_refusal_57 (by decide) (fun h4 => ?_) (fun h4 => ?_)
        · refine WP.iconst (pc := 64) (v := 0) dX5_refusal_64 (by decide) ?_
          refine WP.iret (pc := 65) rfl dX5_refusal_65 ?_
          exact ⟨by simp [rfU, h3, Int32.not_lt.mpr h4], rfl⟩
        · refine WP.iconst (pc := 60) (v := 2) dX5_refusal_60 (by decide) ?_
          refine WP.goto (pc := 61) (tgt := 65) dX5_refusal_61 (by decide) ?_
          refine WP.iret (pc := 65) rfl dX5_refusal_65 ?_
          exact ⟨by simp [rfU, h3, Int32.not_le.mp h4], rfl⟩
      · refine WP.iconst (pc := 28) (v := 1) dX5_refusal_28 (by decide) ?_
        refine WP.iret (pc := 29) rfl dX5_refusal_29 ?_
        exact ⟨by simp [rfU, h3], rfl⟩
theorem CX5_welcome (hs : shS σ b) {I : Nat → Nat → Int32} {s : mS} (h : stAt I b s) (nm : Nat) (kind wanted limit purse patience : Int32) (hl : s.2.2.2.1.length < 10) : Ctr Γ (1, 27, 0, 0) MX5_welcome [.ref b, .int (nmA nm), .int kind, .int wanted, .int limit, .int purse, .int patience] (wI σ I) (rP σ (fun x I' => x = s.1 11 ∧ fr I I' b 25 ∧ stAt I' b (zup (zup s.1 9 (s.1 9 + purse)) 11 (s.1 11 + 1), s.2.1, s.2.2.1, s.2.2.2.1 ++ [(nm, s.1 11, kind, wanted, limit, purse, patience)], s.2.2.2.2))) := by
  refine Ctr.go rfl (by decide) rfl rfl ?_
  have hj := h.1.2.2.2.2.2.2.2.2.2.1
  refine WP.aload_n (pc := 0) dX5_welcome_0 rfl ?_
  refine WP.dup (pc := 1) dX5_welcome_1 rfl ?_
  refine WP.gIv (pc := 2) (v := (s.1 9)) uX5 fX5_71 hs.t0 (by simp [up_eq, hj]) dX5_welcome_2 ?_
  refine WP.iload (pc := 5) dX5_welcome_5 rfl ?_
  refine WP.iadd (pc := 7) dX5_welcome_7 ?_
  refine WP.pI (pc := 8) uX5 fX5_71 rfl rfl hs.t0 dX5_welcome_8 ?_
  have h' := h.z 9 (s.1 9 + purse) (by omega) (by omega)
  refine WP.aload_n (pc := 11) dX5_welcome_11 rfl ?_
  refine WP.gR (pc := 12) uX5 fX5_32 hs.t0 hs.r0_3 dX5_welcome_12 ?_
  refine WP.iload_n (pc := 15) dX5_welcome_15 rfl ?_
  refine WP.iload_n (pc := 16) dX5_welcome_16 rfl ?_
  refine WP.iload_n (pc := 17) dX5_welcome_17 rfl ?_
  refine WP.iload (pc := 18) dX5_welcome_18 rfl ?_
  refine WP.iload (pc := 20) dX5_welcome_20 rfl ?_
  refine WP.iload (pc := 22) dX5_welcome_22 rfl ?_
  refine WP.cVp (pc := 24) (mc2 := 0) (ms2 := 0) (ci := 2) kX5_124 (CX2_add Γ hs nm kind wanted limit purse patience hl h'.2.2.2.1) (by decide) rfl hs.t13 rfl ⟨Nat.le_of_ble_eq_true rfl, Nat.le_of_ble_eq_true rfl⟩ (Nat.le_of_ble_eq_true rfl) (Nat.le_of_ble_eq_true rfl) (Nat.le_of_ble_eq_true rfl) rfl dX5_welcome_24 (fun x I1 ⟨g1, g2, g3, g4⟩ => ?_)
  refine WP.iret (pc := 27) rfl dX5_welcome_27 ?_
  have e1 : up I b 11 (s.1 9 + purse) (b + 13) 1 = s.1 11 := h'.1.2.2.2.2.2.2.2.2.2.2.2
  refine ⟨x, I1, rfl, rfl, by rw [g1, e1], fr.trans (fr_up1.mono (by omega) (by omega)) (g2.mono (by omega) (by omega)), ?_⟩
  rw [e1] at g3 g4
  exact h'.cuT g2 g4 g3
theorem CX5_dismiss (hs : shS σ b) {I : Nat → Nat → Int32} {s : mS} (h : stAt I b s) {i : Nat} {e : mCu} (he : s.2.2.2.1[i]? = some e) (reason : Int32) : Ctr Γ (2, 63, 0, 0) MX5_dismiss [.ref b, .int (nI i), .int reason] (wI σ I) (rW σ (fun I' => fr I I' b 25 ∧ stAt I' b (zup s.1 10 (s.1 10 + e.2.2.2.2.2.1), s.2.1, s.2.2.1, s.2.2.2.1.set i (e.1, -1, e.2.2), evAdd s.2.2.2.2 (3, e.2.1, reason)))) := by
  refine Ctr.go rfl (by decide) rfl rfl ?_
  have hc := h.2.2.2.1.1
  have hl := h.2.2.2.1.2.1
  have hi := gE_lt he
  obtain ⟨b1, b2, b3, b4, b5, b6, b7⟩ := h.2.2.2.1.2.2 i e he
  refine WP.iload_n (pc := 0) dX5_dismiss_0 rfl ?_
  refine WP.if_lt (pc := 1) (tgt := 61) dX5_dismiss_1 (by decide) (fun h1 => ?_) (fun h1 => ?_)
  · exact absurd h1 (nI_pos (by omega))
  · refine WP.iload_n (pc := 4) dX5_dismiss_4 rfl ?_
    refine WP.aload_n (pc := 5) dX5_dismiss_5 rfl ?_
    refine WP.gR (pc := 6) uX5 fX5_32 hs.t0 hs.r0_3 dX5_dismiss_6 ?_
    refine WP.gIv (pc := 9) (v := (nI s.2.2.2.1.length)) uX2 fX5_48 hs.t13 (by simp [up_eq, hc]) dX5_dismiss_9 ?_
    refine WP.icmp_ge (pc := 12) (tgt := 61) dX5_dismiss_12 (by decide) (fun h2 => ?_) (fun h2 => ?_)
    · exact absurd h2 (nI_ge (by omega) (by omega))
    · refine WP.aload_n (pc := 15) dX5_dismiss_15 rfl ?_
      refine WP.gR (pc := 16) uX5 fX5_39 hs.t0 hs.r0_4 dX5_dismiss_16 ?_
      refine WP.iconst (pc := 19) (v := 3) dX5_dismiss_19 (by decide) ?_
      refine WP.aload_n (pc := 20) dX5_dismiss_20 rfl ?_
      refine WP.gR (pc := 21) uX5 fX5_32 hs.t0 hs.r0_3 dX5_dismiss_21 ?_
      refine WP.gR (pc := 24) uX2 fX5_128 hs.t13 hs.r13_3 dX5_dismiss_24 ?_
      refine WP.iload_n (pc := 27) dX5_dismiss_27 rfl ?_
      refine WP.iald (pc := 28) hs.t15 (by omega) (by decide) dX5_dismiss_28 ?_
      refine WP.iload_n (pc := 29) dX5_dismiss_29 rfl ?_
      rw [b2]
      refine WP.cVw (pc := 30) (mc2 := 0) (ms2 := 0) (ci := 3) kX5_131 (CX3_add Γ hs _ _ _ h.2.2.2.2) (by decide) rfl hs.t21 rfl ⟨Nat.le_of_ble_eq_true rfl, Nat.le_of_ble_eq_true rfl⟩ (Nat.le_of_ble_eq_true rfl) (Nat.le_of_ble_eq_true rfl) (Nat.le_of_ble_eq_true rfl) rfl dX5_dismiss_30 (fun I1 ⟨g1, g2⟩ => ?_)
      have h3 := h.ev g1 g2
      have hj := h3.1.2.2.2.2.2.2.2.2.2.2.1
      obtain ⟨c1, c2, c3, c4, c5, c6, c7⟩ := h3.2.2.2.1.2.2 i e he
      refine WP.aload_n (pc := 33) dX5_dismiss_33 rfl ?_
      refine WP.dup (pc := 34) dX5_dismiss_34 rfl ?_
      refine WP.gIv (pc := 35) (v := (s.1 10)) uX5 fX5_74 hs.t0 (by simp [up_eq, hj]) dX5_dismiss_35 ?_
      refine WP.aload_n (pc := 38) dX5_dismiss_38 rfl ?_
      refine WP.gR (pc := 39) uX5 fX5_32 hs.t0 hs.r0_3 dX5_dismiss_39 ?_
      refine WP.gR (pc := 42) uX2 fX5_134 hs.t13 hs.r13_7 dX5_dismiss_42 ?_
      refine WP.iload_n (pc := 45) dX5_dismiss_45 rfl ?_
      refine WP.iald (pc := 46) hs.t19 (by omega) (by decide) dX5_dismiss_46 ?_
      rw [c6]
      refine WP.iadd (pc := 47) dX5_dismiss_47 ?_
      refine WP.pI (pc := 48) uX5 fX5_74 rfl rfl hs.t0 dX5_dismiss_48 ?_
      have h4 := h3.z 10 (s.1 10 + e.2.2.2.2.2.1) (by omega) (by omega)
      refine WP.aload_n (pc := 51) dX5_dismiss_51 rfl ?_
      refine WP.gR (pc := 52) uX5 fX5_32 hs.t0 hs.r0_3 dX5_dismiss_52 ?_
      refine WP.gR (pc := 55) uX2 fX5_128 hs.t13 hs.r13_3 dX5_dismiss_55 ?_
      refine WP.iload_n (pc := 58) dX5_dismiss_58 rfl ?_
      refine WP.iconst (pc := 59) (v := (-1)) dX5_dismiss_59 (by decide) ?_
      refine WP.iast (pc := 60) hs.t15 (by omega) (by decide) dX5_dismiss_60 ?_
      refine WP.vret (pc := 61) rfl dX5_dismiss_61 ?_
      refine ⟨rfl, _, rfl, fr.trans (g1.mono (by omega) (by omega)) ((fr.rf.up (by omega) (by omega)).up (by omega) (by omega)), ?_⟩
      exact h4.cu ((fr_up1 (a := b + 15)).mono (by omega) (by omega)) (by simp [up_eq]) (h4.2.2.2.1.setT (-1) he)
end T
