section T
variable (Γ : cG) {σ : cAS} {b : Nat}
theorem nI_ne_m1 {n : Nat} (h : n < 2 ^ 31) : nI n ≠ -1 := fun q => by
  have := congrArg Int32.toInt q
  rw [nI_toInt h] at this
  have e : (-1 : Int32).toInt = -1 := by decide
  rw [e] at this
  omega
theorem fndI_none {f : Nat → Int32} {v : Int32} : ∀ n i, i + n < 2 ^ 31 → (fndI f v n i = -1 ↔ ∀ j, i ≤ j → j < i + n → f j ≠ v) := by
  intro n
  induction n with
  | zero => intro i _; exact ⟨fun _ j a c => by omega, fun _ => rfl⟩
  | succ n ih =>
    intro i hi
    unfold fndI
    by_cases h : f i = v
    · rw [if_pos h]
      exact ⟨fun q => absurd q (nI_ne_m1 (by omega)), fun q => absurd h (q i (by omega) (by omega))⟩
    · rw [if_neg h, ih (i + 1) (by omega)]
      exact ⟨fun q j a c => by
        rcases Nat.eq_or_lt_of_le a with rfl | z
        · exact h
        · exact q j (by omega) (by omega), fun q j a c => q j (by omega) (by omega)⟩
theorem fndI_any {α : Type} {f : Nat → Int32} {v : Int32} {g : α → Int32} {l : List α} (hl : l.length ≤ 1000) (h : ∀ i e, l[i]? = some e → f i = g e) : fndI f v l.length 0 = -1 ↔ l.any (fun e => decide (g e = v)) = false := by
  rw [fndI_none _ _ (by omega), List.any_eq_false]
  constructor
  · intro q e he
    obtain ⟨i, hi⟩ := List.getElem?_of_mem he
    have := q i (by omega) (by have := gE_lt hi; omega)
    rw [h i e hi] at this
    simpa using this
  · intro q j _ hj
    have he : l[j]? = some (l[j]'(by omega)) := List.getElem?_eq_getElem (by omega)
    rw [h j _ he]
    simpa using q _ (List.mem_of_getElem? he)
/-- has a baker or a customer this name -/
def hasN (s : mS) (v : Int32) : Bool := s.2.1.any (fun e => decide (nmA e.1 = v)) || s.2.2.2.1.any (fun e => decide (nmA e.1 = v))
theorem CX5_hasName (hs : shS σ b) {I : Nat → Nat → Int32} {s : mS} (h : stAt I b s) (v : Int32) : Ctr Γ (1, 23, 0, 0) MX5_hasName [.ref b, .int v] (wI σ I) (rV (some (.int (bI (hasN s v)))) (wI σ I)) := by
  refine Ctr.go rfl (by decide) rfl rfl ?_
  have hcb := h.2.1.1
  have hlb := h.2.1.2.1
  have hcc := h.2.2.2.1.1
  have hlc := h.2.2.2.1.2.1
  have f1 := fndI_any (v := v) (f := I (b + 3)) (g := fun e : mBk => nmA e.1) (l := s.2.1) (by omega) (fun i e he => (h.2.1.2.2 i e he).1)
  have f2 := fndI_any (v := v) (f := I (b + 14)) (g := fun e : mCu => nmA e.1) (l := s.2.2.2.1) (by omega) (fun i e he => (h.2.2.2.1.2.2 i e he).1)
  refine WP.aload_n (pc := 0) dX5_hasName_0 rfl ?_
  refine WP.gR (pc := 1) uX5 fX5_18 hs.t0 hs.r0_1 dX5_hasName_1 ?_
  refine WP.gR (pc := 4) uX1 fX5_108 hs.t2 hs.r2_1 dX5_hasName_4 ?_
  refine WP.aload_n (pc := 7) dX5_hasName_7 rfl ?_
  refine WP.gR (pc := 8) uX5 fX5_18 hs.t0 hs.r0_1 dX5_hasName_8 ?_
  refine WP.gIv (pc := 11) (v := (nI s.2.1.length)) uX1 fX5_43 hs.t2 (by simp [up_eq, hcb]) dX5_hasName_11 ?_
  refine WP.iload_n (pc := 14) dX5_hasName_14 rfl ?_
  refine WP.cN1 (pc := 15) (mc2 := 0) (ms2 := 0) kX5_111 (CX8_find Γ σ I hs.t3 (by omega) hlb v) rfl ⟨Nat.le_of_ble_eq_true rfl, Nat.le_of_ble_eq_true rfl⟩ (Nat.le_of_ble_eq_true rfl) (Nat.le_of_ble_eq_true rfl) (Nat.le_of_ble_eq_true rfl) rfl dX5_hasName_15 ?_
  refine WP.iconst (pc := 18) (v := (-1)) dX5_hasName_18 (by decide) ?_
  refine WP.icmp_ne (pc := 19) (tgt := 44) dX5_hasName_19 (by decide) (fun h1 => ?_) (fun h1 => ?_)
  · refine WP.iconst (pc := 44) (v := 1) dX5_hasName_44 (by decide) ?_
    refine WP.goto (pc := 45) (tgt := 49) dX5_hasName_45 (by decide) ?_
    refine WP.zret (pc := 49) rfl (by decide) dX5_hasName_49 ?_
    have : s.2.1.any (fun e => decide (nmA e.1 = v)) = true := by
      cases q : s.2.1.any (fun e => decide (nmA e.1 = v))
      · exact absurd (f1.mpr q) h1
      · rfl
    exact ⟨by simp [bI, hasN, this], rfl⟩
  · refine WP.aload_n (pc := 22) dX5_hasName_22 rfl ?_
    refine WP.gR (pc := 23) uX5 fX5_32 hs.t0 hs.r0_3 dX5_hasName_23 ?_
    refine WP.gR (pc := 26) uX2 fX5_115 hs.t13 hs.r13_2 dX5_hasName_26 ?_
    refine WP.aload_n (pc := 29) dX5_hasName_29 rfl ?_
    refine WP.gR (pc := 30) uX5 fX5_32 hs.t0 hs.r0_3 dX5_hasName_30 ?_
    refine WP.gIv (pc := 33) (v := (nI s.2.2.2.1.length)) uX2 fX5_48 hs.t13 (by simp [up_eq, hcc]) dX5_hasName_33 ?_
    refine WP.iload_n (pc := 36) dX5_hasName_36 rfl ?_
    refine WP.cN1 (pc := 37) (mc2 := 0) (ms2 := 0) kX5_111 (CX8_find Γ σ I hs.t14 (by omega) hlc v) rfl ⟨Nat.le_of_ble_eq_true rfl, Nat.le_of_ble_eq_true rfl⟩ (Nat.le_of_ble_eq_true rfl) (Nat.le_of_ble_eq_true rfl) (Nat.le_of_ble_eq_true rfl) rfl dX5_hasName_37 ?_
    refine WP.iconst (pc := 40) (v := (-1)) dX5_hasName_40 (by decide) ?_
    refine WP.icmp_eq (pc := 41) (tgt := 48) dX5_hasName_41 (by decide) (fun h2 => ?_) (fun h2 => ?_)
    · refine WP.iconst (pc := 48) (v := 0) dX5_hasName_48 (by decide) ?_
      refine WP.zret (pc := 49) rfl (by decide) dX5_hasName_49 ?_
      exact ⟨by simp only [bI, hasN, f1.mp h1, f2.mp h2]; rfl, rfl⟩
    · refine WP.iconst (pc := 44) (v := 1) dX5_hasName_44 (by decide) ?_
      refine WP.goto (pc := 45) (tgt := 49) dX5_hasName_45 (by decide) ?_
      refine WP.zret (pc := 49) rfl (by decide) dX5_hasName_49 ?_
      have : s.2.2.2.1.any (fun e => decide (nmA e.1 = v)) = true := by
        cases q : s.2.2.2.1.any (fun e => decide (nmA e.1 = v))
        · exact absurd (f2.mpr q) h2
        · rfl
      exact ⟨by simp [bI, hasN, this], rfl⟩
/-- the sparrows eat -/
def spEat (z : Nat → Int32) : Nat → Int32 :=
  let c := if 3 * z 5 < z 4 then z 4 - 3 * z 5 else 0
  let z1 := zup z 4 c
  if 20 < c then (if z 5 < 9 then zup z1 5 (z 5 + 1) else z1) else if c = 0 ∧ 0 < z 5 then zup z1 5 (z 5 - 1) else z1
theorem LX5_feed (hs : shS σ b) {I : Nat → Nat → Int32} {s : mS} {z : Nat → Int32} (h : stAt I b (zup z 4 (if 3 * z 5 < z 4 then z 4 - 3 * z 5 else 0), s.2)) {I0 : Nat → Nat → Int32} (hf : fr I0 I b 1) {x : Int32} : WP Γ (0, 0, 0, 0) MX5_feedSparrows (rW σ (fun I' => fr I0 I' b 1 ∧ stAt I' b (spEat z, s.2))) 29 [some (.ref b), some (.int x)] [] (wI σ I) := by
  have h4 := h.1.2.2.2.2.1
  have h5 := h.1.2.2.2.2.2.1
  generalize hc : (if 3 * z 5 < z 4 then z 4 - 3 * z 5 else 0) = c at h h4
  have h5 : I b 7 = z 5 := h5
  have h4 : I b 6 = c := h4
  refine WP.aload_n (pc := 29) dX5_feedSparrows_29 rfl ?_
  refine WP.gIv (pc := 30) (v := c) uX5 fX5_56 hs.t0 (by simp [up_eq, h4]) dX5_feedSparrows_30 ?_
  refine WP.bipush (pc := 33) (v := 20) dX5_feedSparrows_33 (by decide) ?_
  refine WP.icmp_le (pc := 35) (tgt := 60) dX5_feedSparrows_35 (by decide) (fun h1 => ?_) (fun h1 => ?_)
  · refine WP.aload_n (pc := 60) dX5_feedSparrows_60 rfl ?_
    refine WP.gIv (pc := 61) (v := c) uX5 fX5_56 hs.t0 (by simp [up_eq, h4]) dX5_feedSparrows_61 ?_
    refine WP.if_ne (pc := 64) (tgt := 84) dX5_feedSparrows_64 (by decide) (fun h2 => ?_) (fun h2 => ?_)
    · skip
      refine WP.vret (pc := 84) rfl dX5_feedSparrows_84 ?_
      refine ⟨rfl, I, rfl, hf, ?_⟩
      have : spEat z = zup z 4 c := by
        unfold spEat
        simp only [hc]
        rw [if_neg (Int32.not_lt.mpr h1), if_neg (fun q => h2 q.1)]
      rw [this]
      exact h
    · refine WP.aload_n (pc := 67) dX5_feedSparrows_67 rfl ?_
      refine WP.gIv (pc := 68) (v := (z 5)) uX5 fX5_59 hs.t0 (by simp [up_eq, h5]) dX5_feedSparrows_68 ?_
      refine WP.if_le (pc := 71) (tgt := 84) dX5_feedSparrows_71 (by decide) (fun h3 => ?_) (fun h3 => ?_)
      · skip
        refine WP.vret (pc := 84) rfl dX5_feedSparrows_84 ?_
        refine ⟨rfl, I, rfl, hf, ?_⟩
        have : spEat z = zup z 4 c := by
          unfold spEat
          simp only [hc]
          rw [if_neg (Int32.not_lt.mpr h1), if_neg (fun q => Int32.not_lt.mpr h3 q.2)]
        rw [this]
        exact h
      · refine WP.aload_n (pc := 74) dX5_feedSparrows_74 rfl ?_
        refine WP.dup (pc := 75) dX5_feedSparrows_75 rfl ?_
        refine WP.gIv (pc := 76) (v := (z 5)) uX5 fX5_59 hs.t0 (by simp [up_eq, h5]) dX5_feedSparrows_76 ?_
        refine WP.iconst (pc := 79) (v := 1) dX5_feedSparrows_79 (by decide) ?_
        refine WP.isub (pc := 80) dX5_feedSparrows_80 ?_
        refine WP.pI (pc := 81) uX5 fX5_59 rfl rfl hs.t0 dX5_feedSparrows_81 ?_
        refine WP.vret (pc := 84) rfl dX5_feedSparrows_84 ?_
        refine ⟨rfl, _, rfl, fr.trans hf (fr_up1), ?_⟩
        have : spEat z = zup (zup z 4 c) 5 (z 5 - 1) := by
          unfold spEat
          simp only [hc]
          rw [if_neg (Int32.not_lt.mpr h1), if_pos ⟨h2, Int32.not_le.mp h3⟩]
        rw [this]
        exact h.z 5 (z 5 - 1) (by omega) (by omega)
  · refine WP.aload_n (pc := 38) dX5_feedSparrows_38 rfl ?_
    refine WP.gIv (pc := 39) (v := (z 5)) uX5 fX5_59 hs.t0 (by simp [up_eq, h5]) dX5_feedSparrows_39 ?_
    refine WP.bipush (pc := 42) (v := 9) dX5_feedSparrows_42 (by decide) ?_
    refine WP.icmp_ge (pc := 44) (tgt := 84) dX5_feedSparrows_44 (by decide) (fun h2 => ?_) (fun h2 => ?_)
    · skip
      refine WP.vret (pc := 84) rfl dX5_feedSparrows_84 ?_
      refine ⟨rfl, I, rfl, hf, ?_⟩
      have : spEat z = zup z 4 c := by
        unfold spEat
        simp only [hc]
        rw [if_pos (Int32.not_le.mp h1), if_neg (Int32.not_lt.mpr h2)]
      rw [this]
      exact h
    · refine WP.aload_n (pc := 47) dX5_feedSparrows_47 rfl ?_
      refine WP.dup (pc := 48) dX5_feedSparrows_48 rfl ?_
      refine WP.gIv (pc := 49) (v := (z 5)) uX5 fX5_59 hs.t0 (by simp [up_eq, h5]) dX5_feedSparrows_49 ?_
      refine WP.iconst (pc := 52) (v := 1) dX5_feedSparrows_52 (by decide) ?_
      refine WP.iadd (pc := 53) dX5_feedSparrows_53 ?_
      refine WP.pI (pc := 54) uX5 fX5_59 rfl rfl hs.t0 dX5_feedSparrows_54 ?_
      refine WP.goto (pc := 57) (tgt := 84) dX5_feedSparrows_57 (by decide) ?_
      refine WP.vret (pc := 84) rfl dX5_feedSparrows_84 ?_
      refine ⟨rfl, _, rfl, fr.trans hf (fr_up1), ?_⟩
      have : spEat z = zup (zup z 4 c) 5 (z 5 + 1) := by
        unfold spEat
        simp only [hc]
        rw [if_pos (Int32.not_le.mp h1), if_pos (Int32.not_le.mp h2)]
      rw [this]
      exact h.z 5 (z 5 + 1) (by omega) (by omega)
theorem CX5_feedSparrows (hs : shS σ b) {I : Nat → Nat → Int32} {s : mS} (h : stAt I b s) : Ctr Γ (0, 0, 0, 0) MX5_feedSparrows [.ref b] (wI σ I) (rW σ (fun I' => fr I I' b 1 ∧ stAt I' b (spEat s.1, s.2))) := by
  refine Ctr.go rfl (by decide) rfl rfl ?_
  have h4 := h.1.2.2.2.2.1
  have h5 := h.1.2.2.2.2.2.1
  refine WP.iconst (pc := 0) (v := 3) dX5_feedSparrows_0 (by decide) ?_
  refine WP.aload_n (pc := 1) dX5_feedSparrows_1 rfl ?_
  refine WP.gIv (pc := 2) (v := (s.1 5)) uX5 fX5_59 hs.t0 (by simp [up_eq, h5]) dX5_feedSparrows_2 ?_
  refine WP.imul (pc := 5) dX5_feedSparrows_5 ?_
  refine WP.istore_n (pc := 6) dX5_feedSparrows_6 (by decide) rfl ?_
  refine WP.aload_n (pc := 7) dX5_feedSparrows_7 rfl ?_
  refine WP.iload_n (pc := 8) dX5_feedSparrows_8 rfl ?_
  refine WP.aload_n (pc := 9) dX5_feedSparrows_9 rfl ?_
  refine WP.gIv (pc := 10) (v := (s.1 4)) uX5 fX5_56 hs.t0 (by simp [up_eq, h4]) dX5_feedSparrows_10 ?_
  refine WP.icmp_ge (pc := 13) (tgt := 25) dX5_feedSparrows_13 (by decide) (fun h1 => ?_) (fun h1 => ?_)
  · refine WP.iconst (pc := 25) (v := 0) dX5_feedSparrows_25 (by decide) ?_
    refine WP.pI (pc := 26) uX5 fX5_56 rfl rfl hs.t0 dX5_feedSparrows_26 ?_
    refine LX5_feed Γ hs ?_ fr_up1
    rw [if_neg (Int32.not_lt.mpr h1)]
    exact h.z 4 0 (by omega) (by omega)
  · refine WP.aload_n (pc := 16) dX5_feedSparrows_16 rfl ?_
    refine WP.gIv (pc := 17) (v := (s.1 4)) uX5 fX5_56 hs.t0 (by simp [up_eq, h4]) dX5_feedSparrows_17 ?_
    refine WP.iload_n (pc := 20) dX5_feedSparrows_20 rfl ?_
    refine WP.isub (pc := 21) dX5_feedSparrows_21 ?_
    refine WP.goto (pc := 22) (tgt := 26) dX5_feedSparrows_22 (by decide) ?_
    refine WP.pI (pc := 26) uX5 fX5_56 rfl rfl hs.t0 dX5_feedSparrows_26 ?_
    refine LX5_feed Γ hs ?_ fr_up1
    rw [if_pos (Int32.not_le.mp h1)]
    exact h.z 4 (s.1 4 - 3 * s.1 5) (by omega) (by omega)
def mS0 (z : Nat → Int32) : mS := (fun j => if j < 3 then z j else 0, [], [], [], [])
theorem CX5_clear (hs : shS σ b) {I : Nat → Nat → Int32} : Ctr Γ (0, 0, 0, 0) MX5_clear [.ref b] (wI σ I) (rW σ (fun I' => fr I I' b 25 ∧ stAt I' b (mS0 (fun j => I (b + 1) j)))) := by
  refine Ctr.go rfl (by decide) rfl rfl ?_
  refine WP.aload_n (pc := 0) dX5_clear_0 rfl ?_
  refine WP.gR (pc := 1) uX5 fX5_18 hs.t0 hs.r0_1 dX5_clear_1 ?_
  refine WP.iconst (pc := 4) (v := 0) dX5_clear_4 (by decide) ?_
  refine WP.pI (pc := 5) uX1 fX5_43 rfl rfl hs.t2 dX5_clear_5 ?_
  refine WP.aload_n (pc := 8) dX5_clear_8 rfl ?_
  refine WP.gR (pc := 9) uX5 fX5_25 hs.t0 hs.r0_2 dX5_clear_9 ?_
  refine WP.iconst (pc := 12) (v := 0) dX5_clear_12 (by decide) ?_
  refine WP.pI (pc := 13) uX6 fX5_47 rfl rfl hs.t9 dX5_clear_13 ?_
  refine WP.aload_n (pc := 16) dX5_clear_16 rfl ?_
  refine WP.gR (pc := 17) uX5 fX5_32 hs.t0 hs.r0_3 dX5_clear_17 ?_
  refine WP.iconst (pc := 20) (v := 0) dX5_clear_20 (by decide) ?_
  refine WP.pI (pc := 21) uX2 fX5_48 rfl rfl hs.t13 dX5_clear_21 ?_
  refine WP.aload_n (pc := 24) dX5_clear_24 rfl ?_
  refine WP.gR (pc := 25) uX5 fX5_32 hs.t0 hs.r0_3 dX5_clear_25 ?_
  refine WP.iconst (pc := 28) (v := 0) dX5_clear_28 (by decide) ?_
  refine WP.pI (pc := 29) uX2 fX5_49 rfl rfl hs.t13 dX5_clear_29 ?_
  refine WP.aload_n (pc := 32) dX5_clear_32 rfl ?_
  refine WP.gR (pc := 33) uX5 fX5_39 hs.t0 hs.r0_4 dX5_clear_33 ?_
  refine WP.iconst (pc := 36) (v := 0) dX5_clear_36 (by decide) ?_
  refine WP.pI (pc := 37) uX3 fX5_52 rfl rfl hs.t21 dX5_clear_37 ?_
  refine WP.aload_n (pc := 40) dX5_clear_40 rfl ?_
  refine WP.iconst (pc := 41) (v := 0) dX5_clear_41 (by decide) ?_
  refine WP.pI (pc := 42) uX5 fX5_53 rfl rfl hs.t0 dX5_clear_42 ?_
  refine WP.aload_n (pc := 45) dX5_clear_45 rfl ?_
  refine WP.iconst (pc := 46) (v := 0) dX5_clear_46 (by decide) ?_
  refine WP.pI (pc := 47) uX5 fX5_56 rfl rfl hs.t0 dX5_clear_47 ?_
  refine WP.aload_n (pc := 50) dX5_clear_50 rfl ?_
  refine WP.iconst (pc := 51) (v := 0) dX5_clear_51 (by decide) ?_
  refine WP.pI (pc := 52) uX5 fX5_59 rfl rfl hs.t0 dX5_clear_52 ?_
  refine WP.aload_n (pc := 55) dX5_clear_55 rfl ?_
  refine WP.iconst (pc := 56) (v := 0) dX5_clear_56 (by decide) ?_
  refine WP.pI (pc := 57) uX5 fX5_62 rfl rfl hs.t0 dX5_clear_57 ?_
  refine WP.aload_n (pc := 60) dX5_clear_60 rfl ?_
  refine WP.iconst (pc := 61) (v := 0) dX5_clear_61 (by decide) ?_
  refine WP.pI (pc := 62) uX5 fX5_65 rfl rfl hs.t0 dX5_clear_62 ?_
  refine WP.aload_n (pc := 65) dX5_clear_65 rfl ?_
  refine WP.iconst (pc := 66) (v := 0) dX5_clear_66 (by decide) ?_
  refine WP.pI (pc := 67) uX5 fX5_68 rfl rfl hs.t0 dX5_clear_67 ?_
  refine WP.aload_n (pc := 70) dX5_clear_70 rfl ?_
  refine WP.iconst (pc := 71) (v := 0) dX5_clear_71 (by decide) ?_
  refine WP.pI (pc := 72) uX5 fX5_71 rfl rfl hs.t0 dX5_clear_72 ?_
  refine WP.aload_n (pc := 75) dX5_clear_75 rfl ?_
  refine WP.iconst (pc := 76) (v := 0) dX5_clear_76 (by decide) ?_
  refine WP.pI (pc := 77) uX5 fX5_74 rfl rfl hs.t0 dX5_clear_77 ?_
  refine WP.vret (pc := 80) rfl dX5_clear_80 ?_
  refine ⟨rfl, _, rfl, ?_, ?_, ?_, ?_, ?_, ?_⟩
  · repeat (first | exact fr.rf | refine fr.up ?_ (by omega) (by omega))
  · simp [scAt, mS0, up_eq]
  · exact ⟨by simp [up_eq, mS0]; rfl, by simp [mS0], fun i e he => by simp [mS0] at he⟩
  · exact ⟨by simp [up_eq, mS0]; rfl, by simp [mS0], fun i e he => by simp [mS0] at he⟩
  · exact ⟨by simp [up_eq, mS0]; rfl, by simp [mS0], fun i e he => by simp [mS0] at he⟩
  · exact ⟨by simp [up_eq, mS0]; rfl, by simp [mS0], fun i e he => by simp [mS0] at he⟩
theorem CX5_copyFrom {o : Nat} (hs : shS σ b) (ho : shS σ o) (hd : b + 25 ≤ o ∨ o + 25 ≤ b) {I : Nat → Nat → Int32} {s : mS} (h : stAt I o s) : Ctr Γ (3, 83, 0, 0) MX5_copyFrom [.ref b, .ref o] (wI σ I) (rW σ (fun I' => fr I I' b 25 ∧ stAt I' b s)) := by
  refine Ctr.go rfl (by decide) rfl rfl ?_
  refine WP.aload_n (pc := 0) dX5_copyFrom_0 rfl ?_
  refine WP.gR (pc := 1) uX5 fX5_9 ho.t0 ho.r0_0 dX5_copyFrom_1 ?_
  refine WP.aload_n (pc := 4) dX5_copyFrom_4 rfl ?_
  refine WP.gR (pc := 5) uX5 fX5_9 hs.t0 hs.r0_0 dX5_copyFrom_5 ?_
  refine WP.cN0 (pc := 8) (mc2 := 0) (ms2 := 0) kX5_77 (CX8_copyRow Γ σ _ ho.t1 hs.t1 (by decide)) rfl ⟨Nat.le_of_ble_eq_true rfl, Nat.le_of_ble_eq_true rfl⟩ (Nat.le_of_ble_eq_true rfl) (Nat.le_of_ble_eq_true rfl) (Nat.le_of_ble_eq_true rfl) rfl dX5_copyFrom_8 ?_
  have f0 : fr I (cpy I (o + 1) (b + 1) 0 0 3) b 25 := fr.rf.cpy (by omega) (by omega)
  have k0 : stAt (cpy I (o + 1) (b + 1) 0 0 3) o s := h.kp f0 (by omega)
  have r0 : ∀ j, j < 3 → (cpy I (o + 1) (b + 1) 0 0 3) (b + 1) j = (cpy I (o + 1) (b + 1) 0 0 3) (o + 1) j := fun j hj => by rw [cpy_row hj, cpy_ne (by omega)]
  generalize cpy I (o + 1) (b + 1) 0 0 3 = J0 at f0 k0 r0 ⊢
  refine WP.aload_n (pc := 11) dX5_copyFrom_11 rfl ?_
  refine WP.gR (pc := 12) uX5 fX5_18 hs.t0 hs.r0_1 dX5_copyFrom_12 ?_
  refine WP.aload_n (pc := 15) dX5_copyFrom_15 rfl ?_
  refine WP.gR (pc := 16) uX5 fX5_18 ho.t0 ho.r0_1 dX5_copyFrom_16 ?_
  refine WP.cVw (pc := 19) (mc2 := 0) (ms2 := 0) (ci := 1) kX5_81 (CX1_copyFrom Γ hs ho hd k0.2.1) (by decide) rfl hs.t2 rfl ⟨Nat.le_of_ble_eq_true rfl, Nat.le_of_ble_eq_true rfl⟩ (Nat.le_of_ble_eq_true rfl) (Nat.le_of_ble_eq_true rfl) (Nat.le_of_ble_eq_true rfl) rfl dX5_copyFrom_19 (fun J1 ⟨f1, l1⟩ => ?_)
  have k1 := k0.kp f1 (by omega)
  refine WP.aload_n (pc := 22) dX5_copyFrom_22 rfl ?_
  refine WP.gR (pc := 23) uX5 fX5_25 hs.t0 hs.r0_2 dX5_copyFrom_23 ?_
  refine WP.aload_n (pc := 26) dX5_copyFrom_26 rfl ?_
  refine WP.gR (pc := 27) uX5 fX5_25 ho.t0 ho.r0_2 dX5_copyFrom_27 ?_
  refine WP.cVw (pc := 30) (mc2 := 0) (ms2 := 0) (ci := 6) kX5_85 (CX6_copyFrom Γ hs ho hd k1.2.2.1) (by decide) rfl hs.t9 rfl ⟨Nat.le_of_ble_eq_true rfl, Nat.le_of_ble_eq_true rfl⟩ (Nat.le_of_ble_eq_true rfl) (Nat.le_of_ble_eq_true rfl) (Nat.le_of_ble_eq_true rfl) rfl dX5_copyFrom_30 (fun J2 ⟨f2, l2⟩ => ?_)
  have k2 := k1.kp f2 (by omega)
  refine WP.aload_n (pc := 33) dX5_copyFrom_33 rfl ?_
  refine WP.gR (pc := 34) uX5 fX5_32 hs.t0 hs.r0_3 dX5_copyFrom_34 ?_
  refine WP.aload_n (pc := 37) dX5_copyFrom_37 rfl ?_
  refine WP.gR (pc := 38) uX5 fX5_32 ho.t0 ho.r0_3 dX5_copyFrom_38 ?_
  refine WP.cVw (pc := 41) (mc2 := 0) (ms2 := 0) (ci := 2) kX5_88 (CX2_copyFrom Γ hs ho hd k2.2.2.2.1) (by decide) rfl hs.t13 rfl ⟨Nat.le_of_ble_eq_true rfl, Nat.le_of_ble_eq_true rfl⟩ (Nat.le_of_ble_eq_true rfl) (Nat.le_of_ble_eq_true rfl) (Nat.le_of_ble_eq_true rfl) rfl dX5_copyFrom_41 (fun J3 ⟨f3, l3, m3⟩ => ?_)
  have k3 := k2.kp f3 (by omega)
  refine WP.aload_n (pc := 44) dX5_copyFrom_44 rfl ?_
  refine WP.gR (pc := 45) uX5 fX5_39 hs.t0 hs.r0_4 dX5_copyFrom_45 ?_
  refine WP.aload_n (pc := 48) dX5_copyFrom_48 rfl ?_
  refine WP.gR (pc := 49) uX5 fX5_39 ho.t0 ho.r0_4 dX5_copyFrom_49 ?_
  refine WP.cVw (pc := 52) (mc2 := 0) (ms2 := 0) (ci := 3) kX5_91 (CX3_copyFrom Γ hs ho hd k3.2.2.2.2) (by decide) rfl hs.t21 rfl ⟨Nat.le_of_ble_eq_true rfl, Nat.le_of_ble_eq_true rfl⟩ (Nat.le_of_ble_eq_true rfl) (Nat.le_of_ble_eq_true rfl) (Nat.le_of_ble_eq_true rfl) rfl dX5_copyFrom_52 (fun J4 ⟨f4, l4⟩ => ?_)
  have k4 := k3.kp f4 (by omega)
  obtain ⟨a1, a2, a3, a4, a5, a6, a7, a8, a9, a10, a11, a12⟩ := k4.1
  refine WP.aload_n (pc := 55) dX5_copyFrom_55 rfl ?_
  refine WP.aload_n (pc := 56) dX5_copyFrom_56 rfl ?_
  refine WP.gIv (pc := 57) (v := (s.1 3)) uX5 fX5_53 ho.t0 (by simp [up_eq, a4]) dX5_copyFrom_57 ?_
  refine WP.pI (pc := 60) uX5 fX5_53 rfl rfl hs.t0 dX5_copyFrom_60 ?_
  refine WP.aload_n (pc := 63) dX5_copyFrom_63 rfl ?_
  refine WP.aload_n (pc := 64) dX5_copyFrom_64 rfl ?_
  refine WP.gIv (pc := 65) (v := (s.1 4)) uX5 fX5_56 ho.t0 (by simp [up_eq, a5]) dX5_copyFrom_65 ?_
  refine WP.pI (pc := 68) uX5 fX5_56 rfl rfl hs.t0 dX5_copyFrom_68 ?_
  refine WP.aload_n (pc := 71) dX5_copyFrom_71 rfl ?_
  refine WP.aload_n (pc := 72) dX5_copyFrom_72 rfl ?_
  refine WP.gIv (pc := 73) (v := (s.1 5)) uX5 fX5_59 ho.t0 (by simp [up_eq, a6]) dX5_copyFrom_73 ?_
  refine WP.pI (pc := 76) uX5 fX5_59 rfl rfl hs.t0 dX5_copyFrom_76 ?_
  refine WP.aload_n (pc := 79) dX5_copyFrom_79 rfl ?_
  refine WP.aload_n (pc := 80) dX5_copyFrom_80 rfl ?_
  refine WP.gIv (pc := 81) (v := (s.1 6)) uX5 fX5_62 ho.t0 (by simp [up_eq, a7]) dX5_copyFrom_81 ?_
  refine WP.pI (pc := 84) uX5 fX5_62 rfl rfl hs.t0 dX5_copyFrom_84 ?_
  refine WP.aload_n (pc := 87) dX5_copyFrom_87 rfl ?_
  refine WP.aload_n (pc := 88) dX5_copyFrom_88 rfl ?_
  refine WP.gIv (pc := 89) (v := (s.1 7)) uX5 fX5_65 ho.t0 (by simp [up_eq, a8]) dX5_copyFrom_89 ?_
  refine WP.pI (pc := 92) uX5 fX5_65 rfl rfl hs.t0 dX5_copyFrom_92 ?_
  refine WP.aload_n (pc := 95) dX5_copyFrom_95 rfl ?_
  refine WP.aload_n (pc := 96) dX5_copyFrom_96 rfl ?_
  refine WP.gIv (pc := 97) (v := (s.1 8)) uX5 fX5_68 ho.t0 (by simp [up_eq, a9]) dX5_copyFrom_97 ?_
  refine WP.pI (pc := 100) uX5 fX5_68 rfl rfl hs.t0 dX5_copyFrom_100 ?_
  refine WP.aload_n (pc := 103) dX5_copyFrom_103 rfl ?_
  refine WP.aload_n (pc := 104) dX5_copyFrom_104 rfl ?_
  refine WP.gIv (pc := 105) (v := (s.1 9)) uX5 fX5_71 ho.t0 (by simp [up_eq, a10]) dX5_copyFrom_105 ?_
  refine WP.pI (pc := 108) uX5 fX5_71 rfl rfl hs.t0 dX5_copyFrom_108 ?_
  refine WP.aload_n (pc := 111) dX5_copyFrom_111 rfl ?_
  refine WP.aload_n (pc := 112) dX5_copyFrom_112 rfl ?_
  refine WP.gIv (pc := 113) (v := (s.1 10)) uX5 fX5_74 ho.t0 (by simp [up_eq, a11]) dX5_copyFrom_113 ?_
  refine WP.pI (pc := 116) uX5 fX5_74 rfl rfl hs.t0 dX5_copyFrom_116 ?_
  refine WP.vret (pc := 119) rfl dX5_copyFrom_119 ?_
  have fz : fr J4 (up (up (up (up (up (up (up (up J4 b 5 (s.1 3)) b 6 (s.1 4)) b 7 (s.1 5)) b 8 (s.1 6)) b 9 (s.1 7)) b 10 (s.1 8)) b 11 (s.1 9)) b 12 (s.1 10)) b 1 := by
    repeat (first | exact fr.rf | refine fr.up ?_ (by omega) (by omega))
  have hob : o ≠ b := by omega
  refine ⟨rfl, _, rfl, ?_, ?_, ?_, ?_, ?_, ?_⟩
  · refine fr.trans f0 (fr.trans (f1.mono (by omega) (by omega)) (fr.trans (f2.mono (by omega) (by omega)) (fr.trans (f3.mono (by omega) (by omega)) (fr.trans (f4.mono (by omega) (by omega)) ?_))))
    repeat (first | exact fr.rf | refine fr.up ?_ (by omega) (by omega))
  · have e1 : ∀ j, j < 3 → J4 (b + 1) j = J4 (o + 1) j := fun j hj => by
      rw [f4 _ (by omega), f3 _ (by omega), f2 _ (by omega), f1 _ (by omega), r0 j hj, f4 _ (by omega), f3 _ (by omega), f2 _ (by omega), f1 _ (by omega)]
    have e2 : J4 (b + 13) 1 = J4 (o + 13) 1 := by rw [f4 _ (by omega), m3, f4 _ (by omega), f3 _ (by omega)]
    simp [scAt, up_eq, hob, e1, e2, a1, a2, a3, a4, a5, a6, a7, a8, a9, a10, a11, a12]
  · exact (((l1.kp f2 (by omega)).kp f3 (by omega)).kp f4 (by omega)).kp fz (by omega)
  · exact ((l2.kp f3 (by omega)).kp f4 (by omega)).kp fz (by omega)
  · exact (l3.kp f4 (by omega)).kp fz (by omega)
  · exact l4.kp fz (by omega)
end T
