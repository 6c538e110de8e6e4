-- behind: 29 30 52
-- the model's text and its tokens
def sx (c : Nat) : Int32 := if c < 128 then nI c else nI c - 256
def tx (f g : Nat → Int32) (n : Nat) : Prop := ∀ j, j < n → ∃ c, c < 256 ∧ g j = nI c ∧ f j = sx c
theorem sx_sp : ∀ c, c < 256 → (isSp (sx c) = true ↔ nI c = 32 ∨ nI c = 10) := by decide +kernel
theorem sx_let : ∀ c, c < 256 → isLet (nI c) = isLet (sx c) := by decide +kernel
theorem sx_dig : ∀ c, c < 256 → isDig (nI c) = isDig (sx c) := by decide +kernel
theorem sx_59 : ∀ c, c < 256 → (nI c = 59 ↔ sx c = 59) := by decide +kernel
theorem sx_eq {b : Nat} (hb : b < 128) : ∀ c, c < 256 → (nI c = nI b ↔ sx c = nI b) := by
  intro c hc
  unfold sx
  split
  · exact Iff.rfl
  · constructor
    · intro h
      have := (nI_eq (by omega) (by omega)).mp h
      omega
    · intro h
      exfalso
      have h1 : nI c - 256 < 0 := by
        rw [show (256 : Int32) = nI 256 from rfl]
        exact pk_sneg (by omega) (by omega)
      rw [h] at h1
      exact nI_pos (by omega) h1
theorem sx_digE {c : Nat} (hc : c < 256) (h : isDig (sx c) = true) : sx c = nI c ∧ 48 ≤ c ∧ c ≤ 57 := by
  have key : ∀ c, c < 256 → isDig (sx c) = true → sx c = nI c ∧ 48 ≤ c ∧ c ≤ 57 := by decide +kernel
  exact key c hc h
theorem sx_letE {c : Nat} (hc : c < 256) (h : isLet (sx c) = true) : sx c = nI c ∧ 97 ≤ c ∧ c ≤ 122 := by
  have key : ∀ c, c < 256 → isLet (sx c) = true → sx c = nI c ∧ 97 ≤ c ∧ c ≤ 122 := by decide +kernel
  exact key c hc h
/-- the value as the model has it -/
def vlM (f : Nat → Int32) : Nat → Nat → Int32 → Int32
  | 0, _, a => a
  | m + 1, i, a => vlM f m (i + 1) (if 99999999 < a then a else 10 * a + f i - 48)
def tkm (t : Nat) : Nat := if t = 1 then 3 else if t = 3 then 1 else t
def tkM (I : Nat → Nat → Int32) (m : Nat) (f : Nat → Int32) (t : Nat × Nat × Nat) : Prop := I m 19 = nI t.2.1 ∧ I m 20 = nI (tkm t.1) ∧ I m 18 = nI (t.2.1 + t.2.2) ∧ I m 22 = nI (if t.1 = 1 then t.2.2 else 0) ∧ (t.1 = 2 → I m 21 = vlM f t.2.2 t.2.1 0)
/-- only the reading of the text has moved -/
def frV (I I' : Nat → Nat → Int32) (m : Nat) : Prop := (∀ b, b ≠ m → I' b = I b) ∧ ∀ j, (j < 18 ∨ 22 < j) → I' m j = I m j
section F
variable {I I' I'' : Nat → Nat → Int32} {m : Nat}
theorem frV.rf : frV I I m := ⟨fun _ _ => rfl, fun _ _ => rfl⟩
theorem frV.trans (h : frV I I' m) (h' : frV I' I'' m) : frV I I'' m := ⟨fun b h1 => (h'.1 b h1).trans (h.1 b h1), fun j hj => (h'.2 j hj).trans (h.2 j hj)⟩
theorem frV.up {j : Nat} {v : Int32} (h : frV I I' m) (hj : 18 ≤ j ∧ j ≤ 22) : frV I (up I' m j v) m := ⟨fun b h1 => (up_ne h1).trans (h.1 b h1), fun i hi => by rw [up_eq, if_neg (by omega)]; exact h.2 i hi⟩
/-- but for places j1 and j2 of the object nothing has moved -/
def fr_j (I I' : Nat → Nat → Int32) (m j1 j2 : Nat) : Prop := (∀ b, b ≠ m → I' b = I b) ∧ ∀ j, j ≠ j1 → j ≠ j2 → I' m j = I m j
theorem fr_j.rf {j1 j2 : Nat} : fr_j I I m j1 j2 := ⟨fun _ _ => rfl, fun _ _ _ => rfl⟩
theorem fr_j.trans {j1 j2 : Nat} (h : fr_j I I' m j1 j2) (h' : fr_j I' I'' m j1 j2) : fr_j I I'' m j1 j2 := ⟨fun b h1 => (h'.1 b h1).trans (h.1 b h1), fun j h1 h2 => (h'.2 j h1 h2).trans (h.2 j h1 h2)⟩
theorem fr_j.u1 {j1 j2 : Nat} {v : Int32} (h : fr_j I I' m j1 j2) : fr_j I (up I' m j1 v) m j1 j2 := ⟨fun b h1 => (up_ne h1).trans (h.1 b h1), fun j h1 h2 => by rw [up_eq, if_neg (fun q => h1 q.2)]; exact h.2 j h1 h2⟩
theorem fr_j.u2 {j1 j2 : Nat} {v : Int32} (h : fr_j I I' m j1 j2) : fr_j I (up I' m j2 v) m j1 j2 := ⟨fun b h1 => (up_ne h1).trans (h.1 b h1), fun j h1 h2 => by rw [up_eq, if_neg (fun q => h2 q.2)]; exact h.2 j h1 h2⟩
theorem fr_j.K {j1 j2 : Nat} (h : fr_j I I' m j1 j2) (h1 : 18 ≤ j1 ∧ j1 ≤ 22) (h2 : 18 ≤ j2 ∧ j2 ≤ 22) : frV I I' m := ⟨h.1, fun j hj => h.2 j (by omega) (by omega)⟩
end F
section T
variable (Γ : cG) {σ : cAS} {m : Nat}
theorem CX9_isLetter (x : Int32) : Ctr Γ (1, 22, 0, 0) MX9_isLetter [.int x] σ (rV (some (.int (bI (isLet x)))) σ) := by
  refine Ctr.go rfl (by decide) rfl rfl ?_
  refine WP.iload_n (pc := 0) dX9_isLetter_0 rfl ?_
  refine WP.bipush (pc := 1) (v := 97) dX9_isLetter_1 (by decide) ?_
  refine WP.bipush (pc := 3) (v := 122) dX9_isLetter_3 (by decide) ?_
  refine WP.cS1 (pc := 5) (mc2 := 0) (ms2 := 0) kX9_183 (CX9_isBetween Γ x 97 122) rfl ⟨Nat.le_of_ble_eq_true rfl, Nat.le_of_ble_eq_true rfl⟩ (Nat.le_of_ble_eq_true rfl) (Nat.le_of_ble_eq_true rfl) (Nat.le_of_ble_eq_true rfl) rfl dX9_isLetter_5 ?_
  refine WP.zret (pc := 8) rfl (by unfold bI; split <;> rfl) dX9_isLetter_8 ?_
  exact ⟨rfl, rfl⟩
theorem CX9_byteAt (hm : shM σ m) {n i : Nat} (hn : n ≤ 600) (hi : i ≤ n) {I : Nat → Nat → Int32} (h17 : I m 17 = nI n) : Ctr Γ (0, 0, 0, 0) MX9_byteAt [.ref m, .int (nI i)] (wI σ I) (rV (some (.int (if i < n then I (m + 10) i else -1))) (wI σ I)) := by
  refine Ctr.go rfl (by decide) rfl rfl ?_
  refine WP.iload_n (pc := 0) dX9_byteAt_0 rfl ?_
  refine WP.aload_n (pc := 1) dX9_byteAt_1 rfl ?_
  refine WP.gIv (pc := 2) (v := nI n) uX9 fX9_58 hm.t0 (by simp [up_eq, h17]) dX9_byteAt_2 ?_
  refine WP.icmp_ge (pc := 5) (tgt := 17) dX9_byteAt_5 (by decide) (fun h1 => ?_) (fun h1 => ?_)
  · have : ¬ i < n := fun q => nI_ge q (by omega) h1
    rw [if_neg this]
    refine WP.iconst (pc := 17) (v := (-1)) dX9_byteAt_17 (by decide) ?_
    refine WP.iret (pc := 18) rfl dX9_byteAt_18 ?_
    exact ⟨rfl, rfl⟩
  · have : i < n := Nat.not_le.mp fun q => h1 (nI_le q (by omega))
    rw [if_pos this]
    refine WP.aload_n (pc := 8) dX9_byteAt_8 rfl ?_
    refine WP.gR (pc := 9) uX9 fX9_38 hm.t0 hm.r0_16 dX9_byteAt_9 ?_
    refine WP.iload_n (pc := 12) dX9_byteAt_12 rfl ?_
    refine WP.iald (pc := 13) hm.t10 (by omega) (by decide) dX9_byteAt_13 ?_
    refine WP.goto (pc := 14) (tgt := 18) dX9_byteAt_14 (by decide) ?_
    refine WP.iret (pc := 18) rfl dX9_byteAt_18 ?_
    exact ⟨rfl, rfl⟩
theorem LX9_adv0 (hm : shM σ m) {f : Nat → Int32} {n : Nat} (hn : n ≤ 600) {Φ : cRes → cAS → Prop} : ∀ d i (I : Nat → Nat → Int32), i + d = n → I m 17 = nI n → tx f (I (m + 10)) n → I m 18 = nI i → (∀ I', fr_j I I' m 18 18 → I' m 18 = nI (runW isSp f d i) → WP Γ (2, 42, 0, 0) MX9_advance Φ 39 [some (.ref m), none] [] (wI σ I')) →
    WP Γ (2, 42, 0, 0) MX9_advance Φ 0 [some (.ref m), none] [] (wI σ I) := by
  intro d
  induction d with
  | zero =>
    intro i I hi h17 ht h18 H
    refine WP.aload_n (pc := 0) dX9_advance_0 rfl ?_
    refine WP.aload_n (pc := 1) dX9_advance_1 rfl ?_
    refine WP.gIv (pc := 2) (v := nI i) uX9 fX9_186 hm.t0 (by simp [up_eq, h18]) dX9_advance_2 ?_
    refine WP.cV1 (pc := 5) (mc2 := 0) (ms2 := 0) (ci := 9) kX9_189 (CX9_byteAt Γ hm hn (i := i) (by omega) h17) (by decide) rfl hm.t0 rfl ⟨Nat.le_of_ble_eq_true rfl, Nat.le_of_ble_eq_true rfl⟩ (Nat.le_of_ble_eq_true rfl) (Nat.le_of_ble_eq_true rfl) (Nat.le_of_ble_eq_true rfl) rfl dX9_advance_5 ?_
    rw [if_neg (by omega)]
    refine WP.bipush (pc := 8) (v := 32) dX9_advance_8 (by decide) ?_
    refine WP.icmp_eq (pc := 10) (tgt := 26) dX9_advance_10 (by decide) (fun h1 => ?_) (fun h1 => ?_)
    · exact absurd h1 (by decide)
    · refine WP.aload_n (pc := 13) dX9_advance_13 rfl ?_
      refine WP.aload_n (pc := 14) dX9_advance_14 rfl ?_
      refine WP.gIv (pc := 15) (v := nI i) uX9 fX9_186 hm.t0 (by simp [up_eq, h18]) dX9_advance_15 ?_
      refine WP.cV1 (pc := 18) (mc2 := 0) (ms2 := 0) (ci := 9) kX9_189 (CX9_byteAt Γ hm hn (i := i) (by omega) h17) (by decide) rfl hm.t0 rfl ⟨Nat.le_of_ble_eq_true rfl, Nat.le_of_ble_eq_true rfl⟩ (Nat.le_of_ble_eq_true rfl) (Nat.le_of_ble_eq_true rfl) (Nat.le_of_ble_eq_true rfl) rfl dX9_advance_18 ?_
      rw [if_neg (by omega)]
      refine WP.bipush (pc := 21) (v := 10) dX9_advance_21 (by decide) ?_
      refine WP.icmp_ne (pc := 23) (tgt := 39) dX9_advance_23 (by decide) (fun h2 => ?_) (fun h2 => ?_)
      · exact H I fr_j.rf h18
      · exact absurd h2 (by decide)
  | succ d ih =>
    intro i I hi h17 ht h18 H
    obtain ⟨c, hc, hg, hf⟩ := ht i (by omega)
    have sp := sx_sp c hc
    have step : isSp (f i) = true → WP Γ (2, 42, 0, 0) MX9_advance Φ 26 [some (.ref m), none] [] (wI σ I) := fun hp => by
      refine WP.aload_n (pc := 26) dX9_advance_26 rfl ?_
      refine WP.dup (pc := 27) dX9_advance_27 rfl ?_
      refine WP.gIv (pc := 28) (v := nI i) uX9 fX9_186 hm.t0 (by simp [up_eq, h18]) dX9_advance_28 ?_
      refine WP.iconst (pc := 31) (v := 1) dX9_advance_31 (by decide) ?_
      refine WP.iaN (pc := 32) (b := 1) dX9_advance_32 ?_
      refine WP.pI (pc := 33) uX9 fX9_186 rfl rfl hm.t0 dX9_advance_33 ?_
      refine WP.goto (pc := 36) (tgt := 0) dX9_advance_36 (by decide) ?_
      refine ih (i + 1) _ (by omega) (by rw [up_eq, if_neg (by omega)]; exact h17) (by rw [up_ne (by omega)]; exact ht) (by rw [up_eq, if_pos ⟨rfl, rfl⟩]) (fun I' f1 g1 => H I' (fr_j.rf.u1.trans f1) ?_)
      rw [g1]
      show _ = nI (if isSp (f i) = true then _ else _)
      rw [if_pos hp]
    refine WP.aload_n (pc := 0) dX9_advance_0 rfl ?_
    refine WP.aload_n (pc := 1) dX9_advance_1 rfl ?_
    refine WP.gIv (pc := 2) (v := nI i) uX9 fX9_186 hm.t0 (by simp [up_eq, h18]) dX9_advance_2 ?_
    refine WP.cV1 (pc := 5) (mc2 := 0) (ms2 := 0) (ci := 9) kX9_189 (CX9_byteAt Γ hm hn (i := i) (by omega) h17) (by decide) rfl hm.t0 rfl ⟨Nat.le_of_ble_eq_true rfl, Nat.le_of_ble_eq_true rfl⟩ (Nat.le_of_ble_eq_true rfl) (Nat.le_of_ble_eq_true rfl) (Nat.le_of_ble_eq_true rfl) rfl dX9_advance_5 ?_
    rw [if_pos (by omega), hg]
    refine WP.bipush (pc := 8) (v := 32) dX9_advance_8 (by decide) ?_
    refine WP.icmp_eq (pc := 10) (tgt := 26) dX9_advance_10 (by decide) (fun h1 => ?_) (fun h1 => ?_)
    · exact step (by rw [hf]; exact sp.mpr (Or.inl h1))
    · refine WP.aload_n (pc := 13) dX9_advance_13 rfl ?_
      refine WP.aload_n (pc := 14) dX9_advance_14 rfl ?_
      refine WP.gIv (pc := 15) (v := nI i) uX9 fX9_186 hm.t0 (by simp [up_eq, h18]) dX9_advance_15 ?_
      refine WP.cV1 (pc := 18) (mc2 := 0) (ms2 := 0) (ci := 9) kX9_189 (CX9_byteAt Γ hm hn (i := i) (by omega) h17) (by decide) rfl hm.t0 rfl ⟨Nat.le_of_ble_eq_true rfl, Nat.le_of_ble_eq_true rfl⟩ (Nat.le_of_ble_eq_true rfl) (Nat.le_of_ble_eq_true rfl) (Nat.le_of_ble_eq_true rfl) rfl dX9_advance_18 ?_
      rw [if_pos (by omega), hg]
      refine WP.bipush (pc := 21) (v := 10) dX9_advance_21 (by decide) ?_
      refine WP.icmp_ne (pc := 23) (tgt := 39) dX9_advance_23 (by decide) (fun h2 => ?_) (fun h2 => ?_)
      · refine H I fr_j.rf ?_
        rw [h18]
        show _ = nI (if isSp (f i) = true then _ else _)
        rw [if_neg (fun q => (sp.mp (by rw [← hf]; exact q)).elim h1 h2)]
      · exact step (by rw [hf]; exact sp.mpr (Or.inr h2))
theorem LX9_adv91 (hm : shM σ m) {f : Nat → Int32} {n : Nat} (hn : n ≤ 600) {v : Int32} {Φ : cRes → cAS → Prop} : ∀ d i q (I : Nat → Nat → Int32), i + d = n → I m 17 = nI n → tx f (I (m + 10)) n → I m 18 = nI i → I m 22 = nI q → (∀ I', fr_j I I' m 18 22 → I' m 18 = nI (runW isLet f d i) → I' m 22 = nI (q + (runW isLet f d i - i)) → Φ (.inl none) (wI σ I')) →
    WP Γ (2, 42, 0, 0) MX9_advance Φ 91 [some (.ref m), some (.int v)] [] (wI σ I) := by
  intro d
  induction d with
  | zero =>
    intro i q I hi h17 ht h18 h22 H
    refine WP.aload_n (pc := 91) dX9_advance_91 rfl ?_
    refine WP.aload_n (pc := 92) dX9_advance_92 rfl ?_
    refine WP.gIv (pc := 93) (v := nI i) uX9 fX9_186 hm.t0 (by simp [up_eq, h18]) dX9_advance_93 ?_
    refine WP.cV1 (pc := 96) (mc2 := 0) (ms2 := 0) (ci := 9) kX9_189 (CX9_byteAt Γ hm hn (i := i) (by omega) h17) (by decide) rfl hm.t0 rfl ⟨Nat.le_of_ble_eq_true rfl, Nat.le_of_ble_eq_true rfl⟩ (Nat.le_of_ble_eq_true rfl) (Nat.le_of_ble_eq_true rfl) (Nat.le_of_ble_eq_true rfl) rfl dX9_advance_96 ?_
    rw [if_neg (by omega)]
    refine WP.cS1 (pc := 99) (mc2 := 0) (ms2 := 0) kX9_204 (CX9_isLetter Γ (-1)) rfl ⟨Nat.le_of_ble_eq_true rfl, Nat.le_of_ble_eq_true rfl⟩ (Nat.le_of_ble_eq_true rfl) (Nat.le_of_ble_eq_true rfl) (Nat.le_of_ble_eq_true rfl) rfl dX9_advance_99 ?_
    refine WP.if_eq (pc := 102) (tgt := 229) dX9_advance_102 (by decide) (fun h1 => ?_) (fun h1 => ?_)
    · skip
      refine WP.vret (pc := 229) rfl dX9_advance_229 ?_
      exact H I fr_j.rf h18 (by rw [h22]; show nI q = nI (q + (i - i)); rw [Nat.sub_self]; rfl)
    · exact absurd (by decide) h1
  | succ d ih =>
    intro i q I hi h17 ht h18 h22 H
    obtain ⟨c, hc, hg, hf⟩ := ht i (by omega)
    have hr : runW isLet f (d + 1) i = if isLet (f i) = true then runW isLet f d (i + 1) else i := rfl
    refine WP.aload_n (pc := 91) dX9_advance_91 rfl ?_
    refine WP.aload_n (pc := 92) dX9_advance_92 rfl ?_
    refine WP.gIv (pc := 93) (v := nI i) uX9 fX9_186 hm.t0 (by simp [up_eq, h18]) dX9_advance_93 ?_
    refine WP.cV1 (pc := 96) (mc2 := 0) (ms2 := 0) (ci := 9) kX9_189 (CX9_byteAt Γ hm hn (i := i) (by omega) h17) (by decide) rfl hm.t0 rfl ⟨Nat.le_of_ble_eq_true rfl, Nat.le_of_ble_eq_true rfl⟩ (Nat.le_of_ble_eq_true rfl) (Nat.le_of_ble_eq_true rfl) (Nat.le_of_ble_eq_true rfl) rfl dX9_advance_96 ?_
    rw [if_pos (by omega), hg]
    refine WP.cS1 (pc := 99) (mc2 := 0) (ms2 := 0) kX9_204 (CX9_isLetter Γ (nI c)) rfl ⟨Nat.le_of_ble_eq_true rfl, Nat.le_of_ble_eq_true rfl⟩ (Nat.le_of_ble_eq_true rfl) (Nat.le_of_ble_eq_true rfl) (Nat.le_of_ble_eq_true rfl) rfl dX9_advance_99 ?_
    rw [sx_let c hc, ← hf]
    refine WP.if_eq (pc := 102) (tgt := 229) dX9_advance_102 (by decide) (fun h1 => ?_) (fun h1 => ?_)
    · have hp : ¬ isLet (f i) = true := fun z => by rw [z] at h1; exact absurd h1 (by decide)
      rw [hr, if_neg hp] at H
      skip
      refine WP.vret (pc := 229) rfl dX9_advance_229 ?_
      exact H I fr_j.rf h18 (by rw [h22, Nat.sub_self]; rfl)
    · have hp : isLet (f i) = true := Classical.byContradiction fun z => h1 (by rw [Bool.not_eq_true] at z; rw [z]; rfl)
      rw [hr, if_pos hp] at H
      have hle := (runW_le isLet f d (i + 1)).1
      refine WP.aload_n (pc := 105) dX9_advance_105 rfl ?_
      refine WP.dup (pc := 106) dX9_advance_106 rfl ?_
      refine WP.gIv (pc := 107) (v := nI q) uX9 fX9_195 hm.t0 (by simp [up_eq, h22]) dX9_advance_107 ?_
      refine WP.iconst (pc := 110) (v := 1) dX9_advance_110 (by decide) ?_
      refine WP.iaN (pc := 111) (b := 1) dX9_advance_111 ?_
      refine WP.pI (pc := 112) uX9 fX9_195 rfl rfl hm.t0 dX9_advance_112 ?_
      refine WP.aload_n (pc := 115) dX9_advance_115 rfl ?_
      refine WP.dup (pc := 116) dX9_advance_116 rfl ?_
      refine WP.gIv (pc := 117) (v := nI i) uX9 fX9_186 hm.t0 (by simp [up_eq, h18]) dX9_advance_117 ?_
      refine WP.iconst (pc := 120) (v := 1) dX9_advance_120 (by decide) ?_
      refine WP.iaN (pc := 121) (b := 1) dX9_advance_121 ?_
      refine WP.pI (pc := 122) uX9 fX9_186 rfl rfl hm.t0 dX9_advance_122 ?_
      refine WP.goto (pc := 125) (tgt := 91) dX9_advance_125 (by decide) ?_
      refine ih (i + 1) (q + 1) _ (by omega) (by simp [up_eq, h17]) (by rw [up_ne (by omega), up_ne (by omega)]; exact ht) (by simp [up_eq]) (by simp [up_eq]) (fun I' f1 g1 g2 => H I' (fr_j.rf.u2.u1.trans f1) g1 ?_)
      rw [g2]
      congr 1
      omega
theorem LX9_adv144 (hm : shM σ m) {f : Nat → Int32} {n : Nat} (hn : n ≤ 600) {u : Int32} {Φ : cRes → cAS → Prop} : ∀ d i v (I : Nat → Nat → Int32), i + d = n → I m 17 = nI n → tx f (I (m + 10)) n → I m 18 = nI i → I m 21 = v → (∀ I', fr_j I I' m 18 21 → I' m 18 = nI (runW isDig f d i) → I' m 21 = vlM f (runW isDig f d i - i) i v → Φ (.inl none) (wI σ I')) →
    WP Γ (2, 42, 0, 0) MX9_advance Φ 144 [some (.ref m), some (.int u)] [] (wI σ I) := by
  intro d
  induction d with
  | zero =>
    intro i v I hi h17 ht h18 h21 H
    refine WP.aload_n (pc := 144) dX9_advance_144 rfl ?_
    refine WP.aload_n (pc := 145) dX9_advance_145 rfl ?_
    refine WP.gIv (pc := 146) (v := nI i) uX9 fX9_186 hm.t0 (by simp [up_eq, h18]) dX9_advance_146 ?_
    refine WP.cV1 (pc := 149) (mc2 := 0) (ms2 := 0) (ci := 9) kX9_189 (CX9_byteAt Γ hm hn (i := i) (by omega) h17) (by decide) rfl hm.t0 rfl ⟨Nat.le_of_ble_eq_true rfl, Nat.le_of_ble_eq_true rfl⟩ (Nat.le_of_ble_eq_true rfl) (Nat.le_of_ble_eq_true rfl) (Nat.le_of_ble_eq_true rfl) rfl dX9_advance_149 ?_
    rw [if_neg (by omega)]
    refine WP.bipush (pc := 152) (v := 48) dX9_advance_152 (by decide) ?_
    refine WP.bipush (pc := 154) (v := 57) dX9_advance_154 (by decide) ?_
    refine WP.cS1 (pc := 156) (mc2 := 0) (ms2 := 0) kX9_183 (CX9_isBetween Γ (-1) 48 57) rfl ⟨Nat.le_of_ble_eq_true rfl, Nat.le_of_ble_eq_true rfl⟩ (Nat.le_of_ble_eq_true rfl) (Nat.le_of_ble_eq_true rfl) (Nat.le_of_ble_eq_true rfl) rfl dX9_advance_156 ?_
    refine WP.if_eq (pc := 159) (tgt := 229) dX9_advance_159 (by decide) (fun h1 => ?_) (fun h1 => ?_)
    · skip
      refine WP.vret (pc := 229) rfl dX9_advance_229 ?_
      exact H I fr_j.rf h18 (by rw [h21]; show v = vlM f (i - i) i v; rw [Nat.sub_self]; rfl)
    · exact absurd (by decide) h1
  | succ d ih =>
    intro i v I hi h17 ht h18 h21 H
    obtain ⟨c, hc, hg, hf⟩ := ht i (by omega)
    have hr : runW isDig f (d + 1) i = if isDig (f i) = true then runW isDig f d (i + 1) else i := rfl
    have hdd : (decide ((48 : Int32) ≤ nI c) && decide (nI c ≤ 57)) = isDig (f i) := by rw [hf, ← sx_dig c hc]; rfl
    refine WP.aload_n (pc := 144) dX9_advance_144 rfl ?_
    refine WP.aload_n (pc := 145) dX9_advance_145 rfl ?_
    refine WP.gIv (pc := 146) (v := nI i) uX9 fX9_186 hm.t0 (by simp [up_eq, h18]) dX9_advance_146 ?_
    refine WP.cV1 (pc := 149) (mc2 := 0) (ms2 := 0) (ci := 9) kX9_189 (CX9_byteAt Γ hm hn (i := i) (by omega) h17) (by decide) rfl hm.t0 rfl ⟨Nat.le_of_ble_eq_true rfl, Nat.le_of_ble_eq_true rfl⟩ (Nat.le_of_ble_eq_true rfl) (Nat.le_of_ble_eq_true rfl) (Nat.le_of_ble_eq_true rfl) rfl dX9_advance_149 ?_
    rw [if_pos (by omega), hg]
    refine WP.bipush (pc := 152) (v := 48) dX9_advance_152 (by decide) ?_
    refine WP.bipush (pc := 154) (v := 57) dX9_advance_154 (by decide) ?_
    refine WP.cS1 (pc := 156) (mc2 := 0) (ms2 := 0) kX9_183 (CX9_isBetween Γ (nI c) 48 57) rfl ⟨Nat.le_of_ble_eq_true rfl, Nat.le_of_ble_eq_true rfl⟩ (Nat.le_of_ble_eq_true rfl) (Nat.le_of_ble_eq_true rfl) (Nat.le_of_ble_eq_true rfl) rfl dX9_advance_156 ?_
    rw [hdd]
    refine WP.if_eq (pc := 159) (tgt := 229) dX9_advance_159 (by decide) (fun h1 => ?_) (fun h1 => ?_)
    · have hp : ¬ isDig (f i) = true := fun z => by rw [z] at h1; exact absurd h1 (by decide)
      rw [hr, if_neg hp] at H
      skip
      refine WP.vret (pc := 229) rfl dX9_advance_229 ?_
      exact H I fr_j.rf h18 (by rw [h21, Nat.sub_self]; rfl)
    · have hp : isDig (f i) = true := Classical.byContradiction fun z => h1 (by rw [Bool.not_eq_true] at z; rw [z]; rfl)
      have hfc : f i = nI c := by rw [hf]; exact (sx_digE hc (by rw [← hf]; exact hp)).1
      rw [hr, if_pos hp] at H
      have hle := (runW_le isDig f d (i + 1)).1
      have hv : vlM f (runW isDig f d (i + 1) - i) i v = vlM f (runW isDig f d (i + 1) - (i + 1)) (i + 1) (if 99999999 < v then v else 10 * v + f i - 48) := by
        rw [show runW isDig f d (i + 1) - i = (runW isDig f d (i + 1) - (i + 1)) + 1 by omega]
        rfl
      have fin : ∀ w, w = (if 99999999 < v then v else 10 * v + f i - 48) → WP Γ (2, 42, 0, 0) MX9_advance Φ 198 [some (.ref m), some (.int u)] [.int w, .ref m] (wI σ I) := fun w hw => by
        refine WP.pI (pc := 198) uX9 fX9_198 rfl rfl hm.t0 dX9_advance_198 ?_
        refine WP.aload_n (pc := 201) dX9_advance_201 rfl ?_
        refine WP.dup (pc := 202) dX9_advance_202 rfl ?_
        refine WP.gIv (pc := 203) (v := nI i) uX9 fX9_186 hm.t0 (by simp [up_eq, h18]) dX9_advance_203 ?_
        refine WP.iconst (pc := 206) (v := 1) dX9_advance_206 (by decide) ?_
        refine WP.iaN (pc := 207) (b := 1) dX9_advance_207 ?_
        refine WP.pI (pc := 208) uX9 fX9_186 rfl rfl hm.t0 dX9_advance_208 ?_
        refine WP.goto (pc := 211) (tgt := 144) dX9_advance_211 (by decide) ?_
        refine ih (i + 1) w _ (by omega) (by simp [up_eq, h17]) (by rw [up_ne (by omega), up_ne (by omega)]; exact ht) (by simp [up_eq]) (by simp [up_eq]) (fun I' f1 g1 g2 => H I' (fr_j.rf.u2.u1.trans f1) g1 ?_)
        rw [g2, hv, hw]
      refine WP.aload_n (pc := 162) dX9_advance_162 rfl ?_
      refine WP.aload_n (pc := 163) dX9_advance_163 rfl ?_
      refine WP.gIv (pc := 164) (v := v) uX9 fX9_198 hm.t0 (by simp [up_eq, h21]) dX9_advance_164 ?_
      refine WP.ldc (pc := 167) qX9_208 dX9_advance_167 ?_
      refine WP.icmp_le (pc := 169) (tgt := 179) dX9_advance_169 (by decide) (fun h2 => ?_) (fun h2 => ?_)
      · refine WP.bipush (pc := 179) (v := 10) dX9_advance_179 (by decide) ?_
        refine WP.aload_n (pc := 181) dX9_advance_181 rfl ?_
        refine WP.gIv (pc := 182) (v := v) uX9 fX9_198 hm.t0 (by simp [up_eq, h21]) dX9_advance_182 ?_
        refine WP.imul (pc := 185) dX9_advance_185 ?_
        refine WP.aload_n (pc := 186) dX9_advance_186 rfl ?_
        refine WP.aload_n (pc := 187) dX9_advance_187 rfl ?_
        refine WP.gIv (pc := 188) (v := nI i) uX9 fX9_186 hm.t0 (by simp [up_eq, h18]) dX9_advance_188 ?_
        refine WP.cV1 (pc := 191) (mc2 := 0) (ms2 := 0) (ci := 9) kX9_189 (CX9_byteAt Γ hm hn (i := i) (by omega) h17) (by decide) rfl hm.t0 rfl ⟨Nat.le_of_ble_eq_true rfl, Nat.le_of_ble_eq_true rfl⟩ (Nat.le_of_ble_eq_true rfl) (Nat.le_of_ble_eq_true rfl) (Nat.le_of_ble_eq_true rfl) rfl dX9_advance_191 ?_
        rw [if_pos (by omega), hg]
        refine WP.iadd (pc := 194) dX9_advance_194 ?_
        refine WP.bipush (pc := 195) (v := 48) dX9_advance_195 (by decide) ?_
        refine WP.isub (pc := 197) dX9_advance_197 ?_
        exact fin _ (by rw [if_neg (Int32.not_lt.mpr h2), hfc])
      · refine WP.aload_n (pc := 172) dX9_advance_172 rfl ?_
        refine WP.gIv (pc := 173) (v := v) uX9 fX9_198 hm.t0 (by simp [up_eq, h21]) dX9_advance_173 ?_
        refine WP.goto (pc := 176) (tgt := 198) dX9_advance_176 (by decide) ?_
        exact fin _ (by rw [if_pos (Int32.not_le.mp h2)])
theorem CX9_advance (hm : shM σ m) {f : Nat → Int32} {n e : Nat} (hn : n ≤ 600) (he : e ≤ n) {I : Nat → Nat → Int32} (h17 : I m 17 = nI n) (ht : tx f (I (m + 10)) n) (h18 : I m 18 = nI e) : Ctr Γ (2, 42, 0, 0) MX9_advance [.ref m] (wI σ I) (rW σ (fun I' => frV I I' m ∧ tkM I' m f (tkN f n e))) := by
  have hsp := runW_le isSp f (n - e) e
  refine Ctr.go rfl (by decide) rfl rfl ?_
  refine LX9_adv0 Γ hm hn (n - e) e I (by omega) h17 ht h18 (fun I1 f1 g1 => ?_)
  have F1 := f1.K (by omega) (by omega)
  have hT : tkN f n e = if n ≤ runW isSp f (n - e) e then (0, runW isSp f (n - e) e, 0) else if isLet (f (runW isSp f (n - e) e)) = true then (1, runW isSp f (n - e) e, runW isLet f (n - runW isSp f (n - e) e) (runW isSp f (n - e) e) - runW isSp f (n - e) e) else if isDig (f (runW isSp f (n - e) e)) = true then (2, runW isSp f (n - e) e, runW isDig f (n - runW isSp f (n - e) e) (runW isSp f (n - e) e) - runW isSp f (n - e) e) else (3, runW isSp f (n - e) e, 1) := rfl
  generalize runW isSp f (n - e) e = a at *
  have k17 : I1 m 17 = nI n := by rw [f1.2 17 (by omega) (by omega)]; exact h17
  have kt : tx f (I1 (m + 10)) n := by rw [f1.1 (m + 10) (by omega)]; exact ht
  refine WP.aload_n (pc := 39) dX9_advance_39 rfl ?_
  refine WP.aload_n (pc := 40) dX9_advance_40 rfl ?_
  refine WP.gIv (pc := 41) (v := nI a) uX9 fX9_186 hm.t0 (by simp [up_eq, g1]) dX9_advance_41 ?_
  refine WP.pI (pc := 44) uX9 fX9_192 rfl rfl hm.t0 dX9_advance_44 ?_
  refine WP.aload_n (pc := 47) dX9_advance_47 rfl ?_
  refine WP.iconst (pc := 48) (v := 0) dX9_advance_48 (by decide) ?_
  refine WP.pI (pc := 49) uX9 fX9_195 rfl rfl hm.t0 dX9_advance_49 ?_
  refine WP.aload_n (pc := 52) dX9_advance_52 rfl ?_
  refine WP.iconst (pc := 53) (v := 0) dX9_advance_53 (by decide) ?_
  refine WP.pI (pc := 54) uX9 fX9_198 rfl rfl hm.t0 dX9_advance_54 ?_
  generalize hJ : up (up (up I1 m 19 (nI a)) m 22 0) m 21 0 = J
  have FJ : frV I1 J m := by rw [← hJ]; exact ((frV.rf.up (by omega)).up (by omega)).up (by omega)
  have j17 : J m 17 = nI n := by rw [← hJ]; simp [up_eq, k17]
  have jt : tx f (J (m + 10)) n := by rw [FJ.1 (m + 10) (by omega)]; exact kt
  have j18 : J m 18 = nI a := by rw [← hJ]; simp [up_eq, g1]
  have j19 : J m 19 = nI a := by rw [← hJ]; simp [up_eq]
  have j22 : J m 22 = nI 0 := by rw [← hJ]; simp [up_eq]; rfl
  have j21 : J m 21 = 0 := by rw [← hJ]; simp [up_eq]
  refine WP.aload_n (pc := 57) dX9_advance_57 rfl ?_
  refine WP.aload_n (pc := 58) dX9_advance_58 rfl ?_
  refine WP.gIv (pc := 59) (v := nI a) uX9 fX9_186 hm.t0 (by simp [up_eq, j18]) dX9_advance_59 ?_
  refine WP.cV1 (pc := 62) (mc2 := 0) (ms2 := 0) (ci := 9) kX9_189 (CX9_byteAt Γ hm hn (i := a) (by omega) j17) (by decide) rfl hm.t0 rfl ⟨Nat.le_of_ble_eq_true rfl, Nat.le_of_ble_eq_true rfl⟩ (Nat.le_of_ble_eq_true rfl) (Nat.le_of_ble_eq_true rfl) (Nat.le_of_ble_eq_true rfl) rfl dX9_advance_62 ?_
  refine WP.istore_n (pc := 65) dX9_advance_65 (by decide) rfl ?_
  refine WP.iload_n (pc := 66) dX9_advance_66 rfl ?_
  refine WP.iconst (pc := 67) (v := (-1)) dX9_advance_67 (by decide) ?_
  rcases Nat.lt_or_ge a n with q | q
  · obtain ⟨c, hc, hg, hf⟩ := jt a q
    rw [if_neg (by omega)] at hT
    rw [if_pos q, hg]
    refine WP.icmp_ne (pc := 68) (tgt := 79) dX9_advance_68 (by decide) (fun h1 => ?_) (fun h1 => ?_)
    · refine WP.iload_n (pc := 79) dX9_advance_79 rfl ?_
      refine WP.cS1 (pc := 80) (mc2 := 0) (ms2 := 0) kX9_204 (CX9_isLetter Γ (nI c)) rfl ⟨Nat.le_of_ble_eq_true rfl, Nat.le_of_ble_eq_true rfl⟩ (Nat.le_of_ble_eq_true rfl) (Nat.le_of_ble_eq_true rfl) (Nat.le_of_ble_eq_true rfl) rfl dX9_advance_80 ?_
      rw [sx_let c hc, ← hf]
      refine WP.if_eq (pc := 83) (tgt := 128) dX9_advance_83 (by decide) (fun h2 => ?_) (fun h2 => ?_)
      · have hp : ¬ isLet (f a) = true := fun z => by rw [z] at h2; exact absurd h2 (by decide)
        rw [if_neg hp] at hT
        refine WP.iload_n (pc := 128) dX9_advance_128 rfl ?_
        refine WP.bipush (pc := 129) (v := 48) dX9_advance_129 (by decide) ?_
        refine WP.bipush (pc := 131) (v := 57) dX9_advance_131 (by decide) ?_
        refine WP.cS1 (pc := 133) (mc2 := 0) (ms2 := 0) kX9_183 (CX9_isBetween Γ (nI c) 48 57) rfl ⟨Nat.le_of_ble_eq_true rfl, Nat.le_of_ble_eq_true rfl⟩ (Nat.le_of_ble_eq_true rfl) (Nat.le_of_ble_eq_true rfl) (Nat.le_of_ble_eq_true rfl) rfl dX9_advance_133 ?_
        have hdd : (decide ((48 : Int32) ≤ nI c) && decide (nI c ≤ 57)) = isDig (f a) := by rw [hf, ← sx_dig c hc]; rfl
        rw [hdd]
        refine WP.if_eq (pc := 136) (tgt := 214) dX9_advance_136 (by decide) (fun h3 => ?_) (fun h3 => ?_)
        · have hp : ¬ isDig (f a) = true := fun z => by rw [z] at h3; exact absurd h3 (by decide)
          rw [if_neg hp] at hT
          refine WP.aload_n (pc := 214) dX9_advance_214 rfl ?_
          refine WP.iconst (pc := 215) (v := 1) dX9_advance_215 (by decide) ?_
          refine WP.pI (pc := 216) uX9 fX9_201 rfl rfl hm.t0 dX9_advance_216 ?_
          refine WP.aload_n (pc := 219) dX9_advance_219 rfl ?_
          refine WP.dup (pc := 220) dX9_advance_220 rfl ?_
          refine WP.gIv (pc := 221) (v := nI a) uX9 fX9_186 hm.t0 (by simp [up_eq, j18]) dX9_advance_221 ?_
          refine WP.iconst (pc := 224) (v := 1) dX9_advance_224 (by decide) ?_
          refine WP.iaN (pc := 225) (b := 1) dX9_advance_225 ?_
          refine WP.pI (pc := 226) uX9 fX9_186 rfl rfl hm.t0 dX9_advance_226 ?_
          refine WP.vret (pc := 229) rfl dX9_advance_229 ?_
          refine ⟨rfl, _, rfl, (F1.trans FJ).trans ((frV.rf.up (by omega)).up (by omega)), ?_⟩
          rw [hT]
          refine ⟨by simp [up_eq, j19], by simp [up_eq]; rfl, by simp [up_eq], by simp [up_eq, j22], fun z => absurd (show (3 : Nat) = 2 from z) (by decide)⟩
        · have hp : isDig (f a) = true := Classical.byContradiction fun z => h3 (by rw [Bool.not_eq_true] at z; rw [z]; rfl)
          rw [if_pos hp] at hT
          have hle := (runW_le isDig f (n - a) a).1
          refine WP.aload_n (pc := 139) dX9_advance_139 rfl ?_
          refine WP.iconst (pc := 140) (v := 2) dX9_advance_140 (by decide) ?_
          refine WP.pI (pc := 141) uX9 fX9_201 rfl rfl hm.t0 dX9_advance_141 ?_
          refine LX9_adv144 Γ hm hn (n - a) a 0 _ (by omega) (by simp [up_eq, j17]) (by rw [up_ne (by omega)]; exact jt) (by simp [up_eq, j18]) (by simp [up_eq, j21]) (fun I2 f2 g2 g3 => ⟨rfl, I2, rfl, ((F1.trans FJ).trans (frV.rf.up (by omega))).trans (f2.K (by omega) (by omega)), ?_⟩)
          rw [hT]
          refine ⟨by rw [f2.2 19 (by omega) (by omega)]; simp [up_eq, j19], by rw [f2.2 20 (by omega) (by omega)]; simp [up_eq]; rfl, by rw [g2]; congr 1; show _ = a + (_ - a); omega, by rw [f2.2 22 (by omega) (by omega)]; simp [up_eq, j22], fun _ => g3⟩
      · have hp : isLet (f a) = true := Classical.byContradiction fun z => h2 (by rw [Bool.not_eq_true] at z; rw [z]; rfl)
        rw [if_pos hp] at hT
        have hle := (runW_le isLet f (n - a) a).1
        refine WP.aload_n (pc := 86) dX9_advance_86 rfl ?_
        refine WP.iconst (pc := 87) (v := 3) dX9_advance_87 (by decide) ?_
        refine WP.pI (pc := 88) uX9 fX9_201 rfl rfl hm.t0 dX9_advance_88 ?_
        refine LX9_adv91 Γ hm hn (n - a) a 0 _ (by omega) (by simp [up_eq, j17]) (by rw [up_ne (by omega)]; exact jt) (by simp [up_eq, j18]) (by simp [up_eq, j22]) (fun I2 f2 g2 g3 => ⟨rfl, I2, rfl, ((F1.trans FJ).trans (frV.rf.up (by omega))).trans (f2.K (by omega) (by omega)), ?_⟩)
        rw [hT]
        refine ⟨by rw [f2.2 19 (by omega) (by omega)]; simp [up_eq, j19], by rw [f2.2 20 (by omega) (by omega)]; simp [up_eq]; rfl, by rw [g2]; congr 1; show _ = a + (_ - a); omega, by rw [g3, Nat.zero_add]; rfl, fun z => absurd (show (1 : Nat) = 2 from z) (by decide)⟩
    · exact absurd h1 (nI_ne_m1 (by omega))
  · rw [if_pos q] at hT
    rw [if_neg (by omega)]
    refine WP.icmp_ne (pc := 68) (tgt := 79) dX9_advance_68 (by decide) (fun h1 => ?_) (fun h1 => ?_)
    · exact absurd rfl h1
    · refine WP.aload_n (pc := 71) dX9_advance_71 rfl ?_
      refine WP.iconst (pc := 72) (v := 0) dX9_advance_72 (by decide) ?_
      refine WP.pI (pc := 73) uX9 fX9_201 rfl rfl hm.t0 dX9_advance_73 ?_
      refine WP.goto (pc := 76) (tgt := 229) dX9_advance_76 (by decide) ?_
      refine WP.vret (pc := 229) rfl dX9_advance_229 ?_
      refine ⟨rfl, _, rfl, (F1.trans FJ).trans (frV.rf.up (by omega)), ?_⟩
      rw [hT]
      refine ⟨by simp [up_eq, j19], by simp [up_eq]; rfl, by simp [up_eq, j18], by simp [up_eq, j22], fun z => absurd (show (0 : Nat) = 2 from z) (by decide)⟩
end T
