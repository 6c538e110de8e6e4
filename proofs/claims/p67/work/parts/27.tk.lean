-- behind: 23
-- tokens
def runW (p : Int32 → Bool) (f : Nat → Int32) : Nat → Nat → Nat
  | 0, a => a
  | m + 1, a => if p (f a) = true then runW p f m (a + 1) else a
def isSp (c : Int32) : Bool := decide (c = 32) || decide (c = 10)
theorem runW_le (p : Int32 → Bool) (f : Nat → Int32) : ∀ m a, a ≤ runW p f m a ∧ runW p f m a ≤ a + m
  | 0, a => ⟨Nat.le_refl _, Nat.le_refl _⟩
  | m + 1, a => by
    have ih := runW_le p f m (a + 1)
    unfold runW
    split <;> omega
/-- the token behind place e: its type, its start, its length -/
def tkN (f : Nat → Int32) (n e : Nat) : Nat × Nat × Nat :=
  let a := runW isSp f (n - e) e
  if n ≤ a then (0, a, 0) else if isLet (f a) = true then (1, a, runW isLet f (n - a) a - a) else if isDig (f a) = true then (2, a, runW isDig f (n - a) a - a) else (3, a, 1)
theorem runW_go {p : Int32 → Bool} {f : Nat → Int32} {m a : Nat} (h : p (f a) = true) (hm : 0 < m) : a < runW p f m a := by
  cases m with
  | zero => omega
  | succ m =>
    unfold runW
    rw [if_pos h]
    have := (runW_le p f m (a + 1)).1
    omega
theorem tkN_ok {f : Nat → Int32} {n e : Nat} (he : e ≤ n) : (tkN f n e).1 ≤ 3 ∧ e ≤ (tkN f n e).2.1 ∧ (tkN f n e).2.1 + (tkN f n e).2.2 ≤ n ∧ ((tkN f n e).1 ≠ 0 → 1 ≤ (tkN f n e).2.2) := by
  have h1 := runW_le isSp f (n - e) e
  unfold tkN
  dsimp only
  generalize runW isSp f (n - e) e = a at h1
  split
  · exact ⟨Nat.zero_le _, h1.1, by show a + 0 ≤ n; omega, fun q => absurd rfl q⟩
  · split
    · next h2 =>
      have h3 := runW_le isLet f (n - a) a
      have h4 := runW_go h2 (m := n - a) (by omega)
      exact ⟨(by decide : (1 : Nat) ≤ 3), h1.1, by show a + (_ - a) ≤ n; omega, fun _ => by show 1 ≤ _ - a; omega⟩
    · split
      · next h2 =>
        have h3 := runW_le isDig f (n - a) a
        have h4 := runW_go h2 (m := n - a) (by omega)
        exact ⟨(by decide : (2 : Nat) ≤ 3), h1.1, by show a + (_ - a) ≤ n; omega, fun _ => by show 1 ≤ _ - a; omega⟩
      · exact ⟨(by decide : (3 : Nat) ≤ 3), h1.1, by show a + 1 ≤ n; omega, fun _ => Nat.le_refl _⟩
def tkAt (I : Nat → Nat → Int32) (x n : Nat) (t : Nat × Nat × Nat) : Prop := I (x + 58) 1 = nI n ∧ I (x + 58) 2 = nI t.1 ∧ I (x + 58) 3 = nI t.2.1 ∧ I (x + 58) 4 = nI (t.2.1 + t.2.2) ∧ n ≤ 600 ∧ t.1 ≤ 3 ∧ t.2.1 + t.2.2 ≤ n
theorem tkAt.kp {I I' : Nat → Nat → Int32} {x n lo m : Nat} {t : Nat × Nat × Nat} (h : tkAt I x n t) (hf : fr I I' lo m) (h1 : lo + m ≤ x + 58 ∨ x + 59 ≤ lo) : tkAt I' x n t := by
  unfold tkAt
  rw [hf (x + 58) (by omega)]
  exact h
section T
variable (Γ : cG) {σ : cAS} {x : Nat}
theorem LX7_sp (hx : shX σ x) {r : cRm} {Φ : cRes → cAS → Prop} {n : Nat} (hn : n ≤ 600) {I : Nat → Nat → Int32} (hl : I (x + 58) 1 = nI n) : ∀ m i, i + m = n → WP Γ r MX7_next Φ 41 [some (.ref (x + 58)), some (.int (nI (runW isSp (I (x + 56)) m i)))] [] (wI σ I) → WP Γ r MX7_next Φ 5 [some (.ref (x + 58)), some (.int (nI i))] [] (wI σ I) := by
  intro m
  induction m with
  | zero =>
    intro i hi H
    refine WP.iload_n (pc := 5) dX7_next_5 rfl ?_
    refine WP.aload_n (pc := 6) dX7_next_6 rfl ?_
    refine WP.gIv (pc := 7) (v := (nI n)) uX7 fX7_13 hx.t58 (by simp [up_eq, hl]) dX7_next_7 ?_
    refine WP.icmp_ge (pc := 10) (tgt := 41) dX7_next_10 (by decide) (fun h1 => ?_) (fun h1 => ?_)
    · exact H
    · exact absurd (nI_le (by omega) (by omega)) h1
  | succ m ih =>
    intro i hi H
    refine WP.iload_n (pc := 5) dX7_next_5 rfl ?_
    refine WP.aload_n (pc := 6) dX7_next_6 rfl ?_
    refine WP.gIv (pc := 7) (v := (nI n)) uX7 fX7_13 hx.t58 (by simp [up_eq, hl]) dX7_next_7 ?_
    refine WP.icmp_ge (pc := 10) (tgt := 41) dX7_next_10 (by decide) (fun h1 => ?_) (fun h1 => ?_)
    · exact absurd h1 (nI_ge (by omega) (by omega))
    · unfold runW at H
      refine WP.aload_n (pc := 13) dX7_next_13 rfl ?_
      refine WP.gR (pc := 14) uX7 fX7_7 hx.t58 hx.r58_0 dX7_next_14 ?_
      refine WP.iload_n (pc := 17) dX7_next_17 rfl ?_
      refine WP.bald (pc := 18) hx.t56 (by omega) (by decide) dX7_next_18 ?_
      refine WP.bipush (pc := 19) (v := 32) dX7_next_19 (by decide) ?_
      refine WP.icmp_eq (pc := 21) (tgt := 35) dX7_next_21 (by decide) (fun h2 => ?_) (fun h2 => ?_)
      · rw [if_pos (by simp [isSp, h2])] at H
        refine WP.iinc (pc := 35) dX7_next_35 rfl (nI_1 _) (by decide) rfl ?_
        refine WP.goto (pc := 38) (tgt := 5) dX7_next_38 (by decide) ?_
        exact ih (i + 1) (by omega) H
      · refine WP.aload_n (pc := 24) dX7_next_24 rfl ?_
        refine WP.gR (pc := 25) uX7 fX7_7 hx.t58 hx.r58_0 dX7_next_25 ?_
        refine WP.iload_n (pc := 28) dX7_next_28 rfl ?_
        refine WP.bald (pc := 29) hx.t56 (by omega) (by decide) dX7_next_29 ?_
        refine WP.bipush (pc := 30) (v := 10) dX7_next_30 (by decide) ?_
        refine WP.icmp_ne (pc := 32) (tgt := 41) dX7_next_32 (by decide) (fun h3 => ?_) (fun h3 => ?_)
        · rw [if_neg (by simp [isSp, h2, h3])] at H
          exact H
        · rw [if_pos (by simp [isSp, h3])] at H
          refine WP.iinc (pc := 35) dX7_next_35 rfl (nI_1 _) (by decide) rfl ?_
          refine WP.goto (pc := 38) (tgt := 5) dX7_next_38 (by decide) ?_
          exact ih (i + 1) (by omega) H
theorem LX7_let (hx : shX σ x) {Φ : cRes → cAS → Prop} {n : Nat} (hn : n ≤ 600) {I : Nat → Nat → Int32} (hl : I (x + 58) 1 = nI n) : ∀ m i, i + m = n → WP Γ (1, 20, 0, 0) MX7_next Φ 156 [some (.ref (x + 58)), some (.int (nI (runW isLet (I (x + 56)) m i)))] [] (wI σ I) → WP Γ (1, 20, 0, 0) MX7_next Φ 79 [some (.ref (x + 58)), some (.int (nI i))] [] (wI σ I) := by
  intro m
  induction m with
  | zero =>
    intro i hi H
    refine WP.iload_n (pc := 79) dX7_next_79 rfl ?_
    refine WP.aload_n (pc := 80) dX7_next_80 rfl ?_
    refine WP.gIv (pc := 81) (v := (nI n)) uX7 fX7_13 hx.t58 (by simp [up_eq, hl]) dX7_next_81 ?_
    refine WP.icmp_ge (pc := 84) (tgt := 156) dX7_next_84 (by decide) (fun h1 => ?_) (fun h1 => ?_)
    · exact H
    · exact absurd (nI_le (by omega) (by omega)) h1
  | succ m ih =>
    intro i hi H
    refine WP.iload_n (pc := 79) dX7_next_79 rfl ?_
    refine WP.aload_n (pc := 80) dX7_next_80 rfl ?_
    refine WP.gIv (pc := 81) (v := (nI n)) uX7 fX7_13 hx.t58 (by simp [up_eq, hl]) dX7_next_81 ?_
    refine WP.icmp_ge (pc := 84) (tgt := 156) dX7_next_84 (by decide) (fun h1 => ?_) (fun h1 => ?_)
    · exact absurd h1 (nI_ge (by omega) (by omega))
    · unfold runW at H
      refine WP.aload_n (pc := 87) dX7_next_87 rfl ?_
      refine WP.gR (pc := 88) uX7 fX7_7 hx.t58 hx.r58_0 dX7_next_88 ?_
      refine WP.iload_n (pc := 91) dX7_next_91 rfl ?_
      refine WP.bald (pc := 92) hx.t56 (by omega) (by decide) dX7_next_92 ?_
      refine WP.cN1 (pc := 93) (mc2 := 0) (ms2 := 0) kX7_29 (CX8_isLetter Γ _ _) rfl ⟨Nat.le_of_ble_eq_true rfl, Nat.le_of_ble_eq_true rfl⟩ (Nat.le_of_ble_eq_true rfl) (Nat.le_of_ble_eq_true rfl) (Nat.le_of_ble_eq_true rfl) rfl dX7_next_93 ?_
      refine WP.if_eq (pc := 96) (tgt := 156) dX7_next_96 (by decide) (fun h2 => ?_) (fun h2 => ?_)
      · rw [if_neg (by
          intro q
          rw [q] at h2
          exact absurd h2 (by decide))] at H
        exact H
      · rw [if_pos (by
          cases q : isLet (I (x + 56) i)
          · rw [q] at h2
            exact absurd rfl h2
          · rfl)] at H
        refine WP.iinc (pc := 99) dX7_next_99 rfl (nI_1 _) (by decide) rfl ?_
        refine WP.goto (pc := 102) (tgt := 79) dX7_next_102 (by decide) ?_
        exact ih (i + 1) (by omega) H
theorem LX7_dig (hx : shX σ x) {Φ : cRes → cAS → Prop} {n : Nat} (hn : n ≤ 600) {I : Nat → Nat → Int32} (hl : I (x + 58) 1 = nI n) : ∀ m i, i + m = n → WP Γ (1, 20, 0, 0) MX7_next Φ 156 [some (.ref (x + 58)), some (.int (nI (runW isDig (I (x + 56)) m i)))] [] (wI σ I) → WP Γ (1, 20, 0, 0) MX7_next Φ 122 [some (.ref (x + 58)), some (.int (nI i))] [] (wI σ I) := by
  intro m
  induction m with
  | zero =>
    intro i hi H
    refine WP.iload_n (pc := 122) dX7_next_122 rfl ?_
    refine WP.aload_n (pc := 123) dX7_next_123 rfl ?_
    refine WP.gIv (pc := 124) (v := (nI n)) uX7 fX7_13 hx.t58 (by simp [up_eq, hl]) dX7_next_124 ?_
    refine WP.icmp_ge (pc := 127) (tgt := 156) dX7_next_127 (by decide) (fun h1 => ?_) (fun h1 => ?_)
    · exact H
    · exact absurd (nI_le (by omega) (by omega)) h1
  | succ m ih =>
    intro i hi H
    refine WP.iload_n (pc := 122) dX7_next_122 rfl ?_
    refine WP.aload_n (pc := 123) dX7_next_123 rfl ?_
    refine WP.gIv (pc := 124) (v := (nI n)) uX7 fX7_13 hx.t58 (by simp [up_eq, hl]) dX7_next_124 ?_
    refine WP.icmp_ge (pc := 127) (tgt := 156) dX7_next_127 (by decide) (fun h1 => ?_) (fun h1 => ?_)
    · exact absurd h1 (nI_ge (by omega) (by omega))
    · unfold runW at H
      refine WP.aload_n (pc := 130) dX7_next_130 rfl ?_
      refine WP.gR (pc := 131) uX7 fX7_7 hx.t58 hx.r58_0 dX7_next_131 ?_
      refine WP.iload_n (pc := 134) dX7_next_134 rfl ?_
      refine WP.bald (pc := 135) hx.t56 (by omega) (by decide) dX7_next_135 ?_
      refine WP.cN1 (pc := 136) (mc2 := 0) (ms2 := 0) kX7_35 (CX8_isDigit Γ _ _) rfl ⟨Nat.le_of_ble_eq_true rfl, Nat.le_of_ble_eq_true rfl⟩ (Nat.le_of_ble_eq_true rfl) (Nat.le_of_ble_eq_true rfl) (Nat.le_of_ble_eq_true rfl) rfl dX7_next_136 ?_
      refine WP.if_eq (pc := 139) (tgt := 156) dX7_next_139 (by decide) (fun h2 => ?_) (fun h2 => ?_)
      · rw [if_neg (by
          intro q
          rw [q] at h2
          exact absurd h2 (by decide))] at H
        exact H
      · rw [if_pos (by
          cases q : isDig (I (x + 56) i)
          · rw [q] at h2
            exact absurd rfl h2
          · rfl)] at H
        refine WP.iinc (pc := 142) dX7_next_142 rfl (nI_1 _) (by decide) rfl ?_
        refine WP.goto (pc := 145) (tgt := 122) dX7_next_145 (by decide) ?_
        exact ih (i + 1) (by omega) H
theorem CX7_next (hx : shX σ x) {n e : Nat} (hn : n ≤ 600) (he : e ≤ n) {I : Nat → Nat → Int32} (hl : I (x + 58) 1 = nI n) (h4 : I (x + 58) 4 = nI e) : Ctr Γ (1, 20, 0, 0) MX7_next [.ref (x + 58)] (wI σ I) (rW σ (fun I' => fr I I' (x + 58) 1 ∧ tkAt I' x n (tkN (I (x + 56)) n e))) := by
  have hk := tkN_ok (f := I (x + 56)) he
  refine Ctr.go rfl (by decide) rfl rfl ?_
  refine WP.aload_n (pc := 0) dX7_next_0 rfl ?_
  refine WP.gIv (pc := 1) (v := (nI e)) uX7 fX7_17 hx.t58 (by simp [up_eq, h4]) dX7_next_1 ?_
  refine WP.istore_n (pc := 4) dX7_next_4 (by decide) rfl ?_
  refine LX7_sp Γ hx hn hl (n - e) e (by omega) ?_
  have h1 := runW_le isSp (I (x + 56)) (n - e) e
  unfold tkN at hk ⊢
  dsimp only at hk ⊢
  generalize runW isSp (I (x + 56)) (n - e) e = a at h1 hk
  refine WP.aload_n (pc := 41) dX7_next_41 rfl ?_
  refine WP.iload_n (pc := 42) dX7_next_42 rfl ?_
  refine WP.pI (pc := 43) uX7 fX7_23 rfl rfl hx.t58 dX7_next_43 ?_
  refine WP.iload_n (pc := 46) dX7_next_46 rfl ?_
  refine WP.aload_n (pc := 47) dX7_next_47 rfl ?_
  refine WP.gIv (pc := 48) (v := (nI n)) uX7 fX7_13 hx.t58 (by simp [up_eq, hl]) dX7_next_48 ?_
  refine WP.icmp_lt (pc := 51) (tgt := 62) dX7_next_51 (by decide) (fun h2 => ?_) (fun h2 => ?_)
  · have ha : ¬ n ≤ a := fun q => nI_nlt q (by omega) h2
    rw [if_neg ha] at hk ⊢
    refine WP.aload_n (pc := 62) dX7_next_62 rfl ?_
    refine WP.gR (pc := 63) uX7 fX7_7 hx.t58 hx.r58_0 dX7_next_63 ?_
    refine WP.iload_n (pc := 66) dX7_next_66 rfl ?_
    refine WP.bald (pc := 67) hx.t56 (by omega) (by decide) dX7_next_67 ?_
    rw [show up I (x + 58) 3 (nI a) (x + 56) a = I (x + 56) a by simp [up_eq]]
    refine WP.cN1 (pc := 68) (mc2 := 0) (ms2 := 0) kX7_29 (CX8_isLetter Γ _ _) rfl ⟨Nat.le_of_ble_eq_true rfl, Nat.le_of_ble_eq_true rfl⟩ (Nat.le_of_ble_eq_true rfl) (Nat.le_of_ble_eq_true rfl) (Nat.le_of_ble_eq_true rfl) rfl dX7_next_68 ?_
    refine WP.if_eq (pc := 71) (tgt := 105) dX7_next_71 (by decide) (fun h3 => ?_) (fun h3 => ?_)
    · have hq : ¬ isLet (I (x + 56) a) = true := fun q => by
        rw [q] at h3
        exact absurd h3 (by decide)
      rw [if_neg hq] at hk ⊢
      refine WP.aload_n (pc := 105) dX7_next_105 rfl ?_
      refine WP.gR (pc := 106) uX7 fX7_7 hx.t58 hx.r58_0 dX7_next_106 ?_
      refine WP.iload_n (pc := 109) dX7_next_109 rfl ?_
      refine WP.bald (pc := 110) hx.t56 (by omega) (by decide) dX7_next_110 ?_
      rw [show up I (x + 58) 3 (nI a) (x + 56) a = I (x + 56) a by simp [up_eq]]
      refine WP.cN1 (pc := 111) (mc2 := 0) (ms2 := 0) kX7_35 (CX8_isDigit Γ _ _) rfl ⟨Nat.le_of_ble_eq_true rfl, Nat.le_of_ble_eq_true rfl⟩ (Nat.le_of_ble_eq_true rfl) (Nat.le_of_ble_eq_true rfl) (Nat.le_of_ble_eq_true rfl) rfl dX7_next_111 ?_
      refine WP.if_eq (pc := 114) (tgt := 148) dX7_next_114 (by decide) (fun h5 => ?_) (fun h5 => ?_)
      · have hq2 : ¬ isDig (I (x + 56) a) = true := fun q => by
          rw [q] at h5
          exact absurd h5 (by decide)
        rw [if_neg hq2] at hk ⊢
        refine WP.aload_n (pc := 148) dX7_next_148 rfl ?_
        refine WP.iconst (pc := 149) (v := 3) dX7_next_149 (by decide) ?_
        refine WP.pI (pc := 150) uX7 fX7_26 rfl rfl hx.t58 dX7_next_150 ?_
        refine WP.iinc (pc := 153) dX7_next_153 rfl (nI_1 _) (by decide) rfl ?_
        refine WP.aload_n (pc := 156) dX7_next_156 rfl ?_
        refine WP.iload_n (pc := 157) dX7_next_157 rfl ?_
        refine WP.pI (pc := 158) uX7 fX7_17 rfl rfl hx.t58 dX7_next_158 ?_
        refine WP.vret (pc := 161) rfl dX7_next_161 ?_
        exact ⟨rfl, _, rfl, ((fr.rf.up (by omega) (by omega)).up (by omega) (by omega)).up (by omega) (by omega), by simp [tkAt, up_eq, hl], by simp [up_eq]; rfl, by simp [up_eq], by simp [up_eq], hn, hk.1, hk.2.2.1⟩
      · have hq2 : isDig (I (x + 56) a) = true := by
          cases q : isDig (I (x + 56) a)
          · rw [q] at h5
            exact absurd rfl h5
          · rfl
        rw [if_pos hq2] at hk ⊢
        refine WP.aload_n (pc := 117) dX7_next_117 rfl ?_
        refine WP.iconst (pc := 118) (v := 2) dX7_next_118 (by decide) ?_
        refine WP.pI (pc := 119) uX7 fX7_26 rfl rfl hx.t58 dX7_next_119 ?_
        have hrl := runW_le isDig (I (x + 56)) (n - a) a
        generalize hJ : up (up I (x + 58) 3 (nI a)) (x + 58) 2 2 = J
        have hJf : fr I J (x + 58) 1 := by
          subst hJ
          exact (fr.rf.up (by omega) (by omega)).up (by omega) (by omega)
        have hJ6 : J (x + 56) = I (x + 56) := hJf _ (by omega)
        refine LX7_dig Γ hx hn (by subst hJ; simp [up_eq, hl]) (n - a) a (by omega) ?_
        rw [hJ6]
        refine WP.aload_n (pc := 156) dX7_next_156 rfl ?_
        refine WP.iload_n (pc := 157) dX7_next_157 rfl ?_
        refine WP.pI (pc := 158) uX7 fX7_17 rfl rfl hx.t58 dX7_next_158 ?_
        refine WP.vret (pc := 161) rfl dX7_next_161 ?_
        refine ⟨rfl, _, rfl, hJf.up (by omega) (by omega), ?_, ?_, ?_, ?_, hn, hk.1, hk.2.2.1⟩
        · subst hJ; simp [up_eq, hl]
        · subst hJ; simp [up_eq]; rfl
        · subst hJ; simp [up_eq]
        · subst hJ
          simp only [up_eq, true_and, if_true]
          show nI _ = nI (a + (_ - a))
          congr 1
          omega
    · have hq : isLet (I (x + 56) a) = true := by
        cases q : isLet (I (x + 56) a)
        · rw [q] at h3
          exact absurd rfl h3
        · rfl
      rw [if_pos hq] at hk ⊢
      refine WP.aload_n (pc := 74) dX7_next_74 rfl ?_
      refine WP.iconst (pc := 75) (v := 1) dX7_next_75 (by decide) ?_
      refine WP.pI (pc := 76) uX7 fX7_26 rfl rfl hx.t58 dX7_next_76 ?_
      have hrl := runW_le isLet (I (x + 56)) (n - a) a
      generalize hJ : up (up I (x + 58) 3 (nI a)) (x + 58) 2 1 = J
      have hJf : fr I J (x + 58) 1 := by
        subst hJ
        exact (fr.rf.up (by omega) (by omega)).up (by omega) (by omega)
      have hJ6 : J (x + 56) = I (x + 56) := hJf _ (by omega)
      refine LX7_let Γ hx hn (by subst hJ; simp [up_eq, hl]) (n - a) a (by omega) ?_
      rw [hJ6]
      refine WP.aload_n (pc := 156) dX7_next_156 rfl ?_
      refine WP.iload_n (pc := 157) dX7_next_157 rfl ?_
      refine WP.pI (pc := 158) uX7 fX7_17 rfl rfl hx.t58 dX7_next_158 ?_
      refine WP.vret (pc := 161) rfl dX7_next_161 ?_
      refine ⟨rfl, _, rfl, hJf.up (by omega) (by omega), ?_, ?_, ?_, ?_, hn, hk.1, hk.2.2.1⟩
      · subst hJ; simp [up_eq, hl]
      · subst hJ; simp [up_eq]; rfl
      · subst hJ; simp [up_eq]
      · subst hJ
        simp only [up_eq, true_and, if_true]
        show nI _ = nI (a + (_ - a))
        congr 1
        omega
  · have ha : n ≤ a := by
      rcases Nat.lt_or_ge a n with q | q
      · exact absurd (nI_lt q (by omega)) h2
      · exact q
    rw [if_pos ha] at hk ⊢
    refine WP.aload_n (pc := 54) dX7_next_54 rfl ?_
    refine WP.iconst (pc := 55) (v := 0) dX7_next_55 (by decide) ?_
    refine WP.pI (pc := 56) uX7 fX7_26 rfl rfl hx.t58 dX7_next_56 ?_
    refine WP.goto (pc := 59) (tgt := 156) dX7_next_59 (by decide) ?_
    refine WP.aload_n (pc := 156) dX7_next_156 rfl ?_
    refine WP.iload_n (pc := 157) dX7_next_157 rfl ?_
    refine WP.pI (pc := 158) uX7 fX7_17 rfl rfl hx.t58 dX7_next_158 ?_
    refine WP.vret (pc := 161) rfl dX7_next_161 ?_
    exact ⟨rfl, _, rfl, ((fr.rf.up (by omega) (by omega)).up (by omega) (by omega)).up (by omega) (by omega), by simp [tkAt, up_eq, hl], by simp [up_eq]; rfl, by simp [up_eq], by simp [up_eq], hn, hk.1, hk.2.2.1⟩
theorem CX7_begin (hx : shX σ x) {n : Nat} (hn : n ≤ 600) {I : Nat → Nat → Int32} : Ctr Γ (2, 41, 0, 0) MX7_begin [.ref (x + 58), .int (nI n)] (wI σ I) (rW σ (fun I' => fr I I' (x + 58) 1 ∧ tkAt I' x n (tkN (I (x + 56)) n 0))) := by
  refine Ctr.go rfl (by decide) rfl rfl ?_
  refine WP.aload_n (pc := 0) dX7_begin_0 rfl ?_
  refine WP.iload_n (pc := 1) dX7_begin_1 rfl ?_
  refine WP.aload_n (pc := 2) dX7_begin_2 rfl ?_
  refine WP.gR (pc := 3) uX7 fX7_7 hx.t58 hx.r58_0 dX7_begin_3 ?_
  refine WP.alen (pc := 6) (kd := 12) (by decide) (by decide) hx.t56 dX7_begin_6 ?_
  have hlast : ∀ J : Nat → Nat → Int32, J = up (up I (x + 58) 1 (nI n)) (x + 58) 4 0 → WP Γ (2, 41, 0, 0) MX7_begin (rW σ (fun I' => fr I I' (x + 58) 1 ∧ tkAt I' x n (tkN (I (x + 56)) n 0))) 27 [some (.ref (x + 58)), some (.int (nI n))] [] (wI σ J) := by
    rintro J hJ
    have hJf : fr I J (x + 58) 1 := by
      subst hJ
      exact (fr.rf.up (by omega) (by omega)).up (by omega) (by omega)
    have hJ6 : J (x + 56) = I (x + 56) := hJf _ (by omega)
    refine WP.aload_n (pc := 27) dX7_begin_27 rfl ?_
    refine WP.cVw (pc := 28) (mc2 := 0) (ms2 := 0) (ci := 7) kX7_20 (CX7_next Γ hx hn (Nat.zero_le _) (by subst hJ; simp [up_eq]) (by subst hJ; simp [up_eq]; rfl)) (by decide) rfl hx.t58 rfl ⟨Nat.le_of_ble_eq_true rfl, Nat.le_of_ble_eq_true rfl⟩ (Nat.le_of_ble_eq_true rfl) (Nat.le_of_ble_eq_true rfl) (Nat.le_of_ble_eq_true rfl) rfl dX7_begin_28 (fun I1 ⟨f1, g1⟩ => ?_)
    refine WP.vret (pc := 31) rfl dX7_begin_31 ?_
    rw [hJ6] at g1
    exact ⟨rfl, _, rfl, hJf.trans f1, g1⟩
  refine WP.icmp_ge (pc := 7) (tgt := 14) dX7_begin_7 (by decide) (fun h1 => ?_) (fun h1 => ?_)
  · have hn6 : n = 600 := by
      have := (nI_leI (a := 600) (b := n) (by omega) (by omega)).mp h1
      omega
    subst hn6
    refine WP.aload_n (pc := 14) dX7_begin_14 rfl ?_
    refine WP.gR (pc := 15) uX7 fX7_7 hx.t58 hx.r58_0 dX7_begin_15 ?_
    refine WP.alen (pc := 18) (kd := 12) (by decide) (by decide) hx.t56 dX7_begin_18 ?_
    refine WP.pI (pc := 19) uX7 fX7_13 rfl rfl hx.t58 dX7_begin_19 ?_
    refine WP.aload_n (pc := 22) dX7_begin_22 rfl ?_
    refine WP.iconst (pc := 23) (v := 0) dX7_begin_23 (by decide) ?_
    refine WP.pI (pc := 24) uX7 fX7_17 rfl rfl hx.t58 dX7_begin_24 ?_
    exact hlast _ rfl
  · refine WP.iload_n (pc := 10) dX7_begin_10 rfl ?_
    refine WP.goto (pc := 11) (tgt := 19) dX7_begin_11 (by decide) ?_
    refine WP.pI (pc := 19) uX7 fX7_13 rfl rfl hx.t58 dX7_begin_19 ?_
    refine WP.aload_n (pc := 22) dX7_begin_22 rfl ?_
    refine WP.iconst (pc := 23) (v := 0) dX7_begin_23 (by decide) ?_
    refine WP.pI (pc := 24) uX7 fX7_17 rfl rfl hx.t58 dX7_begin_24 ?_
    exact hlast _ rfl
-- a word
def eqW (f : Nat → Int32) (s j : Nat) : Nat → Bool
  | 0 => true
  | m + 1 => eqW f s j m && decide (cTB j m = f (s + m))
theorem eqW_no {f : Nat → Int32} {s j i : Nat} (h : ¬ cTB j i = f (s + i)) : ∀ m, i < m → eqW f s j m = false
  | 0, q => absurd q (Nat.not_lt_zero _)
  | m + 1, q => by
    unfold eqW
    rcases Nat.lt_or_ge i m with z | z
    · rw [eqW_no h m z]
      rfl
    · have : i = m := by omega
      subst this
      simp [h]
/-- is the token the word? -/
def wdI (f : Nat → Int32) (t : Nat × Nat × Nat) (j : Nat) : Bool := decide (t.1 = 1) && decide (cTL j = t.2.2) && eqW f t.2.1 j (cTL j)
theorem LX7_isWord (hx : shX σ x) {j n : Nat} (hj : j < 30) {t : Nat × Nat × Nat} {I : Nat → Nat → Int32} (h : tkAt I x n t) (hw : t.1 = 1) (hl : cTL j = t.2.2) : ∀ m i, i + m = cTL j → eqW (I (x + 56)) t.2.1 j i = true → WP Γ (5, 106, 0, 0) MX7_isWord (rV (some (.int (bI (wdI (I (x + 56)) t j)))) (wI σ I)) 28 [some (.ref (x + 58)), some (.ref (gK Γ j)), some (.int (nI i))] [] (wI σ I) := by
  obtain ⟨a1, a2, a3, a4, a5, a6, a7⟩ := h
  intro m
  induction m with
  | zero =>
    intro i hi hE
    have hie : i = cTL j := by omega
    refine WP.iload_n (pc := 28) dX7_isWord_28 rfl ?_
    refine WP.aload_n (pc := 29) dX7_isWord_29 rfl ?_
    refine WP.cVS (pc := 30) (mc2 := 0) (ms2 := 0) hj kX7_38 (CJ_length Γ _ hj) rfl rfl ⟨Nat.le_of_ble_eq_true rfl, Nat.le_of_ble_eq_true rfl⟩ (Nat.le_of_ble_eq_true rfl) (Nat.le_of_ble_eq_true rfl) (Nat.le_of_ble_eq_true rfl) rfl dX7_isWord_30 ?_
    refine WP.icmp_ge (pc := 33) (tgt := 76) dX7_isWord_33 (by decide) (fun h1 => ?_) (fun h1 => ?_)
    · refine WP.iconst (pc := 76) (v := 1) dX7_isWord_76 (by decide) ?_
      refine WP.zret (pc := 77) rfl (by decide) dX7_isWord_77 ?_
      refine ⟨?_, rfl⟩
      rw [hie] at hE
      rw [hl] at hE
      simp [wdI, hw, hE, hl]
      rfl
    · exact absurd (nI_le (by omega) (by omega)) h1
  | succ m ih =>
    intro i hi hE
    refine WP.iload_n (pc := 28) dX7_isWord_28 rfl ?_
    refine WP.aload_n (pc := 29) dX7_isWord_29 rfl ?_
    refine WP.cVS (pc := 30) (mc2 := 0) (ms2 := 0) hj kX7_38 (CJ_length Γ _ hj) rfl rfl ⟨Nat.le_of_ble_eq_true rfl, Nat.le_of_ble_eq_true rfl⟩ (Nat.le_of_ble_eq_true rfl) (Nat.le_of_ble_eq_true rfl) (Nat.le_of_ble_eq_true rfl) rfl dX7_isWord_30 ?_
    refine WP.icmp_ge (pc := 33) (tgt := 76) dX7_isWord_33 (by decide) (fun h1 => ?_) (fun h1 => ?_)
    · exact absurd h1 (nI_ge (by omega) (by omega))
    · refine WP.aload_n (pc := 36) dX7_isWord_36 rfl ?_
      refine WP.gIv (pc := 37) (v := (nI t.2.1)) uX7 fX7_23 hx.t58 (by simp [up_eq, a3]) dX7_isWord_37 ?_
      refine WP.iload_n (pc := 40) dX7_isWord_40 rfl ?_
      refine WP.iadd (pc := 41) dX7_isWord_41 ?_
      refine (?_ : WP Γ _ MX7_isWord _ 42 _ [.int (nI t.2.1 + nI i)] (wI σ I))
      rw [nI_add]
      refine WP.aload_n (pc := 42) dX7_isWord_42 rfl ?_
      refine WP.gIv (pc := 43) (v := (nI n)) uX7 fX7_13 hx.t58 (by simp [up_eq, a1]) dX7_isWord_43 ?_
      refine WP.icmp_ge (pc := 46) (tgt := 76) dX7_isWord_46 (by decide) (fun h2 => ?_) (fun h2 => ?_)
      · exact absurd h2 (nI_ge (by omega) (by omega))
      · refine WP.aload_n (pc := 49) dX7_isWord_49 rfl ?_
        refine WP.iload_n (pc := 50) dX7_isWord_50 rfl ?_
        refine WP.cVS (pc := 51) (mc2 := 0) (ms2 := 0) hj kX7_43 (CJ_charAt Γ _ hj (i := i) (by omega)) rfl rfl ⟨Nat.le_of_ble_eq_true rfl, Nat.le_of_ble_eq_true rfl⟩ (Nat.le_of_ble_eq_true rfl) (Nat.le_of_ble_eq_true rfl) (Nat.le_of_ble_eq_true rfl) rfl dX7_isWord_51 ?_
        refine WP.aload_n (pc := 54) dX7_isWord_54 rfl ?_
        refine WP.gR (pc := 55) uX7 fX7_7 hx.t58 hx.r58_0 dX7_isWord_55 ?_
        refine WP.aload_n (pc := 58) dX7_isWord_58 rfl ?_
        refine WP.gIv (pc := 59) (v := (nI t.2.1)) uX7 fX7_23 hx.t58 (by simp [up_eq, a3]) dX7_isWord_59 ?_
        refine WP.iload_n (pc := 62) dX7_isWord_62 rfl ?_
        refine WP.iadd (pc := 63) dX7_isWord_63 ?_
        refine (?_ : WP Γ _ MX7_isWord _ 64 _ [.int (nI t.2.1 + nI i), .ref (x + 56), .int (cTB j i)] (wI σ I))
        rw [nI_add]
        refine WP.bald (pc := 64) hx.t56 (by omega) (by decide) dX7_isWord_64 ?_
        refine WP.icmp_eq (pc := 65) (tgt := 70) dX7_isWord_65 (by decide) (fun h3 => ?_) (fun h3 => ?_)
        · refine WP.iinc (pc := 70) dX7_isWord_70 rfl (nI_1 _) (by decide) rfl ?_
          refine WP.goto (pc := 73) (tgt := 28) dX7_isWord_73 (by decide) ?_
          refine ih (i + 1) (by omega) ?_
          unfold eqW
          simp [hE, h3]
        · refine WP.iconst (pc := 68) (v := 0) dX7_isWord_68 (by decide) ?_
          refine WP.zret (pc := 69) rfl (by decide) dX7_isWord_69 ?_
          refine ⟨?_, rfl⟩
          have := eqW_no h3 (cTL j) (by omega)
          simp [wdI, this]
          rfl
theorem CX7_isWord (hx : shX σ x) {j n : Nat} (hj : j < 30) {t : Nat × Nat × Nat} {I : Nat → Nat → Int32} (h : tkAt I x n t) : Ctr Γ (5, 106, 0, 0) MX7_isWord [.ref (x + 58), .ref (gK Γ j)] (wI σ I) (rV (some (.int (bI (wdI (I (x + 56)) t j)))) (wI σ I)) := by
  obtain ⟨a1, a2, a3, a4, a5, a6, a7⟩ := id h
  have hcl := cTL_le j hj
  refine Ctr.go rfl (by decide) rfl rfl ?_
  refine WP.aload_n (pc := 0) dX7_isWord_0 rfl ?_
  refine WP.gIv (pc := 1) (v := (nI t.1)) uX7 fX7_26 hx.t58 (by simp [up_eq, a2]) dX7_isWord_1 ?_
  refine WP.iconst (pc := 4) (v := 1) dX7_isWord_4 (by decide) ?_
  refine WP.icmp_ne (pc := 5) (tgt := 24) dX7_isWord_5 (by decide) (fun h1 => ?_) (fun h1 => ?_)
  · refine WP.iconst (pc := 24) (v := 0) dX7_isWord_24 (by decide) ?_
    refine WP.zret (pc := 25) rfl (by decide) dX7_isWord_25 ?_
    refine ⟨?_, rfl⟩
    have : ¬ t.1 = 1 := fun q => h1 (by rw [q]; rfl)
    simp [wdI, this]
    rfl
  · have ht : t.1 = 1 := (nI_eq (b := 1) (by omega) (by omega)).mp h1
    refine WP.aload_n (pc := 8) dX7_isWord_8 rfl ?_
    refine WP.cVS (pc := 9) (mc2 := 0) (ms2 := 0) hj kX7_38 (CJ_length Γ _ hj) rfl rfl ⟨Nat.le_of_ble_eq_true rfl, Nat.le_of_ble_eq_true rfl⟩ (Nat.le_of_ble_eq_true rfl) (Nat.le_of_ble_eq_true rfl) (Nat.le_of_ble_eq_true rfl) rfl dX7_isWord_9 ?_
    refine WP.aload_n (pc := 12) dX7_isWord_12 rfl ?_
    refine WP.gIv (pc := 13) (v := (nI (t.2.1 + t.2.2))) uX7 fX7_17 hx.t58 (by simp [up_eq, a4]) dX7_isWord_13 ?_
    refine WP.aload_n (pc := 16) dX7_isWord_16 rfl ?_
    refine WP.gIv (pc := 17) (v := (nI t.2.1)) uX7 fX7_23 hx.t58 (by simp [up_eq, a3]) dX7_isWord_17 ?_
    refine WP.isub (pc := 20) dX7_isWord_20 ?_
    refine (?_ : WP Γ _ MX7_isWord _ 21 _ [.int (nI (t.2.1 + t.2.2) - nI t.2.1), .int (nI (cTL j))] (wI σ I))
    rw [pk_sub (by omega), show t.2.1 + t.2.2 - t.2.1 = t.2.2 by omega]
    refine WP.icmp_eq (pc := 21) (tgt := 26) dX7_isWord_21 (by decide) (fun h2 => ?_) (fun h2 => ?_)
    · have hl : cTL j = t.2.2 := (nI_eq (by omega) (by omega)).mp h2
      refine WP.iconst (pc := 26) (v := 0) dX7_isWord_26 (by decide) ?_
      refine WP.istore_n (pc := 27) dX7_isWord_27 (by decide) rfl ?_
      exact LX7_isWord Γ hx hj h ht hl (cTL j) 0 (by omega) rfl
    · refine WP.iconst (pc := 24) (v := 0) dX7_isWord_24 (by decide) ?_
      refine WP.zret (pc := 25) rfl (by decide) dX7_isWord_25 ?_
      refine ⟨?_, rfl⟩
      have : ¬ cTL j = t.2.2 := fun q => h2 (by rw [q])
      simp [wdI, this]
      rfl
/-- is the token a semicolon? -/
def smI' (f : Nat → Int32) (t : Nat × Nat × Nat) : Bool := decide (t.1 = 3) && decide (f t.2.1 = 59)
theorem CX7_isSemicolon (hx : shX σ x) {n : Nat} {t : Nat × Nat × Nat} {I : Nat → Nat → Int32} (h : tkAt I x n t) (h3 : t.1 = 3 → t.2.1 < n) : Ctr Γ (0, 0, 0, 0) MX7_isSemicolon [.ref (x + 58)] (wI σ I) (rV (some (.int (bI (smI' (I (x + 56)) t)))) (wI σ I)) := by
  obtain ⟨a1, a2, a3, a4, a5, a6, a7⟩ := id h
  refine Ctr.go rfl (by decide) rfl rfl ?_
  refine WP.aload_n (pc := 0) dX7_isSemicolon_0 rfl ?_
  refine WP.gIv (pc := 1) (v := (nI t.1)) uX7 fX7_26 hx.t58 (by simp [up_eq, a2]) dX7_isSemicolon_1 ?_
  refine WP.iconst (pc := 4) (v := 3) dX7_isSemicolon_4 (by decide) ?_
  refine WP.icmp_ne (pc := 5) (tgt := 37) dX7_isSemicolon_5 (by decide) (fun h1 => ?_) (fun h1 => ?_)
  · refine WP.iconst (pc := 37) (v := 0) dX7_isSemicolon_37 (by decide) ?_
    refine WP.zret (pc := 38) rfl (by decide) dX7_isSemicolon_38 ?_
    refine ⟨?_, rfl⟩
    have : ¬ t.1 = 3 := fun q => h1 (by rw [q]; rfl)
    simp [smI', this]
    rfl
  · have ht : t.1 = 3 := (nI_eq (b := 3) (by omega) (by omega)).mp h1
    have hlt := h3 ht
    refine WP.aload_n (pc := 8) dX7_isSemicolon_8 rfl ?_
    refine WP.gIv (pc := 9) (v := (nI t.2.1)) uX7 fX7_23 hx.t58 (by simp [up_eq, a3]) dX7_isSemicolon_9 ?_
    refine WP.aload_n (pc := 12) dX7_isSemicolon_12 rfl ?_
    refine WP.gIv (pc := 13) (v := (nI n)) uX7 fX7_13 hx.t58 (by simp [up_eq, a1]) dX7_isSemicolon_13 ?_
    refine WP.icmp_ge (pc := 16) (tgt := 37) dX7_isSemicolon_16 (by decide) (fun h2 => ?_) (fun h2 => ?_)
    · exact absurd h2 (nI_ge (by omega) (by omega))
    · refine WP.aload_n (pc := 19) dX7_isSemicolon_19 rfl ?_
      refine WP.gR (pc := 20) uX7 fX7_7 hx.t58 hx.r58_0 dX7_isSemicolon_20 ?_
      refine WP.aload_n (pc := 23) dX7_isSemicolon_23 rfl ?_
      refine WP.gIv (pc := 24) (v := (nI t.2.1)) uX7 fX7_23 hx.t58 (by simp [up_eq, a3]) dX7_isSemicolon_24 ?_
      refine WP.bald (pc := 27) hx.t56 (by omega) (by decide) dX7_isSemicolon_27 ?_
      refine WP.bipush (pc := 28) (v := 59) dX7_isSemicolon_28 (by decide) ?_
      refine WP.icmp_ne (pc := 30) (tgt := 37) dX7_isSemicolon_30 (by decide) (fun h4 => ?_) (fun h4 => ?_)
      · refine WP.iconst (pc := 37) (v := 0) dX7_isSemicolon_37 (by decide) ?_
        refine WP.zret (pc := 38) rfl (by decide) dX7_isSemicolon_38 ?_
        refine ⟨?_, rfl⟩
        simp [smI', h4]
        rfl
      · refine WP.iconst (pc := 33) (v := 1) dX7_isSemicolon_33 (by decide) ?_
        refine WP.goto (pc := 34) (tgt := 38) dX7_isSemicolon_34 (by decide) ?_
        refine WP.zret (pc := 38) rfl (by decide) dX7_isSemicolon_38 ?_
        refine ⟨?_, rfl⟩
        simp [smI', ht, h4]
        rfl
theorem CX7_name (hx : shX σ x) {n : Nat} {t : Nat × Nat × Nat} {I : Nat → Nat → Int32} (h : tkAt I x n t) : Ctr Γ (2, 44, 0, 0) MX7_name [.ref (x + 58)] (wI σ I) (rV (some (.int (pkN (I (x + 56)) t.2.1 t.2.2))) (wI σ I)) := by
  obtain ⟨a1, a2, a3, a4, a5, a6, a7⟩ := id h
  refine Ctr.go rfl (by decide) rfl rfl ?_
  refine WP.aload_n (pc := 0) dX7_name_0 rfl ?_
  refine WP.gR (pc := 1) uX7 fX7_7 hx.t58 hx.r58_0 dX7_name_1 ?_
  refine WP.aload_n (pc := 4) dX7_name_4 rfl ?_
  refine WP.gIv (pc := 5) (v := (nI t.2.1)) uX7 fX7_23 hx.t58 (by simp [up_eq, a3]) dX7_name_5 ?_
  refine WP.aload_n (pc := 8) dX7_name_8 rfl ?_
  refine WP.gIv (pc := 9) (v := (nI (t.2.1 + t.2.2))) uX7 fX7_17 hx.t58 (by simp [up_eq, a4]) dX7_name_9 ?_
  refine WP.cN1 (pc := 12) (mc2 := 0) (ms2 := 0) kX7_47 (CX8_packName Γ σ I hx.t56 (by omega) (by omega)) rfl ⟨Nat.le_of_ble_eq_true rfl, Nat.le_of_ble_eq_true rfl⟩ (Nat.le_of_ble_eq_true rfl) (Nat.le_of_ble_eq_true rfl) (Nat.le_of_ble_eq_true rfl) rfl dX7_name_12 ?_
  refine WP.iret (pc := 15) rfl dX7_name_15 ?_
  exact ⟨rfl, rfl⟩
/-- the value of a number -/
def vlA (f : Nat → Int32) : Nat → Nat → Int32 → Int32
  | 0, _, a => a
  | m + 1, i, a => vlA f m (i + 1) (if 100000 < a * 10 + f i - 48 then 100000 else a * 10 + f i - 48)
theorem LX7_value (hx : shX σ x) {r : cRm} {V : Int32} {n e : Nat} (hn : n ≤ 600) (he : e ≤ n) {I : Nat → Nat → Int32} (a1 : I (x + 58) 1 = nI n) (a4 : I (x + 58) 4 = nI e) : ∀ m i a, i + m = e → vlA (I (x + 56)) m i a = V → WP Γ r MX7_value (rV (some (.int V)) (wI σ I)) 7 [some (.ref (x + 58)), some (.int a), some (.int (nI i))] [] (wI σ I) := by
  intro m
  induction m with
  | zero =>
    intro i a hi H
    refine WP.iload_n (pc := 7) dX7_value_7 rfl ?_
    refine WP.aload_n (pc := 8) dX7_value_8 rfl ?_
    refine WP.gIv (pc := 9) (v := (nI e)) uX7 fX7_17 hx.t58 (by simp [up_eq, a4]) dX7_value_9 ?_
    refine WP.icmp_ge (pc := 12) (tgt := 53) dX7_value_12 (by decide) (fun h1 => ?_) (fun h1 => ?_)
    · refine WP.iload_n (pc := 53) dX7_value_53 rfl ?_
      refine WP.iret (pc := 54) rfl dX7_value_54 ?_
      rw [← H]
      exact ⟨rfl, rfl⟩
    · exact absurd (nI_le (by omega) (by omega)) h1
  | succ m ih =>
    intro i a hi H
    refine WP.iload_n (pc := 7) dX7_value_7 rfl ?_
    refine WP.aload_n (pc := 8) dX7_value_8 rfl ?_
    refine WP.gIv (pc := 9) (v := (nI e)) uX7 fX7_17 hx.t58 (by simp [up_eq, a4]) dX7_value_9 ?_
    refine WP.icmp_ge (pc := 12) (tgt := 53) dX7_value_12 (by decide) (fun h1 => ?_) (fun h1 => ?_)
    · exact absurd h1 (nI_ge (by omega) (by omega))
    · refine WP.iload_n (pc := 15) dX7_value_15 rfl ?_
      refine WP.aload_n (pc := 16) dX7_value_16 rfl ?_
      refine WP.gIv (pc := 17) (v := (nI n)) uX7 fX7_13 hx.t58 (by simp [up_eq, a1]) dX7_value_17 ?_
      refine WP.icmp_ge (pc := 20) (tgt := 53) dX7_value_20 (by decide) (fun h2 => ?_) (fun h2 => ?_)
      · exact absurd h2 (nI_ge (by omega) (by omega))
      · refine WP.iload_n (pc := 23) dX7_value_23 rfl ?_
        refine WP.bipush (pc := 24) (v := 10) dX7_value_24 (by decide) ?_
        refine WP.imul (pc := 26) dX7_value_26 ?_
        refine WP.aload_n (pc := 27) dX7_value_27 rfl ?_
        refine WP.gR (pc := 28) uX7 fX7_7 hx.t58 hx.r58_0 dX7_value_28 ?_
        refine WP.iload_n (pc := 31) dX7_value_31 rfl ?_
        refine WP.bald (pc := 32) hx.t56 (by omega) (by decide) dX7_value_32 ?_
        refine WP.iadd (pc := 33) dX7_value_33 ?_
        refine WP.bipush (pc := 34) (v := 48) dX7_value_34 (by decide) ?_
        refine WP.isub (pc := 36) dX7_value_36 ?_
        refine WP.istore_n (pc := 37) dX7_value_37 (by decide) rfl ?_
        refine WP.iload_n (pc := 38) dX7_value_38 rfl ?_
        refine WP.ldc (pc := 39) qX7_51 dX7_value_39 ?_
        unfold vlA at H
        refine WP.icmp_le (pc := 41) (tgt := 47) dX7_value_41 (by decide) (fun h3 => ?_) (fun h3 => ?_)
        · rw [if_neg (Int32.not_lt.mpr h3)] at H
          refine WP.iinc (pc := 47) dX7_value_47 rfl (nI_1 _) (by decide) rfl ?_
          refine WP.goto (pc := 50) (tgt := 7) dX7_value_50 (by decide) ?_
          exact ih (i + 1) _ (by omega) H
        · rw [if_pos (Int32.not_le.mp h3)] at H
          refine WP.ldc (pc := 44) qX7_51 dX7_value_44 ?_
          refine WP.istore_n (pc := 46) dX7_value_46 (by decide) rfl ?_
          refine WP.iinc (pc := 47) dX7_value_47 rfl (nI_1 _) (by decide) rfl ?_
          refine WP.goto (pc := 50) (tgt := 7) dX7_value_50 (by decide) ?_
          exact ih (i + 1) _ (by omega) H
theorem CX7_value (hx : shX σ x) {n : Nat} {t : Nat × Nat × Nat} {I : Nat → Nat → Int32} (h : tkAt I x n t) : Ctr Γ (0, 0, 0, 0) MX7_value [.ref (x + 58)] (wI σ I) (rV (some (.int (vlA (I (x + 56)) t.2.2 t.2.1 0))) (wI σ I)) := by
  obtain ⟨a1, a2, a3, a4, a5, a6, a7⟩ := id h
  refine Ctr.go rfl (by decide) rfl rfl ?_
  refine WP.iconst (pc := 0) (v := 0) dX7_value_0 (by decide) ?_
  refine WP.istore_n (pc := 1) dX7_value_1 (by decide) rfl ?_
  refine WP.aload_n (pc := 2) dX7_value_2 rfl ?_
  refine WP.gIv (pc := 3) (v := (nI t.2.1)) uX7 fX7_23 hx.t58 (by simp [up_eq, a3]) dX7_value_3 ?_
  refine WP.istore_n (pc := 6) dX7_value_6 (by decide) rfl ?_
  have := LX7_value Γ hx (r := (0, 0, 0, 0)) a5 a7 a1 a4 (t.2.1 + t.2.2 - t.2.1) t.2.1 0 (by omega) rfl
  rw [show t.2.1 + t.2.2 - t.2.1 = t.2.2 by omega] at this
  exact this
end T
