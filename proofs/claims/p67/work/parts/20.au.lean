abbrev mBd : Type := Int32 × Int32
def paAt (I : Nat → Nat → Int32) (x : Nat) (l : List mBd) : Prop := I (x + 51) 0 = nI l.length ∧ l.length ≤ 90 ∧ ∀ i e, l[i]? = some e → I (x + 52) i = e.1 ∧ I (x + 53) i = e.2
def plAt (I : Nat → Nat → Int32) (x : Nat) (l : List mBd) : Prop := I (x + 51) 3 = nI l.length ∧ l.length ≤ 60 ∧ ∀ i e, l[i]? = some e → I (x + 54) i = e.1 ∧ I (x + 55) i = e.2
def srt (l : List mBd) : Prop := l.Pairwise (fun a b => b.2 ≤ a.2)
def hiB (l : List mBd) (v : Int32) : List mBd := l.filter (fun y => !decide (y.2 < v))
def loB (l : List mBd) (v : Int32) : List mBd := l.filter (fun y => decide (y.2 < v))
def insM (l : List mBd) (x : mBd) (m : Nat) : List mBd := hiB l x.2 ++ List.replicate m x ++ loB l x.2
theorem srt_split {l : List mBd} {v : Int32} (h : srt l) : hiB l v ++ loB l v = l := by
  induction l with
  | nil => rfl
  | cons a t ih =>
    have ht := (List.pairwise_cons.mp h).2
    have ha := (List.pairwise_cons.mp h).1
    unfold hiB loB
    by_cases q : a.2 < v
    · have e1 : t.filter (fun y => !decide (y.2 < v)) = [] := List.filter_eq_nil_iff.mpr (fun y hy => by
        have := Int32.lt_of_le_of_lt (ha y hy) q
        simp [this])
      have e2 : t.filter (fun y => decide (y.2 < v)) = t := List.filter_eq_self.mpr (fun y hy => by
        have := Int32.lt_of_le_of_lt (ha y hy) q
        simp [this])
      rw [List.filter_cons, List.filter_cons, e1, e2]
      simp [q]
    · have := ih ht
      unfold hiB loB at this
      rw [List.filter_cons, List.filter_cons]
      simp only [q, decide_false, Bool.not_false, if_true]
      rw [List.cons_append]
      simp only [Bool.false_eq_true, if_false]
      rw [this]
theorem insM_srt {l : List mBd} {x : mBd} {m : Nat} (h : srt l) : srt (insM l x m) := by
  have h1 : srt (hiB l x.2) := h.filter _
  have h2 : srt (loB l x.2) := h.filter _
  have g1 : ∀ y ∈ hiB l x.2, x.2 ≤ y.2 := fun y hy => by
    have := (List.mem_filter.mp hy).2
    simpa [Int32.not_lt] using this
  have g2 : ∀ y ∈ loB l x.2, y.2 < x.2 := fun y hy => by
    have := (List.mem_filter.mp hy).2
    simpa using this
  unfold insM srt
  rw [List.pairwise_append, List.pairwise_append]
  refine ⟨⟨h1, List.pairwise_replicate.mpr (Or.inr (Int32.le_refl _)), fun a ha c hc => ?_⟩, h2, fun a ha c hc => ?_⟩
  · rw [(List.mem_replicate.mp hc).2]
    exact g1 a ha
  · rcases List.mem_append.mp ha with q | q
    · exact Int32.le_trans (Int32.le_of_lt (g2 c hc)) (g1 a q)
    · rw [(List.mem_replicate.mp q).2]
      exact Int32.le_of_lt (g2 c hc)
theorem insM_len {l : List mBd} {x : mBd} {m : Nat} (h : srt l) : (insM l x m).length = l.length + m := by
  have := congrArg List.length (srt_split (v := x.2) h)
  rw [List.length_append] at this
  unfold insM
  simp only [List.length_append, List.length_replicate]
  omega
theorem hiB_ins {l : List mBd} {x : mBd} {m : Nat} : hiB (insM l x m) x.2 = hiB l x.2 ++ List.replicate m x := by
  have e1 : (hiB l x.2).filter (fun y => !decide (y.2 < x.2)) = hiB l x.2 := List.filter_eq_self.mpr (fun y hy => (List.mem_filter.mp hy).2)
  have e2 : (loB l x.2).filter (fun y => !decide (y.2 < x.2)) = [] := List.filter_eq_nil_iff.mpr (fun y hy => by
    have := (List.mem_filter.mp hy).2
    simp at this
    simp [this])
  have e3 : (List.replicate m x).filter (fun y => !decide (y.2 < x.2)) = List.replicate m x := List.filter_eq_self.mpr (fun y hy => by
    rw [(List.mem_replicate.mp hy).2]
    simp [Int32.lt_irrefl])
  unfold insM
  show List.filter _ _ = _
  rw [List.filter_append, List.filter_append, e1, e2, e3, List.append_nil]
theorem loB_ins {l : List mBd} {x : mBd} {m : Nat} : loB (insM l x m) x.2 = loB l x.2 := by
  have e1 : (hiB l x.2).filter (fun y => decide (y.2 < x.2)) = [] := List.filter_eq_nil_iff.mpr (fun y hy => by
    have := (List.mem_filter.mp hy).2
    simpa using this)
  have e2 : (loB l x.2).filter (fun y => decide (y.2 < x.2)) = loB l x.2 := List.filter_eq_self.mpr (fun y hy => (List.mem_filter.mp hy).2)
  have e3 : (List.replicate m x).filter (fun y => decide (y.2 < x.2)) = [] := List.filter_eq_nil_iff.mpr (fun y hy => by
    rw [(List.mem_replicate.mp hy).2]
    simp [Int32.lt_irrefl])
  unfold insM
  show List.filter _ _ = _
  rw [List.filter_append, List.filter_append, e1, e2, e3]
  rfl
theorem insM_ins {l : List mBd} {x : mBd} {m : Nat} : insM (insM l x m) x 1 = insM l x (m + 1) := by
  rw [show insM (insM l x m) x 1 = hiB (insM l x m) x.2 ++ List.replicate 1 x ++ loB (insM l x m) x.2 from rfl, hiB_ins, loB_ins]
  unfold insM
  rw [List.append_assoc (hiB l x.2), List.replicate_succ' (n := m)]
  rfl
section T
variable (Γ : cG) {σ : cAS} {x : Nat}
theorem LX0_shift (hx : shX σ x) {r : cRm} {Φ : cRes → cAS → Prop} {c lim : Int32} {num i : Int32} {I0 : Nat → Nat → Int32} (l : List mBd) (hl : l.length < 90) (hsr : srt l) : ∀ (A B : List mBd) (I : Nat → Nat → Int32), l = A ++ B → (∀ y ∈ B, y.2 < lim) → fr I0 I (x + 51) 5 → I (x + 51) = I0 (x + 51) → I (x + 54) = I0 (x + 54) → I (x + 55) = I0 (x + 55) → (∀ j e, A[j]? = some e → I (x + 52) j = e.1 ∧ I (x + 53) j = e.2) → (∀ j e, B[j]? = some e → I (x + 52) (A.length + 1 + j) = e.1 ∧ I (x + 53) (A.length + 1 + j) = e.2) →
    (∀ I', fr I0 I' (x + 51) 5 → I' (x + 51) = I0 (x + 51) → I' (x + 54) = I0 (x + 54) → I' (x + 55) = I0 (x + 55) → (∀ j e, (insM l (c, lim) 1)[j]? = some e → I' (x + 52) j = e.1 ∧ I' (x + 53) j = e.2) → WP Γ r MX0_insertBids Φ 96 [some (.ref (x + 51)), some (.int c), some (.int lim), some (.int num), some (.int i), some (.int (nI (hiB l lim).length))] [] (wI σ I')) →
    WP Γ r MX0_insertBids Φ 24 [some (.ref (x + 51)), some (.int c), some (.int lim), some (.int num), some (.int i), some (.int (nI A.length))] [] (wI σ I) := by
  intro A
  have fin : ∀ (A B : List mBd) (I : Nat → Nat → Int32), l = A ++ B → (∀ y ∈ B, y.2 < lim) → (∀ y ∈ A, ¬ y.2 < lim) → fr I0 I (x + 51) 5 → I (x + 51) = I0 (x + 51) → I (x + 54) = I0 (x + 54) → I (x + 55) = I0 (x + 55) → (∀ j e, A[j]? = some e → I (x + 52) j = e.1 ∧ I (x + 53) j = e.2) → (∀ j e, B[j]? = some e → I (x + 52) (A.length + 1 + j) = e.1 ∧ I (x + 53) (A.length + 1 + j) = e.2) →
      (∀ I', fr I0 I' (x + 51) 5 → I' (x + 51) = I0 (x + 51) → I' (x + 54) = I0 (x + 54) → I' (x + 55) = I0 (x + 55) → (∀ j e, (insM l (c, lim) 1)[j]? = some e → I' (x + 52) j = e.1 ∧ I' (x + 53) j = e.2) → WP Γ r MX0_insertBids Φ 96 [some (.ref (x + 51)), some (.int c), some (.int lim), some (.int num), some (.int i), some (.int (nI (hiB l lim).length))] [] (wI σ I')) →
      WP Γ r MX0_insertBids Φ 80 [some (.ref (x + 51)), some (.int c), some (.int lim), some (.int num), some (.int i), some (.int (nI A.length))] [] (wI σ I) := by
    intro A B I hAB hB hA hf e0 e4 e5 h1 h2 H
    have hAl : hiB l lim = A := by
      unfold hiB
      rw [hAB, List.filter_append, List.filter_eq_self.mpr (fun y hy => by simp [hA y hy]), List.filter_eq_nil_iff.mpr (fun y hy => by simp [hB y hy]), List.append_nil]
    have hBl : loB l lim = B := by
      unfold loB
      rw [hAB, List.filter_append, List.filter_eq_nil_iff.mpr (fun y hy => by simp [hA y hy]), List.filter_eq_self.mpr (fun y hy => by simp [hB y hy]), List.nil_append]
    have hlen : A.length + B.length = l.length := by rw [hAB, List.length_append]
    refine WP.aload_n (pc := 80) dX0_insertBids_80 rfl ?_
    refine WP.gR (pc := 81) uX0 fX0_15 hx.t51 hx.r51_2 dX0_insertBids_81 ?_
    refine WP.iload (pc := 84) dX0_insertBids_84 rfl ?_
    refine WP.iload_n (pc := 86) dX0_insertBids_86 rfl ?_
    refine WP.iast (pc := 87) hx.t53 (by omega) (by decide) dX0_insertBids_87 ?_
    refine WP.aload_n (pc := 88) dX0_insertBids_88 rfl ?_
    refine WP.gR (pc := 89) uX0 fX0_9 hx.t51 hx.r51_1 dX0_insertBids_89 ?_
    refine WP.iload (pc := 92) dX0_insertBids_92 rfl ?_
    refine WP.iload_n (pc := 94) dX0_insertBids_94 rfl ?_
    refine WP.iast (pc := 95) hx.t52 (by omega) (by decide) dX0_insertBids_95 ?_
    rw [hAl] at H
    refine H _ ((hf.up (by omega) (by omega)).up (by omega) (by omega)) (by rw [← e0]; funext j; simp [up_eq]) (by rw [← e4]; funext j; simp [up_eq]) (by rw [← e5]; funext j; simp [up_eq]) (fun j e he => ?_)
    have hi : insM l (c, lim) 1 = A ++ (c, lim) :: B := by
      unfold insM
      rw [show ((c, lim) : mBd).2 = lim from rfl, hAl, hBl]
      simp
    rw [hi] at he
    rcases Nat.lt_or_ge j A.length with q | q
    · rw [List.getElem?_append_left q] at he
      obtain ⟨a1, a2⟩ := h1 j e he
      have : j ≠ A.length := by omega
      simp [up_eq, this, a1, a2]
    · rw [List.getElem?_append_right q] at he
      rcases Nat.eq_or_lt_of_le q with q2 | q2
      · rw [← q2, Nat.sub_self] at he
        cases he
        simp [up_eq, q2]
      · obtain ⟨k, rfl⟩ : ∃ k, j = A.length + 1 + k := ⟨j - A.length - 1, by omega⟩
        rw [show A.length + 1 + k - A.length = k + 1 by omega, List.getElem?_cons_succ] at he
        obtain ⟨a1, a2⟩ := h2 k e he
        have : A.length + 1 + k ≠ A.length := by omega
        simp [up_eq, this, a1, a2]
  generalize hn : A.length = n
  induction n generalizing A with
  | zero =>
    intro B I hAB hB hf e0 e4 e5 h1 h2 H
    have hA0 : A = [] := List.length_eq_zero_iff.mp hn
    subst hA0
    refine WP.iload (pc := 24) dX0_insertBids_24 rfl ?_
    refine WP.if_le (pc := 26) (tgt := 80) dX0_insertBids_26 (by decide) (fun q => ?_) (fun q => ?_)
    · exact fin [] B I hAB hB (fun y hy => by cases hy) hf e0 e4 e5 h1 h2 H
    · exact absurd (Int32.le_refl _) q
  | succ n ih =>
    intro B I hAB hB hf e0 e4 e5 h1 h2 H
    have hlen : A.length + B.length = l.length := by rw [hAB, List.length_append]
    rcases List.eq_nil_or_concat A with hA0 | ⟨A', y, hA'⟩
    · rw [hA0] at hn
      cases hn
    · have hA'l : A'.length = n := by
        rw [hA', List.length_concat] at hn
        omega
      rw [List.concat_eq_append] at hA'
      refine WP.iload (pc := 24) dX0_insertBids_24 rfl ?_
      refine WP.if_le (pc := 26) (tgt := 80) dX0_insertBids_26 (by decide) (fun q => ?_) (fun q => ?_)
      · exact absurd q (nI_nle (by omega) (by omega))
      · refine WP.aload_n (pc := 29) dX0_insertBids_29 rfl ?_
        refine WP.gR (pc := 30) uX0 fX0_15 hx.t51 hx.r51_2 dX0_insertBids_30 ?_
        refine WP.iload (pc := 33) dX0_insertBids_33 rfl ?_
        refine WP.iconst (pc := 35) (v := 1) dX0_insertBids_35 (by decide) ?_
        refine WP.isub (pc := 36) dX0_insertBids_36 ?_
        rw [nI_pred]
        refine WP.iald (pc := 37) hx.t53 (by omega) (by decide) dX0_insertBids_37 ?_
        refine WP.iload_n (pc := 38) dX0_insertBids_38 rfl ?_
        have hy : I (x + 53) n = y.2 := (h1 n y (by rw [hA', List.getElem?_append_right (by omega), hA'l, Nat.sub_self]; rfl)).2
        have hy1 : I (x + 52) n = y.1 := (h1 n y (by rw [hA', List.getElem?_append_right (by omega), hA'l, Nat.sub_self]; rfl)).1
        rw [hy]
        refine WP.icmp_ge (pc := 39) (tgt := 80) dX0_insertBids_39 (by decide) (fun q2 => ?_) (fun q2 => ?_)
        · rw [← hn]
          refine fin A B I hAB hB (fun w hw => ?_) hf e0 e4 e5 h1 (by rw [hn]; exact h2) H
          have hsA : srt A := by rw [hAB] at hsr; exact (List.pairwise_append.mp hsr).1
          rw [hA'] at hsA hw
          rcases List.mem_append.mp hw with z | z
          · have := (List.pairwise_append.mp hsA).2.2 w z y List.mem_cons_self
            exact Int32.not_lt.mpr (Int32.le_trans q2 this)
          · rw [List.mem_singleton.mp z]
            exact Int32.not_lt.mpr q2
        · have q2' : y.2 < lim := Int32.not_le.mp q2
          refine WP.aload_n (pc := 42) dX0_insertBids_42 rfl ?_
          refine WP.gR (pc := 43) uX0 fX0_15 hx.t51 hx.r51_2 dX0_insertBids_43 ?_
          refine WP.iload (pc := 46) dX0_insertBids_46 rfl ?_
          refine WP.aload_n (pc := 48) dX0_insertBids_48 rfl ?_
          refine WP.gR (pc := 49) uX0 fX0_15 hx.t51 hx.r51_2 dX0_insertBids_49 ?_
          refine WP.iload (pc := 52) dX0_insertBids_52 rfl ?_
          refine WP.iconst (pc := 54) (v := 1) dX0_insertBids_54 (by decide) ?_
          refine WP.isub (pc := 55) dX0_insertBids_55 ?_
          rw [nI_pred]
          refine WP.iald (pc := 56) hx.t53 (by omega) (by decide) dX0_insertBids_56 ?_
          refine WP.iast (pc := 57) hx.t53 (by omega) (by decide) dX0_insertBids_57 ?_
          refine WP.aload_n (pc := 58) dX0_insertBids_58 rfl ?_
          refine WP.gR (pc := 59) uX0 fX0_9 hx.t51 hx.r51_1 dX0_insertBids_59 ?_
          refine WP.iload (pc := 62) dX0_insertBids_62 rfl ?_
          refine WP.aload_n (pc := 64) dX0_insertBids_64 rfl ?_
          refine WP.gR (pc := 65) uX0 fX0_9 hx.t51 hx.r51_1 dX0_insertBids_65 ?_
          refine WP.iload (pc := 68) dX0_insertBids_68 rfl ?_
          refine WP.iconst (pc := 70) (v := 1) dX0_insertBids_70 (by decide) ?_
          refine WP.isub (pc := 71) dX0_insertBids_71 ?_
          rw [nI_pred]
          refine WP.iald (pc := 72) hx.t52 (by omega) (by decide) dX0_insertBids_72 ?_
          refine WP.iast (pc := 73) hx.t52 (by omega) (by decide) dX0_insertBids_73 ?_
          refine WP.iinc (pc := 74) dX0_insertBids_74 rfl (pk_m1 _) (by decide) rfl ?_
          refine WP.goto (pc := 77) (tgt := 24) dX0_insertBids_77 (by decide) ?_
          refine ih A' hA'l (y :: B) _ (by rw [hAB, hA', List.append_assoc]; rfl) (fun w hw => ?_) ((hf.up (by omega) (by omega)).up (by omega) (by omega)) (by rw [← e0]; funext j; simp [up_eq]) (by rw [← e4]; funext j; simp [up_eq]) (by rw [← e5]; funext j; simp [up_eq]) (fun j e he => ?_) (fun j e he => ?_) H
          · rcases List.mem_cons.mp hw with rfl | z
            · exact q2'
            · exact hB w z
          · have hj := gE_lt he
            obtain ⟨a1, a2⟩ := h1 j e (by rw [hA', List.getElem?_append_left hj]; exact he)
            have : j ≠ n + 1 := by omega
            simp [up_eq, this, a1, a2]
          · cases j with
            | zero =>
              cases he
              simp [up_eq, hA'l, hy, hy1]
            | succ j =>
              rw [List.getElem?_cons_succ] at he
              obtain ⟨a1, a2⟩ := h2 j e he
              have : n + 1 + (j + 1) ≠ n + 1 := by omega
              have e9 : n + 1 + 1 + j = n + 1 + (j + 1) := by omega
              rw [e9] at a1 a2
              simp [up_eq, a1, a2]
theorem paAt.kp {I I' : Nat → Nat → Int32} {x lo n : Nat} {l : List mBd} (h : paAt I x l) (hf : fr I I' lo n) (h1 : lo + n ≤ x + 51 ∨ x + 56 ≤ lo) : paAt I' x l := by
  unfold paAt
  rw [hf (x + 51) (by omega), hf (x + 52) (by omega), hf (x + 53) (by omega)]
  exact h
theorem plAt.kp {I I' : Nat → Nat → Int32} {x lo n : Nat} {l : List mBd} (h : plAt I x l) (hf : fr I I' lo n) (h1 : lo + n ≤ x + 51 ∨ x + 56 ≤ lo) : plAt I' x l := by
  unfold plAt
  rw [hf (x + 51) (by omega), hf (x + 54) (by omega), hf (x + 55) (by omega)]
  exact h
theorem LX0_insertBids (hx : shX σ x) {r : cRm} {Φ : cRes → cAS → Prop} {c lim : Int32} {m : Nat} (l : List mBd) (hl : l.length + m ≤ 90) (hsr : srt l) : ∀ n i (I : Nat → Nat → Int32), i + n = m → paAt I x (insM l (c, lim) i) → (∀ I', fr I I' (x + 51) 3 → paAt I' x (insM l (c, lim) m) → Φ (.inl none) (wI σ I')) →
    WP Γ r MX0_insertBids Φ 3 [some (.ref (x + 51)), some (.int c), some (.int lim), some (.int (nI m)), some (.int (nI i)), none] [] (wI σ I) := by
  intro n
  induction n with
  | zero =>
    intro i I hi h H
    refine WP.iload (pc := 3) dX0_insertBids_3 rfl ?_
    refine WP.iload_n (pc := 5) dX0_insertBids_5 rfl ?_
    refine WP.icmp_ge (pc := 6) (tgt := 112) dX0_insertBids_6 (by decide) (fun q => ?_) (fun q => ?_)
    · skip
      refine WP.vret (pc := 112) rfl dX0_insertBids_112 ?_
      rw [show i = m by omega] at h
      exact H I fr.rf h
    · exact absurd (by rw [show m = i by omega]; exact Int32.le_refl _) q
  | succ n ih =>
    intro i I hi h H
    have hc := h.1
    have hlen := insM_len (x := (c, lim)) (m := i) hsr
    refine WP.iload (pc := 3) dX0_insertBids_3 rfl ?_
    refine WP.iload_n (pc := 5) dX0_insertBids_5 rfl ?_
    refine WP.icmp_ge (pc := 6) (tgt := 112) dX0_insertBids_6 (by decide) (fun q => ?_) (fun q => ?_)
    · exact absurd q (nI_ge (by omega) (by omega))
    · refine WP.aload_n (pc := 9) dX0_insertBids_9 rfl ?_
      refine WP.gIv (pc := 10) (v := (nI (insM l (c, lim) i).length)) uX0 fX0_24 hx.t51 (by simp [up_eq, hc]) dX0_insertBids_10 ?_
      refine WP.bipush (pc := 13) (v := 90) dX0_insertBids_13 (by decide) ?_
      refine WP.icmp_ge (pc := 15) (tgt := 112) dX0_insertBids_15 (by decide) (fun q2 => ?_) (fun q2 => ?_)
      · exact absurd q2 (nI_ge (b := 90) (by omega) (by omega))
      · refine WP.aload_n (pc := 18) dX0_insertBids_18 rfl ?_
        refine WP.gIv (pc := 19) (v := (nI (insM l (c, lim) i).length)) uX0 fX0_24 hx.t51 (by simp [up_eq, hc]) dX0_insertBids_19 ?_
        refine WP.istore (pc := 22) dX0_insertBids_22 (by decide) rfl ?_
        refine LX0_shift Γ hx (I0 := I) (insM l (c, lim) i) (by omega) (insM_srt hsr) (insM l (c, lim) i) [] I (by simp) (fun y hy => by cases hy) fr.rf rfl rfl rfl h.2.2 (fun j e he => by simp at he) (fun I1 f1 g0 g4 g5 g1 => ?_)
        rw [insM_ins] at g1
        have hc1 : I1 (x + 51) 0 = nI (insM l (c, lim) i).length := by rw [g0]; exact hc
        refine WP.aload_n (pc := 96) dX0_insertBids_96 rfl ?_
        refine WP.dup (pc := 97) dX0_insertBids_97 rfl ?_
        refine WP.gIv (pc := 98) (v := (nI (insM l (c, lim) i).length)) uX0 fX0_24 hx.t51 (by simp [up_eq, hc1]) dX0_insertBids_98 ?_
        refine WP.iconst (pc := 101) (v := 1) dX0_insertBids_101 (by decide) ?_
        refine WP.iadd (pc := 102) dX0_insertBids_102 ?_
        rw [nI_1]
        refine WP.pI (pc := 103) uX0 fX0_24 rfl rfl hx.t51 dX0_insertBids_103 ?_
        refine WP.iinc (pc := 106) dX0_insertBids_106 rfl (nI_1 _) (by decide) rfl ?_
        refine WP.goto (pc := 109) (tgt := 3) dX0_insertBids_109 (by decide) ?_
        have hlen1 := insM_len (x := (c, lim)) (m := i + 1) hsr
        refine WP.drop 5 ?_
        refine ih (i + 1) _ (by omega) ⟨by simp [up_eq]; rw [hlen, hlen1]; rfl, by omega, fun j e he => ?_⟩ (fun I' a1 a2 => H I' (fr.trans (fun a ha => ?_) a1) a2)
        · obtain ⟨a1, a2⟩ := g1 j e he
          simp [up_eq, a1, a2]
        · rcases (show a = x + 54 ∨ a = x + 55 ∨ (a < x + 51 ∨ x + 51 + 5 ≤ a) by omega) with rfl | rfl | z
          · rw [← g4]; funext j; simp [up_eq]
          · rw [← g5]; funext j; simp [up_eq]
          · rw [← f1 a z]
            funext j
            rw [up_eq, if_neg (fun w => by omega)]
theorem insM_0 {l : List mBd} {x : mBd} (h : srt l) : insM l x 0 = l := by
  unfold insM
  rw [show List.replicate 0 x = [] from rfl, List.append_nil]
  exact srt_split h
theorem CX0_insertBids (hx : shX σ x) {I : Nat → Nat → Int32} {c lim : Int32} {m : Nat} {l : List mBd} (hl : l.length + m ≤ 90) (hsr : srt l) (h : paAt I x l) : Ctr Γ (0, 0, 0, 0) MX0_insertBids [.ref (x + 51), .int c, .int lim, .int (nI m)] (wI σ I) (rW σ (fun I' => fr I I' (x + 51) 3 ∧ paAt I' x (insM l (c, lim) m))) := by
  refine Ctr.go rfl (by decide) rfl rfl ?_
  refine WP.iconst (pc := 0) (v := 0) dX0_insertBids_0 (by decide) ?_
  refine WP.istore (pc := 1) dX0_insertBids_1 (by decide) rfl ?_
  exact LX0_insertBids Γ hx l hl hsr m 0 I (by omega) (by rw [insM_0 hsr]; exact h) (fun I' a1 a2 => ⟨rfl, I', rfl, a1, a2⟩)
end T
