-- bids in the order of the plan
def bR (a b : mBd) : Prop := b.2 < a.2 ∨ (b.2 = a.2 ∧ a.1.toNatClampNeg ≤ b.1.toNatClampNeg)
theorem lt_of_not {a b : Int32} (h : ¬ a < b) : b < a ∨ b = a := by
  have := Int32.not_lt.mp h
  rcases Int32.lt_or_eq_of_le this with q | q
  · exact Or.inl q
  · exact Or.inr q
theorem bdF_R {l : List mCu} {k : Int32} (hl : l.length ≤ 10) : ∀ i, i ≤ l.length → (bdF l k i).Pairwise bR
  | 0, _ => List.Pairwise.nil
  | i + 1, hi => by
    have ih := bdF_R (k := k) hl i (by omega)
    have hg : l[i]? = some l[i] := List.getElem?_eq_getElem (by omega)
    unfold bdF
    rw [hg]
    dsimp only
    generalize l[i] = e
    unfold insM
    have hx : ∀ y ∈ bdF l k i, y.1.toNatClampNeg ≤ (nI i).toNatClampNeg := fun y hy => by
      obtain ⟨j, e', a1, a2, rfl⟩ := bdF_mem i hy
      have := gE_lt a2
      rw [nI_clamp (by omega), nI_clamp (by omega)]
      omega
    refine List.pairwise_append.mpr ⟨List.pairwise_append.mpr ⟨ih.sublist List.filter_sublist, ?_, fun y hy u hu => ?_⟩, ih.sublist List.filter_sublist, fun y hy u hu => ?_⟩
    · exact List.pairwise_replicate.mpr (Or.inr (Or.inr ⟨rfl, Nat.le_refl _⟩))
    · obtain ⟨h1, h2⟩ := List.mem_filter.mp hy
      obtain ⟨-, rfl⟩ := List.mem_replicate.mp hu
      simp only [Bool.not_eq_true', decide_eq_false_iff_not] at h2
      rcases lt_of_not h2 with q | q
      · exact Or.inl q
      · exact Or.inr ⟨q, hx y h1⟩
    · obtain ⟨h3, h4⟩ := List.mem_filter.mp hu
      simp only [decide_eq_true_eq] at h4
      rcases List.mem_append.mp hy with q | q
      · obtain ⟨h1, h2⟩ := List.mem_filter.mp q
        simp only [Bool.not_eq_true', decide_eq_false_iff_not] at h2
        rcases lt_of_not h2 with q | q
        · exact Or.inl (Int32.lt_trans h4 q)
        · exact Or.inl (by rw [← q]; exact h4)
      · obtain ⟨-, rfl⟩ := List.mem_replicate.mp q
        exact Or.inl h4
theorem cntB_mem {l : List mBd} {v : Int32} (h : 0 < cntB l v) : ∃ y ∈ l, y.1 = v := by
  obtain ⟨y, h1, h2⟩ := List.countP_pos_iff.mp h
  exact ⟨y, h1, of_decide_eq_true h2⟩
theorem cntB_split (l : List mBd) (v : Int32) (t : Nat) : cntB l v = cntB (l.take t) v + cntB (l.drop t) v := by
  unfold cntB
  rw [← List.countP_append, List.take_append_drop]
/-- what the best bidder is -/
def bbP (Q : List mCu) (k : Int32) (g : Nat → Int32) (n : Nat) (b : Int32) : Prop := (b = -1 ∧ ∀ (i : Nat) (e : mCu), i < n → Q[i]? = some e → ¬ (e.2.2.1 = k ∧ 0 < g i)) ∨ ∃ j e, b = nI j ∧ j < n ∧ Q[j]? = some e ∧ (e.2.2.1 = k ∧ 0 < g j) ∧ ∀ (i : Nat) (e' : mCu), i < n → Q[i]? = some e' → (e'.2.2.1 = k ∧ 0 < g i) → e'.2.2.2.2.1 < e.2.2.2.2.1 ∨ (e'.2.2.2.2.1 = e.2.2.2.2.1 ∧ j ≤ i)
def lfP (Q : List mCu) (k : Int32) (bs : List mBd) (t : Nat) (g : Nat → Int32) : Prop := ∀ (j : Nat) (e : mCu), Q[j]? = some e → e.2.2.1 = k → g j = nI (bdN e k - cntB (bs.take t) (nI j))
theorem bdN_9 {T : Nat} {e : mCu} (h : okC T e) (k : Int32) : bdN e k ≤ 9 := by
  obtain ⟨w, l, q, -, -, -, w9, -, -, -, h1, -⟩ := bdI_okC h k
  omega
theorem lf_pos {T : Nat} {Q : List mCu} {k : Int32} {t : Nat} {g : Nat → Int32} (hok : ∀ e ∈ Q, okC T e) (hl : Q.length ≤ 10) (hg : lfP Q k (bdF Q k Q.length) t g) {j : Nat} {e : mCu} (he : Q[j]? = some e) (hk : e.2.2.1 = k) : 0 < g j ↔ 0 < cntB ((bdF Q k Q.length).drop t) (nI j) := by
  have h1 := cntB_bdF (k := k) he hl Q.length (Nat.le_refl _)
  rw [if_pos (gE_lt he)] at h1
  have h2 := cntB_split (bdF Q k Q.length) (nI j) t
  have h9 := bdN_9 (hok e (List.mem_of_getElem? he)) k
  rw [hg j e he hk]
  constructor
  · intro h
    rcases Nat.eq_zero_or_pos (bdN e k - cntB ((bdF Q k Q.length).take t) (nI j)) with q | q
    · rw [q] at h
      exact absurd h (by decide)
    · omega
  · intro h
    exact nI_lt (a := 0) (by omega) (by omega)
theorem bb_eq {T : Nat} {Q : List mCu} {k b : Int32} {t : Nat} {g : Nat → Int32} (hok : ∀ e ∈ Q, okC T e) (hl : Q.length ≤ 10) (hg : lfP Q k (bdF Q k Q.length) t g) (hb : bbP Q k g Q.length b) : b = match (bdF Q k Q.length)[t]? with | some y => y.1 | none => -1 := by
  cases ht : (bdF Q k Q.length)[t]? with
  | none =>
    have hlen := List.getElem?_eq_none_iff.mp ht
    rcases hb with ⟨h1, -⟩ | ⟨j, e, h1, h2, h3, h4, h5⟩
    · exact h1
    · have := (lf_pos hok hl hg h3 h4.1).mp h4.2
      rw [List.drop_of_length_le hlen] at this
      exact absurd this (Nat.lt_irrefl _)
  | some y =>
    have htl := gE_lt ht
    obtain ⟨j0, e0, a1, a2, rfl⟩ := bdF_mem Q.length (List.mem_of_getElem? ht)
    have hdr : (bdF Q k Q.length).drop t = (nI j0, e0.2.2.2.2.1) :: (bdF Q k Q.length).drop (t + 1) := by
      rw [List.drop_eq_getElem_cons htl]
      congr 1
      exact Option.some.inj ((List.getElem?_eq_getElem htl).symm.trans ht)
    have hc0 : 0 < cntB ((bdF Q k Q.length).drop t) (nI j0) := by
      rw [hdr]
      unfold cntB
      rw [List.countP_cons]
      simp
    have hk0 : e0.2.2.1 = k := by
      refine Classical.byContradiction fun q => ?_
      have h1 := cntB_bdF (k := k) a2 hl Q.length (Nat.le_refl _)
      rw [if_pos a1, bdN_ne q] at h1
      have h2 := cntB_split (bdF Q k Q.length) (nI j0) t
      omega
    have hel := (lf_pos hok hl hg a2 hk0).mpr hc0
    have hpw : ((bdF Q k Q.length).drop t).Pairwise bR := (bdF_R hl Q.length (Nat.le_refl _)).sublist (List.drop_sublist _ _)
    rw [hdr] at hpw
    have hmin : ∀ (i : Nat) (e' : mCu), Q[i]? = some e' → (e'.2.2.1 = k ∧ 0 < g i) → e'.2.2.2.2.1 < e0.2.2.2.2.1 ∨ (e'.2.2.2.2.1 = e0.2.2.2.2.1 ∧ j0 ≤ i) := fun i e' hi he => by
      have h1 := (lf_pos hok hl hg hi he.1).mp he.2
      obtain ⟨y, y1, y2⟩ := cntB_mem h1
      obtain ⟨i', e'', c1, c2, rfl⟩ := bdF_mem Q.length (List.mem_of_mem_drop y1)
      have c3 : i' = i := (nI_eq (by omega) (by have := gE_lt hi; omega)).mp y2
      subst c3
      have c4 : e'' = e' := Option.some.inj (c2.symm.trans hi)
      subst c4
      rw [hdr] at y1
      rcases List.mem_cons.mp y1 with q | q
      · have q1 : nI i' = nI j0 := congrArg Prod.fst q
        have q2 : e''.2.2.2.2.1 = e0.2.2.2.2.1 := congrArg Prod.snd q
        have q3 : i' = j0 := (nI_eq (by omega) (by omega)).mp q1
        exact Or.inr ⟨q2, by omega⟩
      · have := (List.pairwise_cons.mp hpw).1 _ q
        rcases this with w | ⟨w1, w2⟩
        · exact Or.inl w
        · have w2 : (nI j0).toNatClampNeg ≤ (nI i').toNatClampNeg := w2
          rw [nI_clamp (by omega), nI_clamp (by omega)] at w2
          exact Or.inr ⟨w1, w2⟩
    show b = nI j0
    rcases hb with ⟨h1, h2⟩ | ⟨j, e, h1, h2, h3, h4, h5⟩
    · exact absurd ⟨hk0, hel⟩ (h2 j0 e0 a1 a2)
    · rw [h1]
      have w1 := hmin j e h3 h4
      have w2 := h5 j0 e0 a1 a2 ⟨hk0, hel⟩
      congr 1
      rcases w1 with w1 | ⟨w1, w1'⟩
      · rcases w2 with w2 | ⟨w2, -⟩
        · exact absurd (Int32.lt_trans w1 w2) Int32.lt_irrefl
        · rw [w2] at w1
          exact absurd w1 Int32.lt_irrefl
      · rcases w2 with w2 | ⟨-, w2⟩
        · rw [w1] at w2
          exact absurd w2 Int32.lt_irrefl
        · omega
-- loaves in the order of the plan
def lR (a b : mBd) : Prop := a.2 ≤ b.2 ∧ a.1.toNatClampNeg < b.1.toNatClampNeg
theorem lvF_R {A T C nb : Nat} {z : Nat → Int32} {l : List mLf} {k : Int32} (hz : okZ T C z) (hA : A ≤ 2000) (hS : okS A z nb l) (hl : l.length ≤ 60) : ∀ i, i ≤ l.length → (lvF z l k i).Pairwise lR
  | 0, _ => List.Pairwise.nil
  | i + 1, hi => by
    have ih := lvF_R (k := k) hz hA hS hl i (by omega)
    have hg : l[i]? = some l[i] := List.getElem?_eq_getElem (by omega)
    unfold lvF
    rw [hg]
    dsimp only
    split
    · next hk =>
      refine List.pairwise_append.mpr ⟨ih, List.pairwise_singleton _ _, fun y hy u hu => ?_⟩
      rw [List.mem_singleton.mp hu]
      obtain ⟨j, e', a1, a2, a3, rfl⟩ := lvF_mem i hy
      refine ⟨?_, ?_⟩
      · have hp := List.pairwise_iff_getElem.mp hS.2 j i (gE_lt a2) (by omega) a1
        have e1 : l[j]'(gE_lt a2) = e' := Option.some.inj ((List.getElem?_eq_getElem (gE_lt a2)).symm.trans a2)
        rw [e1] at hp
        exact rsE_mono hz hA (hS.1 e' (List.mem_of_getElem? a2)) (hS.1 _ (List.getElem_mem _)) (a3.trans hk.symm) hp
      · show (nI j).toNatClampNeg < (nI i).toNatClampNeg
        rw [nI_clamp (by omega), nI_clamp (by omega)]
        exact a1
    · exact ih
theorem lvF_all {z : Nat → Int32} {l : List mLf} {k : Int32} {j : Nat} {e : mLf} (he : l[j]? = some e) (hk : e.1 = k) : ∀ i, j < i → (nI j, rsE z e) ∈ lvF z l k i
  | 0, h => absurd h (Nat.not_lt_zero _)
  | i + 1, h => by
    unfold lvF
    by_cases q : j = i
    · subst q
      rw [he]
      dsimp only
      rw [if_pos hk]
      simp
    · have ih := lvF_all (z := z) he hk i (by omega)
      split
      · split
        · exact List.mem_append_left _ ih
        · exact ih
      · exact ih
def chP (z : Nat → Int32) (L : List mLf) (k : Int32) (g : Nat → Int32) (n : Nat) (b : Int32) : Prop := (b = -1 ∧ ∀ (i : Nat) (e : mLf), i < n → L[i]? = some e → ¬ (e.1 = k ∧ g i = 0)) ∨ ∃ j e, b = nI j ∧ j < n ∧ L[j]? = some e ∧ (e.1 = k ∧ g j = 0) ∧ ∀ (i : Nat) (e' : mLf), i < n → L[i]? = some e' → (e'.1 = k ∧ g i = 0) → rsE z e < rsE z e' ∨ (rsE z e = rsE z e' ∧ j ≤ i)
def tkP (ls : List mBd) (t : Nat) (g : Nat → Int32) : Prop := ∀ j, j < 60 → g j = if nI j ∈ (ls.take t).map Prod.fst then 1 else 0
theorem tk_0 {A T C nb : Nat} {z : Nat → Int32} {L : List mLf} {k : Int32} {t : Nat} {g : Nat → Int32} (hz : okZ T C z) (hA : A ≤ 2000) (hS : okS A z nb L) (hl : L.length ≤ 60) (hg : tkP (lvF z L k L.length) t g) {j : Nat} {e : mLf} (he : L[j]? = some e) (hk : e.1 = k) : g j = 0 ↔ (nI j, rsE z e) ∈ (lvF z L k L.length).drop t := by
  have hj := gE_lt he
  rw [hg j (by omega)]
  have hin := lvF_all (z := z) he hk L.length hj
  have hpw := lvF_R (k := k) hz hA hS hl L.length (Nat.le_refl _)
  rw [← List.take_append_drop t (lvF z L k L.length)] at hpw hin
  have hcr := (List.pairwise_append.mp hpw).2.2
  constructor
  · intro h
    rcases List.mem_append.mp hin with q | q
    · have : nI j ∈ ((lvF z L k L.length).take t).map Prod.fst := List.mem_map.mpr ⟨_, q, rfl⟩
      rw [if_pos this] at h
      exact absurd h (by decide)
    · exact q
  · intro h
    rw [if_neg]
    intro q
    obtain ⟨y, y1, y2⟩ := List.mem_map.mp q
    have := (hcr y y1 _ h).2
    rw [y2] at this
    exact absurd this (Nat.lt_irrefl _)
theorem ch_eq {A T C nb : Nat} {z : Nat → Int32} {L : List mLf} {k b : Int32} {t : Nat} {g : Nat → Int32} (hz : okZ T C z) (hA : A ≤ 2000) (hS : okS A z nb L) (hl : L.length ≤ 60) (hg : tkP (lvF z L k L.length) t g) (hb : chP z L k g L.length b) : b = match (lvF z L k L.length)[t]? with | some y => y.1 | none => -1 := by
  cases ht : (lvF z L k L.length)[t]? with
  | none =>
    have hlen := List.getElem?_eq_none_iff.mp ht
    rcases hb with ⟨h1, -⟩ | ⟨j, e, h1, h2, h3, h4, h5⟩
    · exact h1
    · have := (tk_0 hz hA hS hl hg h3 h4.1).mp h4.2
      rw [List.drop_of_length_le hlen] at this
      cases this
  | some y =>
    have htl := gE_lt ht
    obtain ⟨j0, e0, a1, a2, hk0, rfl⟩ := lvF_mem L.length (List.mem_of_getElem? ht)
    have hdr : (lvF z L k L.length).drop t = (nI j0, rsE z e0) :: (lvF z L k L.length).drop (t + 1) := by
      rw [List.drop_eq_getElem_cons htl]
      congr 1
      exact Option.some.inj ((List.getElem?_eq_getElem htl).symm.trans ht)
    have hel := (tk_0 hz hA hS hl hg a2 hk0).mpr (by rw [hdr]; exact List.mem_cons_self)
    have hpw : ((lvF z L k L.length).drop t).Pairwise lR := (lvF_R hz hA hS hl L.length (Nat.le_refl _)).sublist (List.drop_sublist _ _)
    rw [hdr] at hpw
    have hmin : ∀ (i : Nat) (e' : mLf), L[i]? = some e' → (e'.1 = k ∧ g i = 0) → rsE z e0 ≤ rsE z e' ∧ j0 ≤ i := fun i e' hi he => by
      have h1 := (tk_0 hz hA hS hl hg hi he.1).mp he.2
      rw [hdr] at h1
      rcases List.mem_cons.mp h1 with q | q
      · have q1 : nI i = nI j0 := congrArg Prod.fst q
        have q2 : rsE z e' = rsE z e0 := congrArg Prod.snd q
        have q3 : i = j0 := (nI_eq (by have := gE_lt hi; omega) (by omega)).mp q1
        exact ⟨by rw [q2]; exact Int32.le_refl _, by omega⟩
      · have w := (List.pairwise_cons.mp hpw).1 _ q
        have w2 : (nI j0).toNatClampNeg < (nI i).toNatClampNeg := w.2
        rw [nI_clamp (by omega), nI_clamp (by have := gE_lt hi; omega)] at w2
        exact ⟨w.1, by omega⟩
    show b = nI j0
    rcases hb with ⟨h1, h2⟩ | ⟨j, e, h1, h2, h3, h4, h5⟩
    · exact absurd ⟨hk0, hel⟩ (h2 j0 e0 a1 a2)
    · rw [h1]
      have w1 := hmin j e h3 h4
      have w2 := h5 j0 e0 a1 a2 ⟨hk0, hel⟩
      congr 1
      rcases w2 with w2 | ⟨-, w2⟩
      · exact absurd (Int32.lt_of_lt_of_le w2 w1.1) Int32.lt_irrefl
      · omega
