-- behind:
-- what a market keeps to
def inR (x : Int32) (lo hi : Nat) : Prop := ∃ a, x = nI a ∧ lo ≤ a ∧ a ≤ hi
theorem inR.mono {x : Int32} {lo hi lo' hi' : Nat} (h : inR x lo hi) (h1 : lo' ≤ lo) (h2 : hi ≤ hi') : inR x lo' hi' := by
  obtain ⟨a, e, h3, h4⟩ := h
  exact ⟨a, e, by omega, by omega⟩
theorem inR.k {lo hi a : Nat} (h1 : lo ≤ a) (h2 : a ≤ hi) : inR (nI a) lo hi := ⟨a, rfl, h1, h2⟩
theorem inR.ne {x : Int32} {lo hi : Nat} (h : inR x lo hi) (hh : hi < 2147483648) : x ≠ -1 := by
  obtain ⟨a, rfl, h1, h2⟩ := h
  exact nI_ne_m1 (by omega)
theorem inR.sub1 {x : Int32} {lo hi : Nat} (h : inR x (lo + 1) (hi + 1)) : inR (x - 1) lo hi := by
  obtain ⟨a, rfl, h1, h2⟩ := h
  obtain ⟨c, rfl⟩ : ∃ c, a = c + 1 := ⟨a - 1, by omega⟩
  rw [nI_pred]
  exact ⟨c, rfl, by omega, by omega⟩
theorem inR.add {x : Int32} {lo hi : Nat} (h : inR x lo hi) (k : Nat) : inR (x + nI k) (lo + k) (hi + k) := by
  obtain ⟨a, rfl, h1, h2⟩ := h
  rw [nI_add]
  exact ⟨a + k, rfl, by omega, by omega⟩
-- reserve prices as numbers
def rsvN (k b a : Nat) : Nat := if k = 0 then (if a ≤ 24 then b else b - 2 * (a - 24)) else if k = 1 then b - b * a / 20 else (if 7 < a / 4 then 0 else b / 2 ^ (a / 4))
theorem rsv_N {k b a : Nat} (hk : k < 3) (hb : b ≤ 99) (ha : a ≤ 2000) : rsv (nI k) (nI b) (nI a) = nI (rsvN k b a) := by
  have hba : b * a ≤ 99 * 2000 := Nat.mul_le_mul hb ha
  rcases (by omega : k = 0 ∨ k = 1 ∨ k = 2) with rfl | rfl | rfl
  · unfold rsv rsvN
    rw [if_pos (show nI 0 = 0 by decide), if_pos (show 0 = 0 by decide)]
    dsimp only
    by_cases h : a ≤ 24
    · rw [if_pos (show nI a ≤ 24 from nI_le (b := 24) h (by decide)), if_pos h, if_neg (nI_pos (by omega))]
    · rw [if_neg (show ¬ nI a ≤ 24 from nI_ge (a := 24) (by omega) (by omega)), if_neg h]
      have e : nI b - 2 * (nI a - 24) = nI b - nI (2 * (a - 24)) := by
        rw [← pk_mul, ← pk_sub (show 24 ≤ a by omega)]
        rfl
      rw [e]
      by_cases h2 : 2 * (a - 24) ≤ b
      · rw [pk_sub h2, if_neg (nI_pos (by omega))]
      · rw [if_pos (pk_sneg (by omega) (by omega)), show b - 2 * (a - 24) = 0 by omega]
        rfl
  · unfold rsv rsvN
    rw [if_neg (show ¬ nI 1 = 0 by decide), if_pos (show nI 1 = 1 by decide), if_neg (show ¬ 1 = 0 by decide), if_pos (show 1 = 1 by decide)]
    dsimp only
    have e : nI b - nI b * nI a / 20 = nI b - nI (b * a / 20) := by
      rw [pk_mul, show (20 : Int32) = nI 20 from rfl, pk_div (by omega) (by omega) (by omega)]
    rw [e]
    have h3 : b * a / 20 ≤ 99 * 100 := by omega
    by_cases h2 : b * a / 20 ≤ b
    · rw [pk_sub h2, if_neg (nI_pos (by omega))]
    · rw [if_pos (pk_sneg (by omega) (by omega)), show b - b * a / 20 = 0 by omega]
      rfl
  · unfold rsv rsvN
    rw [if_neg (show ¬ nI 2 = 0 by decide), if_neg (show ¬ nI 2 = 1 by decide), if_neg (show ¬ 2 = 0 by decide), if_neg (show ¬ 2 = 1 by decide)]
    have e : nI a / 4 = nI (a / 4) := by rw [show (4 : Int32) = nI 4 from rfl, pk_div (by omega) (by omega) (by omega)]
    rw [e]
    by_cases h : 7 < a / 4
    · rw [if_pos (show 7 < nI (a / 4) from nI_lt (a := 7) h (by omega)), if_pos h]
      rfl
    · rw [if_neg (show ¬ 7 < nI (a / 4) from nI_nlt (b := a / 4) (a := 7) (by omega) (by omega)), if_neg h]
      have key : ∀ q, q ≤ 7 → ((nI q &&& 31).toBitVec.smod 32).toNat = q := by decide +kernel
      exact pk_shrN (by omega) _ (a / 4) (key _ (by omega))
theorem rsvN_le {k b a : Nat} : rsvN k b a ≤ b := by
  unfold rsvN
  split
  · split <;> omega
  · split
    · omega
    · split
      · omega
      · exact Nat.div_le_self _ _
theorem rsvN_old {k b a : Nat} (hb : b ≤ 99) (ha : 73 < a) : rsvN k b a = 0 := by
  unfold rsvN
  split
  · rw [if_neg (by omega)]
    omega
  · split
    · have h1 : b * 20 ≤ b * a := Nat.mul_le_mul_left _ (by omega)
      omega
    · rw [if_pos (by omega)]
theorem rsvN_anti {k b a a' : Nat} (h : a ≤ a') : rsvN k b a' ≤ rsvN k b a := by
  unfold rsvN
  split
  · split <;> split <;> omega
  · split
    · have h1 : b * a ≤ b * a' := Nat.mul_le_mul_left _ h
      have h2 : b * a / 20 ≤ b * a' / 20 := Nat.div_le_div_right h1
      omega
    · have h2 : a / 4 ≤ a' / 4 := Nat.div_le_div_right h
      split
      · omega
      · rw [if_neg (by omega)]
        exact Nat.div_le_div_left (Nat.pow_le_pow_right (by decide) h2) (Nat.two_pow_pos _)
-- the parts
def nmOk (n : Nat) : Prop := n < 531441
def okB (e : mBk) : Prop := nmOk e.1 ∧ inR e.2.1 1 12 ∧ inR e.2.2.1 1 9 ∧ ((e.2.2.2.1 = -1 ∧ e.2.2.2.2.1 = 0) ∨ (inR e.2.2.2.1 0 2 ∧ inR e.2.2.2.2.1 1 9))
def ovE (e : mBk) : Nat := if e.2.2.2.1 = -1 then 0 else e.2.1.toNatClampNeg
def ovU (l : List mBk) : Nat := (l.map ovE).sum
def ag (z : Nat → Int32) (e : mLf) : Nat := (z 3 - e.2.2).toNatClampNeg
def okL (A : Nat) (z : Nat → Int32) (nb : Nat) (e : mLf) : Prop := inR e.1 0 2 ∧ (∃ j, e.2.1 = nI j ∧ j < nb) ∧ z 3 - e.2.2 = nI (ag z e) ∧ ag z e ≤ A
def okC (T : Nat) (e : mCu) : Prop := nmOk e.1 ∧ (∃ t, e.2.1 = nI t ∧ t < T) ∧ inR e.2.2.1 0 2 ∧ inR e.2.2.2.1 1 9 ∧ inR e.2.2.2.2.1 1 99 ∧ inR e.2.2.2.2.2.1 0 999 ∧ inR e.2.2.2.2.2.2 1 99
def okZ (T C : Nat) (z : Nat → Int32) : Prop := (∀ j, j < 3 → inR (z j) 0 99) ∧ inR (z 4) 0 C ∧ inR (z 5) 0 9 ∧ inR (z 11) 0 T
def okS (A : Nat) (z : Nat → Int32) (nb : Nat) (l : List mLf) : Prop := (∀ e ∈ l, okL A z nb e) ∧ l.Pairwise (fun a b => ag z b ≤ ag z a)
def wfA (A T C : Nat) (s : mS) : Prop := okZ T C s.1 ∧ (s.2.1.length ≤ 4 ∧ ∀ e ∈ s.2.1, okB e) ∧ s.2.2.1.length + ovU s.2.1 ≤ 60 ∧ okS A s.1 s.2.1.length s.2.2.1 ∧ (s.2.2.2.1.length ≤ 10 ∧ ∀ e ∈ s.2.2.2.1, okC T e) ∧ s.2.2.2.2.length ≤ 30
abbrev wf (T C : Nat) (s : mS) : Prop := wfA 73 T C s
theorem evAdd_len {l : List mEv} {e : mEv} (h : l.length ≤ 30) : (evAdd l e).length ≤ 30 := by
  unfold evAdd
  split
  · simp
    omega
  · simp
    omega
theorem okZ.bs {T C : Nat} {z : Nat → Int32} (h : okZ T C z) {k : Int32} (hk : inR k 0 2) : ∃ j b, k = nI j ∧ j < 3 ∧ bsO z k = nI b ∧ b ≤ 99 ∧ z j = nI b := by
  obtain ⟨j, rfl, -, h2⟩ := hk
  obtain ⟨b, h3, -, h4⟩ := h.1 j (by omega)
  refine ⟨j, b, rfl, by omega, ?_, h4, h3⟩
  unfold bsO
  rw [if_pos ⟨nI_pos' (by omega), nI_lt (b := 3) (by omega) (by decide)⟩, nI_clamp (by omega), h3]
theorem rsE_N {A T C nb : Nat} {z : Nat → Int32} {e : mLf} (h : okZ T C z) (hA : A ≤ 2000) (he : okL A z nb e) : ∃ j b, e.1 = nI j ∧ j < 3 ∧ z j = nI b ∧ b ≤ 99 ∧ rsE z e = nI (rsvN j b (ag z e)) := by
  obtain ⟨j, b, h1, h2, h3, h4, h5⟩ := h.bs he.1
  refine ⟨j, b, h1, h2, h5, h4, ?_⟩
  unfold rsE
  rw [h3, he.2.2.1, h1]
  exact rsv_N h2 h4 (by have := he.2.2.2; omega)
theorem okL.kind {A nb : Nat} {z : Nat → Int32} {e : mLf} (he : okL A z nb e) : e.1 ≠ -1 := he.1.ne (by decide)
theorem okB.kd {e : mBk} (h : okB e) (hk : e.2.2.2.1 ≠ -1) : inR e.2.2.2.1 0 2 ∧ inR e.2.2.2.2.1 1 9 := by
  rcases h.2.2.2 with h | h
  · exact absurd h.1 hk
  · exact h
-- an hour begins
theorem hr1_wf {T C : Nat} {s : mS} (h : wfA 73 T C s) : wfA 74 T C (hr1 s) := by
  obtain ⟨h1, h2, h3, h4, h5⟩ := h
  have key : ∀ e ∈ s.2.2.1, s.1 3 + 1 - e.2.2 = nI (ag s.1 e + 1) ∧ ag (hr1 s).1 e = ag s.1 e + 1 := by
    intro e he
    have hb := (h4.1 e he).2.2.2
    have e1 : s.1 3 + 1 - e.2.2 = nI (ag s.1 e + 1) := by
      rw [← nI_1, ← (h4.1 e he).2.2.1]
      simp only [Int32.sub_eq_add_neg, Int32.add_assoc]
      rw [Int32.add_comm 1]
    refine ⟨e1, ?_⟩
    show (s.1 3 + 1 - e.2.2).toNatClampNeg = _
    rw [e1, nI_clamp (by omega)]
  refine ⟨⟨fun j hj => ?_, h1.2⟩, h2, h3, ⟨fun e he => ?_, ?_⟩, h5⟩
  · show inR (if j = 3 then _ else _) 0 99
    rw [if_neg (by omega)]
    exact h1.1 j hj
  · obtain ⟨a1, a2, a3, a4⟩ := h4.1 e he
    obtain ⟨k1, k2⟩ := key e he
    exact ⟨a1, a2, by rw [k2]; exact k1, by rw [k2]; omega⟩
  · refine List.Pairwise.imp_of_mem (fun {a b} ha hb hab => ?_) h4.2
    rw [(key a ha).2, (key b hb).2]
    omega
-- the ovens
theorem ovU_set {l : List mBk} {i : Nat} {e e' : mBk} (he : l[i]? = some e) : ovU (l.set i e') + ovE e = ovU l + ovE e' := by
  induction l generalizing i with
  | nil => simp at he
  | cons y t ih =>
    cases i with
    | zero =>
      simp at he
      subst he
      simp [ovU]
      omega
    | succ i =>
      simp at he
      have := ih he
      simp [ovU] at this ⊢
      omega
theorem ovE_mkO {e : mBk} (he : okB e) (h1 : e.2.2.2.1 ≠ -1) : ovE (mkO e) + (if e.2.2.2.2.1 - 1 ≤ 0 then e.2.1.toNatClampNeg else 0) = ovE e := by
  unfold mkO ovE
  rw [if_neg h1]
  split
  · simp [h1]
  · simp [h1]
theorem ovU_mem {l : List mBk} {i : Nat} {e : mBk} (he : l[i]? = some e) : ovE e ≤ ovU l := by
  have := ovU_set (e' := (0, 0, 0, -1, 0, 0)) he
  have h0 : ovE (0, 0, 0, -1, 0, 0) = 0 := rfl
  omega
theorem ovF_len {s : mS} (h : ∀ e ∈ s.2.1, okB e) : ∀ i, i ≤ s.2.1.length → (ovF s i).1.length + ovU (mix mkO s.2.1 i) = s.2.2.1.length + ovU s.2.1
  | 0, _ => by rw [mix_0]; rfl
  | i + 1, hi => by
    have ih := ovF_len h i (by omega)
    have hg : s.2.1[i]? = some s.2.1[i] := List.getElem?_eq_getElem (by omega)
    generalize s.2.1[i] = e at hg
    have hb : okB e := h e (List.mem_of_getElem? hg)
    have hm := ovU_set (e' := mkO e) (mix_get mkO _ hg)
    rw [mix_set mkO _ hg] at hm
    unfold ovF
    rw [hg]
    dsimp only
    by_cases h1 : e.2.2.2.1 = -1
    · rw [if_pos h1]
      rw [mix_id mkO _ hg (by unfold mkO; rw [if_pos h1])]
      exact ih
    · rw [if_neg h1]
      have := ovE_mkO hb h1
      split
      · next h2 =>
        rw [if_pos h2] at this
        simp only [List.length_append, List.length_replicate]
        omega
      · next h2 =>
        rw [if_neg h2] at this
        omega
theorem ovCap_of {A T C : Nat} {s : mS} (h : wfA A T C s) : ovCap s := by
  intro i e hg hk hl
  obtain ⟨h1, h2, h3, -⟩ := h
  have hb := h2.2 e (List.mem_of_getElem? hg)
  obtain ⟨o, ho, -, ho2⟩ := hb.2.1
  refine ⟨o, ho, ?_⟩
  have hL := ovF_len h2.2 i (Nat.le_of_lt (gE_lt hg))
  have hm := ovU_mem (mix_get mkO _ hg)
  have : ovE e = o := by
    unfold ovE
    rw [if_neg hk, ho, nI_clamp (by omega)]
  omega
theorem ovF_mem {A T C : Nat} {s : mS} (h : wfA A T C s) : ∀ i, i ≤ s.2.1.length → okS A s.1 s.2.1.length (ovF s i).1
  | 0, _ => h.2.2.2.1
  | i + 1, hi => by
    have ih := ovF_mem h i (by omega)
    have hg : s.2.1[i]? = some s.2.1[i] := List.getElem?_eq_getElem (by omega)
    generalize s.2.1[i] = e at hg
    have hb : okB e := h.2.1.2 e (List.mem_of_getElem? hg)
    unfold ovF
    rw [hg]
    dsimp only
    split
    · exact ih
    · next h1 =>
      split
      · have z0 : s.1 3 - s.1 3 = nI 0 := by rw [Int32.sub_self]; rfl
        have a0 : ∀ (k b : Int32), ag s.1 (k, b, s.1 3) = 0 := fun k b => by
          unfold ag
          rw [z0]
          rfl
        refine ⟨fun y hy => ?_, ?_⟩
        · rcases List.mem_append.mp hy with hy | hy
          · exact ih.1 y hy
          · obtain ⟨-, rfl⟩ := List.mem_replicate.mp hy
            refine ⟨(hb.kd h1).1, ⟨i, rfl, by omega⟩, ?_, by rw [a0]; omega⟩
            rw [a0]
            exact z0
        · refine List.pairwise_append.mpr ⟨ih.2, ?_, fun a _ b hb => ?_⟩
          · refine List.pairwise_replicate.mpr (Or.inr (Nat.le_refl _))
          · obtain ⟨-, rfl⟩ := List.mem_replicate.mp hb
            rw [a0]
            omega
      · exact ih
theorem ovF_ev {s : mS} (h : s.2.2.2.2.length ≤ 30) : ∀ i, (ovF s i).2.2.length ≤ 30
  | 0 => h
  | i + 1 => by
    have ih := ovF_ev h i
    unfold ovF
    split
    · split
      · exact ih
      · split
        · exact evAdd_len ih
        · exact ih
    · exact ih
theorem mkO_ok {e : mBk} (h : okB e) : okB (mkO e) := by
  unfold mkO
  split
  · exact h
  · next h1 =>
    obtain ⟨a, b, c, d⟩ := h
    split
    · exact ⟨a, b, c, Or.inl ⟨rfl, rfl⟩⟩
    · next h2 =>
      obtain ⟨k1, k2⟩ := okB.kd ⟨a, b, c, d⟩ h1
      refine ⟨a, b, c, Or.inr ⟨k1, ?_⟩⟩
      obtain ⟨v, hv, l1, l2⟩ := k2
      have hv' : e.2.2.2.2.1 = nI v := hv
      obtain ⟨w, rfl⟩ : ∃ w, v = w + 1 := ⟨v - 1, by omega⟩
      rw [hv', nI_pred] at h2 ⊢
      have : w ≠ 0 := fun q => h2 (by rw [q]; decide)
      exact ⟨w, rfl, by omega, by omega⟩
theorem ovOut_wf {A T C : Nat} {s : mS} (h : wfA A T C s) : wfA A T C (ovOut s) := by
  have hl := ovF_len h.2.1.2 _ (Nat.le_refl _)
  rw [mix_full mkO _ rfl] at hl
  have hm := ovF_mem h _ (Nat.le_refl _)
  have hev := ovF_ev h.2.2.2.2.2 s.2.1.length
  obtain ⟨h1, h2, h3, h4, h5, h6⟩ := h
  have hz3 : ∀ j, j ≠ 6 → (ovOut s).1 j = s.1 j := fun j hj => if_neg hj
  refine ⟨⟨fun j hj => by rw [hz3 j (by omega)]; exact h1.1 j hj, by rw [hz3 4 (by omega)]; exact h1.2.1, by rw [hz3 5 (by omega)]; exact h1.2.2.1, by rw [hz3 11 (by omega)]; exact h1.2.2.2⟩, ⟨by show (s.2.1.map mkO).length ≤ 4; simpa using h2.1, fun e he => ?_⟩, by show (ovF s s.2.1.length).1.length + ovU (s.2.1.map mkO) ≤ 60; omega, ?_, h5, hev⟩
  · obtain ⟨e0, h0, rfl⟩ := List.mem_map.mp he
    exact mkO_ok (h2.2 e0 h0)
  · show okS A (zup s.1 6 _) (s.2.1.map mkO).length (ovF s s.2.1.length).1
    rw [List.length_map]
    exact hm
