-- reading a text that is a list
def rdl (f : Nat → Int32) (n p : Nat) (T : List Nat) : Prop := p + T.length = n ∧ ∀ i c, T[i]? = some c → f (p + i) = nI c
theorem rdl.app {f : Nat → Int32} {n p : Nat} {A B : List Nat} (h : rdl f n p (A ++ B)) : rdl f n (p + A.length) B := ⟨by have := h.1; rw [List.length_append] at this; omega, fun i c hc => by
  have := h.2 (A.length + i) c (by rw [List.getElem?_append_right (Nat.le_add_right _ _), Nat.add_sub_cancel_left]; exact hc)
  rw [← Nat.add_assoc] at this
  exact this⟩
theorem rdl.cons {f : Nat → Int32} {n p c : Nat} {B : List Nat} (h : rdl f n p (c :: B)) : f p = nI c ∧ rdl f n (p + 1) B := ⟨h.2 0 c rfl, rdl.app (A := [c]) h⟩
theorem rdl.get {f : Nat → Int32} {n p i : Nat} {A B : List Nat} (h : rdl f n p (A ++ B)) (hi : i < A.length) : f (p + i) = nI (A.getD i 0) := h.2 i _ (by rw [List.getElem?_append_left hi, List.getD_eq_getElem?_getD, List.getElem?_eq_getElem hi]; rfl)
def lt1 (c : Nat) : Bool := decide (97 ≤ c) && decide (c ≤ 122)
def dg1 (c : Nat) : Bool := decide (48 ≤ c) && decide (c ≤ 57)
theorem sg_fact : ∀ c, c < 128 → isLet (nI c) = lt1 c ∧ isDig (nI c) = dg1 c ∧ isSp (nI c) = (decide (c = 32) || decide (c = 10)) := by decide +kernel
theorem runW_run {P : Int32 → Bool} {f : Nat → Int32} : ∀ k m a, k ≤ m → (∀ i, i < k → P (f (a + i)) = true) → (k < m → P (f (a + k)) = false) → runW P f m a = a + k
  | 0, 0, a, _, _, _ => rfl
  | 0, m + 1, a, _, _, h => by
    have := h (Nat.succ_pos m)
    show (if P (f a) = true then _ else a) = a
    rw [if_neg (by rw [show P (f a) = false from this]; decide)]
  | k + 1, 0, a, hk, _, _ => absurd hk (by omega)
  | k + 1, m + 1, a, hk, h1, h2 => by
    show (if P (f a) = true then runW P f m (a + 1) else a) = _
    rw [if_pos (show P (f a) = true from h1 0 (Nat.succ_pos k)), runW_run k m (a + 1) (by omega) (fun i hi => by
      have := h1 (i + 1) (by omega)
      rw [show a + 1 + i = a + (i + 1) by omega]
      exact this) (fun hm => by
      have := h2 (by omega)
      rw [show a + 1 + k = a + (k + 1) by omega]
      exact this)]
    omega
section P
variable {f : Nat → Int32} {n p : Nat}
theorem tk_sp {T : List Nat} (h : rdl f n p (32 :: T)) : tkN f n p = tkN f n (p + 1) := by
  have hn := h.1
  rw [List.length_cons] at hn
  have e : runW isSp f (n - p) p = runW isSp f (n - (p + 1)) (p + 1) := by
    rw [show n - p = (n - (p + 1)) + 1 by omega]
    show (if isSp (f p) = true then _ else _) = _
    rw [if_pos (by rw [h.cons.1]; decide)]
  unfold tkN
  rw [e]
theorem runW_0 {P : Int32 → Bool} {m a : Nat} (h : P (f a) = false) : runW P f m a = a := by
  cases m with
  | zero => rfl
  | succ m =>
    show (if P (f a) = true then _ else a) = a
    rw [if_neg (by rw [h]; decide)]
theorem tk_word {w r : List Nat} {c : Nat} (h : rdl f n p (w ++ c :: r)) (hw : ∀ x ∈ w, 97 ≤ x ∧ x ≤ 122) (h0 : w ≠ []) (hc : c < 97) : tkN f n p = (1, p, w.length) := by
  have hn := h.1
  rw [List.length_append, List.length_cons] at hn
  have hl : 0 < w.length := List.length_pos_iff.mpr h0
  have hat : ∀ i, i < w.length → ∃ x, f (p + i) = nI x ∧ 97 ≤ x ∧ x ≤ 122 := fun i hi => ⟨_, h.get hi, by
    have := hw (w.getD i 0) (by rw [List.getD_eq_getElem?_getD, List.getElem?_eq_getElem hi]; exact List.getElem_mem hi)
    exact this⟩
  obtain ⟨x0, e0, x1, x2⟩ := hat 0 hl
  have e0 : f p = nI x0 := e0
  have hs : runW isSp f (n - p) p = p := runW_0 (by rw [e0, (sg_fact x0 (by omega)).2.2]; simp; omega)
  have hL : isLet (f p) = true := by rw [e0, (sg_fact x0 (by omega)).1]; unfold lt1; simp; omega
  have hr : runW isLet f (n - p) p = p + w.length := runW_run w.length (n - p) p (by omega) (fun i hi => by
    obtain ⟨x, ex, y1, y2⟩ := hat i hi
    rw [ex, (sg_fact x (by omega)).1]
    unfold lt1
    simp
    omega) (fun _ => by
    rw [h.app.cons.1, (sg_fact c (by omega)).1]
    unfold lt1
    simp
    omega)
  unfold tkN
  simp only [hs]
  rw [if_neg (by omega), if_pos hL, hr, Nat.add_sub_cancel_left]
theorem tk_num {w r : List Nat} {c : Nat} (h : rdl f n p (w ++ c :: r)) (hw : ∀ x ∈ w, 48 ≤ x ∧ x ≤ 57) (h0 : w ≠ []) (hc : c < 48 ∨ (57 < c ∧ c < 128)) : tkN f n p = (2, p, w.length) := by
  have hn := h.1
  rw [List.length_append, List.length_cons] at hn
  have hl : 0 < w.length := List.length_pos_iff.mpr h0
  have hat : ∀ i, i < w.length → ∃ x, f (p + i) = nI x ∧ 48 ≤ x ∧ x ≤ 57 := fun i hi => ⟨_, h.get hi, by
    have := hw (w.getD i 0) (by rw [List.getD_eq_getElem?_getD, List.getElem?_eq_getElem hi]; exact List.getElem_mem hi)
    exact this⟩
  obtain ⟨x0, e0, x1, x2⟩ := hat 0 hl
  have e0 : f p = nI x0 := e0
  have hs : runW isSp f (n - p) p = p := runW_0 (by rw [e0, (sg_fact x0 (by omega)).2.2]; simp; omega)
  have hL : isLet (f p) = false := by rw [e0, (sg_fact x0 (by omega)).1]; unfold lt1; simp; omega
  have hD : isDig (f p) = true := by rw [e0, (sg_fact x0 (by omega)).2.1]; unfold dg1; simp; omega
  have hr : runW isDig f (n - p) p = p + w.length := runW_run w.length (n - p) p (by omega) (fun i hi => by
    obtain ⟨x, ex, y1, y2⟩ := hat i hi
    rw [ex, (sg_fact x (by omega)).2.1]
    unfold dg1
    simp
    omega) (fun _ => by
    rw [h.app.cons.1, (sg_fact c (by omega)).2.1]
    unfold dg1
    simp
    omega)
  unfold tkN
  simp only [hs]
  rw [if_neg (by omega), if_neg (by rw [hL]; decide), if_pos hD, hr, Nat.add_sub_cancel_left]
theorem tk_semi {r : List Nat} (h : rdl f n p (59 :: r)) : tkN f n p = (3, p, 1) := by
  have hn := h.1
  rw [List.length_cons] at hn
  have e0 := h.cons.1
  have hs : runW isSp f (n - p) p = p := runW_0 (by rw [e0]; decide)
  unfold tkN
  simp only [hs]
  rw [if_neg (by omega), if_neg (by rw [e0]; decide), if_neg (by rw [e0]; decide)]
theorem tk_end (h : rdl f n p []) : (tkN f n p).1 = 0 := by
  have hn : p = n := h.1
  have hs : runW isSp f (n - p) p = p := by rw [hn, Nat.sub_self]; rfl
  unfold tkN
  simp only [hs]
  rw [if_pos (by omega)]
/-- the reader before the token at p -/
abbrev S0 (f : Nat → Int32) (n p : Nat) : mLd := (0, -1, tkN f n p)
theorem S0_sp {T : List Nat} (h : rdl f n p (32 :: T)) : S0 f n p = S0 f n (p + 1) := by unfold S0; rw [tk_sp h]
theorem ldX_S {t a b : Nat} (h : tkN f n p = (t, a, b)) : ldX f n (S0 f n p) = S0 f n (a + b) := by
  unfold ldX S0
  rw [h]
theorem semi_S {r : List Nat} (h : rdl f n p (59 :: r)) : ldSemi f n (S0 f n p) = S0 f n (p + 1) := by
  have ht := tk_semi h
  unfold ldSemi
  rw [if_pos rfl, if_pos (by show smI' f (tkN f n p) = true; rw [ht]; show (decide ((3 : Nat) = 3) && decide (f p = 59)) = true; rw [h.cons.1]; decide)]
  exact ldX_S ht
-- words
theorem dec_app {A B : List Nat} {x y : Nat} (hl : A.length = B.length) (hx : x < 128) (hy : y < 128) : (decide (A = B) && decide (nI x = nI y)) = decide (A ++ [x] = B ++ [y]) := by
  rw [Bool.eq_iff_iff, Bool.and_eq_true, decide_eq_true_eq, decide_eq_true_eq, decide_eq_true_eq]
  constructor
  · rintro ⟨h1, h2⟩
    rw [h1, (nI_eq (by omega) (by omega)).mp h2]
  · intro h
    have h3 := List.append_inj h hl
    exact ⟨h3.1, by rw [(List.cons.inj h3.2).1]⟩
theorem eqW_iff {s j : Nat} {w r : List Nat} {n : Nat} (h : rdl f n s (w ++ r)) (hw : ∀ c ∈ w, c < 128) (hj : ∀ c ∈ cTx j, c < 128) : ∀ m, m ≤ w.length → m ≤ (cTx j).length → eqW f s j m = decide ((cTx j).take m = w.take m) := by
  intro m
  induction m with
  | zero => intro _ _; rfl
  | succ m ih =>
    intro h1 h2
    show (eqW f s j m && decide (cTB j m = f (s + m))) = _
    rw [ih (by omega) (by omega), h.get (by omega), cTB_nI, List.take_succ_eq_append_getElem (by omega), List.take_succ_eq_append_getElem (by omega)]
    have e1 : (cTx j).getD m 0 = (cTx j)[m] := by rw [List.getD_eq_getElem?_getD, List.getElem?_eq_getElem (by omega)]; rfl
    have e2 : w.getD m 0 = w[m] := by rw [List.getD_eq_getElem?_getD, List.getElem?_eq_getElem (by omega)]; rfl
    rw [e1, e2]
    have b1 := hj _ (List.getElem_mem (show m < (cTx j).length by omega))
    have b2 := hw _ (List.getElem_mem (show m < w.length by omega))
    exact dec_app (by rw [List.length_take, List.length_take]; omega) b1 b2
theorem wd_word {j : Nat} {w r : List Nat} {c : Nat} (hj : j < 30) (h : rdl f n p (w ++ c :: r)) (hw : ∀ x ∈ w, 97 ≤ x ∧ x ≤ 122) (h0 : w ≠ []) (hc : c < 97) : wdI f (tkN f n p) j = decide (cTx j = w) := by
  have ht := tk_word h hw h0 hc
  unfold wdI
  rw [ht]
  have e : cTL j = (cTx j).length := rfl
  by_cases hl : (cTx j).length = w.length
  · rw [e, eqW_iff h (fun c hc => by have := hw c hc; omega) (cTx_ok j hj) _ (by omega) (Nat.le_refl _), List.take_length, hl, List.take_length]
    simp
  · rw [e]
    have h9 : ¬ cTx j = w := fun q => hl (by rw [q])
    rw [decide_eq_false hl, Bool.and_false, Bool.false_and, decide_eq_false h9]
theorem wd_num {j : Nat} (h : (tkN f n p).1 ≠ 1) : wdI f (tkN f n p) j = false := by
  unfold wdI
  simp [h]
end P
