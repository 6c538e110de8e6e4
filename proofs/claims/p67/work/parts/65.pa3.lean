-- the text, statement by statement
def oB (k y : Nat) (r : List Nat) : List Nat := cTx 2 ++ 32 :: ([98, 120 + k] ++ 32 :: (dgs (1 + y % 6) ++ 32 :: (dgs (1 + y / 8 % 4) ++ 59 :: r)))
def oK (k y : Nat) (r : List Nat) : List Nat := if y / 64 % 3 = 0 then r else cTx 3 ++ 32 :: ([98, 120 + k] ++ 32 :: (cTx (19 + y / 256 % 3) ++ 59 :: r))
def oQ (k y : Nat) (r : List Nat) : List Nat := cTx 7 ++ 32 :: ([99, 120 + k] ++ 32 :: (cTx (19 + y % 3) ++ 32 :: (dgs (1 + y / 4 % 5) ++ 32 :: (dgs (1 + y / 32 % 40) ++ 32 :: (dgs (y / 2048 % 200) ++ 32 :: (dgs (3 + y / 65536 % 20) ++ 59 :: r))))))
def oS (x : Nat) (r : List Nat) : List Nat := cTx 9 ++ 32 :: (dgs (x / 131072 % 10) ++ 32 :: (dgs (x / 2097152 % 60) ++ 59 :: r))
def oH (x : Nat) (r : List Nat) : List Nat := cTx 1 ++ 32 :: (dgs (1 + x % 40) ++ 32 :: (dgs (1 + x / 64 % 30) ++ 32 :: (dgs (1 + x / 4096 % 30) ++ 59 :: r)))
theorem cT16 : cTx 16 = cTx 2 ++ [32, 98] := by decide +kernel
theorem cT18 : cTx 18 = cTx 3 ++ [32, 98] := by decide +kernel
theorem cT22 : cTx 22 = cTx 7 ++ [32, 99] := by decide +kernel
theorem cT24 : cTx 24 = cTx 9 ++ [32] := by decide +kernel
theorem cT15 : cTx 15 = cTx 1 ++ [32] := by decide +kernel
theorem tqB_o (l : List Nat) (k y : Nat) (r : List Nat) : tqB l k y ++ r = l ++ oB k y r := by
  unfold tqB oB
  rw [cT16]
  simp only [List.append_assoc, List.cons_append, List.nil_append]
theorem tqK_o (l : List Nat) (k y : Nat) (r : List Nat) : tqK l k y ++ r = l ++ oK k y r := by
  unfold tqK oK
  split
  · rfl
  · rw [cT18]
    simp only [List.append_assoc, List.cons_append, List.nil_append]
theorem tqC_o (l : List Nat) (k y : Nat) (r : List Nat) : tqC l k y ++ r = l ++ oQ k y r := by
  unfold tqC oQ
  rw [cT22]
  simp only [List.append_assoc, List.cons_append, List.nil_append]
theorem tqS_o (l : List Nat) (x : Nat) (r : List Nat) : tqS l x ++ r = l ++ oS x r := by
  unfold tqS oS
  rw [cT24]
  simp only [List.append_assoc, List.cons_append, List.nil_append]
theorem tqH_o (x : Nat) (r : List Nat) : tqH x ++ r = oH x r := by
  unfold tqH oH
  rw [cT15]
  simp only [List.append_assoc, List.cons_append, List.nil_append]
abbrev oKB (Γ : cG) (k : Nat) (r : List Nat) : List Nat := oB k (yB Γ k) (oK k (yB Γ k) r)
theorem txt_o (Γ : cG) : txt Γ = oH (clN Γ 0) (oKB Γ 0 (oKB Γ 1 (oKB Γ 2 (oQ 0 (yC Γ 0) (oQ 1 (yC Γ 1) (oS (clN Γ 0) [])))))) := by
  rw [← List.append_nil (txt Γ)]
  unfold txt tqKB
  rw [tqS_o, tqC_o, tqC_o, tqK_o, tqB_o, tqK_o, tqB_o, tqK_o, tqB_o, tqH_o]
-- what stands after the first statements
def bkP (i : Nat) (e : mBk) : Prop := e.1 = nm2 98 (120 + i) ∧ (∃ o, e.2.1 = nI o ∧ o ≤ 6) ∧ e.2.2.2.2.2 = 0
def cuP (i : Nat) (e : mCu) : Prop := e.1 = nm2 99 (120 + i) ∧ e.2.1 = nI i
def zP (nc : Nat) (s : mS) : Prop := s.1 3 = 0 ∧ s.1 6 = 0 ∧ s.1 7 = 0 ∧ s.1 8 = 0 ∧ s.1 10 = 0 ∧ s.1 11 = nI nc ∧ s.1 9 = smI (fun i => (s.2.2.2.1.getD i dC).2.2.2.2.2.1) s.2.2.2.1.length
def PI (nb nc : Nat) (s : mS) : Prop := zP nc s ∧ s.2.2.1 = [] ∧ s.2.2.2.2 = [] ∧ s.2.1.length = nb ∧ (∀ (i : Nat) (e : mBk), s.2.1[i]? = some e → bkP i e) ∧ s.2.2.2.1.length = nc ∧ ∀ (i : Nat) (e : mCu), s.2.2.2.1[i]? = some e → cuP i e
theorem nm_A : ∀ k, k < 3 → nmA (nm2 98 (120 + k)) = nI (98 + 256 * (120 + k)) := by decide +kernel
theorem nm_C : ∀ k, k < 2 → nmA (nm2 99 (120 + k)) = nI (99 + 256 * (120 + k)) := by decide +kernel
theorem nm_D : ∀ c, c < 123 → 97 ≤ c → nmA (nm2 100 c) = nI (100 + 256 * c) := by decide +kernel
theorem any_no {α : Type} {g : α → Int32} {v : Int32} {l : List α} (h : ∀ (i : Nat) (e : α), l[i]? = some e → g e ≠ v) : l.any (fun e => decide (g e = v)) = false := by
  rw [List.any_eq_false]
  intro e he
  obtain ⟨i, hi, rfl⟩ := List.getElem_of_mem he
  simp only [decide_eq_true_eq]
  exact h i _ (List.getElem?_eq_getElem hi)
theorem hasN_no {s : mS} {v : Int32} (h1 : ∀ (i : Nat) (e : mBk), s.2.1[i]? = some e → nmA e.1 ≠ v) (h2 : ∀ (i : Nat) (e : mCu), s.2.2.2.1[i]? = some e → nmA e.1 ≠ v) : hasN s v = false := by
  unfold hasN
  rw [any_no (g := fun e : mBk => nmA e.1) h1, any_no (g := fun e : mCu => nmA e.1) h2]
  rfl
theorem ovN_6 {l : List mBk} (h : ∀ (i : Nat) (e : mBk), l[i]? = some e → bkP i e) : ∀ n, ∃ v, ovN l n = nI v ∧ v ≤ 6 * n
  | 0 => ⟨0, rfl, Nat.le_refl _⟩
  | n + 1 => by
    obtain ⟨v, e, hv⟩ := ovN_6 h n
    show ∃ v, (match l[n]? with | some e => if e.2.2.2.1 = -1 then ovN l n else ovN l n + e.2.1 | none => ovN l n) = nI v ∧ v ≤ 6 * (n + 1)
    split
    · next x hx =>
      obtain ⟨-, ⟨o, ho, ho6⟩, -⟩ := h n x hx
      split
      · exact ⟨v, e, by omega⟩
      · exact ⟨v + o, by rw [e, ho, nI_add], by omega⟩
    · exact ⟨v, e, by omega⟩
section P
variable {f : Nat → Int32} {n p : Nat}
theorem go_S {s s' : mS} {q : Nat} {w : List Nat} {c m : Nat} {r : List Nat} (h : rdl f n p (w ++ c :: r)) (hw : ∀ x ∈ w, 97 ≤ x ∧ x ≤ 122) (h0 : w ≠ []) (hc : c < 97) (hs : sdStep f n s (S0 f n p) = (s', S0 f n q)) : sdLoop f n (m + 1) (s, S0 f n p) = sdLoop f n m (s', S0 f n q) := by
  have ht := tk_word h hw h0 hc
  show (if (0 : Nat) = 0 ∧ (tkN f n p).1 ≠ 0 then sdLoop f n m (sdStep f n s (S0 f n p)) else _) = _
  rw [if_pos ⟨rfl, by rw [ht]; exact Nat.one_ne_zero⟩, hs]
theorem end_S {s : mS} (h : rdl f n p []) : ∀ m, sdLoop f n m (s, S0 f n p) = (s, S0 f n p)
  | 0 => rfl
  | m + 1 => by
    show (if (0 : Nat) = 0 ∧ (tkN f n p).1 ≠ 0 then sdLoop f n m (sdStep f n s (S0 f n p)) else (s, S0 f n p)) = _
    rw [if_neg (fun z => z.2 (tk_end h))]
theorem st_w : ∀ j, (j = 2 ∨ j = 3 ∨ j = 7 ∨ j = 9) → ∀ i, (i = 2 ∨ i = 3 ∨ i = 7 ∨ i = 8 ∨ i = 9) → decide (cTx i = cTx j) = decide (i = j) := by
  intro j hj i hi
  rcases hj with rfl | rfl | rfl | rfl <;> rcases hi with rfl | rfl | rfl | rfl | rfl <;> decide +kernel
theorem step_S {s : mS} {j : Nat} {r : List Nat} (hj : j = 2 ∨ j = 3 ∨ j = 7 ∨ j = 9) (h : rdl f n p (cTx j ++ 32 :: r)) : sdStep f n s (S0 f n p) = if j = 2 then sdBaker f n s (S0 f n p) else if j = 3 then sdBake f n s (S0 f n p) else if j = 7 then sdCust f n s (S0 f n p) else sdSpar f n s (S0 f n p) := by
  have hk := kw_w j (by omega) (by omega)
  have w : ∀ i, (i = 2 ∨ i = 3 ∨ i = 7 ∨ i = 8 ∨ i = 9) → wdI f (tkN f n p) i = decide (i = j) := fun i hi => by
    rw [wd_word (by omega) h hk.1 hk.2 (by decide), st_w j hj i hi]
  unfold sdStep
  show (if wdI f (tkN f n p) 2 = true then _ else if wdI f (tkN f n p) 3 = true then _ else if wdI f (tkN f n p) 7 = true then _ else if wdI f (tkN f n p) 8 = true then _ else if wdI f (tkN f n p) 9 = true then _ else _) = _
  rw [w 2 (by omega), w 3 (by omega), w 7 (by omega), w 8 (by omega), w 9 (by omega)]
  rcases hj with rfl | rfl | rfl | rfl <;> rfl
theorem ap_ix {α : Type} {l : List α} {x e : α} {i : Nat} (h : (l ++ [x])[i]? = some e) : (i < l.length ∧ l[i]? = some e) ∨ (i = l.length ∧ e = x) := by
  rcases Nat.lt_or_ge i l.length with q | q
  · exact Or.inl ⟨q, by rw [List.getElem?_append_left q] at h; exact h⟩
  · rw [List.getElem?_append_right q] at h
    rcases Nat.eq_or_lt_of_le q with e2 | e2
    · rw [← e2, Nat.sub_self] at h
      exact Or.inr ⟨e2.symm, (Option.some.inj h).symm⟩
    · rw [List.getElem?_eq_none (by simp; omega)] at h
      exact absurd h (by simp)
theorem bx_ne {i k : Nat} (hi : i < 3) (hk : k < 3) (h : i ≠ k) : nI (98 + 256 * (120 + i)) ≠ nI (98 + 256 * (120 + k)) := fun z => h (by have := (nI_eq (by omega) (by omega)).mp z; omega)
theorem fnd_at {g : Nat → Int32} {v : Int32} {k : Nat} (h1 : g k = v) (h2 : ∀ i, i < k → g i ≠ v) : ∀ m i, i + m = k → fndI g v (m + 1) i = nI k
  | 0, i, e => by
    show (if g i = v then nI i else _) = _
    rw [show i = k by omega, if_pos h1]
  | m + 1, i, e => by
    show (if g i = v then nI i else fndI g v (m + 1) (i + 1)) = _
    rw [if_neg (h2 i (by omega))]
    exact fnd_at h1 h2 m (i + 1) (by omega)
theorem bkr_P {k y : Nat} {s : mS} {r : List Nat} (hk : k < 3) (hP : PI k 0 s) (h : rdl f n p (oB k y r)) : ∃ s' q, (∀ m, sdLoop f n (m + 1) (s, S0 f n p) = sdLoop f n m (s', S0 f n q)) ∧ rdl f n q r ∧ PI (k + 1) 0 s' ∧ ∃ e, s'.2.1[k]? = some e ∧ e.2.2.2.1 = -1 := by
  obtain ⟨hz, hL, hE, hn, hB, hc, hC⟩ := hP
  have hkw := kw_w 2 (by decide) (by decide)
  obtain ⟨q, e1, e2⟩ := baker_S (s := s) (k := k) (by omega) (a := 1 + y % 6) (by omega) (b := 1 + y / 8 % 4) (by omega) (by omega) (hasN_no (fun i e he => by
    rw [(hB i e he).1, nm_A i (by have := gE_lt he; omega)]
    exact bx_ne (by have := gE_lt he; omega) hk (by have := gE_lt he; omega)) (fun i e he => by have := gE_lt he; omega)) h
  refine ⟨_, q, fun m => go_S h hkw.1 hkw.2 (by decide) ((step_S (by decide) h).trans e1), e2, ⟨hz, hL, hE, ?_, ?_, hc, hC⟩, _, List.getElem?_concat_length .. |> (fun z => by rw [← hn]; exact z), rfl⟩
  · show (s.2.1 ++ [_]).length = _
    rw [List.length_append, hn]
    rfl
  · intro i e he
    rcases ap_ix (l := s.2.1) he with ⟨q1, q2⟩ | ⟨q1, rfl⟩
    · exact hB i e q2
    · exact ⟨by rw [q1, hn], ⟨_, rfl, by omega⟩, rfl⟩
theorem bak_P {k y : Nat} {s : mS} {r : List Nat} (hk : k < 3) (hP : PI (k + 1) 0 s) {e0 : mBk} (he0 : s.2.1[k]? = some e0) (hm : e0.2.2.2.1 = -1) (h : rdl f n p (oK k y r)) : ∃ s' q j, j ≤ 1 ∧ (∀ m, sdLoop f n (m + j) (s, S0 f n p) = sdLoop f n m (s', S0 f n q)) ∧ rdl f n q r ∧ PI (k + 1) 0 s' := by
  have hP0 := hP
  obtain ⟨hz, hL, hE, hn, hB, hc, hC⟩ := hP
  unfold oK at h
  by_cases h0 : y / 64 % 3 = 0
  · rw [if_pos h0] at h
    exact ⟨s, p, 0, by omega, fun m => rfl, h, hP0⟩
  · rw [if_neg h0] at h
    have hkw := kw_w 3 (by decide) (by decide)
    have hnA : ∀ i, i < 3 → ∀ e, s.2.1[i]? = some e → nmA e.1 = nI (98 + 256 * (120 + i)) := fun i hi e he => by rw [(hB i e he).1, nm_A i hi]
    have hix : bkIx s.2.1 (nI (98 + 256 * (120 + k))) = nI k := by
      unfold bkIx
      rw [hn]
      refine fnd_at ?_ ?_ k 0 (by omega)
      · simp only [he0]
        exact hnA k hk e0 he0
      · intro i hi
        have hi2 : i < s.2.1.length := by omega
        simp only [List.getElem?_eq_getElem hi2]
        rw [hnA i (by omega) _ (List.getElem?_eq_getElem hi2)]
        exact bx_ne (by omega) hk (by omega)
    have hr : rfB s k = 0 := by
      unfold rfB
      rw [he0]
      show rfU s e0 = 0
      unfold rfU
      obtain ⟨v, ev, hv⟩ := ovN_6 hB s.2.1.length
      obtain ⟨-, ⟨o, ho, ho6⟩, -⟩ := hB k e0 he0
      rw [if_pos hm, hL, ev, ho, show nI ([] : List mLf).length = nI 0 from rfl, nI_add, nI_add, if_neg]
      exact nI_nlt (a := 60) (by omega) (by omega)
    obtain ⟨q, e1, e2⟩ := bake_S (s := s) (k := k) (by omega) (q := y / 256 % 3) (by omega) hix (by omega) hr h
    refine ⟨_, q, 1, by omega, fun m => go_S h hkw.1 hkw.2 (by decide) ((step_S (by decide) h).trans e1), e2, ?_⟩
    have eb : bgB s k (nI (y / 256 % 3)) = (s.1, s.2.1.set k (e0.1, e0.2.1, e0.2.2.1, nI (y / 256 % 3), e0.2.2.1, e0.2.2.2.2.2), s.2.2) := by
      unfold bgB
      rw [he0]
    rw [eb]
    refine ⟨hz, hL, hE, by show (s.2.1.set _ _).length = _; rw [List.length_set]; exact hn, ?_, hc, hC⟩
    intro i e he
    have he : (s.2.1.set k _)[i]? = some e := he
    by_cases q1 : i = k
    · subst q1
      rw [List.getElem?_set_self (by omega)] at he
      rw [← Option.some.inj he]
      exact hB i e0 he0
    · rw [List.getElem?_set_ne (by omega)] at he
      exact hB i e he
theorem kb_P {k y y2 : Nat} {s : mS} {r : List Nat} (hk : k < 3) (hP : PI k 0 s) (h : rdl f n p (oB k y (oK k y2 r))) : ∃ s' q j, j ≤ 2 ∧ (∀ m, sdLoop f n (m + j) (s, S0 f n p) = sdLoop f n m (s', S0 f n q)) ∧ rdl f n q r ∧ PI (k + 1) 0 s' := by
  obtain ⟨s1, q1, a1, b1, c1, e, d1, d2⟩ := bkr_P hk hP h
  obtain ⟨s2, q2, j, h2, a2, b2, c2⟩ := bak_P hk c1 d1 d2 b1
  exact ⟨s2, q2, j + 1, by omega, fun m => by rw [← Nat.add_assoc, a1, a2], b2, c2⟩
theorem cx_ne {i k : Nat} (hi : i < 2) (hk : k < 2) (h : i ≠ k) : nI (99 + 256 * (120 + i)) ≠ nI (99 + 256 * (120 + k)) := fun z => h (by have := (nI_eq (by omega) (by omega)).mp z; omega)
theorem smI_app {l : List mCu} {e : mCu} : smI (fun i => ((l ++ [e]).getD i dC).2.2.2.2.2.1) (l ++ [e]).length = smI (fun i => (l.getD i dC).2.2.2.2.2.1) l.length + e.2.2.2.2.2.1 := by
  rw [List.length_append]
  show smI _ (l.length + 1) = _
  show smI _ l.length + ((l ++ [e]).getD l.length dC).2.2.2.2.2.1 = _
  rw [show (l ++ [e]).getD l.length dC = e by simp]
  congr 1
  refine smI_ext _ (fun j hj => ?_)
  simp only [List.getD_eq_getElem?_getD]
  rw [List.getElem?_append_left hj]
theorem cus_P {k y : Nat} {s : mS} {r : List Nat} (hk : k < 2) (hP : PI 3 k s) (h : rdl f n p (oQ k y r)) : ∃ s' q, (∀ m, sdLoop f n (m + 1) (s, S0 f n p) = sdLoop f n m (s', S0 f n q)) ∧ rdl f n q r ∧ PI 3 (k + 1) s' := by
  obtain ⟨hz, hL, hE, hn, hB, hc, hC⟩ := hP
  have hkw := kw_w 7 (by decide) (by decide)
  obtain ⟨q, e1, e2⟩ := cust_S (s := s) (k := k) (by omega) (q := y % 3) (by omega) (a := 1 + y / 4 % 5) (by omega) (b := 1 + y / 32 % 40) (by omega) (c := y / 2048 % 200) (by omega) (d := 3 + y / 65536 % 20) (by omega) (by omega) (hasN_no (fun i e he => by
    rw [(hB i e he).1, nm_A i (by have := gE_lt he; omega)]
    exact fun z => absurd ((nI_eq (by have := gE_lt he; omega) (by omega)).mp z) (by omega)) (fun i e he => by
    rw [(hC i e he).1, nm_C i (by have := gE_lt he; omega)]
    exact cx_ne (by have := gE_lt he; omega) hk (by have := gE_lt he; omega))) h
  refine ⟨_, q, fun m => go_S h hkw.1 hkw.2 (by decide) ((step_S (by decide) h).trans e1), e2, ⟨?_, hL, hE, hn, hB, ?_, ?_⟩⟩
  · obtain ⟨z3, z6, z7, z8, z10, z11, z9⟩ := hz
    refine ⟨z3, z6, z7, z8, z10, ?_, ?_⟩
    · show s.1 11 + 1 = _
      rw [z11]
      exact nI_add k 1
    · refine Eq.trans ?_ (smI_app (l := s.2.2.2.1) (e := (nm2 99 (120 + k), s.1 11, nI (y % 3), nI (1 + y / 4 % 5), nI (1 + y / 32 % 40), nI (y / 2048 % 200), nI (3 + y / 65536 % 20)))).symm
      show s.1 9 + _ = _
      rw [z9]
  · show (s.2.2.2.1 ++ [_]).length = _
    rw [List.length_append, hc]
    rfl
  · intro i e he
    rcases ap_ix (l := s.2.2.2.1) he with ⟨q1, q2⟩ | ⟨q1, rfl⟩
    · exact hC i e q2
    · exact ⟨by rw [q1, hc], by show s.1 11 = _; rw [q1, hc]; exact hz.2.2.2.2.2.1⟩
theorem spa_P {x : Nat} {s : mS} {r : List Nat} (hP : PI 3 2 s) (h : rdl f n p (oS x r)) : ∃ s' q, (∀ m, sdLoop f n (m + 1) (s, S0 f n p) = sdLoop f n m (s', S0 f n q)) ∧ rdl f n q r ∧ PI 3 2 s' := by
  obtain ⟨hz, hL, hE, hn, hB, hc, hC⟩ := hP
  have hkw := kw_w 9 (by decide) (by decide)
  obtain ⟨q, e1, e2⟩ := spar_S (s := s) (a := x / 131072 % 10) (by omega) (b := x / 2097152 % 60) (by omega) h
  exact ⟨_, q, fun m => go_S h hkw.1 hkw.2 (by decide) ((step_S (by decide) h).trans e1), e2, ⟨hz, hL, hE, hn, hB, hc, hC⟩⟩
theorem read_P {Γ : cG} (h : rdl f n 0 (txt Γ)) : (sdRead f n s00).2.1 = 0 ∧ PI 3 2 (sdRead f n s00).1 := by
  rw [txt_o] at h
  have hln := h.1
  have hkw := kw_w 1 (by decide) (by decide)
  obtain ⟨q0, e0, r0⟩ := market_S (s := s00) (a := 1 + clN Γ 0 % 40) (by omega) (b := 1 + clN Γ 0 / 64 % 30) (by omega) (c := 1 + clN Γ 0 / 4096 % 30) (by omega) h
  have hm : sdRead f n s00 = sdLoop f n n (bsS s00 (nI (1 + clN Γ 0 % 40)) (nI (1 + clN Γ 0 / 64 % 30)) (nI (1 + clN Γ 0 / 4096 % 30)), S0 f n q0) := by
    unfold sdRead
    rw [← e0]
    show sdLoop f n n (if wdI f (tkN f n 0) 1 = true then sdMarket f n s00 (S0 f n 0) else _) = _
    rw [if_pos]
    rw [wd_word (by decide) h hkw.1 hkw.2 (by decide)]
    exact decide_eq_true rfl
  have hP0 : PI 0 0 (bsS s00 (nI (1 + clN Γ 0 % 40)) (nI (1 + clN Γ 0 / 64 % 30)) (nI (1 + clN Γ 0 / 4096 % 30))) := ⟨⟨rfl, rfl, rfl, rfl, rfl, rfl, rfl⟩, rfl, rfl, rfl, fun i e he => by simp [bsS, s00, mS0] at he, rfl, fun i e he => by simp [bsS, s00, mS0] at he⟩
  obtain ⟨s1, q1, j1, l1, a1, b1, c1⟩ := kb_P (by decide) hP0 r0
  obtain ⟨s2, q2, j2, l2, a2, b2, c2⟩ := kb_P (by decide) c1 b1
  obtain ⟨s3, q3, j3, l3, a3, b3, c3⟩ := kb_P (by decide) c2 b2
  obtain ⟨s4, q4, a4, b4, c4⟩ := cus_P (by decide) c3 b3
  obtain ⟨s5, q5, a5, b5, c5⟩ := cus_P (by decide) c4 b4
  obtain ⟨s6, q6, a6, b6, c6⟩ := spa_P c5 b5
  have hn9 : 9 ≤ n := by
    have x1 : (cTx 1).length = 6 := by decide +kernel
    have x2 : (cTx 2).length = 5 := by decide +kernel
    unfold oH oKB oB at hln
    simp only [List.length_append, List.length_cons, x1, x2] at hln
    omega
  have e : sdLoop f n n (bsS s00 (nI (1 + clN Γ 0 % 40)) (nI (1 + clN Γ 0 / 64 % 30)) (nI (1 + clN Γ 0 / 4096 % 30)), S0 f n q0) = (s6, S0 f n q6) := by
    obtain ⟨w, hw⟩ : ∃ w, n = w + 1 + 1 + 1 + j3 + j2 + j1 := ⟨n - (3 + j3 + j2 + j1), by omega⟩
    have : ∀ m, m = w + 1 + 1 + 1 + j3 + j2 + j1 → sdLoop f n m (bsS s00 (nI (1 + clN Γ 0 % 40)) (nI (1 + clN Γ 0 / 64 % 30)) (nI (1 + clN Γ 0 / 4096 % 30)), S0 f n q0) = (s6, S0 f n q6) := fun m hm2 => by
      rw [hm2, a1, a2, a3, a4, a5, a6, end_S b6]
    exact this n hw
  rw [hm, e]
  exact ⟨rfl, c6⟩
end P
