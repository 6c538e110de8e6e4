-- behind: 24
-- the model's market: one row of ints
section R
variable {Γ : cG} {r : cRm} {M : cM} {Φ : cRes → cAS → Prop} {pc : Nat} {L : List (Option Value)} {st : List Value} {σ : cAS} {I : Nat → Nat → Int32}
theorem WP.iaN {a b : Nat} (d : decode (mC M) pc = .ok (.iadd, 1)) (k : WP Γ r M Φ (pc + 1) L (.int (nI (a + b)) :: st) σ) : WP Γ r M Φ pc L (.int (nI b) :: .int (nI a) :: st) σ := WP.iadd d (by rw [nI_add]; exact k)
theorem WP.ia0 {x : Int32} (d : decode (mC M) pc = .ok (.iadd, 1)) (k : WP Γ r M Φ (pc + 1) L (.int x :: st) σ) : WP Γ r M Φ pc L (.int 0 :: .int x :: st) σ := WP.iadd d (by rw [Int32.add_zero]; exact k)
theorem WP.imN {a b : Nat} (d : decode (mC M) pc = .ok (.imul, 1)) (k : WP Γ r M Φ (pc + 1) L (.int (nI (a * b)) :: st) σ) : WP Γ r M Φ pc L (.int (nI b) :: .int (nI a) :: st) σ := WP.imul d (by rw [pk_mul]; exact k)
theorem WP.ialdv {a n k : Nat} (ht : aT σ a = (11, n)) (hk : k < n) (hn : n ≤ 2147483647) {v : Int32} (hv : I a k = v) (d : decode (mC M) pc = .ok (.iaload, 1)) (kk : WP Γ r M Φ (pc + 1) L (.int v :: st) (wI σ I)) : WP Γ r M Φ pc L (.int (nI k) :: .ref a :: st) (wI σ I) := WP.iald ht hk hn d (by rw [hv]; exact kk)
end R
def uw (g : Nat → Int32) (k : Nat) (v : Int32) : Nat → Int32 := fun j => if j = k then v else g j
theorem uw_ne {g : Nat → Int32} {k j : Nat} {v : Int32} (h : j ≠ k) : uw g k v j = g j := if_neg h
theorem uw_at {g : Nat → Int32} {k j : Nat} {v : Int32} (h : j = k) : uw g k v j = v := if_pos h
theorem up_row (I : Nat → Nat → Int32) (a k : Nat) (v : Int32) : up I a k v a = uw (I a) k v := funext fun j => by
  rw [up_eq]
  unfold uw
  by_cases h : j = k <;> simp [h]
theorem up_ne {I : Nat → Nat → Int32} {a k b : Nat} {v : Int32} (h : b ≠ a) : up I a k v b = I b := funext fun j => by rw [up_eq, if_neg (fun q => h q.1)]
def frB (I I' : Nat → Nat → Int32) (a : Nat) : Prop := ∀ b, b ≠ a → I' b = I b
theorem frB.rf {I : Nat → Nat → Int32} {a : Nat} : frB I I a := fun _ _ => rfl
theorem frB.up {I I' : Nat → Nat → Int32} {a k : Nat} {v : Int32} (h : frB I I' a) : frB I (up I' a k v) a := fun b hb => (up_ne hb).trans (h b hb)
theorem frB.trans {I I' I'' : Nat → Nat → Int32} {a : Nat} (h : frB I I' a) (h' : frB I' I'' a) : frB I I'' a := fun b hb => (h' b hb).trans (h b hb)
def zIx (j : Nat) : Nat := match j with
  | 0 => 13
  | 1 => 14
  | 2 => 15
  | 3 => 0
  | 4 => 4
  | 5 => 5
  | 6 => 10
  | 7 => 11
  | 8 => 12
  | 9 => 8
  | 10 => 9
  | _ => 6
theorem zIx_lt : ∀ j, j < 12 → zIx j < 16 ∧ zIx j ≠ 1 ∧ zIx j ≠ 2 ∧ zIx j ≠ 3 ∧ zIx j ≠ 7 := by decide
theorem zIx_inj : ∀ i, i < 12 → ∀ j, j < 12 → zIx i = zIx j → i = j := by decide
def gZ (g z : Nat → Int32) : Prop := ∀ j, j < 12 → g (zIx j) = z j
def gBk (g : Nat → Int32) (i : Nat) (e : mBk) : Prop := g (16 + 6 * i) = nI e.1 ∧ g (16 + 6 * i + 1) = e.2.1 ∧ g (16 + 6 * i + 2) = e.2.2.1 ∧ (e.2.2.2.1 ≠ -1 → g (16 + 6 * i + 3) = e.2.2.2.1) ∧ g (16 + 6 * i + 4) = e.2.2.2.2.1 ∧ g (16 + 6 * i + 5) = e.2.2.2.2.2
def gC (g : Nat → Int32) (i : Nat) (e : mCu) : Prop := g (40 + 7 * i) = nI e.1 ∧ g (40 + 7 * i + 1) = e.2.2.1 ∧ g (40 + 7 * i + 2) = e.2.2.2.1 ∧ g (40 + 7 * i + 3) = e.2.2.2.2.1 ∧ g (40 + 7 * i + 4) = e.2.2.2.2.2.1 ∧ g (40 + 7 * i + 5) = e.2.2.2.2.2.2 ∧ g (40 + 7 * i + 6) = e.2.1
def gL (g : Nat → Int32) (i : Nat) (e : mLf) : Prop := g (110 + 3 * i) = e.1 ∧ g (110 + 3 * i + 1) = e.2.1 ∧ g (110 + 3 * i + 2) = e.2.2
def gE (g : Nat → Int32) (i : Nat) (e : mEv) : Prop := g (290 + 3 * i) = e.1 ∧ g (290 + 3 * i + 1) = e.2.1 ∧ g (290 + 3 * i + 2) = e.2.2
def gBs (g : Nat → Int32) (l : List mBk) : Prop := g 1 = nI l.length ∧ l.length ≤ 4 ∧ (∀ i e, l[i]? = some e → gBk g i e) ∧ ∀ i, l.length ≤ i → i < 4 → g (16 + 6 * i + 4) = 0 ∧ g (16 + 6 * i + 5) = 0
def gCs (g : Nat → Int32) (l : List mCu) : Prop := g 2 = nI l.length ∧ l.length ≤ 10 ∧ ∀ i e, l[i]? = some e → gC g i e
def gLs (g : Nat → Int32) (l : List mLf) : Prop := g 3 = nI l.length ∧ l.length ≤ 60 ∧ ∀ i e, l[i]? = some e → gL g i e
def gEs (g : Nat → Int32) (l : List mEv) : Prop := g 7 = nI l.length ∧ l.length ≤ 30 ∧ ∀ i e, l[i]? = some e → gE g i e
def gAt (g : Nat → Int32) (s : mS) : Prop := gZ g s.1 ∧ gBs g s.2.1 ∧ gLs g s.2.2.1 ∧ gCs g s.2.2.2.1 ∧ gEs g s.2.2.2.2
section F
variable {g g' : Nat → Int32}
theorem gZ.kp {z : Nat → Int32} (h : gZ g z) (hf : ∀ k, k < 16 → k ≠ 1 → k ≠ 2 → k ≠ 3 → k ≠ 7 → g' k = g k) : gZ g' z := fun j hj => by
  obtain ⟨h1, h2, h3, h4, h5⟩ := zIx_lt j hj
  rw [hf _ h1 h2 h3 h4 h5]
  exact h j hj
theorem gBs.kp {l : List mBk} (h : gBs g l) (hf : ∀ k, k = 1 ∨ (16 ≤ k ∧ k < 40) → g' k = g k) : gBs g' l := by
  obtain ⟨h1, h2, h3, h4⟩ := h
  refine ⟨by rw [hf 1 (Or.inl rfl)]; exact h1, h2, fun i e he => ?_, fun i c1 c2 => ?_⟩
  · have hi := gE_lt he
    unfold gBk
    rw [hf (16 + 6 * i) (by omega), hf (16 + 6 * i + 1) (by omega), hf (16 + 6 * i + 2) (by omega), hf (16 + 6 * i + 3) (by omega), hf (16 + 6 * i + 4) (by omega), hf (16 + 6 * i + 5) (by omega)]
    exact h3 i e he
  · rw [hf (16 + 6 * i + 4) (by omega), hf (16 + 6 * i + 5) (by omega)]
    exact h4 i c1 c2
theorem gC.kp {i : Nat} {e : mCu} (h : gC g i e) (hi : i < 10) (hf : ∀ k, 40 + 7 * i ≤ k → k < 47 + 7 * i → g' k = g k) : gC g' i e := by
  unfold gC
  rw [hf (40 + 7 * i) (by omega) (by omega), hf (40 + 7 * i + 1) (by omega) (by omega), hf (40 + 7 * i + 2) (by omega) (by omega), hf (40 + 7 * i + 3) (by omega) (by omega), hf (40 + 7 * i + 4) (by omega) (by omega), hf (40 + 7 * i + 5) (by omega) (by omega), hf (40 + 7 * i + 6) (by omega) (by omega)]
  exact h
theorem gL.kp {i : Nat} {e : mLf} (h : gL g i e) (hf : ∀ k, 110 + 3 * i ≤ k → k < 113 + 3 * i → g' k = g k) : gL g' i e := by
  unfold gL
  rw [hf (110 + 3 * i) (by omega) (by omega), hf (110 + 3 * i + 1) (by omega) (by omega), hf (110 + 3 * i + 2) (by omega) (by omega)]
  exact h
theorem gE.kp {i : Nat} {e : mEv} (h : gE g i e) (hf : ∀ k, 290 + 3 * i ≤ k → k < 293 + 3 * i → g' k = g k) : gE g' i e := by
  unfold gE
  rw [hf (290 + 3 * i) (by omega) (by omega), hf (290 + 3 * i + 1) (by omega) (by omega), hf (290 + 3 * i + 2) (by omega) (by omega)]
  exact h
theorem gBk.kp {i : Nat} {e : mBk} (h : gBk g i e) (hf : ∀ k, 16 + 6 * i ≤ k → k < 22 + 6 * i → g' k = g k) : gBk g' i e := by
  unfold gBk
  rw [hf (16 + 6 * i) (by omega) (by omega), hf (16 + 6 * i + 1) (by omega) (by omega), hf (16 + 6 * i + 2) (by omega) (by omega), hf (16 + 6 * i + 3) (by omega) (by omega), hf (16 + 6 * i + 4) (by omega) (by omega), hf (16 + 6 * i + 5) (by omega) (by omega)]
  exact h
theorem gCs.kp {l : List mCu} (h : gCs g l) (hf : ∀ k, k = 2 ∨ (40 ≤ k ∧ k < 110) → g' k = g k) : gCs g' l :=
  ⟨by rw [hf 2 (Or.inl rfl)]; exact h.1, h.2.1, fun i e he => (h.2.2 i e he).kp (by have := gE_lt he; have := h.2.1; omega) (fun k c1 c2 => hf k (by have := gE_lt he; have := h.2.1; omega))⟩
theorem gLs.kp {l : List mLf} (h : gLs g l) (hf : ∀ k, k = 3 ∨ (110 ≤ k ∧ k < 290) → g' k = g k) : gLs g' l :=
  ⟨by rw [hf 3 (Or.inl rfl)]; exact h.1, h.2.1, fun i e he => (h.2.2 i e he).kp (fun k c1 c2 => hf k (by have := gE_lt he; have := h.2.1; omega))⟩
theorem gEs.kp {l : List mEv} (h : gEs g l) (hf : ∀ k, k = 7 ∨ (290 ≤ k ∧ k < 380) → g' k = g k) : gEs g' l :=
  ⟨by rw [hf 7 (Or.inl rfl)]; exact h.1, h.2.1, fun i e he => (h.2.2 i e he).kp (fun k c1 c2 => hf k (by have := gE_lt he; have := h.2.1; omega))⟩
theorem gAt.ev {s : mS} {l : List mEv} (h : gAt g s) (hf : ∀ k, k < 380 → k ≠ 7 → k < 290 → g' k = g k) (hl : gEs g' l) : gAt g' (s.1, s.2.1, s.2.2.1, s.2.2.2.1, l) :=
  ⟨h.1.kp (fun k _ _ _ _ _ => hf k (by omega) (by omega) (by omega)), h.2.1.kp (fun k _ => hf k (by omega) (by omega) (by omega)), h.2.2.1.kp (fun k _ => hf k (by omega) (by omega) (by omega)), h.2.2.2.1.kp (fun k _ => hf k (by omega) (by omega) (by omega)), hl⟩
theorem gAt.cu {s : mS} {l : List mCu} (h : gAt g s) (hf : ∀ k, k < 380 → k ≠ 2 → (k < 40 ∨ 110 ≤ k) → g' k = g k) (hl : gCs g' l) : gAt g' (s.1, s.2.1, s.2.2.1, l, s.2.2.2.2) :=
  ⟨h.1.kp (fun k _ _ _ _ _ => hf k (by omega) (by omega) (by omega)), h.2.1.kp (fun k _ => hf k (by omega) (by omega) (by omega)), h.2.2.1.kp (fun k _ => hf k (by omega) (by omega) (by omega)), hl, h.2.2.2.2.kp (fun k _ => hf k (by omega) (by omega) (by omega))⟩
theorem gAt.lf {s : mS} {l : List mLf} (h : gAt g s) (hf : ∀ k, k < 380 → k ≠ 3 → (k < 110 ∨ 290 ≤ k) → g' k = g k) (hl : gLs g' l) : gAt g' (s.1, s.2.1, l, s.2.2.2) :=
  ⟨h.1.kp (fun k _ _ _ _ _ => hf k (by omega) (by omega) (by omega)), h.2.1.kp (fun k _ => hf k (by omega) (by omega) (by omega)), hl, h.2.2.2.1.kp (fun k _ => hf k (by omega) (by omega) (by omega)), h.2.2.2.2.kp (fun k _ => hf k (by omega) (by omega) (by omega))⟩
theorem gAt.bk {s : mS} {l : List mBk} (h : gAt g s) (hf : ∀ k, k < 380 → k ≠ 1 → (k < 16 ∨ 40 ≤ k) → g' k = g k) (hl : gBs g' l) : gAt g' (s.1, l, s.2.2) :=
  ⟨h.1.kp (fun k _ _ _ _ _ => hf k (by omega) (by omega) (by omega)), hl, h.2.2.1.kp (fun k _ => hf k (by omega) (by omega) (by omega)), h.2.2.2.1.kp (fun k _ => hf k (by omega) (by omega) (by omega)), h.2.2.2.2.kp (fun k _ => hf k (by omega) (by omega) (by omega))⟩
theorem gZ.up {z : Nat → Int32} (h : gZ g z) {j : Nat} (hj : j < 12) (v : Int32) : gZ (uw g (zIx j) v) (zup z j v) := fun i hi => by
  rw [zup_eq]
  by_cases e : i = j
  · subst e
    rw [uw_at rfl, if_pos rfl]
  · rw [uw_ne (fun q => e (zIx_inj i hi j hj q)), if_neg e]
    exact h i hi
theorem gAt.z {s : mS} (h : gAt g s) {j : Nat} (hj : j < 12) (v : Int32) : gAt (uw g (zIx j) v) (zup s.1 j v, s.2) := by
  obtain ⟨h1, h2, h3, h4, h5⟩ := zIx_lt j hj
  exact ⟨h.1.up hj v, h.2.1.kp (fun k _ => uw_ne (by omega)), h.2.2.1.kp (fun k _ => uw_ne (by omega)), h.2.2.2.1.kp (fun k _ => uw_ne (by omega)), h.2.2.2.2.kp (fun k _ => uw_ne (by omega))⟩
end F
def tkR (g : Nat → Int32) (c fi wi wh n : Nat) : Nat → Int32 := fun j => if j = c then nI n else if fi + wi * wh ≤ j ∧ j < fi + wi * n then g (j + wi) else g j
theorem gX_er {α : Type} {l : List α} {i j : Nat} {e : α} (h : (l.eraseIdx i)[j]? = some e) : (j < i ∧ l[j]? = some e) ∨ (i ≤ j ∧ l[j + 1]? = some e) := by
  rw [List.getElem?_eraseIdx] at h
  split at h
  · exact Or.inl ⟨by assumption, h⟩
  · exact Or.inr ⟨by omega, h⟩
section F
variable {g : Nat → Int32} {i : Nat}
theorem er_len {α : Type} {l : List α} {i : Nat} (hi : i < l.length) : (l.eraseIdx i).length = l.length - 1 := by
  rw [List.length_eraseIdx, if_pos hi]
theorem gEs.rm {l : List mEv} (h : gEs g l) (hi : i < l.length) : gEs (tkR g 7 290 3 i (l.length - 1)) (l.eraseIdx i) := by
  have hl := er_len hi
  have h2 := h.2.1
  refine ⟨by rw [hl]; exact if_pos rfl, by rw [hl]; omega, fun j e he => ?_⟩
  have hj := gE_lt he
  rw [hl] at hj
  unfold gE tkR
  rcases gX_er he with ⟨c, q⟩ | ⟨c, q⟩
  · rw [if_neg (by omega), if_neg (by omega), if_neg (by omega), if_neg (by omega), if_neg (by omega), if_neg (by omega)]
    exact h.2.2 j e q
  · rw [if_neg (by omega), if_pos (by omega), if_neg (by omega), if_pos (by omega), if_neg (by omega), if_pos (by omega)]
    exact h.2.2 _ e q
theorem gLs.rm {l : List mLf} (h : gLs g l) (hi : i < l.length) : gLs (tkR g 3 110 3 i (l.length - 1)) (l.eraseIdx i) := by
  have hl := er_len hi
  have h2 := h.2.1
  refine ⟨by rw [hl]; exact if_pos rfl, by rw [hl]; omega, fun j e he => ?_⟩
  have hj := gE_lt he
  rw [hl] at hj
  unfold gL tkR
  rcases gX_er he with ⟨c, q⟩ | ⟨c, q⟩
  · rw [if_neg (by omega), if_neg (by omega), if_neg (by omega), if_neg (by omega), if_neg (by omega), if_neg (by omega)]
    exact h.2.2 j e q
  · rw [if_neg (by omega), if_pos (by omega), if_neg (by omega), if_pos (by omega), if_neg (by omega), if_pos (by omega)]
    exact h.2.2 _ e q
theorem gCs.rm {l : List mCu} (h : gCs g l) (hi : i < l.length) : gCs (tkR g 2 40 7 i (l.length - 1)) (l.eraseIdx i) := by
  have hl := er_len hi
  have h2 := h.2.1
  refine ⟨by rw [hl]; exact if_pos rfl, by rw [hl]; omega, fun j e he => ?_⟩
  have hj := gE_lt he
  rw [hl] at hj
  unfold gC tkR
  rcases gX_er he with ⟨c, q⟩ | ⟨c, q⟩
  · rw [if_neg (by omega), if_neg (by omega), if_neg (by omega), if_neg (by omega), if_neg (by omega), if_neg (by omega), if_neg (by omega), if_neg (by omega), if_neg (by omega), if_neg (by omega), if_neg (by omega), if_neg (by omega), if_neg (by omega), if_neg (by omega)]
    exact h.2.2 j e q
  · rw [if_neg (by omega), if_pos (by omega), if_neg (by omega), if_pos (by omega), if_neg (by omega), if_pos (by omega), if_neg (by omega), if_pos (by omega), if_neg (by omega), if_pos (by omega), if_neg (by omega), if_pos (by omega), if_neg (by omega), if_pos (by omega)]
    have := h.2.2 _ e q
    unfold gC at this
    exact this
theorem gEs.app {l : List mEv} (h : gEs g l) (hl : l.length < 30) (x y z : Int32) : gEs (uw (uw (uw (uw g (290 + 3 * l.length) x) (290 + 3 * l.length + 1) y) (290 + 3 * l.length + 2) z) 7 (nI (l.length + 1))) (l ++ [(x, y, z)]) := by
  refine ⟨by simp [uw_at], by simp; omega, fun j e he => ?_⟩
  rcases gE_app he with ⟨c, q⟩ | ⟨rfl, rfl⟩
  · exact (h.2.2 j e q).kp (fun k c1 c2 => by simp (disch := omega) only [uw_ne])
  · unfold gE
    simp (disch := omega) only [uw_ne, uw_at]
    trivial
end F
section T
variable (Γ : cG) {σ : cAS} {a : Nat}
theorem CX9_ofBaker (k : Nat) : Ctr Γ (0, 0, 0, 0) MX9_ofBaker [.int (nI k)] σ (rV (some (.int (nI (16 + 6 * k)))) σ) := by
  refine Ctr.go rfl (by decide) rfl rfl ?_
  refine WP.bipush (pc := 0) (v := 16) dX9_ofBaker_0 (by decide) ?_
  refine WP.bipush (pc := 2) (v := 6) dX9_ofBaker_2 (by decide) ?_
  refine WP.iload_n (pc := 4) dX9_ofBaker_4 rfl ?_
  refine WP.imN (pc := 5) (a := 6) dX9_ofBaker_5 ?_
  refine WP.iaN (pc := 6) (a := 16) dX9_ofBaker_6 ?_
  refine WP.iret (pc := 7) rfl dX9_ofBaker_7 ?_
  exact ⟨rfl, rfl⟩
theorem CX9_ofCustomer (k : Nat) : Ctr Γ (0, 0, 0, 0) MX9_ofCustomer [.int (nI k)] σ (rV (some (.int (nI (40 + 7 * k)))) σ) := by
  refine Ctr.go rfl (by decide) rfl rfl ?_
  refine WP.bipush (pc := 0) (v := 40) dX9_ofCustomer_0 (by decide) ?_
  refine WP.bipush (pc := 2) (v := 7) dX9_ofCustomer_2 (by decide) ?_
  refine WP.iload_n (pc := 4) dX9_ofCustomer_4 rfl ?_
  refine WP.imN (pc := 5) (a := 7) dX9_ofCustomer_5 ?_
  refine WP.iaN (pc := 6) (a := 40) dX9_ofCustomer_6 ?_
  refine WP.iret (pc := 7) rfl dX9_ofCustomer_7 ?_
  exact ⟨rfl, rfl⟩
theorem CX9_ofLoaf (k : Nat) : Ctr Γ (0, 0, 0, 0) MX9_ofLoaf [.int (nI k)] σ (rV (some (.int (nI (110 + 3 * k)))) σ) := by
  refine Ctr.go rfl (by decide) rfl rfl ?_
  refine WP.bipush (pc := 0) (v := 110) dX9_ofLoaf_0 (by decide) ?_
  refine WP.iconst (pc := 2) (v := 3) dX9_ofLoaf_2 (by decide) ?_
  refine WP.iload_n (pc := 3) dX9_ofLoaf_3 rfl ?_
  refine WP.imN (pc := 4) (a := 3) dX9_ofLoaf_4 ?_
  refine WP.iaN (pc := 5) (a := 110) dX9_ofLoaf_5 ?_
  refine WP.iret (pc := 6) rfl dX9_ofLoaf_6 ?_
  exact ⟨rfl, rfl⟩
theorem CX9_ofEvent (k : Nat) : Ctr Γ (0, 0, 0, 0) MX9_ofEvent [.int (nI k)] σ (rV (some (.int (nI (290 + 3 * k)))) σ) := by
  refine Ctr.go rfl (by decide) rfl rfl ?_
  refine WP.sipush (pc := 0) (v := 290) dX9_ofEvent_0 (by decide) ?_
  refine WP.iconst (pc := 3) (v := 3) dX9_ofEvent_3 (by decide) ?_
  refine WP.iload_n (pc := 4) dX9_ofEvent_4 rfl ?_
  refine WP.imN (pc := 5) (a := 3) dX9_ofEvent_5 ?_
  refine WP.iaN (pc := 6) (a := 290) dX9_ofEvent_6 ?_
  refine WP.iret (pc := 7) rfl dX9_ofEvent_7 ?_
  exact ⟨rfl, rfl⟩
theorem CX9_positive (x : Int32) : Ctr Γ (0, 0, 0, 0) MX9_positive [.int x] σ (rV (some (.int (if x < 0 then 0 else x))) σ) := by
  refine Ctr.go rfl (by decide) rfl rfl ?_
  refine WP.iload_n (pc := 0) dX9_positive_0 rfl ?_
  refine WP.if_ge (pc := 1) (tgt := 8) dX9_positive_1 (by decide) (fun h => ?_) (fun h => ?_)
  · rw [if_neg (Int32.not_lt.mpr h)]
    refine WP.iload_n (pc := 8) dX9_positive_8 rfl ?_
    refine WP.iret (pc := 9) rfl dX9_positive_9 ?_
    exact ⟨rfl, rfl⟩
  · rw [if_pos (Int32.not_le.mp h)]
    refine WP.iconst (pc := 4) (v := 0) dX9_positive_4 (by decide) ?_
    refine WP.goto (pc := 5) (tgt := 9) dX9_positive_5 (by decide) ?_
    refine WP.iret (pc := 9) rfl dX9_positive_9 ?_
    exact ⟨rfl, rfl⟩
theorem CX9_isBetween (x lo hi : Int32) : Ctr Γ (0, 0, 0, 0) MX9_isBetween [.int x, .int lo, .int hi] σ (rV (some (.int (bI (decide (lo ≤ x) && decide (x ≤ hi))))) σ) := by
  refine Ctr.go rfl (by decide) rfl rfl ?_
  refine WP.iload_n (pc := 0) dX9_isBetween_0 rfl ?_
  refine WP.iload_n (pc := 1) dX9_isBetween_1 rfl ?_
  refine WP.icmp_lt (pc := 2) (tgt := 14) dX9_isBetween_2 (by decide) (fun h1 => ?_) (fun h1 => ?_)
  · refine WP.iconst (pc := 14) (v := 0) dX9_isBetween_14 (by decide) ?_
    refine WP.zret (pc := 15) rfl (by decide) dX9_isBetween_15 ?_
    rw [decide_eq_false (p := lo ≤ x) (Int32.not_le.mpr h1)]
    exact ⟨rfl, rfl⟩
  · refine WP.iload_n (pc := 5) dX9_isBetween_5 rfl ?_
    refine WP.iload_n (pc := 6) dX9_isBetween_6 rfl ?_
    refine WP.icmp_gt (pc := 7) (tgt := 14) dX9_isBetween_7 (by decide) (fun h2 => ?_) (fun h2 => ?_)
    · refine WP.iconst (pc := 14) (v := 0) dX9_isBetween_14 (by decide) ?_
      refine WP.zret (pc := 15) rfl (by decide) dX9_isBetween_15 ?_
      rw [decide_eq_false (p := x ≤ hi) (Int32.not_le.mpr h2), Bool.and_false]
      exact ⟨rfl, rfl⟩
    · refine WP.iconst (pc := 10) (v := 1) dX9_isBetween_10 (by decide) ?_
      refine WP.goto (pc := 11) (tgt := 15) dX9_isBetween_11 (by decide) ?_
      refine WP.zret (pc := 15) rfl (by decide) dX9_isBetween_15 ?_
      rw [decide_eq_true (p := lo ≤ x) (Int32.not_lt.mp h1), decide_eq_true (p := x ≤ hi) (Int32.not_lt.mp h2)]
      exact ⟨rfl, rfl⟩
theorem LX9_takeOut (hg : aT σ a = (11, 380)) {c fi wi wh n : Nat} (hc : c < fi) (h380 : fi + wi * (n + 1) ≤ 380) (hw : wh ≤ n) {Φ : cRes → cAS → Prop} (g0 : Nat → Int32) : ∀ d k (I : Nat → Nat → Int32), k + d = fi + wi * n → fi + wi * wh ≤ k → (I a = fun j => if j = c then nI n else if fi + wi * wh ≤ j ∧ j < k then g0 (j + wi) else g0 j) → (∀ I', frB I I' a → I' a = tkR g0 c fi wi wh n → Φ (.inl none) (wI σ I')) →
    WP Γ (0, 0, 0, 0) MX9_takeOut Φ 15 [some (.ref a), some (.int (nI c)), some (.int (nI fi)), some (.int (nI wi)), some (.int (nI wh)), some (.int (nI k))] [] (wI σ I) := by
  have e1 : wi * (n + 1) = wi * n + wi := Nat.mul_succ _ _
  intro d
  induction d with
  | zero =>
    intro k I hk hk2 hI H
    refine WP.iload (pc := 15) dX9_takeOut_15 rfl ?_
    refine WP.iload_n (pc := 17) dX9_takeOut_17 rfl ?_
    refine WP.iload_n (pc := 18) dX9_takeOut_18 rfl ?_
    refine WP.aload_n (pc := 19) dX9_takeOut_19 rfl ?_
    refine WP.iload_n (pc := 20) dX9_takeOut_20 rfl ?_
    refine WP.ialdv (pc := 21) hg (by omega) (by omega) (v := (nI n)) (by rw [hI]; exact if_pos rfl) dX9_takeOut_21 ?_
    refine WP.imN (pc := 22) dX9_takeOut_22 ?_
    refine WP.iaN (pc := 23) dX9_takeOut_23 ?_
    refine WP.icmp_ge (pc := 24) (tgt := 43) dX9_takeOut_24 (by decide) (fun h1 => ?_) (fun h1 => ?_)
    · skip
      refine WP.vret (pc := 43) rfl dX9_takeOut_43 ?_
      refine H I frB.rf ?_
      rw [hI, show k = fi + wi * n by omega]
      rfl
    · exact absurd (by rw [show k = fi + wi * n by omega]; exact Int32.le_refl _) h1
  | succ d ih =>
    intro k I hk hk2 hI H
    refine WP.iload (pc := 15) dX9_takeOut_15 rfl ?_
    refine WP.iload_n (pc := 17) dX9_takeOut_17 rfl ?_
    refine WP.iload_n (pc := 18) dX9_takeOut_18 rfl ?_
    refine WP.aload_n (pc := 19) dX9_takeOut_19 rfl ?_
    refine WP.iload_n (pc := 20) dX9_takeOut_20 rfl ?_
    refine WP.ialdv (pc := 21) hg (by omega) (by omega) (v := (nI n)) (by rw [hI]; exact if_pos rfl) dX9_takeOut_21 ?_
    refine WP.imN (pc := 22) dX9_takeOut_22 ?_
    refine WP.iaN (pc := 23) dX9_takeOut_23 ?_
    refine WP.icmp_ge (pc := 24) (tgt := 43) dX9_takeOut_24 (by decide) (fun h1 => ?_) (fun h1 => ?_)
    · exact absurd h1 (nI_ge (by omega) (by omega))
    · skip
      refine WP.aload_n (pc := 27) dX9_takeOut_27 rfl ?_
      refine WP.iload (pc := 28) dX9_takeOut_28 rfl ?_
      refine WP.aload_n (pc := 30) dX9_takeOut_30 rfl ?_
      refine WP.iload (pc := 31) dX9_takeOut_31 rfl ?_
      refine WP.iload_n (pc := 33) dX9_takeOut_33 rfl ?_
      refine WP.iaN (pc := 34) dX9_takeOut_34 ?_
      refine WP.ialdv (pc := 35) hg (by omega) (by omega) (v := (g0 (k + wi))) (by rw [hI]; show (if _ then _ else _) = _; rw [if_neg (by omega), if_neg (by omega)]) dX9_takeOut_35 ?_
      refine WP.iast (pc := 36) hg (by omega) (by omega) dX9_takeOut_36 ?_
      refine WP.iinc (pc := 37) dX9_takeOut_37 rfl (nI_1 _) (by decide) rfl ?_
      refine WP.goto (pc := 40) (tgt := 15) dX9_takeOut_40 (by decide) ?_
      refine ih (k + 1) _ (by omega) (by omega) ?_ (fun I' f1 g1 => H I' (frB.rf.up.trans f1) g1)
      rw [up_row, hI]
      funext j
      unfold uw
      by_cases e : j = k
      · rw [if_pos e, if_neg (by omega), if_pos (by omega), e]
      · rw [if_neg e]
        dsimp only
        by_cases e2 : j = c
        · rw [if_pos e2, if_pos e2]
        · rw [if_neg e2, if_neg e2]
          by_cases e3 : fi + wi * wh ≤ j ∧ j < k
          · rw [if_pos e3, if_pos (by omega)]
          · rw [if_neg e3, if_neg (by omega)]
theorem CX9_takeOut (hg : aT σ a = (11, 380)) (c fi wi wh n : Nat) (hc : c < fi) (h380 : fi + wi * (n + 1) ≤ 380) (hw : wh ≤ n) {I : Nat → Nat → Int32} (hn : I a c = nI (n + 1)) : Ctr Γ (0, 0, 0, 0) MX9_takeOut [.ref a, .int (nI c), .int (nI fi), .int (nI wi), .int (nI wh)] (wI σ I) (rW σ (fun I' => frB I I' a ∧ I' a = tkR (I a) c fi wi wh n)) := by
  have e1 : wi * (n + 1) = wi * n + wi := Nat.mul_succ _ _
  have e2 : wi * wh ≤ wi * n := Nat.mul_le_mul_left _ hw
  refine Ctr.go rfl (by decide) rfl rfl ?_
  refine WP.aload_n (pc := 0) dX9_takeOut_0 rfl ?_
  refine WP.iload_n (pc := 1) dX9_takeOut_1 rfl ?_
  refine WP.dup2 (pc := 2) dX9_takeOut_2 rfl rfl ?_
  refine WP.ialdv (pc := 3) hg (by omega) (by omega) (v := (nI (n + 1))) (hn) dX9_takeOut_3 ?_
  refine WP.iconst (pc := 4) (v := 1) dX9_takeOut_4 (by decide) ?_
  refine WP.isub (pc := 5) dX9_takeOut_5 ?_
  rw [nI_pred]
  refine WP.iast (pc := 6) hg (by omega) (by omega) dX9_takeOut_6 ?_
  refine WP.iload_n (pc := 7) dX9_takeOut_7 rfl ?_
  refine WP.iload_n (pc := 8) dX9_takeOut_8 rfl ?_
  refine WP.iload (pc := 9) dX9_takeOut_9 rfl ?_
  refine WP.imN (pc := 11) dX9_takeOut_11 ?_
  refine WP.iaN (pc := 12) dX9_takeOut_12 ?_
  refine WP.istore (pc := 13) dX9_takeOut_13 (by decide) rfl ?_
  refine LX9_takeOut Γ hg hc h380 hw (I a) (wi * n - wi * wh) (fi + wi * wh) _ (by omega) (Nat.le_refl _) ?_ (fun I' f1 g1 => ⟨rfl, I', rfl, frB.rf.up.trans f1, g1⟩)
  rw [up_row]
  funext j
  unfold uw
  by_cases e : j = c
  · rw [if_pos e, if_pos e]
  · rw [if_neg e, if_neg e, if_neg (by omega)]
theorem LX9_tell (hg : aT σ a = (11, 380)) {I : Nat → Nat → Int32} {s : mS} (h : gAt (I a) s) (hl : s.2.2.2.2.length < 30) (t x y : Int32) {Φ : cRes → cAS → Prop} (H : ∀ I', frB I I' a → gAt (I' a) (s.1, s.2.1, s.2.2.1, s.2.2.2.1, s.2.2.2.2 ++ [(t, x, y)]) → Φ (.inl none) (wI σ I')) : WP Γ (1, 25, 0, 0) MX9_tell Φ 20 [some (.ref a), some (.int t), some (.int x), some (.int y), none] [] (wI σ I) := by
  have h7 : I a 7 = nI s.2.2.2.2.length := h.2.2.2.2.1
  refine WP.aload_n (pc := 20) dX9_tell_20 rfl ?_
  refine WP.bipush (pc := 21) (v := 7) dX9_tell_21 (by decide) ?_
  refine WP.ialdv (pc := 23) (k := 7) hg (by decide) (by omega) (v := (nI s.2.2.2.2.length)) (h7) dX9_tell_23 ?_
  refine WP.cS1 (pc := 24) (mc2 := 0) (ms2 := 0) kX9_82 (CX9_ofEvent Γ s.2.2.2.2.length) rfl ⟨Nat.le_of_ble_eq_true rfl, Nat.le_of_ble_eq_true rfl⟩ (Nat.le_of_ble_eq_true rfl) (Nat.le_of_ble_eq_true rfl) (Nat.le_of_ble_eq_true rfl) rfl dX9_tell_24 ?_
  refine WP.istore (pc := 27) dX9_tell_27 (by decide) rfl ?_
  refine WP.aload_n (pc := 29) dX9_tell_29 rfl ?_
  refine WP.iload (pc := 30) dX9_tell_30 rfl ?_
  refine WP.iconst (pc := 32) (v := 0) dX9_tell_32 (by decide) ?_
  refine WP.ia0 (pc := 33) dX9_tell_33 ?_
  refine WP.iload_n (pc := 34) dX9_tell_34 rfl ?_
  refine WP.iast (pc := 35) hg (by omega) (by omega) dX9_tell_35 ?_
  refine WP.aload_n (pc := 36) dX9_tell_36 rfl ?_
  refine WP.iload (pc := 37) dX9_tell_37 rfl ?_
  refine WP.iconst (pc := 39) (v := 1) dX9_tell_39 (by decide) ?_
  refine WP.iaN (pc := 40) (b := 1) dX9_tell_40 ?_
  refine WP.iload_n (pc := 41) dX9_tell_41 rfl ?_
  refine WP.iast (pc := 42) hg (by omega) (by omega) dX9_tell_42 ?_
  refine WP.aload_n (pc := 43) dX9_tell_43 rfl ?_
  refine WP.iload (pc := 44) dX9_tell_44 rfl ?_
  refine WP.iconst (pc := 46) (v := 2) dX9_tell_46 (by decide) ?_
  refine WP.iaN (pc := 47) (b := 2) dX9_tell_47 ?_
  refine WP.iload_n (pc := 48) dX9_tell_48 rfl ?_
  refine WP.iast (pc := 49) hg (by omega) (by omega) dX9_tell_49 ?_
  refine WP.aload_n (pc := 50) dX9_tell_50 rfl ?_
  refine WP.bipush (pc := 51) (v := 7) dX9_tell_51 (by decide) ?_
  refine WP.dup2 (pc := 53) dX9_tell_53 rfl rfl ?_
  refine WP.ialdv (pc := 54) (k := 7) hg (by decide) (by omega) (v := (nI s.2.2.2.2.length)) (by simp (disch := omega) only [up_row, uw_ne]; exact h7) dX9_tell_54 ?_
  refine WP.iconst (pc := 55) (v := 1) dX9_tell_55 (by decide) ?_
  refine WP.iaN (pc := 56) (b := 1) dX9_tell_56 ?_
  refine WP.iast (pc := 57) (k := 7) hg (by decide) (by omega) dX9_tell_57 ?_
  refine WP.vret (pc := 58) rfl dX9_tell_58 ?_
  refine H _ frB.rf.up.up.up.up ?_
  simp only [up_row]
  exact h.ev (fun k c1 c2 c3 => by simp (disch := omega) only [uw_ne]) (h.2.2.2.2.app hl t x y)
theorem CX9_tell (hg : aT σ a = (11, 380)) {I : Nat → Nat → Int32} {s : mS} (h : gAt (I a) s) (t x y : Int32) : Ctr Γ (1, 25, 0, 0) MX9_tell [.ref a, .int t, .int x, .int y] (wI σ I) (rW σ (fun I' => frB I I' a ∧ gAt (I' a) (s.1, s.2.1, s.2.2.1, s.2.2.2.1, evAdd s.2.2.2.2 (t, x, y)))) := by
  have h7 : I a 7 = nI s.2.2.2.2.length := h.2.2.2.2.1
  have hle := h.2.2.2.2.2.1
  refine Ctr.go rfl (by decide) rfl rfl ?_
  refine WP.aload_n (pc := 0) dX9_tell_0 rfl ?_
  refine WP.bipush (pc := 1) (v := 7) dX9_tell_1 (by decide) ?_
  refine WP.ialdv (pc := 3) (k := 7) hg (by decide) (by omega) (v := (nI s.2.2.2.2.length)) (h7) dX9_tell_3 ?_
  refine WP.bipush (pc := 4) (v := 30) dX9_tell_4 (by decide) ?_
  refine WP.icmp_ne (pc := 6) (tgt := 20) dX9_tell_6 (by decide) (fun h1 => ?_) (fun h1 => ?_)
  · have hl : s.2.2.2.2.length < 30 := by
      rcases Nat.lt_or_ge s.2.2.2.2.length 30 with q | q
      · exact q
      · exact absurd (by rw [show s.2.2.2.2.length = 30 by omega]; rfl) h1
    refine LX9_tell Γ hg h hl t x y (fun I' f1 g1 => ⟨rfl, I', rfl, f1, ?_⟩)
    unfold evAdd
    rw [if_neg (by omega)]
    exact g1
  · have hl : s.2.2.2.2.length = 30 := by
      rcases Nat.lt_or_ge s.2.2.2.2.length 30 with q | q
      · have := (nI_eq (a := s.2.2.2.2.length) (b := 30) (by omega) (by omega)).mp h1
        omega
      · omega
    refine WP.aload_n (pc := 9) dX9_tell_9 rfl ?_
    refine WP.bipush (pc := 10) (v := 7) dX9_tell_10 (by decide) ?_
    refine WP.sipush (pc := 12) (v := 290) dX9_tell_12 (by decide) ?_
    refine WP.iconst (pc := 15) (v := 3) dX9_tell_15 (by decide) ?_
    refine WP.iconst (pc := 16) (v := 0) dX9_tell_16 (by decide) ?_
    refine WP.cSw (pc := 17) (mc2 := 0) (ms2 := 0) kX9_78 (CX9_takeOut Γ hg 7 290 3 0 29 (by omega) (by omega) (by omega) (h7.trans (by rw [hl]))) rfl ⟨Nat.le_of_ble_eq_true rfl, Nat.le_of_ble_eq_true rfl⟩ (Nat.le_of_ble_eq_true rfl) (Nat.le_of_ble_eq_true rfl) (Nat.le_of_ble_eq_true rfl) rfl dX9_tell_17 (fun I1 ⟨f1, g1⟩ => ?_)
    have hr := h.2.2.2.2.rm (i := 0) (by omega)
    rw [hl, ← g1] at hr
    have h1' : gAt (I1 a) (s.1, s.2.1, s.2.2.1, s.2.2.2.1, s.2.2.2.2.eraseIdx 0) := h.ev (fun k c1 c2 c3 => by rw [g1]; unfold tkR; rw [if_neg (by omega), if_neg (by omega)]) hr
    refine LX9_tell Γ hg h1' (by show (s.2.2.2.2.eraseIdx 0).length < 30; rw [er_len (by omega)]; omega) t x y (fun I' f2 g2 => ⟨rfl, I', rfl, f1.trans f2, ?_⟩)
    unfold evAdd
    rw [if_pos (by omega)]
    have e0 : s.2.2.2.2.eraseIdx 0 = s.2.2.2.2.tail := by cases s.2.2.2.2 <;> rfl
    rw [← e0]
    exact g2
end T
