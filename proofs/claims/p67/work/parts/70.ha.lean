-- the keeper by hand: how its own numbers lie
abbrev mHB : Type := Int32 × Int32 × Int32 × Int32 × Int32
def rw5 (e : mHB) : Nat → Int32 := fun j => if j = 0 then e.1 else if j = 1 then e.2.1 else if j = 2 then e.2.2.1 else if j = 3 then e.2.2.2.1 else if j = 4 then e.2.2.2.2 else 0
def rw6 (e : mCu) : Nat → Int32 := fun j => if j = 0 then e.2.1 else if j = 1 then e.2.2.1 else if j = 2 then e.2.2.2.1 else if j = 3 then e.2.2.2.2.1 else if j = 4 then e.2.2.2.2.2.1 else if j = 5 then e.2.2.2.2.2.2 else 0
def rw3 (e : mEv) : Nat → Int32 := fun j => if j = 0 then e.1 else if j = 1 then e.2.1 else if j = 2 then e.2.2 else 0
def u1 (f : Nat → Int32) (k : Nat) (v : Int32) : Nat → Int32 := fun j => if j = k then v else f j
theorem aI_u1 (σ : cAS) (a k : Nat) (v : Int32) : aI (sI σ a k v) a = u1 (aI σ a) k v := by
  funext j
  rw [aI_sI]
  unfold u1
  by_cases h : j = k
  · rw [if_pos ⟨rfl, h⟩, if_pos h]
  · rw [if_neg (fun q => h q.2), if_neg h]
theorem aI_ne (σ : cAS) {a b k : Nat} {v : Int32} (h : b ≠ a) : aI (sI σ a k v) b = aI σ b := by
  funext j
  rw [aI_sI, if_neg (fun q => h q.1)]
theorem aR_ne (σ : cAS) {a b k : Nat} {v : Option Nat} (h : b ≠ a) : aR (sR σ a k v) b = aR σ b := by
  funext j
  rw [aR_sR, if_neg (fun q => h q.1)]
def rws {α : Type} (σ : cAS) (x h N c n : Nat) (rw : α → Nat → Int32) (l : List α) : Prop := ∀ (k : Nat) (e : α), l[k]? = some e → ∃ a, aR σ c k = some a ∧ aT σ a = (11, n) ∧ aI σ a = rw e ∧ (h + 6 ≤ a ∧ a < N) ∧ fre σ x a
def dst (σ : cAS) (c n : Nat) : Prop := ∀ j k a, j < k → k < n → aR σ c j = some a → aR σ c k ≠ some a
def hFx (σ : cAS) (x h : Nat) : Prop := (aT σ h = (10, 12) ∧ aT σ (h + 1) = (11, 3) ∧ aT σ (h + 2) = (14, 3) ∧ aT σ (h + 3) = (14, 10) ∧ aT σ (h + 4) = (14, 60) ∧ aT σ (h + 5) = (14, 2000)) ∧ (aR σ h 0 = some (h + 1) ∧ aR σ h 1 = some (h + 2) ∧ aR σ h 2 = some (h + 3) ∧ aR σ h 3 = some (h + 4) ∧ aR σ h 4 = some (h + 5)) ∧ ∀ a, h ≤ a → a < h + 6 → fre σ x a
abbrev hBd : Type := (Nat → Int32) × (Nat → Int32) × List mHB × List mCu × List mLf × List mEv
def hSt (σ : cAS) (x h N : Nat) (S : hBd) : Prop := (hFx σ x h ∧ h + 6 ≤ N ∧ fre σ x (N - 1)) ∧ aI σ h = S.1 ∧ aI σ (h + 1) = S.2.1 ∧ (rws σ x h N (h + 2) 5 rw5 S.2.2.1 ∧ dst σ (h + 2) S.2.2.1.length) ∧ (rws σ x h N (h + 3) 6 rw6 S.2.2.2.1 ∧ dst σ (h + 3) S.2.2.2.1.length) ∧ rws σ x h N (h + 4) 3 rw3 S.2.2.2.2.1 ∧ rws σ x h N (h + 5) 3 rw3 S.2.2.2.2.2
def hJ (σ : cAS) (x : Nat) (m : mX) (h N : Nat) (S : hBd) : Prop := xAt σ x m ∧ hSt σ x h N S
theorem rws.ext {α : Type} {σ τ : cAS} {x h N N' c n : Nat} {rw : α → Nat → Int32} {l : List α} (hr : rws σ x h N c n rw l) (h1 : aR τ c = aR σ c) (h2 : ∀ a, h + 6 ≤ a → a < N → fre σ x a → aT σ a = (11, n) → fre τ x a ∧ aT τ a = aT σ a ∧ aI τ a = aI σ a) (hN : N ≤ N') : rws τ x h N' c n rw l := fun k e he => by
  obtain ⟨a, a1, a2, a3, a4, a5⟩ := hr k e he
  obtain ⟨b1, b2, b3⟩ := h2 a a4.1 a4.2 a5 a2
  exact ⟨a, by rw [h1]; exact a1, by rw [b2]; exact a2, by rw [b3]; exact a3, ⟨a4.1, by omega⟩, b1⟩
theorem dst.ext {σ τ : cAS} {c n : Nat} (hd : dst σ c n) (h1 : aR τ c = aR σ c) : dst τ c n := fun j k a a1 a2 a3 => by
  rw [h1] at a3 ⊢
  exact hd j k a a1 a2 a3
section H
variable {σ τ : cAS} {x h N : Nat} {m : mX} {S : hBd}
theorem hJ.t0 (hj : hJ σ x m h N S) : aT σ h = (10, 12) := hj.2.1.1.1.1
theorem hJ.t1 (hj : hJ σ x m h N S) : aT σ (h + 1) = (11, 3) := hj.2.1.1.1.2.1
theorem hJ.t2 (hj : hJ σ x m h N S) : aT σ (h + 2) = (14, 3) := hj.2.1.1.1.2.2.1
theorem hJ.t3 (hj : hJ σ x m h N S) : aT σ (h + 3) = (14, 10) := hj.2.1.1.1.2.2.2.1
theorem hJ.t4 (hj : hJ σ x m h N S) : aT σ (h + 4) = (14, 60) := hj.2.1.1.1.2.2.2.2.1
theorem hJ.t5 (hj : hJ σ x m h N S) : aT σ (h + 5) = (14, 2000) := hj.2.1.1.1.2.2.2.2.2
theorem hJ.r0_0 (hj : hJ σ x m h N S) : aR σ h 0 = some (h + 1) := hj.2.1.1.2.1.1
theorem hJ.r0_1 (hj : hJ σ x m h N S) : aR σ h 1 = some (h + 2) := hj.2.1.1.2.1.2.1
theorem hJ.r0_2 (hj : hJ σ x m h N S) : aR σ h 2 = some (h + 3) := hj.2.1.1.2.1.2.2.1
theorem hJ.r0_3 (hj : hJ σ x m h N S) : aR σ h 3 = some (h + 4) := hj.2.1.1.2.1.2.2.2.1
theorem hJ.r0_4 (hj : hJ σ x m h N S) : aR σ h 4 = some (h + 5) := hj.2.1.1.2.1.2.2.2.2
theorem hJ.fr (hj : hJ σ x m h N S) {a : Nat} (h1 : h ≤ a) (h2 : a < h + 6) : fre σ x a := hj.2.1.1.2.2 a h1 h2
theorem hJ.fI (hj : hJ σ x m h N S) (k : Nat) : aI σ h k = S.1 k := congrFun hj.2.2.1 k
theorem hJ.bI (hj : hJ σ x m h N S) (k : Nat) : aI σ (h + 1) k = S.2.1 k := congrFun hj.2.2.2.1 k
theorem hJ.bk (hj : hJ σ x m h N S) {k : Nat} {e : mHB} (he : S.2.2.1[k]? = some e) : ∃ a, aR σ (h + 2) k = some a ∧ aT σ a = (11, 5) ∧ aI σ a = rw5 e ∧ (h + 6 ≤ a ∧ a < N) ∧ fre σ x a := hj.2.2.2.2.1.1 k e he
theorem hJ.qu (hj : hJ σ x m h N S) {k : Nat} {e : mCu} (he : S.2.2.2.1[k]? = some e) : ∃ a, aR σ (h + 3) k = some a ∧ aT σ a = (11, 6) ∧ aI σ a = rw6 e ∧ (h + 6 ≤ a ∧ a < N) ∧ fre σ x a := hj.2.2.2.2.2.1.1 k e he
theorem hJ.lf (hj : hJ σ x m h N S) {k : Nat} {e : mLf} (he : S.2.2.2.2.1[k]? = some e) : ∃ a, aR σ (h + 4) k = some a ∧ aT σ a = (11, 3) ∧ aI σ a = rw3 e ∧ (h + 6 ≤ a ∧ a < N) ∧ fre σ x a := hj.2.2.2.2.2.2.1 k e he
theorem hJ.ev (hj : hJ σ x m h N S) {k : Nat} {e : mEv} (he : S.2.2.2.2.2[k]? = some e) : ∃ a, aR σ (h + 5) k = some a ∧ aT σ a = (11, 3) ∧ aI σ a = rw3 e ∧ (h + 6 ≤ a ∧ a < N) ∧ fre σ x a := hj.2.2.2.2.2.2.2 k e he
theorem hJ.len5 {k : Nat} {l : List mHB} (h : k < l.length) : ∃ e, l[k]? = some e := ⟨_, List.getElem?_eq_getElem h⟩
/-- numbers of the keeper's own cells -/
theorem hJ.scal (hj : hJ σ x m h N S) (k : Nat) (v : Int32) : hJ (sI σ h k v) x m h N (u1 S.1 k v, S.2) := by
  have hf := hj.fr (Nat.le_refl _) (by omega)
  have e : ∀ a, h + 6 ≤ a → aI (sI σ h k v) a = aI σ a := fun a ha => aI_ne σ (by omega)
  refine ⟨hj.1.oth (kpX.sI hf), hj.2.1, by rw [aI_u1, hj.2.2.1], by rw [aI_ne σ (by omega)]; exact hj.2.2.2.1, ⟨hj.2.2.2.2.1.1.ext rfl (fun a a1 a2 a3 a4 => ⟨a3, rfl, e a a1⟩) (Nat.le_refl _), hj.2.2.2.2.1.2⟩, ⟨hj.2.2.2.2.2.1.1.ext rfl (fun a a1 a2 a3 a4 => ⟨a3, rfl, e a a1⟩) (Nat.le_refl _), hj.2.2.2.2.2.1.2⟩, hj.2.2.2.2.2.2.1.ext rfl (fun a a1 a2 a3 a4 => ⟨a3, rfl, e a a1⟩) (Nat.le_refl _), hj.2.2.2.2.2.2.2.ext rfl (fun a a1 a2 a3 a4 => ⟨a3, rfl, e a a1⟩) (Nat.le_refl _)⟩
theorem hJ.base (hj : hJ σ x m h N S) (k : Nat) (v : Int32) : hJ (sI σ (h + 1) k v) x m h N (S.1, u1 S.2.1 k v, S.2.2) := by
  have hf := hj.fr (a := h + 1) (by omega) (by omega)
  have e : ∀ a, h + 6 ≤ a → aI (sI σ (h + 1) k v) a = aI σ a := fun a ha => aI_ne σ (by omega)
  refine ⟨hj.1.oth (kpX.sI hf), hj.2.1, by rw [aI_ne σ (by omega)]; exact hj.2.2.1, by rw [aI_u1, hj.2.2.2.1], ⟨hj.2.2.2.2.1.1.ext rfl (fun a a1 a2 a3 a4 => ⟨a3, rfl, e a a1⟩) (Nat.le_refl _), hj.2.2.2.2.1.2⟩, ⟨hj.2.2.2.2.2.1.1.ext rfl (fun a a1 a2 a3 a4 => ⟨a3, rfl, e a a1⟩) (Nat.le_refl _), hj.2.2.2.2.2.1.2⟩, hj.2.2.2.2.2.2.1.ext rfl (fun a a1 a2 a3 a4 => ⟨a3, rfl, e a a1⟩) (Nat.le_refl _), hj.2.2.2.2.2.2.2.ext rfl (fun a a1 a2 a3 a4 => ⟨a3, rfl, e a a1⟩) (Nat.le_refl _)⟩
/-- a row's number -/
theorem rws.set {α : Type} {c n : Nat} {rw : α → Nat → Int32} {l : List α} (hr : rws σ x h N c n rw l) (hd : dst σ c l.length) {k a j : Nat} {v : Int32} {e e' : α} (he : l[k]? = some e) (ha : aR σ c k = some a) (hv : rw e' = u1 (rw e) j v) : rws (sI σ a j v) x h N c n rw (l.set k e') := fun k2 e2 he2 => by
  by_cases q : k2 = k
  · subst q
    rw [List.getElem?_set_self (gE_lt he)] at he2
    obtain ⟨a', a1, a2, a3, a4, a5⟩ := hr k2 e he
    have : a' = a := Option.some.inj (a1.symm.trans ha)
    subst this
    exact ⟨a', a1, a2, by rw [aI_u1, a3, ← hv, Option.some.inj he2], a4, a5⟩
  · rw [List.getElem?_set_ne (by omega)] at he2
    obtain ⟨a', a1, a2, a3, a4, a5⟩ := hr k2 e2 he2
    have hne : a' ≠ a := fun z => by
      subst z
      rcases Nat.lt_or_ge k k2 with w | w
      · exact hd k k2 a' w (gE_lt he2) ha a1
      · exact hd k2 k a' (by omega) (gE_lt he) a1 ha
    exact ⟨a', a1, a2, by rw [aI_ne σ hne]; exact a3, a4, a5⟩
theorem ne_of_T {a b : Nat} {p q : Nat × Nat} (h1 : aT σ a = p) (h2 : aT σ b = q) (h : p ≠ q) : a ≠ b := fun z => h (h1.symm.trans (z ▸ h2))
theorem hJ.bset (hj : hJ σ x m h N S) {k a j : Nat} {v : Int32} {e : mHB} (e' : mHB) (he : S.2.2.1[k]? = some e) (ha : aR σ (h + 2) k = some a) (hv : rw5 e' = u1 (rw5 e) j v) : hJ (sI σ a j v) x m h N (S.1, S.2.1, S.2.2.1.set k e', S.2.2.2) := by
  obtain ⟨a', b1, b2, b3, b4, b5⟩ := hj.bk he
  have : a' = a := Option.some.inj (b1.symm.trans ha)
  subst this
  have g : ∀ d, (∀ n, n ≠ 5 → aT σ d = (11, n) → aI (sI σ a' j v) d = aI σ d) := fun d n hn hd => aI_ne σ (ne_of_T hd b2 (by simp; omega))
  refine ⟨hj.1.oth (kpX.sI b5), hj.2.1, by rw [aI_ne σ (by omega)]; exact hj.2.2.1, by rw [aI_ne σ (by omega)]; exact hj.2.2.2.1, ⟨hj.2.2.2.2.1.1.set hj.2.2.2.2.1.2 he ha hv, by show dst σ _ (S.2.2.1.set k e').length; rw [List.length_set]; exact hj.2.2.2.2.1.2⟩, ⟨hj.2.2.2.2.2.1.1.ext rfl (fun a a1 a2 a3 a4 => ⟨a3, rfl, g a 6 (by decide) a4⟩) (Nat.le_refl _), hj.2.2.2.2.2.1.2⟩, hj.2.2.2.2.2.2.1.ext rfl (fun a a1 a2 a3 a4 => ⟨a3, rfl, g a 3 (by decide) a4⟩) (Nat.le_refl _), hj.2.2.2.2.2.2.2.ext rfl (fun a a1 a2 a3 a4 => ⟨a3, rfl, g a 3 (by decide) a4⟩) (Nat.le_refl _)⟩
theorem hJ.qset (hj : hJ σ x m h N S) {k a j : Nat} {v : Int32} {e : mCu} (e' : mCu) (he : S.2.2.2.1[k]? = some e) (ha : aR σ (h + 3) k = some a) (hv : rw6 e' = u1 (rw6 e) j v) : hJ (sI σ a j v) x m h N (S.1, S.2.1, S.2.2.1, S.2.2.2.1.set k e', S.2.2.2.2) := by
  obtain ⟨a', b1, b2, b3, b4, b5⟩ := hj.qu he
  have : a' = a := Option.some.inj (b1.symm.trans ha)
  subst this
  have g : ∀ d, (∀ n, n ≠ 6 → aT σ d = (11, n) → aI (sI σ a' j v) d = aI σ d) := fun d n hn hd => aI_ne σ (ne_of_T hd b2 (by simp; omega))
  refine ⟨hj.1.oth (kpX.sI b5), hj.2.1, by rw [aI_ne σ (by omega)]; exact hj.2.2.1, by rw [aI_ne σ (by omega)]; exact hj.2.2.2.1, ⟨hj.2.2.2.2.1.1.ext rfl (fun a a1 a2 a3 a4 => ⟨a3, rfl, g a 5 (by decide) a4⟩) (Nat.le_refl _), hj.2.2.2.2.1.2⟩, ⟨hj.2.2.2.2.2.1.1.set hj.2.2.2.2.2.1.2 he ha hv, by show dst σ _ (S.2.2.2.1.set k e').length; rw [List.length_set]; exact hj.2.2.2.2.2.1.2⟩, hj.2.2.2.2.2.2.1.ext rfl (fun a a1 a2 a3 a4 => ⟨a3, rfl, g a 3 (by decide) a4⟩) (Nat.le_refl _), hj.2.2.2.2.2.2.2.ext rfl (fun a a1 a2 a3 a4 => ⟨a3, rfl, g a 3 (by decide) a4⟩) (Nat.le_refl _)⟩
/-- a cell that is not yet the keeper's -/
theorem hJ.tmp (hj : hJ σ x m h N S) {c j : Nat} {v : Int32} (hc : N ≤ c) (hf : fre σ x c) : hJ (sI σ c j v) x m h N S := by
  have hN := hj.2.1.2.1
  have g : ∀ d, d < N → aI (sI σ c j v) d = aI σ d := fun d hd => aI_ne σ (by omega)
  refine ⟨hj.1.oth (kpX.sI hf), hj.2.1, by rw [g h (by omega)]; exact hj.2.2.1, by rw [g (h + 1) (by omega)]; exact hj.2.2.2.1, ⟨hj.2.2.2.2.1.1.ext rfl (fun a a1 a2 a3 a4 => ⟨a3, rfl, g a a2⟩) (Nat.le_refl _), hj.2.2.2.2.1.2⟩, ⟨hj.2.2.2.2.2.1.1.ext rfl (fun a a1 a2 a3 a4 => ⟨a3, rfl, g a a2⟩) (Nat.le_refl _), hj.2.2.2.2.2.1.2⟩, hj.2.2.2.2.2.2.1.ext rfl (fun a a1 a2 a3 a4 => ⟨a3, rfl, g a a2⟩) (Nat.le_refl _), hj.2.2.2.2.2.2.2.ext rfl (fun a a1 a2 a3 a4 => ⟨a3, rfl, g a a2⟩) (Nat.le_refl _)⟩
/-- everything that the keeper has lies as before -/
theorem hSt.ext (hs : hSt σ x h N S) (g : ∀ d, h ≤ d → d < N → fre σ x d → fre τ x d ∧ aT τ d = aT σ d ∧ aI τ d = aI σ d ∧ aR τ d = aR σ d) : hSt τ x h N S := by
  obtain ⟨⟨⟨h1, h2, h3⟩, hN, hl⟩, hf, hb, hB, hQ, hF, hE⟩ := hs
  have k : ∀ i, i < 6 → fre τ x (h + i) ∧ aT τ (h + i) = aT σ (h + i) ∧ aI τ (h + i) = aI σ (h + i) ∧ aR τ (h + i) = aR σ (h + i) := fun i hi => g (h + i) (by omega) (by omega) (h3 _ (by omega) (by omega))
  have k0 := k 0 (by omega)
  have k1 := k 1 (by omega)
  have k2 := k 2 (by omega)
  have k3 := k 3 (by omega)
  have k4 := k 4 (by omega)
  have k5 := k 5 (by omega)
  rw [Nat.add_zero] at k0
  refine ⟨⟨⟨by rw [k0.2.1, k1.2.1, k2.2.1, k3.2.1, k4.2.1, k5.2.1]; exact h1, by rw [k0.2.2.2]; exact h2, fun a a1 a2 => (g a a1 (by omega) (h3 a a1 a2)).1⟩, hN, (g (N - 1) (by omega) (by omega) hl).1⟩, by rw [k0.2.2.1]; exact hf, by rw [k1.2.2.1]; exact hb, ⟨hB.1.ext k2.2.2.2 (fun a a1 a2 a3 a4 => ?_) (Nat.le_refl _), hB.2.ext k2.2.2.2⟩, ⟨hQ.1.ext k3.2.2.2 (fun a a1 a2 a3 a4 => ?_) (Nat.le_refl _), hQ.2.ext k3.2.2.2⟩, hF.ext k4.2.2.2 (fun a a1 a2 a3 a4 => ?_) (Nat.le_refl _), hE.ext k5.2.2.2 (fun a a1 a2 a3 a4 => ?_) (Nat.le_refl _)⟩ <;>
  exact ⟨(g a (by omega) a2 a3).1, (g a (by omega) a2 a3).2.1, (g a (by omega) a2 a3).2.2.1⟩
theorem hJ.alloc (hj : hJ σ x m h N S) (kd n : Nat) : hJ (sA σ kd n) x m h N S := by
  refine ⟨hj.1.oth kpX.sA, hj.2.ext (fun d d1 d2 d3 => ?_)⟩
  have := kpM_sA (kd := kd) (n := n) hj.1.2.1 d d3
  exact ⟨this.1, this.2.1, this.2.2.1, this.2.2.2.1⟩
theorem hJ.newF (hj : hJ σ x m h N S) (kd n : Nat) : fre (sA σ kd n) x (aN σ) := hj.1.new kpX.sA (Nat.le_refl _) (by rw [aN_sA]; omega)
theorem hJ.newN (hj : hJ σ x m h N S) : N ≤ aN σ := by
  have := hj.2.1.2.2.2.1
  have := hj.2.1.2.1
  omega
theorem hJ.M {m' : mX} (hj : hJ σ x m h N S) (hk : kpM σ τ x) (hx : xAt τ x m') : hJ τ x m' h N S := ⟨hx, hj.2.ext (fun d _ _ d3 => ⟨(hk d d3).1, (hk d d3).2.1, (hk d d3).2.2.1, (hk d d3).2.2.2.1⟩)⟩
/-- a row is put behind the others -/
theorem rws.push {α : Type} {c n a : Nat} {rw : α → Nat → Int32} {l : List α} {e : α} (hr : rws σ x h N c n rw l) (hc : c < N) (hk : kpX σ (sR σ c l.length (some a)) x) (hx : x + 62 ≤ aN σ) (hN : h + 6 ≤ N) (ha : N ≤ a) (hf : fre σ x a) (ht : aT σ a = (11, n)) (hI : aI σ a = rw e) : rws (sR σ c l.length (some a)) x h (a + 1) c n rw (l ++ [e]) := fun k e2 he2 => by
  rcases ap_ix he2 with ⟨q1, q2⟩ | ⟨q1, rfl⟩
  · obtain ⟨b, b1, b2, b3, b4, b5⟩ := hr k e2 q2
    exact ⟨b, by rw [aR_sR, if_neg (fun z => absurd z.2 (by omega))]; exact b1, b2, b3, ⟨b4.1, by omega⟩, kpX_fre hk hx b5⟩
  · exact ⟨a, by rw [aR_sR, if_pos ⟨rfl, q1⟩], ht, hI, ⟨by omega, by omega⟩, kpX_fre hk hx hf⟩
theorem dst.push {c n a : Nat} (hd : dst σ c n) (hlt : ∀ j b, j < n → aR σ c j = some b → b < a) : dst (sR σ c n (some a)) c (n + 1) := fun j k b h1 h2 h3 h4 => by
  rw [aR_sR] at h3 h4
  rw [if_neg (fun z => absurd z.2 (by omega))] at h3
  by_cases q : k = n
  · rw [if_pos ⟨rfl, q⟩] at h4
    have := hlt j b (by omega) h3
    have := Option.some.inj h4
    omega
  · rw [if_neg (fun z => q z.2)] at h4
    exact hd j k b h1 (by omega) h3 h4
theorem rws.lt {α : Type} {c n : Nat} {rw : α → Nat → Int32} {l : List α} (hr : rws σ x h N c n rw l) {j b : Nat} (hj : j < l.length) (hb : aR σ c j = some b) : b < N := by
  obtain ⟨b', b1, -, -, b4, -⟩ := hr j _ (List.getElem?_eq_getElem hj)
  have : b' = b := Option.some.inj (b1.symm.trans hb)
  omega
theorem rws.up {α : Type} {c c' n k a : Nat} {v : Option Nat} {rw : α → Nat → Int32} {l : List α} (hr : rws σ x h N c n rw l) (hk : kpX σ (sR σ c' k v) x) (hx : x + 62 ≤ aN σ) (hc : c ≠ c') (ha : N ≤ a) : rws (sR σ c' k v) x h (a + 1) c n rw l := hr.ext (aR_ne σ hc) (fun d d1 d2 d3 d4 => ⟨kpX_fre hk hx d3, rfl, rfl⟩) (by omega)
theorem dst.up {c c' n k : Nat} {v : Option Nat} (hd : dst σ c n) (hc : c ≠ c') : dst (sR σ c' k v) c n := hd.ext (aR_ne σ hc)
theorem hFx.up {k i : Nat} {v : Option Nat} (hf : hFx σ x h) (hi : 1 ≤ i) (hk : kpX σ (sR σ (h + i) k v) x) (hx : x + 62 ≤ aN σ) : hFx (sR σ (h + i) k v) x h := ⟨hf.1, by rw [aR_ne σ (by omega)]; exact hf.2.1, fun a a1 a2 => kpX_fre hk hx (hf.2.2 a a1 a2)⟩
theorem hJ.pushF (hj : hJ σ x m h N S) {a : Nat} (e : mLf) (ha : N ≤ a) (hf : fre σ x a) (ht : aT σ a = (11, 3)) (hI : aI σ a = rw3 e) : hJ (sR σ (h + 4) S.2.2.2.2.1.length (some a)) x m h (a + 1) (S.1, S.2.1, S.2.2.1, S.2.2.2.1, S.2.2.2.2.1 ++ [e], S.2.2.2.2.2) := by
  have hk : kpX σ (sR σ (h + 4) S.2.2.2.2.1.length (some a)) x := kpX.sR (hj.fr (by omega) (by omega))
  have hx := hj.1.2.1
  obtain ⟨hX, ⟨h1, hN, hl⟩, hff, hb, hB, hQ, hF, hE⟩ := hj
  exact ⟨hX.oth hk, ⟨h1.up (by omega) hk hx, by omega, kpX_fre hk hx hf⟩, hff, hb, ⟨hB.1.up hk hx (by omega) ha, hB.2.up (by omega)⟩, ⟨hQ.1.up hk hx (by omega) ha, hQ.2.up (by omega)⟩, hF.push (by omega) hk hx hN ha hf ht hI, hE.up hk hx (by omega) ha⟩
theorem hJ.pushE (hj : hJ σ x m h N S) {a : Nat} (e : mEv) (ha : N ≤ a) (hf : fre σ x a) (ht : aT σ a = (11, 3)) (hI : aI σ a = rw3 e) : hJ (sR σ (h + 5) S.2.2.2.2.2.length (some a)) x m h (a + 1) (S.1, S.2.1, S.2.2.1, S.2.2.2.1, S.2.2.2.2.1, S.2.2.2.2.2 ++ [e]) := by
  have hk : kpX σ (sR σ (h + 5) S.2.2.2.2.2.length (some a)) x := kpX.sR (hj.fr (by omega) (by omega))
  have hx := hj.1.2.1
  obtain ⟨hX, ⟨h1, hN, hl⟩, hff, hb, hB, hQ, hF, hE⟩ := hj
  exact ⟨hX.oth hk, ⟨h1.up (by omega) hk hx, by omega, kpX_fre hk hx hf⟩, hff, hb, ⟨hB.1.up hk hx (by omega) ha, hB.2.up (by omega)⟩, ⟨hQ.1.up hk hx (by omega) ha, hQ.2.up (by omega)⟩, hF.up hk hx (by omega) ha, hE.push (by omega) hk hx hN ha hf ht hI⟩
theorem hJ.pushQ (hj : hJ σ x m h N S) {a : Nat} (e : mCu) (ha : N ≤ a) (hf : fre σ x a) (ht : aT σ a = (11, 6)) (hI : aI σ a = rw6 e) : hJ (sR σ (h + 3) S.2.2.2.1.length (some a)) x m h (a + 1) (S.1, S.2.1, S.2.2.1, S.2.2.2.1 ++ [e], S.2.2.2.2) := by
  have hk : kpX σ (sR σ (h + 3) S.2.2.2.1.length (some a)) x := kpX.sR (hj.fr (by omega) (by omega))
  have hx := hj.1.2.1
  obtain ⟨hX, ⟨h1, hN, hl⟩, hff, hb, hB, hQ, hF, hE⟩ := hj
  exact ⟨hX.oth hk, ⟨h1.up (by omega) hk hx, by omega, kpX_fre hk hx hf⟩, hff, hb, ⟨hB.1.up hk hx (by omega) ha, hB.2.up (by omega)⟩, ⟨hQ.1.push (by omega) hk hx hN ha hf ht hI, by show dst _ _ (S.2.2.2.1 ++ [e]).length; rw [List.length_append]; exact hQ.2.push (fun j b q1 q2 => Nat.lt_of_lt_of_le (hQ.1.lt q1 q2) ha)⟩, hF.up hk hx (by omega) ha, hE.up hk hx (by omega) ha⟩
theorem hJ.pushB (hj : hJ σ x m h N S) {a : Nat} (e : mHB) (ha : N ≤ a) (hf : fre σ x a) (ht : aT σ a = (11, 5)) (hI : aI σ a = rw5 e) : hJ (sR σ (h + 2) S.2.2.1.length (some a)) x m h (a + 1) (S.1, S.2.1, S.2.2.1 ++ [e], S.2.2.2) := by
  have hk : kpX σ (sR σ (h + 2) S.2.2.1.length (some a)) x := kpX.sR (hj.fr (by omega) (by omega))
  have hx := hj.1.2.1
  obtain ⟨hX, ⟨h1, hN, hl⟩, hff, hb, hB, hQ, hF, hE⟩ := hj
  exact ⟨hX.oth hk, ⟨h1.up (by omega) hk hx, by omega, kpX_fre hk hx hf⟩, hff, hb, ⟨hB.1.push (by omega) hk hx hN ha hf ht hI, by show dst _ _ (S.2.2.1 ++ [e]).length; rw [List.length_append]; exact hB.2.push (fun j b q1 q2 => Nat.lt_of_lt_of_le (hB.1.lt q1 q2) ha)⟩, ⟨hQ.1.up hk hx (by omega) ha, hQ.2.up (by omega)⟩, hF.up hk hx (by omega) ha, hE.up hk hx (by omega) ha⟩
/-- the rows behind one move up -/
def erS (g : Nat → Option Nat) (w n : Nat) : Nat → Option Nat := fun j => if w ≤ j ∧ j < n then g (j + 1) else g j
theorem aR_set (σ : cAS) (c : Nat) (g : Nat → Option Nat) : aR (setR σ c g) c = g := by
  funext j
  exact if_pos rfl
theorem aR_set_ne (σ : cAS) {c b : Nat} {g : Nat → Option Nat} (h : b ≠ c) : aR (setR σ c g) b = aR σ b := by
  funext j
  exact if_neg h
theorem kpX.setR {c : Nat} {g : Nat → Option Nat} (hf : fre σ x c) : kpX σ (setR σ c g) x := ⟨Nat.le_refl _, fun d _ hd => ⟨rfl, rfl, aR_set_ne σ (fun q => hd (q ▸ hf)), rfl⟩⟩
theorem rws.era {α : Type} {c n w : Nat} {rw : α → Nat → Int32} {l : List α} (hr : rws σ x h N c n rw l) (hk : kpX σ (setR σ c (erS (aR σ c) w (l.length - 1))) x) (hx : x + 62 ≤ aN σ) (hw : w < l.length) : rws (setR σ c (erS (aR σ c) w (l.length - 1))) x h N c n rw (l.eraseIdx w) := fun k e he => by
  have hl : k < l.length - 1 := by have := gE_lt he; rw [List.length_eraseIdx] at this; rw [if_pos hw] at this; exact this
  rw [List.getElem?_eraseIdx] at he
  by_cases q : k < w
  · rw [if_pos q] at he
    obtain ⟨a, a1, a2, a3, a4, a5⟩ := hr k e he
    exact ⟨a, by rw [aR_set]; unfold erS; rw [if_neg (by omega)]; exact a1, a2, a3, a4, kpX_fre hk hx a5⟩
  · rw [if_neg q] at he
    obtain ⟨a, a1, a2, a3, a4, a5⟩ := hr (k + 1) e he
    exact ⟨a, by rw [aR_set]; unfold erS; rw [if_pos ⟨by omega, hl⟩]; exact a1, a2, a3, a4, kpX_fre hk hx a5⟩
theorem dst.era {c n w : Nat} (hd : dst σ c n) : dst (setR σ c (erS (aR σ c) w (n - 1))) c (n - 1) := fun j k a h1 h2 h3 h4 => by
  rw [aR_set] at h3 h4
  unfold erS at h3 h4
  by_cases q : w ≤ k
  · rw [if_pos ⟨q, h2⟩] at h4
    by_cases q2 : w ≤ j
    · rw [if_pos ⟨q2, by omega⟩] at h3
      exact hd (j + 1) (k + 1) a (by omega) (by omega) h3 h4
    · rw [if_neg (by omega)] at h3
      exact hd j (k + 1) a (by omega) (by omega) h3 h4
  · rw [if_neg (by omega)] at h3 h4
    exact hd j k a h1 (by omega) h3 h4
theorem rws.upS {α : Type} {c c' n : Nat} {g : Nat → Option Nat} {rw : α → Nat → Int32} {l : List α} (hr : rws σ x h N c n rw l) (hk : kpX σ (setR σ c' g) x) (hx : x + 62 ≤ aN σ) (hc : c ≠ c') : rws (setR σ c' g) x h N c n rw l := hr.ext (aR_set_ne σ hc) (fun d d1 d2 d3 d4 => ⟨kpX_fre hk hx d3, rfl, rfl⟩) (Nat.le_refl _)
theorem hFx.upS {i : Nat} {g : Nat → Option Nat} (hf : hFx σ x h) (hi : 1 ≤ i) (hk : kpX σ (setR σ (h + i) g) x) (hx : x + 62 ≤ aN σ) : hFx (setR σ (h + i) g) x h := ⟨hf.1, by rw [aR_set_ne σ (by omega)]; exact hf.2.1, fun a a1 a2 => kpX_fre hk hx (hf.2.2 a a1 a2)⟩
theorem hJ.eraF (hj : hJ σ x m h N S) {w : Nat} (hw : w < S.2.2.2.2.1.length) : hJ (setR σ (h + 4) (erS (aR σ (h + 4)) w (S.2.2.2.2.1.length - 1))) x m h N (S.1, S.2.1, S.2.2.1, S.2.2.2.1, S.2.2.2.2.1.eraseIdx w, S.2.2.2.2.2) := by
  have hk : kpX σ (setR σ (h + 4) (erS (aR σ (h + 4)) w (S.2.2.2.2.1.length - 1))) x := kpX.setR (hj.fr (by omega) (by omega))
  have hx := hj.1.2.1
  obtain ⟨hX, ⟨h1, hN, hl⟩, hff, hb, hB, hQ, hF, hE⟩ := hj
  exact ⟨hX.oth hk, ⟨h1.upS (by omega) hk hx, hN, kpX_fre hk hx hl⟩, hff, hb, ⟨hB.1.upS hk hx (by omega), hB.2.ext (aR_set_ne σ (by omega))⟩, ⟨hQ.1.upS hk hx (by omega), hQ.2.ext (aR_set_ne σ (by omega))⟩, hF.era hk hx hw, hE.upS hk hx (by omega)⟩
theorem hJ.eraQ (hj : hJ σ x m h N S) {w : Nat} (hw : w < S.2.2.2.1.length) : hJ (setR σ (h + 3) (erS (aR σ (h + 3)) w (S.2.2.2.1.length - 1))) x m h N (S.1, S.2.1, S.2.2.1, S.2.2.2.1.eraseIdx w, S.2.2.2.2) := by
  have hk : kpX σ (setR σ (h + 3) (erS (aR σ (h + 3)) w (S.2.2.2.1.length - 1))) x := kpX.setR (hj.fr (by omega) (by omega))
  have hx := hj.1.2.1
  obtain ⟨hX, ⟨h1, hN, hl⟩, hff, hb, hB, hQ, hF, hE⟩ := hj
  exact ⟨hX.oth hk, ⟨h1.upS (by omega) hk hx, hN, kpX_fre hk hx hl⟩, hff, hb, ⟨hB.1.upS hk hx (by omega), hB.2.ext (aR_set_ne σ (by omega))⟩, ⟨hQ.1.era hk hx hw, by show dst _ _ (S.2.2.2.1.eraseIdx w).length; rw [List.length_eraseIdx, if_pos hw]; exact hQ.2.era⟩, hF.upS hk hx (by omega), hE.upS hk hx (by omega)⟩
theorem erS_0 (g : Nat → Option Nat) (w : Nat) : erS g w w = g := by
  funext j
  unfold erS
  rw [if_neg (by omega)]
theorem setR_rf (σ : cAS) (c : Nat) : setR σ c (aR σ c) = σ := by
  refine Prod.ext rfl (Prod.ext rfl (Prod.ext ?_ rfl))
  funext b j
  show (if b = c then aR σ c j else aR σ b j) = aR σ b j
  split
  · next q => rw [q]
  · rfl
theorem sR_erS (σ : cAS) (c i w : Nat) (hw : w ≤ i) : sR (setR σ c (erS (aR σ c) w i)) c i (aR σ c (i + 1)) = setR σ c (erS (aR σ c) w (i + 1)) := by
  refine Prod.ext rfl (Prod.ext rfl (Prod.ext ?_ rfl))
  funext b j
  show (if b = c ∧ j = i then aR σ c (i + 1) else if b = c then erS (aR σ c) w i j else aR σ b j) = if b = c then erS (aR σ c) w (i + 1) j else aR σ b j
  unfold erS
  by_cases q : b = c
  · rw [if_pos q, if_pos q]
    by_cases q2 : j = i
    · rw [if_pos ⟨q, q2⟩, if_pos ⟨by omega, by omega⟩, q2]
    · rw [if_neg (fun z => q2 z.2)]
      by_cases q3 : w ≤ j ∧ j < i
      · rw [if_pos q3, if_pos ⟨q3.1, by omega⟩]
      · rw [if_neg q3, if_neg (by omega)]
  · rw [if_neg (fun z => q z.1), if_neg q, if_neg q]
end H
