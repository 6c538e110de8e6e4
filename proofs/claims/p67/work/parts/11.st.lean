-- what a market is, and how an array state holds it
abbrev mBk : Type := Nat × Int32 × Int32 × Int32 × Int32 × Int32
abbrev mLf : Type := Int32 × Int32 × Int32
abbrev mCu : Type := Nat × Int32 × Int32 × Int32 × Int32 × Int32 × Int32
abbrev mEv : Type := Int32 × Int32 × Int32
/-- a name's number: its letters as digits of base 27, the first one first, four of them; as the class packs it -/
def nmD (n k : Nat) : Nat := n / 27 ^ (3 - k) % 27
def nmB (n k : Nat) : Nat := if nmD n k = 0 then 0 else nmD n k + 96
def nmA (n : Nat) : Int32 := nI (nmB n 0 + 256 * nmB n 1 + 65536 * nmB n 2 + 16777216 * nmB n 3)
def skAt (I : Nat → Nat → Int32) (b : Nat) (l : List mLf) : Prop := I (b + 9) 0 = nI l.length ∧ l.length ≤ 60 ∧ ∀ i e, l[i]? = some e → I (b + 10) i = e.1 ∧ I (b + 11) i = e.2.1 ∧ I (b + 12) i = e.2.2
def evAt (I : Nat → Nat → Int32) (b : Nat) (l : List mEv) : Prop := I (b + 21) 0 = nI l.length ∧ l.length ≤ 30 ∧ ∀ i e, l[i]? = some e → I (b + 22) i = e.1 ∧ I (b + 23) i = e.2.1 ∧ I (b + 24) i = e.2.2
def bkAt (I : Nat → Nat → Int32) (b : Nat) (l : List mBk) : Prop := I (b + 2) 0 = nI l.length ∧ l.length ≤ 4 ∧ ∀ i e, l[i]? = some e → I (b + 3) i = nmA e.1 ∧ I (b + 4) i = e.2.1 ∧ I (b + 5) i = e.2.2.1 ∧ I (b + 6) i = e.2.2.2.1 ∧ I (b + 7) i = e.2.2.2.2.1 ∧ I (b + 8) i = e.2.2.2.2.2
def cuAt (I : Nat → Nat → Int32) (b : Nat) (l : List mCu) : Prop := I (b + 13) 0 = nI l.length ∧ l.length ≤ 10 ∧ ∀ i e, l[i]? = some e → I (b + 14) i = nmA e.1 ∧ I (b + 15) i = e.2.1 ∧ I (b + 16) i = e.2.2.1 ∧ I (b + 17) i = e.2.2.2.1 ∧ I (b + 18) i = e.2.2.2.2.1 ∧ I (b + 19) i = e.2.2.2.2.2.1 ∧ I (b + 20) i = e.2.2.2.2.2.2
/-- outside the rows from lo on, n of them, nothing has changed -/
def fr (I I' : Nat → Nat → Int32) (lo n : Nat) : Prop := ∀ a, (a < lo ∨ lo + n ≤ a) → I' a = I a
theorem fr.rf {I : Nat → Nat → Int32} {lo n : Nat} : fr I I lo n := fun _ _ => rfl
theorem fr.up {I I' : Nat → Nat → Int32} {lo n a k : Nat} {x : Int32} (h : fr I I' lo n) (h1 : lo ≤ a) (h2 : a < lo + n) : fr I (up I' a k x) lo n := fun c hc => by
  rw [← h c hc]
  funext j
  rw [up_eq, if_neg (fun q => by omega)]
theorem fr.cpy {I I' : Nat → Nat → Int32} {lo n a0 a sp dp m : Nat} (h : fr I I' lo n) (h1 : lo ≤ a) (h2 : a < lo + n) : fr I (cpy I' a0 a sp dp m) lo n := fun c hc => by
  rw [← h c hc]
  funext j
  show (if c = a then _ else _) = _
  rw [if_neg (by omega)]
theorem fr.trans {I I' I'' : Nat → Nat → Int32} {lo n : Nat} (h : fr I I' lo n) (h' : fr I' I'' lo n) : fr I I'' lo n := fun a ha => (h' a ha).trans (h a ha)
theorem fr.mono {I I' : Nat → Nat → Int32} {lo n lo' n' : Nat} (h : fr I I' lo n) (h1 : lo' ≤ lo) (h2 : lo + n ≤ lo' + n') : fr I I' lo' n' := fun a ha => h a (by omega)
theorem skAt.kp {I I' : Nat → Nat → Int32} {b lo n : Nat} {l : List mLf} (h : skAt I b l) (hf : fr I I' lo n) (h1 : lo + n ≤ b + 9 ∨ b + 13 ≤ lo) : skAt I' b l := by
  unfold skAt
  rw [hf (b + 9) (by omega), hf (b + 10) (by omega), hf (b + 11) (by omega), hf (b + 12) (by omega)]
  exact h
theorem evAt.kp {I I' : Nat → Nat → Int32} {b lo n : Nat} {l : List mEv} (h : evAt I b l) (hf : fr I I' lo n) (h1 : lo + n ≤ b + 21 ∨ b + 25 ≤ lo) : evAt I' b l := by
  unfold evAt
  rw [hf (b + 21) (by omega), hf (b + 22) (by omega), hf (b + 23) (by omega), hf (b + 24) (by omega)]
  exact h
theorem bkAt.kp {I I' : Nat → Nat → Int32} {b lo n : Nat} {l : List mBk} (h : bkAt I b l) (hf : fr I I' lo n) (h1 : lo + n ≤ b + 2 ∨ b + 9 ≤ lo) : bkAt I' b l := by
  unfold bkAt
  rw [hf (b + 2) (by omega), hf (b + 3) (by omega), hf (b + 4) (by omega), hf (b + 5) (by omega), hf (b + 6) (by omega), hf (b + 7) (by omega), hf (b + 8) (by omega)]
  exact h
theorem cuAt.kp {I I' : Nat → Nat → Int32} {b lo n : Nat} {l : List mCu} (h : cuAt I b l) (hf : fr I I' lo n) (h1 : lo + n ≤ b + 13 ∨ b + 21 ≤ lo) : cuAt I' b l := by
  unfold cuAt
  rw [hf (b + 13) (by omega), hf (b + 14) (by omega), hf (b + 15) (by omega), hf (b + 16) (by omega), hf (b + 17) (by omega), hf (b + 18) (by omega), hf (b + 19) (by omega), hf (b + 20) (by omega)]
  exact h
theorem gE_app {α : Type} {l : List α} {x e : α} {i : Nat} (h : (l ++ [x])[i]? = some e) : (i < l.length ∧ l[i]? = some e) ∨ (i = l.length ∧ e = x) := by
  rcases Nat.lt_or_ge i l.length with q | q
  · rw [List.getElem?_append_left q] at h
    exact Or.inl ⟨q, h⟩
  · rw [List.getElem?_append_right q] at h
    have hz : i - l.length = 0 := by
      have := (List.getElem?_eq_some_iff.mp h).1
      simp at this
      omega
    rw [hz] at h
    exact Or.inr ⟨by omega, (Option.some.inj h).symm⟩
theorem gE_lt {α : Type} {l : List α} {e : α} {i : Nat} (h : l[i]? = some e) : i < l.length := (List.getElem?_eq_some_iff.mp h).1
