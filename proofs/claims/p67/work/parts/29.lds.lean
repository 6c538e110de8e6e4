-- behind: 26 27 28
-- what a text does
abbrev mLd : Type := Nat × Int32 × Nat × Nat × Nat
def ldF (c : Nat) (l : mLd) : mLd := (c, nI l.2.2.2.1, l.2.2)
def ldX (f : Nat → Int32) (n : Nat) (l : mLd) : mLd := (l.1, l.2.1, tkN f n (l.2.2.2.1 + l.2.2.2.2))
def ldSemi (f : Nat → Int32) (n : Nat) (l : mLd) : mLd := if l.1 = 0 then (if smI' f l.2.2 = true then ldX f n l else ldF 1 l) else l
def ldNumV (f : Nat → Int32) (l : mLd) : Int32 := vlA f l.2.2.2.2 l.2.2.2.1 0
def ldNum (f : Nat → Int32) (n : Nat) (lo hi : Int32) (l : mLd) : Int32 × mLd := if l.1 = 0 then (if l.2.2.1 = 2 then (ldNumV f l, if ldNumV f l < lo ∨ hi < ldNumV f l then ldF 2 l else ldX f n l) else (lo, ldF 1 l)) else (lo, l)
def ldKindV (f : Nat → Int32) (l : mLd) : Int32 := if wdI f l.2.2 4 = true then 0 else if wdI f l.2.2 5 = true then 1 else if wdI f l.2.2 6 = true then 2 else -1
def ldKind (f : Nat → Int32) (n : Nat) (l : mLd) : Int32 × mLd := if l.1 = 0 then (ldKindV f l, if ldKindV f l = -1 then ldF 1 l else ldX f n l) else (-1, l)
def ldNm (f : Nat → Int32) (l : mLd) : Int32 := pkN f l.2.2.2.1 l.2.2.2.2
def ldName (f : Nat → Int32) (n : Nat) (s : mS) (l : mLd) : mLd := if l.2.2.1 = 1 then (if ldNm f l = -1 then ldF 2 l else if hasN s (ldNm f l) = true then ldF 3 l else ldX f n l) else ldF 1 l
def bkIx (l : List mBk) (v : Int32) : Int32 := fndI (fun i => match l[i]? with | some e => nmA e.1 | none => 0) v l.length 0
def ldBkr (f : Nat → Int32) (n : Nat) (s : mS) (l : mLd) : mLd := if l.2.2.1 = 1 then (if bkIx s.2.1 (ldNm f l) = -1 then ldF 4 l else ldX f n l) else ldF 1 l
-- changes of a market
def bsS (s : mS) (r w o : Int32) : mS := (zup (zup (zup s.1 0 r) 1 w) 2 o, s.2)
def adB (s : mS) (nm : Nat) (size hours : Int32) : mS := (s.1, s.2.1 ++ [(nm, size, hours, -1, 0, 0)], s.2.2)
def bgB (s : mS) (i : Nat) (k : Int32) : mS := match s.2.1[i]? with
  | some e => (s.1, s.2.1.set i (e.1, e.2.1, e.2.2.1, k, e.2.2.1, e.2.2.2.2.2), s.2.2)
  | none => s
def wlC (s : mS) (nm : Nat) (kind wanted limit purse patience : Int32) : mS := (zup (zup s.1 9 (s.1 9 + purse)) 11 (s.1 11 + 1), s.2.1, s.2.2.1, s.2.2.2.1 ++ [(nm, s.1 11, kind, wanted, limit, purse, patience)], s.2.2.2.2)
def rfB (s : mS) (i : Nat) : Int32 := match s.2.1[i]? with
  | some e => rfU s e
  | none => 1
def hrsN : Nat → mS → mS
  | 0, s => s
  | n + 1, s => hrsN n (hrOut s)
-- the statements
def sdMarket (f : Nat → Int32) (n : Nat) (s : mS) (l : mLd) : mS × mLd :=
  let a := ldNum f n 1 99 (ldX f n l)
  let b := ldNum f n 1 99 a.2
  let c := ldNum f n 1 99 b.2
  let d := ldSemi f n c.2
  (if d.1 = 0 then bsS s a.1 b.1 c.1 else s, d)
def sdBaker (f : Nat → Int32) (n : Nat) (s : mS) (l : mLd) : mS × mLd :=
  if s.2.1.length < 4 then
    let x := ldX f n l
    let a := ldName f n s x
    let b := ldNum f n 1 12 a
    let c := ldNum f n 1 9 b.2
    let d := ldSemi f n c.2
    (if d.1 = 0 then adB s (nmF f x.2.2.2.1 x.2.2.2.2) b.1 c.1 else s, d)
  else (s, ldF 5 l)
def sdBk6 (f : Nat → Int32) (s : mS) (i : Nat) (a : mLd) : mLd := if a.1 = 0 ∧ smI' f a.2.2 = true ∧ rfB s i ≠ 0 then ldF 6 a else a
def sdBake (f : Nat → Int32) (n : Nat) (s : mS) (l : mLd) : mS × mLd :=
  let x := ldX f n l
  let i := bkIx s.2.1 (ldNm f x)
  let a := ldKind f n (ldBkr f n s x)
  let d := ldSemi f n (sdBk6 f s i.toNatClampNeg a.2)
  (if d.1 = 0 then bgB s i.toNatClampNeg a.1 else s, d)
def sdCust (f : Nat → Int32) (n : Nat) (s : mS) (l : mLd) : mS × mLd :=
  if s.2.2.2.1.length < 10 then
    let x := ldX f n l
    let a := ldKind f n (ldName f n s x)
    let b := ldNum f n 1 9 a.2
    let c := ldNum f n 1 99 b.2
    let e := ldNum f n 0 999 c.2
    let g := ldNum f n 1 99 e.2
    let d := ldSemi f n g.2
    (if d.1 = 0 then wlC s (nmF f x.2.2.2.1 x.2.2.2.2) a.1 b.1 c.1 e.1 g.1 else s, d)
  else (s, ldF 5 l)
def sdAuct (f : Nat → Int32) (n : Nat) (s : mS) (l : mLd) : mS × mLd :=
  let a := ldKind f n (ldX f n l)
  let d := ldSemi f n a.2
  (if d.1 = 0 then hdOut s a.1 else s, d)
def sdSpar (f : Nat → Int32) (n : Nat) (s : mS) (l : mLd) : mS × mLd :=
  let a := ldNum f n 0 9 (ldX f n l)
  let b := ldNum f n 0 999 a.2
  let d := ldSemi f n b.2
  (if d.1 = 0 then (zup (zup s.1 5 a.1) 4 b.1, s.2) else s, d)
def sdHour (f : Nat → Int32) (n : Nat) (s : mS) (l : mLd) : mS × mLd :=
  let a := ldNum f n 0 60 (ldX f n l)
  let d := ldSemi f n a.2
  (if d.1 = 0 then hrsN a.1.toNatClampNeg s else s, d)
def sdStep (f : Nat → Int32) (n : Nat) (s : mS) (l : mLd) : mS × mLd :=
  if wdI f l.2.2 2 = true then sdBaker f n s l else if wdI f l.2.2 3 = true then sdBake f n s l else if wdI f l.2.2 7 = true then sdCust f n s l else if wdI f l.2.2 8 = true then sdAuct f n s l
  else if wdI f l.2.2 9 = true then sdSpar f n s l else if wdI f l.2.2 10 = true then sdHour f n s l else (s, ldF 1 l)
def sdLoop (f : Nat → Int32) (n : Nat) : Nat → mS × mLd → mS × mLd
  | 0, p => p
  | m + 1, p => if p.2.1 = 0 ∧ p.2.2.2.1 ≠ 0 then sdLoop f n m (sdStep f n p.1 p.2) else p
def ld0 (f : Nat → Int32) (n : Nat) : mLd := (0, -1, tkN f n 0)
def sdRead (f : Nat → Int32) (n : Nat) (s : mS) : mS × mLd := sdLoop f n n (if wdI f (ld0 f n).2.2 1 = true then sdMarket f n s (ld0 f n) else (s, ldF 1 (ld0 f n)))
-- a token lies in the text
def tkOk (n : Nat) (t : Nat × Nat × Nat) : Prop := t.1 ≤ 3 ∧ t.2.1 + t.2.2 ≤ n ∧ (t.1 ≠ 0 → 1 ≤ t.2.2)
theorem tkN_tk {f : Nat → Int32} {n e : Nat} (h : e ≤ n) : tkOk n (tkN f n e) := ⟨(tkN_ok h).1, (tkN_ok h).2.2.1, (tkN_ok h).2.2.2⟩
theorem ldX_ok {f : Nat → Int32} {n : Nat} {l : mLd} (h : tkOk n l.2.2) : tkOk n (ldX f n l).2.2 := tkN_tk h.2.1
theorem ldSemi_ok {f : Nat → Int32} {n : Nat} {l : mLd} (h : tkOk n l.2.2) : tkOk n (ldSemi f n l).2.2 := by
  unfold ldSemi
  split
  · split
    · exact ldX_ok h
    · exact h
  · exact h
theorem ldNum_ok {f : Nat → Int32} {n : Nat} {lo hi : Int32} {l : mLd} (h : tkOk n l.2.2) : tkOk n (ldNum f n lo hi l).2.2.2 := by
  unfold ldNum
  split
  · split
    · dsimp only
      split
      · exact h
      · exact ldX_ok h
    · exact h
  · exact h
theorem ldKind_ok {f : Nat → Int32} {n : Nat} {l : mLd} (h : tkOk n l.2.2) : tkOk n (ldKind f n l).2.2.2 := by
  unfold ldKind
  split
  · dsimp only
    split
    · exact h
    · exact ldX_ok h
  · exact h
theorem ldName_ok {f : Nat → Int32} {n : Nat} {s : mS} {l : mLd} (h : tkOk n l.2.2) : tkOk n (ldName f n s l).2.2 := by
  unfold ldName
  split
  · split
    · exact h
    · split
      · exact h
      · exact ldX_ok h
  · exact h
theorem ldBkr_ok {f : Nat → Int32} {n : Nat} {s : mS} {l : mLd} (h : tkOk n l.2.2) : tkOk n (ldBkr f n s l).2.2 := by
  unfold ldBkr
  split
  · split
    · exact h
    · exact ldX_ok h
  · exact h
-- what no error means
theorem ldSemi_0 {f : Nat → Int32} {n : Nat} {l : mLd} (h : (ldSemi f n l).1 = 0) : l.1 = 0 ∧ smI' f l.2.2 = true ∧ ldSemi f n l = ldX f n l := by
  unfold ldSemi at h ⊢
  by_cases q : l.1 = 0
  · rw [if_pos q] at h ⊢
    split at h
    · next q2 => exact ⟨q, q2, by rw [if_pos q2]⟩
    · exact absurd h (by show ¬ 1 = 0; decide)
  · rw [if_neg q] at h
    exact absurd h q
theorem ldNum_0 {f : Nat → Int32} {n : Nat} {lo hi : Int32} {l : mLd} (h : (ldNum f n lo hi l).2.1 = 0) : l.1 = 0 ∧ ¬ (ldNum f n lo hi l).1 < lo ∧ ¬ hi < (ldNum f n lo hi l).1 := by
  unfold ldNum at h ⊢
  by_cases q : l.1 = 0
  · rw [if_pos q] at h ⊢
    by_cases q2 : l.2.2.1 = 2
    · rw [if_pos q2] at h ⊢
      dsimp only at h ⊢
      split at h
      · exact absurd h (by show ¬ 2 = 0; decide)
      · next q3 => exact ⟨q, fun z => q3 (Or.inl z), fun z => q3 (Or.inr z)⟩
    · rw [if_neg q2] at h
      exact absurd h (by show ¬ 1 = 0; decide)
  · rw [if_neg q] at h
    exact absurd h q
theorem num_in {v lo hi : Int32} {a b : Nat} (hl : lo = nI a) (hh : hi = nI b) (hb : b < 2147483648) (h1 : ¬ v < lo) (h2 : ¬ hi < v) (hab : a ≤ b) : inR v a b := by
  subst hl hh
  have h0 : ¬ v < 0 := fun q => h1 (Int32.lt_of_lt_of_le q (nI_pos' (by omega)))
  obtain ⟨j, hj, rfl⟩ := nI_of h0
  refine ⟨j, rfl, ?_, ?_⟩
  · exact Nat.not_lt.mp fun q => h1 (nI_lt q (by omega))
  · exact Nat.not_lt.mp fun q => h2 (nI_lt q hj)
theorem ldNum_in {f : Nat → Int32} {n : Nat} {l : mLd} {lo hi : Int32} (a b : Nat) (hl : lo = nI a) (hh : hi = nI b) (hb : b < 2147483648) (hab : a ≤ b) (h : (ldNum f n lo hi l).2.1 = 0) : inR (ldNum f n lo hi l).1 a b := num_in hl hh hb (ldNum_0 h).2.1 (ldNum_0 h).2.2 hab
theorem ldKind_0 {f : Nat → Int32} {n : Nat} {l : mLd} (h : (ldKind f n l).2.1 = 0) : l.1 = 0 ∧ inR (ldKind f n l).1 0 2 := by
  unfold ldKind at h ⊢
  by_cases q : l.1 = 0
  · rw [if_pos q] at h ⊢
    dsimp only at h ⊢
    split at h
    · exact absurd h (by show ¬ 1 = 0; decide)
    · next q2 =>
      refine ⟨q, ?_⟩
      unfold ldKindV at q2 ⊢
      split
      · exact ⟨0, rfl, by omega, by omega⟩
      · next z1 =>
        split
        · exact ⟨1, rfl, by omega, by omega⟩
        · next z2 =>
          split
          · exact ⟨2, rfl, by omega, by omega⟩
          · next z3 =>
            rw [if_neg z1, if_neg z2, if_neg z3] at q2
            exact absurd rfl q2
  · rw [if_neg q] at h
    exact absurd h q
theorem ldName_0 {f : Nat → Int32} {n : Nat} {s : mS} {l : mLd} (h : (ldName f n s l).1 = 0) : ldNm f l ≠ -1 ∧ hasN s (ldNm f l) = false ∧ l.2.2.1 = 1 := by
  unfold ldName at h
  split at h
  · next q0 =>
    split at h
    · exact absurd h (by show ¬ 2 = 0; decide)
    · next q1 =>
      split at h
      · exact absurd h (by show ¬ 3 = 0; decide)
      · next q2 => exact ⟨q1, by simpa using q2, q0⟩
  · exact absurd h (by show ¬ 1 = 0; decide)
theorem fndI_in {f : Nat → Int32} {v : Int32} : ∀ n i, i + n < 2147483648 → fndI f v n i ≠ -1 → ∃ j, fndI f v n i = nI j ∧ i ≤ j ∧ j < i + n ∧ f j = v
  | 0, i, _, h => absurd rfl h
  | n + 1, i, hn, h => by
    unfold fndI at h ⊢
    by_cases q : f i = v
    · rw [if_pos q]
      exact ⟨i, rfl, Nat.le_refl _, by omega, q⟩
    · rw [if_neg q] at h ⊢
      obtain ⟨j, h1, h2, h3, h4⟩ := fndI_in n (i + 1) (by omega) h
      exact ⟨j, h1, by omega, by omega, h4⟩
theorem bkIx_in {l : List mBk} {v : Int32} (hl : l.length ≤ 4) (h : bkIx l v ≠ -1) : ∃ j e, bkIx l v = nI j ∧ l[j]? = some e ∧ nmA e.1 = v ∧ j < l.length := by
  obtain ⟨j, h1, -, h3, h4⟩ := fndI_in _ _ (by omega) h
  have hg : l[j]? = some (l[j]'(by omega)) := List.getElem?_eq_getElem (by omega)
  rw [hg] at h4
  exact ⟨j, _, h1, hg, h4, by omega⟩
theorem ldBkr_0 {f : Nat → Int32} {n : Nat} {s : mS} {l : mLd} (h : (ldBkr f n s l).1 = 0) : bkIx s.2.1 (ldNm f l) ≠ -1 := by
  unfold ldBkr at h
  split at h
  · split at h
    · exact absurd h (by show ¬ 4 = 0; decide)
    · next q1 => exact q1
  · exact absurd h (by show ¬ 1 = 0; decide)
