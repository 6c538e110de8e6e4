-- what the keeper knows, against what is so
theorem ev_add {E ev : List mEv} {e : mEv} (h : ev = E.drop (E.length - 30)) : evAdd ev e = (E ++ [e]).drop ((E ++ [e]).length - 30) := by
  subst h
  unfold evAdd
  rw [List.length_drop, List.length_append, List.length_singleton]
  by_cases q : E.length < 30
  · rw [if_neg (by omega), show E.length - 30 = 0 by omega, show E.length + 1 - 30 = 0 by omega]
    rfl
  · rw [if_pos (by omega), List.tail_drop, show E.length + 1 - 30 = E.length - 30 + 1 by omega, List.drop_append_of_le_length (by omega)]
def bnE (e : mBk) : Nat := if e.2.2.2.1 = -1 then 0 else 1
def bnN (l : List mBk) : Nat := (l.map bnE).sum
theorem bnN_set {l : List mBk} {i : Nat} {e e' : mBk} (he : l[i]? = some e) : bnN (l.set i e') + bnE e = bnN l + bnE e' := by
  induction l generalizing i with
  | nil => simp at he
  | cons y t ih =>
    cases i with
    | zero =>
      simp at he
      subst he
      simp [bnN]
      omega
    | succ i =>
      simp at he
      have := ih he
      simp [bnN] at this ⊢
      omega
def bkH (pd : Prop) (e : mBk) (r : mHB) : Prop := r.1 = e.2.1 ∧ (r.2.1 = 0 ∨ r.2.1 = e.2.2.1) ∧ (e.2.2.2.1 ≠ -1 → r.2.2.1 = e.2.2.2.1) ∧ (r.2.2.2.1 = e.2.2.2.2.1 ∨ (pd ∧ r.2.2.2.1 = -1 ∧ e.2.2.2.2.1 = e.2.2.1 ∧ e.2.2.2.1 ≠ -1)) ∧ r.2.2.2.2 = e.2.2.2.2.2
def hPt (P : Nat) (Bk : List mBk) (L : List mLf) (C : List mCu) (E : List mEv) : Prop := L.length + ovU Bk ≤ 60 ∧ E.length + L.length + ovU Bk + bnN Bk + C.length ≤ P
def hSc (z : Nat → Int32) (S : hBd) : Prop := S.1 8 = z 11 ∧ S.1 9 = z 3 ∧ S.1 10 = z 4 ∧ S.1 11 = z 5 ∧ ∀ j, j < 3 → S.2.1 j = z j
def hCn (S : hBd) : Prop := S.1 5 = nI S.2.2.2.1.length ∧ S.1 6 = nI S.2.2.2.2.1.length ∧ S.1 7 = nI S.2.2.2.2.2.length
def hBk (pd : Nat → Prop) (Bk : List mBk) (B : List mHB) : Prop := B.length = 3 ∧ Bk.length = 3 ∧ ∀ (k : Nat) (e : mBk) (r : mHB), Bk[k]? = some e → B[k]? = some r → bkH (pd k) e r
def hRel (pd : Nat → Prop) (P : Nat) (z : Nat → Int32) (Bk : List mBk) (L : List mLf) (C : List mCu) (V : List mEv) (S : hBd) : Prop := hSc z S ∧ hCn S ∧ hBk pd Bk S.2.2.1 ∧ (S.2.2.2.1 = C ∧ S.2.2.2.2.1 = L ∧ V = S.2.2.2.2.2.drop (S.2.2.2.2.2.length - 30)) ∧ hPt P Bk L C S.2.2.2.2.2
abbrev hRs (pd : Nat → Prop) (P : Nat) (s : mS) (S : hBd) : Prop := hRel pd P s.1 s.2.1 s.2.2.1 s.2.2.2.1 s.2.2.2.2 S
abbrev noP : Nat → Prop := fun _ => False
section R
variable {pd : Nat → Prop} {P : Nat} {z : Nat → Int32} {Bk : List mBk} {L : List mLf} {C : List mCu} {V : List mEv} {S : hBd}
theorem hRel.zz (h : hRel pd P z Bk L C V S) {z' : Nat → Int32} (hz : z' 11 = z 11 ∧ z' 3 = z 3 ∧ z' 4 = z 4 ∧ z' 5 = z 5 ∧ ∀ j, j < 3 → z' j = z j) : hRel pd P z' Bk L C V S := ⟨⟨by rw [hz.1]; exact h.1.1, by rw [hz.2.1]; exact h.1.2.1, by rw [hz.2.2.1]; exact h.1.2.2.1, by rw [hz.2.2.2.1]; exact h.1.2.2.2.1, fun j hj => by rw [hz.2.2.2.2 j hj]; exact h.1.2.2.2.2 j hj⟩, h.2⟩
theorem hRel.pp (h : hRel pd P z Bk L C V S) {P' : Nat} (hP : P ≤ P') : hRel pd P' z Bk L C V S := ⟨h.1, h.2.1, h.2.2.1, h.2.2.2.1, h.2.2.2.2.1, Nat.le_trans h.2.2.2.2.2 hP⟩
theorem hRel.h5 (h : hRel pd P z Bk L C V S) : S.1 5 = nI S.2.2.2.1.length := h.2.1.1
theorem hRel.h6 (h : hRel pd P z Bk L C V S) : S.1 6 = nI S.2.2.2.2.1.length := h.2.1.2.1
theorem hRel.h7 (h : hRel pd P z Bk L C V S) : S.1 7 = nI S.2.2.2.2.2.length := h.2.1.2.2
theorem hRel.h9 (h : hRel pd P z Bk L C V S) : S.1 9 = z 3 := h.1.2.1
theorem hRel.h10 (h : hRel pd P z Bk L C V S) : S.1 10 = z 4 := h.1.2.2.1
theorem hRel.h11 (h : hRel pd P z Bk L C V S) : S.1 11 = z 5 := h.1.2.2.2.1
theorem hRel.Z (h : hRel pd P z Bk L C V S) : hZ z S := ⟨h.1.2.1, h.1.2.2.2.2⟩
theorem hRel.lL (h : hRel pd P z Bk L C V S) : S.2.2.2.2.1.length ≤ 60 := by
  have := h.2.2.2.2.1
  rw [h.2.2.2.1.2.1]
  omega
theorem hRel.lE (h : hRel pd P z Bk L C V S) : S.2.2.2.2.2.length ≤ P := by
  have := h.2.2.2.2.2
  omega
/-- an event -/
theorem hRel.ev (h : hRel pd P z Bk L C V S) (e : mEv) : hRel pd (P + 1) z Bk L C (evAdd V e) (tlS S e) := by
  obtain ⟨h1, h2, h3, ⟨h4, h5, h6⟩, h7, h8⟩ := h
  refine ⟨h1, ⟨h2.1, h2.2.1, ?_⟩, h3, ⟨h4, h5, ev_add h6⟩, h7, ?_⟩
  · show nI (S.2.2.2.2.2.length + 1) = nI (S.2.2.2.2.2 ++ [e]).length
    rw [List.length_append]
    rfl
  · show (S.2.2.2.2.2 ++ [e]).length + _ + _ + _ + _ ≤ _
    rw [List.length_append, List.length_singleton]
    omega
/-- a loaf goes -/
theorem hRel.drop (h : hRel pd (P + 1) z Bk L C V S) {w : Nat} (hw : w < L.length) : hRel pd P z Bk (L.eraseIdx w) C V (dlS S w) := by
  obtain ⟨h1, h2, h3, ⟨h4, h5, h6⟩, h7, h8⟩ := h
  have hl : (L.eraseIdx w).length = L.length - 1 := er_len hw
  refine ⟨h1, ⟨h2.1, ?_, h2.2.2⟩, h3, ⟨h4, by show S.2.2.2.2.1.eraseIdx w = _; rw [h5], h6⟩, by rw [hl]; omega, by show S.2.2.2.2.2.length + (L.eraseIdx w).length + _ + _ + _ ≤ P; rw [hl]; omega⟩
  show nI (S.2.2.2.2.1.length - 1) = nI (S.2.2.2.2.1.eraseIdx w).length
  rw [er_len (by rw [h5]; exact hw)]
/-- a customer goes -/
theorem hRel.leave (h : hRel pd P z Bk L C V S) {w : Nat} (hw : w < C.length) (e : mEv) : hRel pd P z Bk L (C.eraseIdx w) (evAdd V e) (lvS S w e) := by
  obtain ⟨h1, h2, h3, ⟨h4, h5, h6⟩, h7, h8⟩ := h
  have hl : (C.eraseIdx w).length = C.length - 1 := er_len hw
  refine ⟨h1, ⟨?_, h2.2.1, ?_⟩, h3, ⟨by show S.2.2.2.1.eraseIdx w = _; rw [h4], h5, ev_add h6⟩, h7, ?_⟩
  · show nI (S.2.2.2.1.length - 1) = nI (S.2.2.2.1.eraseIdx w).length
    rw [er_len (by rw [h4]; exact hw)]
  · show nI (S.2.2.2.2.2.length + 1) = nI (S.2.2.2.2.2 ++ [e]).length
    rw [List.length_append]
    rfl
  · show (S.2.2.2.2.2 ++ [e]).length + _ + _ + _ + (C.eraseIdx w).length ≤ _
    rw [List.length_append, List.length_singleton, hl]
    omega
/-- crumbs -/
theorem hRel.crumb (h : hRel pd P z Bk L C V S) (v : Int32) : hRel pd P (zup z 4 v) Bk L C V (u1 S.1 10 v, S.2) := by
  obtain ⟨h1, h2, h3⟩ := h
  refine ⟨⟨h1.1, h1.2.1, rfl, h1.2.2.2.1, fun j hj => ?_⟩, h2, h3⟩
  unfold zup
  rw [if_neg (by omega)]
  exact h1.2.2.2.2 j hj
theorem hRel.sparrow (h : hRel pd P z Bk L C V S) (v : Int32) : hRel pd P (zup z 5 v) Bk L C V (u1 S.1 11 v, S.2) := by
  obtain ⟨h1, h2, h3⟩ := h
  refine ⟨⟨h1.1, h1.2.1, h1.2.2.1, rfl, fun j hj => ?_⟩, h2, h3⟩
  unfold zup
  rw [if_neg (by omega)]
  exact h1.2.2.2.2 j hj
theorem hRel.hour (h : hRel pd P z Bk L C V S) (v : Int32) : hRel pd P (zup z 3 v) Bk L C V (u1 S.1 9 v, S.2) := by
  obtain ⟨h1, h2, h3⟩ := h
  refine ⟨⟨h1.1, rfl, h1.2.2.1, h1.2.2.2.1, fun j hj => ?_⟩, h2, h3⟩
  unfold zup
  rw [if_neg (by omega)]
  exact h1.2.2.2.2 j hj
/-- a customer's row -/
theorem hRel.cset (h : hRel pd P z Bk L C V S) (k : Nat) (e' : mCu) : hRel pd P z Bk L (C.set k e') V (S.1, S.2.1, S.2.2.1, S.2.2.2.1.set k e', S.2.2.2.2) := by
  obtain ⟨h1, h2, h3, ⟨h4, h5, h6⟩, h7, h8⟩ := h
  refine ⟨h1, ⟨?_, h2.2.1, h2.2.2⟩, h3, ⟨by show S.2.2.2.1.set k e' = _; rw [h4], h5, h6⟩, h7, by rw [List.length_set]; exact h8⟩
  show S.1 5 = nI (S.2.2.2.1.set k e').length
  rw [List.length_set]
  exact h2.1
/-- a baker's row: nothing that weighs -/
theorem hBk.set {B : List mHB} (h : hBk pd Bk B) {k : Nat} {pd' : Nat → Prop} {e' : mBk} {r' : mHB} (hb : bkH (pd' k) e' r') (hp : ∀ j, j ≠ k → pd j → pd' j) : hBk pd' (Bk.set k e') (B.set k r') := by
  refine ⟨by rw [List.length_set]; exact h.1, by rw [List.length_set]; exact h.2.1, fun j e r he hr => ?_⟩
  by_cases q : j = k
  · subst q
    have l1 := gE_lt he
    have l2 := gE_lt hr
    rw [List.length_set] at l1 l2
    rw [List.getElem?_set_self l1] at he
    rw [List.getElem?_set_self l2] at hr
    rw [← Option.some.inj he, ← Option.some.inj hr]
    exact hb
  · rw [List.getElem?_set_ne (by omega)] at he hr
    obtain ⟨b1, b2, b3, b4, b5⟩ := h.2.2 j e r he hr
    exact ⟨b1, b2, b3, b4.imp id (fun z => ⟨hp j q z.1, z.2⟩), b5⟩
theorem hRel.tick {e e' : mBk} {r' : mHB} {i : Nat} (h : hRel noP P z Bk L C V S) (he : Bk[i]? = some e) (h1 : ovE e' = ovE e) (h2 : bnE e' = bnE e) (hb : bkH False e' r') : hRel noP P z (Bk.set i e') L C V (S.1, S.2.1, S.2.2.1.set i r', S.2.2.2) := by
  obtain ⟨g1, g2, g3, g4, g5, g6⟩ := h
  have a1 := ovU_set (e' := e') he
  have a2 := bnN_set (e' := e') he
  exact ⟨g1, g2, g3.set (pd' := noP) hb (fun j _ z => z), g4, by omega, by show S.2.2.2.2.2.length + _ + _ + _ + _ ≤ P; omega⟩
theorem hRel.done {e e' : mBk} {r' : mHB} {i o : Nat} {x : mLf} {ev : mEv} (h : hRel noP P z Bk L C V S) (he : Bk[i]? = some e) (hk : e.2.2.2.1 ≠ -1) (ho : e.2.1 = nI o) (ho9 : o ≤ 60) (hk' : e'.2.2.2.1 = -1) (hb : bkH False e' r') : hRel noP P z (Bk.set i e') (L ++ List.replicate o x) C (evAdd V ev) (tlS (u1 S.1 6 (nI (S.2.2.2.2.1.length + o)), S.2.1, S.2.2.1.set i r', S.2.2.2.1, S.2.2.2.2.1 ++ List.replicate o x, S.2.2.2.2.2) ev) := by
  obtain ⟨g1, g2, g3, ⟨g4, g5, g6⟩, g7, g8⟩ := h
  have a1 := ovU_set (e' := e') he
  have a2 := bnN_set (e' := e') he
  have q1 : ovE e' = 0 := if_pos hk'
  have q2 : bnE e' = 0 := if_pos hk'
  have q3 : ovE e = o := by
    unfold ovE
    rw [if_neg hk, ho, nI_clamp (by omega)]
  have q4 : bnE e = 1 := if_neg hk
  refine ⟨g1, ⟨g2.1, ?_, ?_⟩, g3.set (pd' := noP) hb (fun j _ z => z), ⟨g4, by show S.2.2.2.2.1 ++ _ = _; rw [g5], ev_add g6⟩, ?_, ?_⟩
  · show nI (S.2.2.2.2.1.length + o) = nI (S.2.2.2.2.1 ++ List.replicate o x).length
    rw [List.length_append, List.length_replicate]
  · show nI (S.2.2.2.2.2.length + 1) = nI (S.2.2.2.2.2 ++ [ev]).length
    rw [List.length_append]
    rfl
  · rw [List.length_append, List.length_replicate]
    omega
  · show (S.2.2.2.2.2 ++ [ev]).length + (L ++ List.replicate o x).length + _ + _ + _ ≤ P
    rw [List.length_append, List.length_append, List.length_replicate, List.length_singleton]
    omega
end R
theorem u1_u1 (f : Nat → Int32) (k : Nat) (a b : Int32) : u1 (u1 f k a) k b = u1 f k b := by
  funext j
  unfold u1
  split <;> rfl
