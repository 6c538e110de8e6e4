-- behind: 33 34
-- the whole object: its market, its text, what it wrote, its slots, its past
abbrev mX : Type := mS × (Nat → Int32) × Nat × Nat × Int32 × List Int32 × (Nat → Option mS) × List mS
abbrev mX.s (m : mX) : mS := m.1
abbrev mX.f (m : mX) : Nat → Int32 := m.2.1
abbrev mX.n (m : mX) : Nat := m.2.2.1
abbrev mX.e (m : mX) : Nat := m.2.2.2.1
abbrev mX.ep (m : mX) : Int32 := m.2.2.2.2.1
abbrev mX.o (m : mX) : List Int32 := m.2.2.2.2.2.1
abbrev mX.sl (m : mX) : Nat → Option mS := m.2.2.2.2.2.2.1
abbrev mX.past (m : mX) : List mS := m.2.2.2.2.2.2.2
abbrev mX.w_s (m : mX) (v : mS) : mX := (v, m.2.1, m.2.2.1, m.2.2.2.1, m.2.2.2.2.1, m.2.2.2.2.2.1, m.2.2.2.2.2.2.1, m.2.2.2.2.2.2.2)
abbrev mX.w_f (m : mX) (v : Nat → Int32) : mX := (m.1, v, m.2.2.1, m.2.2.2.1, m.2.2.2.2.1, m.2.2.2.2.2.1, m.2.2.2.2.2.2.1, m.2.2.2.2.2.2.2)
abbrev mX.w_n (m : mX) (v : Nat) : mX := (m.1, m.2.1, v, m.2.2.2.1, m.2.2.2.2.1, m.2.2.2.2.2.1, m.2.2.2.2.2.2.1, m.2.2.2.2.2.2.2)
abbrev mX.w_e (m : mX) (v : Nat) : mX := (m.1, m.2.1, m.2.2.1, v, m.2.2.2.2.1, m.2.2.2.2.2.1, m.2.2.2.2.2.2.1, m.2.2.2.2.2.2.2)
abbrev mX.w_ep (m : mX) (v : Int32) : mX := (m.1, m.2.1, m.2.2.1, m.2.2.2.1, v, m.2.2.2.2.2.1, m.2.2.2.2.2.2.1, m.2.2.2.2.2.2.2)
abbrev mX.w_o (m : mX) (v : List Int32) : mX := (m.1, m.2.1, m.2.2.1, m.2.2.2.1, m.2.2.2.2.1, v, m.2.2.2.2.2.2.1, m.2.2.2.2.2.2.2)
abbrev mX.w_sl (m : mX) (v : Nat → Option mS) : mX := (m.1, m.2.1, m.2.2.1, m.2.2.2.1, m.2.2.2.2.1, m.2.2.2.2.2.1, v, m.2.2.2.2.2.2.2)
abbrev mX.w_past (m : mX) (v : List mS) : mX := (m.1, m.2.1, m.2.2.1, m.2.2.2.1, m.2.2.2.2.1, m.2.2.2.2.2.1, m.2.2.2.2.2.2.1, v)
/-- the references of the past (places 0 to 7) and of the slots (8 and 9) -/
def plc (σ : cAS) (x k : Nat) : Option Nat := if k < 8 then aR σ (x + 61) k else aR σ (x + 60) (k - 8)
def occ (m : mX) (k : Nat) : Option mS := if k < 8 then m.past[k]? else m.sl (k - 8)
def rgn (σ : cAS) (x q : Nat) : Prop := shS σ q ∧ x + 62 ≤ q ∧ q + 25 ≤ aN σ
def apart (q q' : Nat) : Prop := q + 25 ≤ q' ∨ q' + 25 ≤ q
def rgs (σ : cAS) (x : Nat) : Prop := (∀ k, k < 10 → ∀ q, plc σ x k = some q → rgn σ x q) ∧ ∀ k k', k < 10 → k' < 10 → k ≠ k' → ∀ q q', plc σ x k = some q → plc σ x k' = some q' → apart q q'
def ocAt (σ : cAS) (x : Nat) (oc : Nat → Option mS) : Prop := (∀ k, k < 10 → ∀ s, oc k = some s → ∃ q, plc σ x k = some q ∧ stAt (aI σ) q s) ∧ ∀ k, 8 ≤ k → k < 10 → oc k = none → plc σ x k = none
def flAt (I : Nat → Nat → Int32) (x : Nat) (m : mX) : Prop :=
  (∀ j, j < 3 → inR (I (x + 27) j) 0 99) ∧ I (x + 56) = m.f ∧ I x 9 = nI m.n ∧ m.n ≤ 600 ∧ I x 11 = nI m.e ∧ m.e ≤ 6 ∧ I x 12 = m.ep ∧ I x 10 = nI m.o.length ∧ m.o.length ≤ 120 ∧ (∀ i v, m.o[i]? = some v → I (x + 59) i = v) ∧ I x 8 = nI m.past.length ∧ m.past.length ≤ 8
def xAt (σ : cAS) (x : Nat) (m : mX) : Prop := shX σ x ∧ x + 62 ≤ aN σ ∧ stAt (aI σ) (x + 1) m.s ∧ flAt (aI σ) x m ∧ rgs σ x ∧ ocAt σ x (occ m)
def wfX (T C : Nat) (m : mX) : Prop := wf T C m.s ∧ ∀ k, k < 10 → ∀ s, occ m k = some s → wf T C s
/-- a cell of somebody else's: behind the object's own rows, in no region of its past and slots -/
def fre (σ : cAS) (x a : Nat) : Prop := x + 62 ≤ a ∧ a < aN σ ∧ ∀ k, k < 10 → ∀ q, plc σ x k = some q → a < q ∨ q + 25 ≤ a
def kpM (σ τ : cAS) (x : Nat) : Prop := ∀ a, fre σ x a → fre τ x a ∧ aT τ a = aT σ a ∧ aI τ a = aI σ a ∧ aR τ a = aR σ a ∧ aL τ a = aL σ a
theorem kpM.rf {σ : cAS} {x : Nat} : kpM σ σ x := fun _ h => ⟨h, rfl, rfl, rfl, rfl⟩
theorem kpM.trans {σ τ υ : cAS} {x : Nat} (h : kpM σ τ x) (h' : kpM τ υ x) : kpM σ υ x := fun a h1 => by
  obtain ⟨a0, a1, a2, a3, a4⟩ := h a h1
  obtain ⟨b0, b1, b2, b3, b4⟩ := h' a a0
  exact ⟨b0, b1.trans a1, b2.trans a2, b3.trans a3, b4.trans a4⟩
theorem kpM.mv {σ : cAS} {I : Nat → Nat → Int32} {x : Nat} (h : fr (aI σ) I x 62) : kpM σ (wI σ I) x := fun a h1 => ⟨h1, rfl, h a (by have := h1.1; omega), rfl, rfl⟩
theorem kpM.ex {σ : cAS} {x n : Nat} (hn : aN σ ≤ n) : kpM σ (sX σ n) x := fun _ h => ⟨⟨h.1, Nat.lt_of_lt_of_le h.2.1 hn, h.2.2⟩, rfl, rfl, rfl, rfl⟩
theorem rgs.of {σ τ : cAS} {x : Nat} (h : rgs σ x) (hT : aT τ = aT σ) (hR : aR τ = aR σ) (hN : aN σ ≤ aN τ) : rgs τ x := by
  have hp : ∀ k, plc τ x k = plc σ x k := fun k => by
    unfold plc
    rw [hR]
  refine ⟨fun k hk q hq => ?_, fun k k' hk hk' hne q q' hq hq' => ?_⟩
  · rw [hp] at hq
    obtain ⟨h1, h2, h3⟩ := h.1 k hk q hq
    refine ⟨?_, h2, by omega⟩
    unfold shS at h1 ⊢
    rw [hT, hR]
    exact h1
  · rw [hp] at hq hq'
    exact h.2 k k' hk hk' hne q q' hq hq'
theorem shX.of {σ τ : cAS} {x : Nat} (h : shX σ x) (hT : aT τ = aT σ) (hR : aR τ = aR σ) : shX τ x := by
  unfold shX shS at h ⊢
  rw [hT, hR]
  exact h
theorem ocAt.of {σ τ : cAS} {x : Nat} {oc : Nat → Option mS} (h : ocAt σ x oc) (hg : rgs σ x) (hR : aR τ = aR σ) (hI : ∀ a, x + 62 ≤ a → aI τ a = aI σ a) : ocAt τ x oc := by
  have hp : ∀ k, plc τ x k = plc σ x k := fun k => by
    unfold plc
    rw [hR]
  refine ⟨fun k hk s hs => ?_, fun k h1 h2 h3 => by rw [hp]; exact h.2 k h1 h2 h3⟩
  obtain ⟨q, hq, hst⟩ := h.1 k hk s hs
  obtain ⟨-, h2, -⟩ := hg.1 k hk q hq
  refine ⟨q, by rw [hp]; exact hq, ?_⟩
  have e : ∀ j, aI τ (q + j) = aI σ (q + j) := fun j => hI _ (by omega)
  have e0 := e 0
  unfold stAt scAt bkAt skAt cuAt evAt at hst ⊢
  simp only [Nat.add_zero] at e0
  simp only [e, e0]
  exact hst
/-- only the numbers of the object's own rows have moved -/
theorem xAt.mv {σ : cAS} {x : Nat} {m m' : mX} {I : Nat → Nat → Int32} (h : xAt σ x m) (hf : fr (aI σ) I x 62) (h1 : stAt I (x + 1) m'.s) (h2 : flAt I x m') (ho : occ m' = occ m) : xAt (wI σ I) x m' := by
  obtain ⟨a1, a2, a3, a4, a5, a6⟩ := h
  refine ⟨a1.of rfl rfl, a2, h1, h2, a5.of rfl rfl (Nat.le_refl _), ?_⟩
  rw [ho]
  exact a6.of a5 rfl (fun a ha => hf a (by omega))
theorem xAt.ex {σ : cAS} {x n : Nat} {m : mX} (h : xAt σ x m) (hn : aN σ ≤ n) : xAt (sX σ n) x m := by
  obtain ⟨a1, a2, a3, a4, a5, a6⟩ := h
  exact ⟨a1.of rfl rfl, Nat.le_trans a2 hn, a3, a4, a5.of rfl rfl hn, a6.of a5 rfl (fun _ _ => rfl)⟩
-- what a call does: 0 and an answer, or the number of an exception
abbrev oR : Type := Nat × Int32 × mX
def xE (Es : List String) (t : Nat) (v : Int32) : cRes := if t = 0 then .inl (some (.int v)) else .inr (Es.getD (t - 1) "")
def xO (σ : cAS) (x : Nat) (Es : List String) (o : oR) : cRes → cAS → Prop := fun r τ => r = xE Es o.1 o.2.1 ∧ xAt τ x o.2.2 ∧ kpM σ τ x
theorem xO.ret {σ : cAS} {x : Nat} {Es : List String} {m : mX} {v : Int32} (h : xAt σ x m) : xO σ x Es (0, v, m) (.inl (some (.int v))) σ := ⟨rfl, h, kpM.rf⟩
theorem xO.exc {σ : cAS} {x n t : Nat} {Es : List String} {m : mX} {v : Int32} {E : String} (h : xAt σ x m) (hn : aN σ ≤ n) (he : Es[t]? = some E) : xO σ x Es (t + 1, v, m) (.inr E) (sX σ n) := by
  refine ⟨?_, h.ex hn, kpM.ex hn⟩
  show _ = if t + 1 = 0 then _ else _
  rw [if_neg (by omega), Nat.add_sub_cancel, List.getD_eq_getElem?_getD, he]
  rfl
/-- a call that returns and leaves all as it is, or throws -/
def tR (σ : cAS) (bad : Prop) (E : String) (v : Option Value) : cRes → cAS → Prop := fun r τ => (bad ∧ r = .inr E ∧ ∃ n, aN σ ≤ n ∧ τ = sX σ n) ∨ (¬ bad ∧ r = .inl v ∧ τ = σ)
section CALL
variable {Γ : cG} {M : cM} {Φ : cRes → cAS → Prop} {pc : Nat} {L : List (Option Value)} {σ : cAS}
variable {f lo mc ms mc2 ms2 f' lo' mc' ms' n index : Nat} {M' : cM} {av rest stk : List Value} {bad : Prop} {E : String} {v : Option Value}
theorem WP.cSt (lk : cKS (mY M).cls index M' n) (hC : Ctr Γ (f', lo', mc', ms') M' av σ (tR σ bad E v)) (hn : av.length = n) (hr : f' + 1 ≤ f ∧ 8 + (mL M' + 11) + lo' ≤ lo) (hmc : mc2 + mc' ≤ mc) (hms : ms2 + ms' ≤ ms) (hst : (rest.map fun v => v.category).sum ≤ 8) (hstk : stk = av.reverse ++ rest) (d : decode (mC M) pc = .ok (.invokestatic index, 3)) (hh : mH M = [])
    (kx : bad → ∀ n, aN σ ≤ n → Φ (.inr E) (sX σ n)) (k : ¬ bad → WP Γ (f, lo, mc2, ms2) M Φ (pc + 3) L (v.toList ++ rest) σ) : WP Γ (f, lo, mc, ms) M Φ pc L stk σ :=
  WP.callS lk hC hn hr hmc hms hst hstk d (fun w σ' h => by
    rcases h with ⟨-, h, -⟩ | ⟨h1, h2, rfl⟩
    · cases h
    · cases h2
      exact k h1) (fun E' σ' h => by
    rcases h with ⟨h1, h2, n, h3, rfl⟩ | ⟨-, h, -⟩
    · cases h2
      exact WX.out hh (kx h1 n h3)
    · cases h)
theorem WP.cVt {b ci k0 : Nat} (lk : cKV (mY M).cls index M' n) (hC : Ctr Γ (f', lo', mc', ms') M' (.ref b :: av) σ (tR σ bad E v)) (hci : ci < 10 ∨ ci = 15 ∨ ci = 16) (hcl : (mY M').cls = (cCl ci).1) (ht : aT σ b = (ci + 1, k0)) (hn : av.length = n) (hr : f' + 1 ≤ f ∧ 8 + (mL M' + 11) + lo' ≤ lo) (hmc : mc2 + mc' ≤ mc) (hms : ms2 + ms' ≤ ms) (hst : (rest.map fun v => v.category).sum ≤ 8) (hstk : stk = av.reverse ++ .ref b :: rest) (d : decode (mC M) pc = .ok (.invokevirtual index, 3)) (hh : mH M = [])
    (kx : bad → ∀ n, aN σ ≤ n → Φ (.inr E) (sX σ n)) (k : ¬ bad → WP Γ (f, lo, mc2, ms2) M Φ (pc + 3) L (v.toList ++ rest) σ) : WP Γ (f, lo, mc, ms) M Φ pc L stk σ :=
  WP.callV lk hC hci hcl ht hn hr hmc hms hst hstk d (fun w σ' h => by
    rcases h with ⟨-, h, -⟩ | ⟨h1, h2, rfl⟩
    · cases h
    · cases h2
      exact k h1) (fun E' σ' h => by
    rcases h with ⟨h1, h2, n, h3, rfl⟩ | ⟨-, h, -⟩
    · cases h2
      exact WX.out hh (kx h1 n h3)
    · cases h)
end CALL
-- the words of the third exception
