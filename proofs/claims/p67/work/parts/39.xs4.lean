-- behind: 37 38
def dP : mBd := (0, 0)
def q_bidCount (m : mX) (k : Int32) : oR := if ixB k 3 then (1, 0, m) else (0, nI (plB m.s k).length, m)
def q_tradeCount (m : mX) (k : Int32) : oR := if ixB k 3 then (1, 0, m) else (0, nI (plT m.s k), m)
def q_clearingPrice (m : mX) (k : Int32) : oR := if ixB k 3 then (1, 0, m) else (0, if plT m.s k = 0 then -1 else plP m.s k, m)
def q_reasonNoTrades (m : mX) (k : Int32) : oR := if ixB k 3 then (1, 0, m) else (0, if 0 < plT m.s k then 0 else if (plL m.s k).length = 0 then 1 else if (plB m.s k).length = 0 then 2 else 3, m)
def q_buyerOf (m : mX) (k t : Int32) : oR := if ixB k 3 then (1, 0, m) else if ixB t (plT m.s k) then (2, 0, m) else (0, ((plB m.s k).getD t.toNatClampNeg dP).1, m)
def q_loafOf (m : mX) (k t : Int32) : oR := if ixB k 3 then (1, 0, m) else if ixB t (plT m.s k) then (2, 0, m) else (0, ((plL m.s k).getD t.toNatClampNeg dP).1, m)
def q_gain (m : mX) (k : Int32) : oR := if ixB k 3 then (1, 0, m) else (0, smI (fun i => ((plB m.s k).getD i dP).2) (plT m.s k) - smI (fun i => ((plL m.s k).getD i dP).2) (plT m.s k), m)
def q_sparrowsAfter (m : mX) (h : Int32) : oR := if h < 0 ∨ 100 < h then (1, 0, m) else (0, (hrsN h.toNatClampNeg m.s).1 5, m)
def q_loavesAfter (m : mX) (h : Int32) : oR := if h < 0 ∨ 100 < h then (1, 0, m) else (0, nI (hrsN h.toNatClampNeg m.s).2.2.1.length, m)
def q_tradesAfter (m : mX) (k h : Int32) : oR := if ixB k 3 then (1, 0, m) else if h < 0 ∨ 100 < h then (2, 0, m) else (0, nI (plT (hrsN h.toNatClampNeg m.s) k), m)
def bhN (k : Int32) : Nat → Nat → Int32 → Int32 → mS → Int32
  | 0, _, b, _, _ => b
  | n + 1, i, b, mo, s => if mo < nI (plT s k) * plP s k then bhN k n (i + 1) (nI i) (nI (plT s k) * plP s k) (hrOut s) else bhN k n (i + 1) b mo (hrOut s)
def q_bestHour (m : mX) (k : Int32) : oR := if ixB k 3 then (1, 0, m) else (0, bhN k 25 0 0 0 m.s, m)
theorem xO.ret2 {σ τ : cAS} {x : Nat} {Es : List String} {m : mX} {v : Int32} (h : xAt τ x m) (hk : kpM σ τ x) : xO σ x Es (0, v, m) (.inl (some (.int v))) τ := ⟨rfl, h, hk⟩
theorem xO.exc2 {σ τ : cAS} {x n t : Nat} {Es : List String} {m : mX} {v : Int32} {E : String} (h : xAt τ x m) (hk : kpM σ τ x) (hn : aN τ ≤ n) (he : Es[t]? = some E) : xO σ x Es (t + 1, v, m) (.inr E) (sX τ n) := by
  obtain ⟨h1, h2, h3⟩ := xO.exc (v := v) (m := m) h hn he
  exact ⟨h1, h2, hk.trans h3⟩
theorem kpM.plan {σ : cAS} {x : Nat} {I : Nat → Nat → Int32} (hf : fr (aI σ) I (x + 51) 5) : kpM σ (wI σ I) x := kpM.mv (hf.mono (by omega) (by omega))
theorem kpM.scr {σ : cAS} {x : Nat} {I : Nat → Nat → Int32} (hf : fr (aI σ) I (x + 26) 30) : kpM σ (wI σ I) x := kpM.mv (hf.mono (by omega) (by omega))
section T
variable (Γ : cG) {σ : cAS} {x : Nat} {m : mX} {T C : Nat}
theorem PX (hx : xAt σ x m) (hw : wf T C m.s) (k : Int32) : Ctr Γ (2, 45, 0, 0) MX0_prepare [.ref (x + 51), .ref (x + 1), .int k] (wI σ (aI σ)) (rW σ (fun I' => fr (aI σ) I' (x + 51) 5 ∧ stAt I' (x + 1) m.s ∧ auAt I' x m.s k)) :=
  CX0_prepare Γ hx.1 hx.1.a (by omega) hx.2.2.1 k hw.cu
theorem plT_le {A : Nat} {s : mS} (h : wfA A T C s) (k : Int32) : plT s k ≤ 60 := by
  have h1 := (trN_le (plB s k) (plL s k)).2
  have h2 : (plL s k).length ≤ s.2.2.1.length := lvF_len _
  have h3 := h.2.2.1
  have : plT s k ≤ (plL s k).length := h1
  omega
theorem rg100 {h : Int32} (hb : ¬ (h < 0 ∨ 100 < h)) : ∃ N, h = nI N ∧ N ≤ 100 := by
  obtain ⟨j, hj, rfl⟩ := nI_of (x := h) (fun q => hb (Or.inl q))
  exact ⟨j, rfl, Nat.not_lt.mp fun q => hb (Or.inr (nI_lt (a := 100) q hj))⟩
end T
