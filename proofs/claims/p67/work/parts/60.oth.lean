-- what others do beside the object
/-- of the object's own cells nothing has changed -/
def kpX (σ τ : cAS) (x : Nat) : Prop := aN σ ≤ aN τ ∧ ∀ a, a < aN σ → ¬ fre σ x a → aT τ a = aT σ a ∧ aI τ a = aI σ a ∧ aR τ a = aR σ a ∧ aL τ a = aL σ a
theorem kpX.rf {σ : cAS} {x : Nat} : kpX σ σ x := ⟨Nat.le_refl _, fun _ _ _ => ⟨rfl, rfl, rfl, rfl⟩⟩
theorem kpX.own {σ τ : cAS} {x a : Nat} (h : kpX σ τ x) (hx : x + 62 ≤ aN σ) (ha : a < x + 62) : aT τ a = aT σ a ∧ aI τ a = aI σ a ∧ aR τ a = aR σ a ∧ aL τ a = aL σ a := h.2 a (by omega) (fun q => by have := q.1; omega)
theorem kpX_plc {σ τ : cAS} {x : Nat} (h : kpX σ τ x) (hx : x + 62 ≤ aN σ) (k : Nat) : plc τ x k = plc σ x k := by
  unfold plc
  rw [(h.own hx (a := x + 61) (by omega)).2.2.1, (h.own hx (a := x + 60) (by omega)).2.2.1]
theorem kpX_fre {σ τ : cAS} {x a : Nat} (h : kpX σ τ x) (hx : x + 62 ≤ aN σ) (hf : fre σ x a) : fre τ x a := ⟨hf.1, Nat.lt_of_lt_of_le hf.2.1 h.1, fun k hk q hq => hf.2.2 k hk q (by rw [← kpX_plc h hx k]; exact hq)⟩
theorem kpX_fre2 {σ τ : cAS} {x a : Nat} (h : kpX σ τ x) (hx : x + 62 ≤ aN σ) (ha : a < aN σ) (hf : fre τ x a) : fre σ x a := ⟨hf.1, ha, fun k hk q hq => hf.2.2 k hk q (by rw [kpX_plc h hx k]; exact hq)⟩
theorem kpX.trans {σ τ υ : cAS} {x : Nat} (h : kpX σ τ x) (hx : x + 62 ≤ aN σ) (h' : kpX τ υ x) : kpX σ υ x := ⟨Nat.le_trans h.1 h'.1, fun a ha hf => by
  obtain ⟨a1, a2, a3, a4⟩ := h.2 a ha hf
  obtain ⟨b1, b2, b3, b4⟩ := h'.2 a (Nat.lt_of_lt_of_le ha h.1) (fun q => hf (kpX_fre2 h hx ha q))
  exact ⟨b1.trans a1, b2.trans a2, b3.trans a3, b4.trans a4⟩⟩
/-- a cell that is new is nobody's -/
theorem xAt.new {σ τ : cAS} {x a : Nat} {m : mX} (h : xAt σ x m) (hk : kpX σ τ x) (h1 : aN σ ≤ a) (h2 : a < aN τ) : fre τ x a := ⟨by have := h.2.1; omega, h2, fun k hk' q hq => Or.inr (by
  rw [kpX_plc hk h.2.1] at hq
  have := (h.2.2.2.2.1.1 k hk' q hq).2.2
  omega)⟩
theorem xAt.nfre {σ : cAS} {x q k a : Nat} {m : mX} (h : xAt σ x m) (hk : k < 10) (hq : plc σ x k = some q) (h1 : q ≤ a) (h2 : a < q + 25) : ¬ fre σ x a := fun f => by
  have := f.2.2 k hk q hq
  omega
theorem xAt.oth {σ τ : cAS} {x : Nat} {m : mX} (h : xAt σ x m) (hk : kpX σ τ x) : xAt τ x m := by
  have hx := h.2.1
  have hrg : ∀ k, k < 10 → ∀ q, plc σ x k = some q → ∀ a, q ≤ a → a < q + 25 → aT τ a = aT σ a ∧ aI τ a = aI σ a ∧ aR τ a = aR σ a ∧ aL τ a = aL σ a := fun k hk' q hq a h1 h2 => hk.2 a (by have := (h.2.2.2.2.1.1 k hk' q hq).2.2; omega) (h.nfre hk' hq h1 h2)
  obtain ⟨a1, a2, a3, a4, a5, a6, a7⟩ := h
  have ho : ∀ a, a < x + 62 → aT τ a = aT σ a ∧ aI τ a = aI σ a ∧ aR τ a = aR σ a ∧ aL τ a = aL σ a := fun a ha => hk.own hx ha
  have hp := kpX_plc hk hx
  refine ⟨a1.ofs (fun a _ c2 => (ho a c2).1) (fun a _ c2 => (ho a (by omega)).2.2.1), Nat.le_trans a2 hk.1, a3.ext (fun a _ c2 => (ho a (by omega)).2.1), ?_, ⟨fun k hk' q hq => ?_, fun k1 k2 h1 h2 hne q1 q2 e1 e2 => ?_⟩, fun k hk' s hs => ?_, fun k h1 h2 h3 => ?_⟩
  · unfold flAt at a4 ⊢
    rw [(ho x (by omega)).2.1, (ho (x + 27) (by omega)).2.1, (ho (x + 56) (by omega)).2.1, (ho (x + 59) (by omega)).2.1]
    exact a4
  · rw [hp] at hq
    obtain ⟨c1, c2, c3⟩ := a5.1 k hk' q hq
    have g := hrg k hk' q hq
    exact ⟨c1.ofs (fun a d1 d2 => (g a d1 d2).1) (fun a d1 d2 => (g a d1 d2).2.2.1), c2, Nat.le_trans c3 hk.1⟩
  · rw [hp] at e1 e2
    exact a5.2 k1 k2 h1 h2 hne q1 q2 e1 e2
  · obtain ⟨q, hq, hst⟩ := a6 k hk' s hs
    have g := hrg k hk' q hq
    exact ⟨q, by rw [hp]; exact hq, hst.ext (fun a d1 d2 => (g a d1 d2).2.1)⟩
  · rw [hp]
    exact a7 k h1 h2 h3
theorem kpX.sA {σ : cAS} {x kd n : Nat} : kpX σ (sA σ kd n) x := ⟨by rw [aN_sA]; omega, fun a ha _ => ⟨by rw [aT_sA, if_neg (by omega)], funext fun j => by rw [aI_sA, if_neg (by omega)], funext fun j => by rw [aR_sA, if_neg (by omega)], funext fun j => by show (if a = aN σ then _ else _) = _; rw [if_neg (by omega)]; rfl⟩⟩
theorem kpX.sI {σ : cAS} {x a k : Nat} {v : Int32} (h : fre σ x a) : kpX σ (sI σ a k v) x := ⟨Nat.le_refl _, fun d _ hf => ⟨rfl, funext fun j => by rw [aI_sI, if_neg (show ¬ (d = a ∧ j = k) from fun q => hf (q.1 ▸ h))], rfl, rfl⟩⟩
theorem kpX.sR {σ : cAS} {x a k : Nat} {v : Option Nat} (h : fre σ x a) : kpX σ (sR σ a k v) x := ⟨Nat.le_refl _, fun d _ hf => ⟨rfl, rfl, funext fun j => by rw [aR_sR, if_neg (show ¬ (d = a ∧ j = k) from fun q => hf (q.1 ▸ h))], rfl⟩⟩
theorem kpX.sX {σ : cAS} {x n : Nat} (h : aN σ ≤ n) : kpX σ (sX σ n) x := ⟨h, fun _ _ _ => ⟨rfl, rfl, rfl, rfl⟩⟩
theorem kpB.X {σ τ : cAS} {x : Nat} {m : mX} (h : kpB σ τ (aN σ)) : kpX σ τ x := ⟨h.1, fun a ha _ => h.2 a ha⟩
/-- both: the object's calls and others' -/
theorem kpM.al {σ τ : cAS} {x a : Nat} (h : kpM σ τ x) (hf : fre σ x a) : aT τ a = aT σ a := (h a hf).2.1
