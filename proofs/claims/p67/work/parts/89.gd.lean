section T
variable (Γ : cG) {x h : Nat} {m : mX}
theorem alX {σ : cAS} {x a k kd n : Nat} (hx : x + 62 ≤ aN σ) (hf : fre σ x a) : kpX σ (alR σ a k kd n) x := (kpX.sA (x := x) (σ := σ) (kd := kd) (n := n)).trans hx (kpX.sR (kpX_fre kpX.sA hx hf))
theorem alN' (σ : cAS) (a k kd n : Nat) : aN (alR σ a k kd n) = aN σ + 1 := rfl
abbrev iH (σ : cAS) (h : Nat) : cAS := alR (alR (alR (alR (alR σ h 0 11 3) h 1 14 3) h 2 14 10) h 3 14 60) h 4 14 2000
abbrev iH0 : hBd := (fun _ => 0, fun _ => 0, [], [], [], [])
theorem iH_J {σ : cAS} (hx : xAt σ x m) (hN : aN σ = h + 1) (ht : aT σ h = (10, 12)) (hI : aI σ h = fun _ => 0) (hf : fre σ x h) : hJ (iH σ h) x m h (h + 6) iH0 := by
  have b0 := hx.2.1
  have k1 := alX (k := 0) (kd := 11) (n := 3) b0 hf
  have f1 := kpX_fre k1 b0 hf
  have b1 : x + 62 ≤ aN (alR σ h 0 11 3) := by rw [alN']; omega
  have k2 := alX (k := 1) (kd := 14) (n := 3) b1 f1
  have f2 := kpX_fre k2 b1 f1
  have b2 : x + 62 ≤ aN (alR (alR σ h 0 11 3) h 1 14 3) := by rw [alN']; omega
  have k3 := alX (k := 2) (kd := 14) (n := 10) b2 f2
  have f3 := kpX_fre k3 b2 f2
  have b3 : x + 62 ≤ aN (alR (alR (alR σ h 0 11 3) h 1 14 3) h 2 14 10) := by rw [alN']; omega
  have k4 := alX (k := 3) (kd := 14) (n := 60) b3 f3
  have f4 := kpX_fre k4 b3 f3
  have b4 : x + 62 ≤ aN (alR (alR (alR (alR σ h 0 11 3) h 1 14 3) h 2 14 10) h 3 14 60) := by rw [alN']; omega
  have k5 := alX (k := 4) (kd := 14) (n := 2000) b4 f4
  have f5 := kpX_fre k5 b4 f4
  have kk := k1.trans b0 (k2.trans b1 (k3.trans b2 (k4.trans b3 k5)))
  have hN5 : aN (iH σ h) = h + 6 := by
    show aN σ + 1 + 1 + 1 + 1 + 1 = h + 6
    omega
  have fr : ∀ a, h ≤ a → a < h + 6 → fre (iH σ h) x a := fun a a1 a2 => by
    rcases Nat.eq_or_lt_of_le a1 with q | q
    · rw [← q]
      exact f5
    · exact hx.new kk (by omega) (by omega)
  have T : ∀ d, aT (iH σ h) d = if d = h + 5 then (14, 2000) else if d = h + 4 then (14, 60) else if d = h + 3 then (14, 10) else if d = h + 2 then (14, 3) else if d = h + 1 then (11, 3) else aT σ d := fun d => by
    show (if d = aN σ + 1 + 1 + 1 + 1 then _ else if d = aN σ + 1 + 1 + 1 then _ else if d = aN σ + 1 + 1 then _ else if d = aN σ + 1 then _ else if d = aN σ then _ else _) = _
    rw [hN]
    rfl
  have R0 : ∀ k, aR (iH σ h) h k = if k = 4 then some (h + 5) else if k = 3 then some (h + 4) else if k = 2 then some (h + 3) else if k = 1 then some (h + 2) else if k = 0 then some (h + 1) else aR σ h k := fun k => by
    have n1 : ¬ h = aN σ + 1 + 1 + 1 + 1 := by omega
    have n2 : ¬ h = aN σ + 1 + 1 + 1 := by omega
    have n3 : ¬ h = aN σ + 1 + 1 := by omega
    have n4 : ¬ h = aN σ + 1 := by omega
    have n5 : ¬ h = aN σ := by omega
    show (if h = h ∧ k = 4 then some (aN σ + 1 + 1 + 1 + 1) else if h = aN σ + 1 + 1 + 1 + 1 then none else if h = h ∧ k = 3 then some (aN σ + 1 + 1 + 1) else if h = aN σ + 1 + 1 + 1 then none else if h = h ∧ k = 2 then some (aN σ + 1 + 1) else if h = aN σ + 1 + 1 then none else if h = h ∧ k = 1 then some (aN σ + 1) else if h = aN σ + 1 then none else if h = h ∧ k = 0 then some (aN σ) else if h = aN σ then none else aR σ h k) = _
    simp only [if_neg n1, if_neg n2, if_neg n3, if_neg n4, if_neg n5, true_and]
    rw [hN]
  have I0 : ∀ d, aI (iH σ h) d = if d = h + 5 then (fun _ => 0) else if d = h + 4 then (fun _ => 0) else if d = h + 3 then (fun _ => 0) else if d = h + 2 then (fun _ => 0) else if d = h + 1 then (fun _ => 0) else aI σ d := fun d => by
    funext j
    show (if d = aN σ + 1 + 1 + 1 + 1 then (0 : Int32) else if d = aN σ + 1 + 1 + 1 then 0 else if d = aN σ + 1 + 1 then 0 else if d = aN σ + 1 then 0 else if d = aN σ then 0 else aI σ d j) = _
    rw [hN]
    split
    · rfl
    · split
      · rfl
      · split
        · rfl
        · split
          · rfl
          · split <;> rfl
  refine ⟨hx.oth kk, ⟨⟨⟨?_, ?_, ?_, ?_, ?_, ?_⟩, ⟨?_, ?_, ?_, ?_, ?_⟩, fr⟩, Nat.le_refl _, fr (h + 6 - 1) (by omega) (by omega)⟩, ?_, ?_, ⟨fun k e he => by simp at he, fun j k a q1 q2 => absurd q2 (Nat.not_lt_zero _)⟩, ⟨fun k e he => by simp at he, fun j k a q1 q2 => absurd q2 (Nat.not_lt_zero _)⟩, fun k e he => by simp at he, fun k e he => by simp at he⟩
  · rw [T, if_neg (by omega), if_neg (by omega), if_neg (by omega), if_neg (by omega), if_neg (by omega)]
    exact ht
  · rw [T, if_neg (by omega), if_neg (by omega), if_neg (by omega), if_neg (by omega), if_pos rfl]
  · rw [T, if_neg (by omega), if_neg (by omega), if_neg (by omega), if_pos rfl]
  · rw [T, if_neg (by omega), if_neg (by omega), if_pos rfl]
  · rw [T, if_neg (by omega), if_pos rfl]
  · rw [T, if_pos rfl]
  · rw [R0]; rfl
  · rw [R0]; rfl
  · rw [R0]; rfl
  · rw [R0]; rfl
  · rw [R0]; rfl
  · rw [I0, if_neg (by omega), if_neg (by omega), if_neg (by omega), if_neg (by omega), if_neg (by omega)]
    exact hI
  · rw [I0, if_neg (by omega), if_neg (by omega), if_neg (by omega), if_neg (by omega), if_pos rfl]
theorem new5 {f : Nat → Int32} {v0 v1 v2 v3 v4 : Int32} (h0 : f = fun _ => 0) : u1 (u1 (u1 (u1 (u1 f 0 v0) 1 v1) 2 v2) 3 v3) 4 v4 = rw5 (v0, v1, v2, v3, v4) := by
  rw [h0]
  funext j
  unfold u1 rw5
  by_cases q0 : j = 0
  · subst q0; rfl
  · by_cases q1 : j = 1
    · subst q1; rfl
    · by_cases q2 : j = 2
      · subst q2; rfl
      · by_cases q3 : j = 3
        · subst q3; rfl
        · by_cases q4 : j = 4
          · subst q4; rfl
          · simp only [if_neg q0, if_neg q1, if_neg q2, if_neg q3, if_neg q4]
theorem new6' {f : Nat → Int32} {nm : Nat} {v0 v1 v2 v3 v4 v5 : Int32} (h0 : f = fun _ => 0) : u1 (u1 (u1 (u1 (u1 (u1 f 0 v0) 1 v1) 2 v2) 3 v3) 4 v4) 5 v5 = rw6 (nm, v0, v1, v2, v3, v4, v5) := by
  rw [h0]
  funext j
  unfold u1 rw6
  by_cases q0 : j = 0
  · subst q0; rfl
  · by_cases q1 : j = 1
    · subst q1; rfl
    · by_cases q2 : j = 2
      · subst q2; rfl
      · by_cases q3 : j = 3
        · subst q3; rfl
        · by_cases q4 : j = 4
          · subst q4; rfl
          · by_cases q5 : j = 5
            · subst q5; rfl
            · simp only [if_neg q0, if_neg q1, if_neg q2, if_neg q3, if_neg q4, if_neg q5]
/-- a new row that is being filled, while the object is asked -/
def rwN (σ : cAS) (x N a n : Nat) (g : Nat → Int32) : Prop := N ≤ a ∧ fre σ x a ∧ aT σ a = (11, n) ∧ aI σ a = g
theorem rwN.M {σ τ : cAS} {N a n : Nat} {g : Nat → Int32} (hn : rwN σ x N a n g) (hk : kpM σ τ x) : rwN τ x N a n g := ⟨hn.1, (hk a hn.2.1).1, by rw [(hk a hn.2.1).2.1]; exact hn.2.2.1, by rw [(hk a hn.2.1).2.2.1]; exact hn.2.2.2⟩
theorem rwN.st {σ : cAS} {N a n : Nat} {g : Nat → Int32} (hn : rwN σ x N a n g) (k : Nat) (v : Int32) : rwN (sI σ a k v) x N a n (u1 g k v) := ⟨hn.1, hn.2.1, hn.2.2.1, by rw [aI_u1, hn.2.2.2]⟩
theorem hJ.nw {σ : cAS} {N : Nat} {S : hBd} (hj : hJ σ x m h N S) (n : Nat) : rwN (sA σ 11 n) x N (aN σ) n (fun _ => 0) := ⟨hj.newN, hj.newF 11 n, by rw [aT_sA, if_pos rfl], funext fun j => by rw [aI_sA, if_pos rfl]⟩
theorem hJ.st {σ : cAS} {N a n k : Nat} {g : Nat → Int32} {v : Int32} {S : hBd} (hj : hJ σ x m h N S) (hn : rwN σ x N a n g) : hJ (sI σ a k v) x m h N S := hj.tmp hn.1 hn.2.1
end T
