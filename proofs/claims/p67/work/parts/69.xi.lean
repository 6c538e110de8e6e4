-- behind: 68
-- the object is made
def zI (τ : cAS) (x : Nat) : Prop := ∀ d, x ≤ d → d < aN τ → aI τ d = fun _ => 0
theorem zI.sA {τ : cAS} {x : Nat} (h : zI τ x) (kd n : Nat) : zI (sA τ kd n) x := fun d h1 h2 => by
  by_cases e : d = aN τ
  · exact funext fun j => if_pos e
  · rw [saIo e]
    exact h d h1 (by have : d < aN τ + 1 := h2; omega)
theorem zI.sR {τ : cAS} {x : Nat} (h : zI τ x) (a k : Nat) (v : Option Nat) : zI (sR τ a k v) x := h
theorem zI.al {τ : cAS} {x : Nat} (h : zI τ x) (a k kd n : Nat) : zI (alR τ a k kd n) x := (h.sA kd n).sR a k _
theorem zI.bk {τ : cAS} {x : Nat} (h : zI τ x) (a : Nat) : zI (iBk τ a) x := (((((h.al a 1 11 4).al a 2 11 4).al a 3 11 4).al a 4 11 4).al a 5 11 4).al a 6 11 4
theorem zI.sk {τ : cAS} {x : Nat} (h : zI τ x) (a : Nat) : zI (iSk τ a) x := ((h.al a _ _ _).al a _ _ _).al a _ _ _
theorem zI.cu {τ : cAS} {x : Nat} (h : zI τ x) (a : Nat) : zI (iCu τ a) x := ((((((h.al a _ _ _).al a _ _ _).al a _ _ _).al a _ _ _).al a _ _ _).al a _ _ _).al a _ _ _
theorem zI.ev {τ : cAS} {x : Nat} (h : zI τ x) (a : Nat) : zI (iEv τ a) x := ((h.al a _ _ _).al a _ _ _).al a _ _ _
theorem zI.au {τ : cAS} {x : Nat} (h : zI τ x) (a : Nat) : zI (iAu τ a) x := (((h.al a _ _ _).al a _ _ _).al a _ _ _).al a _ _ _
theorem zI.st {τ : cAS} {x : Nat} (h : zI τ x) (a : Nat) : zI (iSt τ a) x :=
  (((((((((((h.al a _ _ _).sA 2 7).bk _).sR a 1 _).sA 7 4).sk _).sR a 2 _).sA 3 9).cu _).sR a 3 _).sA 4 4).ev _ |>.sR a 4 _
def shXK : List Nat := [0, 51, 52, 53, 54, 55, 56, 57, 58, 59, 60, 61]
def keepB (σ τ : cAS) (x : Nat) : Prop := ∀ d, d < x → aT τ d = aT σ d ∧ aI τ d = aI σ d ∧ aR τ d = aR σ d ∧ aL τ d = aL σ d
theorem keepB.trans {σ τ υ : cAS} {x y : Nat} (h : keepB σ τ x) (h' : keepB τ υ y) (hxy : x ≤ y) : keepB σ υ x := fun d hd => by
  obtain ⟨a1, a2, a3, a4⟩ := h d hd
  obtain ⟨b1, b2, b3, b4⟩ := h' d (by omega)
  exact ⟨b1.trans a1, b2.trans a2, b3.trans a3, b4.trans a4⟩
def mkX (σ τ : cAS) (x j : Nat) : Prop := aN τ = x + j ∧ keepB σ τ x ∧ zI τ x ∧ (∀ k ∈ shXK, k < j → aT τ (x + k) = shXT k) ∧ (∀ q ∈ shXR, q.2.2 < j → q.1 < j → aR τ (x + q.1) q.2.1 = some (x + q.2.2)) ∧ (26 ≤ j → shS τ (x + 1)) ∧ (51 ≤ j → shS τ (x + 26)) ∧ ∀ k i, 60 ≤ k → k < j → aR τ (x + k) i = none
/-- what stands stays, but for the field f of the object itself -/
def stepX (τ υ : cAS) (x f : Nat) : Prop := (∀ d, d < aN τ → aT υ d = aT τ d ∧ aI υ d = aI τ d ∧ aL υ d = aL τ d) ∧ ∀ d i, d < aN τ → ¬ (d = x ∧ i = f) → aR υ d i = aR τ d i
theorem mkX.step {σ τ υ : cAS} {x j j' f : Nat} (h : mkX σ τ x j) (hs : stepX τ υ x f) (hj : j ≤ j') (h0 : 0 < j) (hN : aN υ = x + j') (hz : zI υ x)
    (h1 : ∀ k ∈ shXK, j ≤ k → k < j' → aT υ (x + k) = shXT k)
    (h2 : ∀ q ∈ shXR, q.2.2 < j' → q.1 < j' → (q.2.2 < j ∧ q.1 < j ∧ ¬ (q.1 = 0 ∧ q.2.1 = f)) ∨ aR υ (x + q.1) q.2.1 = some (x + q.2.2))
    (h3 : 26 ≤ j' → 26 ≤ j ∨ shS υ (x + 1)) (h4 : 51 ≤ j' → 51 ≤ j ∨ shS υ (x + 26)) (h5 : ∀ k i, 60 ≤ k → j ≤ k → k < j' → aR υ (x + k) i = none) : mkX σ υ x j' := by
  obtain ⟨a1, a2, a3, a4, a5, a6, a7, a8⟩ := h
  obtain ⟨s1, s2⟩ := hs
  refine ⟨hN, fun d hd => ?_, hz, fun k hk hkj => ?_, fun q hq c1 c2 => ?_, fun c => ?_, fun c => ?_, fun k i c1 c2 => ?_⟩
  · obtain ⟨b1, b2, b3, b4⟩ := a2 d hd
    obtain ⟨e1, e2, e3⟩ := s1 d (by omega)
    exact ⟨e1.trans b1, e2.trans b2, (funext fun i => s2 d i (by omega) (by omega)).trans b3, e3.trans b4⟩
  · rcases Nat.lt_or_ge k j with q | q
    · rw [(s1 (x + k) (by omega)).1]
      exact a4 k hk q
    · exact h1 k hk q hkj
  · rcases h2 q hq c1 c2 with ⟨e1, e2, e3⟩ | e
    · rw [s2 _ _ (by omega) (by omega)]
      exact a5 q hq e1 e2
    · exact e
  · rcases h3 c with e | e
    · exact (a6 e).ofs (fun a c1 c2 => (s1 a (by omega)).1) (fun a c1 c2 => funext fun i => s2 a i (by omega) (by omega))
    · exact e
  · rcases h4 c with e | e
    · exact (a7 e).ofs (fun a c1 c2 => (s1 a (by omega)).1) (fun a c1 c2 => funext fun i => s2 a i (by omega) (by omega))
    · exact e
  · rcases Nat.lt_or_ge k j with q | q
    · rw [s2 _ _ (by omega) (by omega)]
      exact a8 k i c1 q
    · exact h5 k i c1 q c2
theorem stepX.al {τ : cAS} {x f kd n : Nat} : stepX τ (alR τ x f kd n) x f :=
  ⟨fun d hd => ⟨alTo (by omega), alIo (by omega), alLo (by omega)⟩, fun d i hd hn => alRo hn (by omega)⟩
theorem shXR_of {P : Nat × Nat × Nat → Prop} (h : ∀ q, q = (0, 2, 51) ∨ q = (0, 3, 56) ∨ q = (0, 4, 57) ∨ q = (0, 5, 59) ∨ q = (0, 6, 60) ∨ q = (0, 7, 61) ∨ q = (51, 1, 52) ∨ q = (51, 2, 53) ∨ q = (51, 4, 54) ∨ q = (51, 5, 55) ∨ q = (57, 0, 58) ∨ q = (57, 1, 51) ∨ q = (58, 0, 56) ∨ q = (0, 0, 1) ∨ q = (0, 1, 26) → P q) : ∀ q ∈ shXR, P q := fun q hq => h q (by simpa [shXR] using hq)
/-- an array of the object's own -/
theorem mkX.arr {σ τ : cAS} {x j f kd n : Nat} (h : mkX σ τ x j) (h0 : 51 ≤ j) (hT : shXT j = (kd, n)) (hq : ∀ q ∈ shXR, q.2.2 < j + 1 → q.1 < j + 1 → (q.2.2 < j ∧ q.1 < j ∧ ¬ (q.1 = 0 ∧ q.2.1 = f)) ∨ q = (0, f, j)) : mkX σ (alR τ x f kd n) x (j + 1) := by
  have hN := h.1
  refine h.step stepX.al (Nat.le_succ j) (by omega) (by show aN τ + 1 = _; omega) (h.2.2.1.al _ _ _ _) (fun k hk c1 c2 => ?_) (fun q hq' c1 c2 => ?_) (fun _ => Or.inl (by omega)) (fun _ => Or.inl h0) (fun k i c0 c1 c2 => ?_)
  · have : k = j := by omega
    subst this
    rw [hT]
    exact alTs hN.symm
  · rcases hq q hq' c1 c2 with e | rfl
    · exact Or.inl e
    · refine Or.inr ?_
      show aR (alR τ x f kd n) x f = some (x + j)
      rw [alRs, hN]
  · have : k = j := by omega
    subst this
    show (if x + k = x ∧ i = f then some (aN τ) else if x + k = aN τ then none else aR τ (x + k) i) = none
    rw [if_neg (by omega), if_pos hN.symm]
/-- a market of the object -/
theorem mkX.mkt {σ τ : cAS} {x j f : Nat} (h : mkX σ τ x j) (hj : j = 1 ∧ f = 0 ∨ j = 26 ∧ f = 1) : mkX σ (sR (nwS τ) x f (some (aN τ))) x (j + 25) := by
  have hN := h.1
  have hsh : shS (sR (nwS τ) x f (some (aN τ))) (x + j) := by
    have := nwS_shS (σ := τ)
    rw [hN] at this
    exact this.ofs (fun _ _ _ => rfl) (fun a c1 c2 => funext fun i => by rw [hN]; exact srRo (by omega))
  have hst : stepX τ (sR (nwS τ) x f (some (aN τ))) x f := ⟨fun d hd => ⟨(nwS_old hd).1, (nwS_old hd).2.1, (nwS_old hd).2.2.2⟩, fun d i hd hn => by
    rw [srRo hn, (nwS_old hd).2.2.1]⟩
  refine h.step hst (Nat.le_add_right _ _) (by omega) (by show aN (nwS τ) = _; rw [nwS_N]; omega) (((h.2.2.1.sA 6 13).st _).sR _ _ _) (fun k hk c1 c2 => ?_) ?_ (fun c => ?_) (fun c => ?_) (fun k i c0 c1 c2 => by omega)
  · simp only [shXK, List.mem_cons, List.not_mem_nil, or_false] at hk
    omega
  · refine shXR_of (fun q hq c1 c2 => ?_)
    rcases hj with ⟨rfl, rfl⟩ | ⟨rfl, rfl⟩
    · rcases hq with rfl | rfl | rfl | rfl | rfl | rfl | rfl | rfl | rfl | rfl | rfl | rfl | rfl | rfl | rfl <;> first | exact absurd c1 (by decide) | exact Or.inr (srR.trans (by rw [hN]))
    · rcases hq with rfl | rfl | rfl | rfl | rfl | rfl | rfl | rfl | rfl | rfl | rfl | rfl | rfl | rfl | rfl <;> first | exact absurd c1 (by decide) | exact Or.inr (srR.trans (by rw [hN])) | exact Or.inl ⟨by decide, by decide, by decide⟩
  · rcases hj with ⟨rfl, rfl⟩ | ⟨rfl, rfl⟩
    · exact Or.inr hsh
    · exact Or.inl (by decide)
  · rcases hj with ⟨rfl, rfl⟩ | ⟨rfl, rfl⟩
    · omega
    · exact Or.inr hsh
/-- the plan -/
theorem mkX.plan {σ τ : cAS} {x : Nat} (h : mkX σ τ x 51) : mkX σ (nwR τ x 2 1 8 iAu) x 56 := by
  have hN := h.1
  have ho : ∀ d, d < aN τ → aT (iAu (sA τ 1 8) (aN τ)) d = aT τ d ∧ aI (iAu (sA τ 1 8) (aN τ)) d = aI τ d ∧ aR (iAu (sA τ 1 8) (aN τ)) d = aR τ d ∧ aL (iAu (sA τ 1 8) (aN τ)) d = aL τ d := fun d hd => by
    obtain ⟨h1, h2, h3, h4⟩ := iAu_old (σ := sA τ 1 8) (c := aN τ) d (Nat.lt_succ_of_lt hd) (Nat.ne_of_lt hd)
    exact ⟨h1.trans (saTo (Nat.ne_of_lt hd)), h2.trans (saIo (Nat.ne_of_lt hd)), h3.trans (funext fun j => saRo (Nat.ne_of_lt hd)), h4.trans (saLo (Nat.ne_of_lt hd))⟩
  have hst : stepX τ (nwR τ x 2 1 8 iAu) x 2 := ⟨fun d hd => ⟨(ho d hd).1, (ho d hd).2.1, (ho d hd).2.2.2⟩, fun d i hd hn => by
    rw [srRo hn, (ho d hd).2.2.1]⟩
  have e1 : aN (sA τ 1 8) = x + 52 := by show aN τ + 1 = _; omega
  have hc : aN τ < aN (sA τ 1 8) := Nat.lt_succ_self _
  refine h.step hst (by decide) (by decide) (by show aN (sA τ 1 8) + 4 = _; rw [e1]) (((h.2.2.1.sA 1 8).au _).sR _ _ _) (fun k hk c1 c2 => ?_) ?_ (fun _ => Or.inl (by decide)) (fun _ => Or.inl (by decide)) (fun k i c0 c1 c2 => by omega)
  · show aT (iAu (sA τ 1 8) (aN τ)) (x + k) = shXT k
    simp only [shXK, List.mem_cons, List.not_mem_nil, or_false] at hk
    rcases (by omega : k = 51 ∨ k = 52 ∨ k = 53 ∨ k = 54 ∨ k = 55) with rfl | rfl | rfl | rfl | rfl
    · rw [← hN]
      exact iAu_tc sA_new hc
    · rw [← e1]
      exact iAu_t0
    · rw [show x + 53 = aN (sA τ 1 8) + 1 by omega]
      exact iAu_t1
    · rw [show x + 54 = aN (sA τ 1 8) + 2 by omega]
      exact iAu_t2
    · rw [show x + 55 = aN (sA τ 1 8) + 3 by omega]
      exact iAu_t3
  · refine shXR_of (fun q hq c1 c2 => ?_)
    have hne : ∀ i, ¬ (x + 51 = x ∧ i = 2) := fun i => by omega
    have key : ∀ i v, aR (iAu (sA τ 1 8) (aN τ)) (aN τ) i = some v → aR (nwR τ x 2 1 8 iAu) (x + 51) i = some v := fun i v hv => by
      rw [srRo (hne i), ← hN]
      exact hv
    rcases hq with rfl | rfl | rfl | rfl | rfl | rfl | rfl | rfl | rfl | rfl | rfl | rfl | rfl | rfl | rfl
    · exact Or.inr (srR.trans (by rw [hN]))
    · exact absurd c1 (by decide)
    · exact absurd c1 (by decide)
    · exact absurd c1 (by decide)
    · exact absurd c1 (by decide)
    · exact absurd c1 (by decide)
    · exact Or.inr (key _ _ ((iAu_r0 hc).trans (congrArg some (show aN (sA τ 1 8) + 0 = x + 52 by omega))))
    · exact Or.inr (key _ _ ((iAu_r1 hc).trans (congrArg some (show aN (sA τ 1 8) + 1 = x + 53 by omega))))
    · exact Or.inr (key _ _ ((iAu_r2 hc).trans (congrArg some (show aN (sA τ 1 8) + 2 = x + 54 by omega))))
    · exact Or.inr (key _ _ ((iAu_r3 hc).trans (congrArg some (show aN (sA τ 1 8) + 3 = x + 55 by omega))))
    · exact absurd c1 (by decide)
    · exact absurd c2 (by decide)
    · exact absurd c2 (by decide)
    · exact Or.inl ⟨by decide, by decide, by decide⟩
    · exact Or.inl ⟨by decide, by decide, by decide⟩
/-- the reader of texts -/
abbrev nwL (τ : cAS) (x : Nat) : cAS := sR (sR (sR (sR (sA (sA τ 5 4) 8 5) (aN τ + 1) 0 (some (x + 56))) (aN τ) 0 (some (aN τ + 1))) (aN τ) 1 (some (x + 51))) x 4 (some (aN τ))
theorem mkX.ldr {σ τ : cAS} {x : Nat} (h : mkX σ τ x 57) : mkX σ (nwL τ x) x 59 := by
  have hN := h.1
  have hst : stepX τ (nwL τ x) x 4 := by
    refine ⟨fun d hd => ⟨?_, ?_, ?_⟩, fun d i hd hn => ?_⟩
    · show aT (sA (sA τ 5 4) 8 5) d = aT τ d
      rw [saTo (by show d ≠ aN τ + 1; omega), saTo (by omega)]
    · show aI (sA (sA τ 5 4) 8 5) d = aI τ d
      rw [saIo (by show d ≠ aN τ + 1; omega), saIo (by omega)]
    · show aL (sA (sA τ 5 4) 8 5) d = aL τ d
      rw [saLo (by show d ≠ aN τ + 1; omega), saLo (by omega)]
    · rw [srRo hn, srRo (by omega), srRo (by omega), srRo (by omega), saRo (by show d ≠ aN τ + 1; omega), saRo (by omega)]
  refine h.step hst (by decide) (by decide) (by show aN τ + 1 + 1 = _; omega) ((h.2.2.1.sA 5 4).sA 8 5) (fun k hk c1 c2 => ?_) ?_ (fun _ => Or.inl (by decide)) (fun _ => Or.inl (by decide)) (fun k i c0 c1 c2 => by omega)
  · show aT (sA (sA τ 5 4) 8 5) (x + k) = shXT k
    rcases (by omega : k = 57 ∨ k = 58) with rfl | rfl
    · rw [saTo (by show _ ≠ aN τ + 1; omega), saTs (by omega)]
      rfl
    · rw [saTs (by show _ = aN τ + 1; omega)]
      rfl
  · refine shXR_of (fun q hq c1 c2 => ?_)
    rcases hq with rfl | rfl | rfl | rfl | rfl | rfl | rfl | rfl | rfl | rfl | rfl | rfl | rfl | rfl | rfl
    · exact Or.inl ⟨by decide, by decide, by decide⟩
    · exact Or.inl ⟨by decide, by decide, by decide⟩
    · exact Or.inr (srR.trans (by rw [hN]))
    · exact absurd c1 (by decide)
    · exact absurd c1 (by decide)
    · exact absurd c1 (by decide)
    · exact Or.inl ⟨by decide, by decide, by decide⟩
    · exact Or.inl ⟨by decide, by decide, by decide⟩
    · exact Or.inl ⟨by decide, by decide, by decide⟩
    · exact Or.inl ⟨by decide, by decide, by decide⟩
    · refine Or.inr ?_
      show aR (nwL τ x) (x + 57) 0 = some (x + 58)
      rw [srRo (by omega), srRo (by omega), ← hN, srR, show x + 58 = x + 57 + 1 from rfl, ← hN]
    · refine Or.inr ?_
      show aR (nwL τ x) (x + 57) 1 = some (x + 51)
      rw [srRo (by omega), ← hN, srR]
    · refine Or.inr ?_
      show aR (nwL τ x) (x + 58) 0 = some (x + 56)
      rw [srRo (by omega), srRo (by omega), srRo (by omega), show x + 58 = x + 57 + 1 from rfl, ← hN, srR]
    · exact Or.inl ⟨by decide, by decide, by decide⟩
    · exact Or.inl ⟨by decide, by decide, by decide⟩
theorem CX7_init (Γ : cG) {σ : cAS} {a b : Nat} (t0 : aT σ a = (8, 5)) : Ctr Γ (1, 20, 0, 0) MX7_init [.ref a, .ref b] σ (rV none (sR σ a 0 (some b))) := by
  refine Ctr.go rfl (by decide) rfl rfl ?_
  refine WP.aload_n (pc := 0) dX7_init_0 rfl ?_
  refine WP.objInit (pc := 1) oX7_1 oI oC (Nat.le_of_ble_eq_true rfl) (Nat.le_of_ble_eq_true rfl) dX7_init_1 ?_
  refine WP.aload_n (pc := 4) dX7_init_4 rfl ?_
  refine WP.aload_n (pc := 5) dX7_init_5 rfl ?_
  refine WP.putR (pc := 6) (k := 0) uX7 fX7_7 rfl rfl rfl rfl rfl t0 dX7_init_6 ?_
  exact WP.vret (pc := 9) rfl dX7_init_9 ⟨rfl, rfl⟩
theorem CX4_init (Γ : cG) {σ : cAS} {a b c : Nat} (t0 : aT σ a = (5, 4)) (l0 : a < aN σ) : Ctr Γ (2, 41, 1, 5) MX4_init [.ref a, .ref b, .ref c] σ (rV none (sR (sR (sR (sA σ 8 5) (aN σ) 0 (some b)) a 0 (some (aN σ))) a 1 (some c))) := by
  refine Ctr.go rfl (by decide) rfl rfl ?_
  refine WP.aload_n (pc := 0) dX4_init_0 rfl ?_
  refine WP.objInit (pc := 1) oX4_3 oI oC (Nat.le_of_ble_eq_true rfl) (Nat.le_of_ble_eq_true rfl) dX4_init_1 ?_
  refine WP.aload_n (pc := 4) dX4_init_4 rfl ?_
  refine WP.new (pc := 5) (mc := 0) (ms := 0) (ci := 7) uX7 (by decide) nX4_9 nI7 nJ7 nD7 dX4_init_5 ?_
  refine (?_ : WP Γ (2, 41, 0, 0) MX4_init _ 8 _ [.ref (aN σ), .ref a] (sA σ 8 5))
  refine WP.dup (pc := 8) dX4_init_8 rfl ?_
  refine WP.aload_n (pc := 9) dX4_init_9 rfl ?_
  refine WP.cI0 (pc := 10) (mc2 := 0) (ms2 := 0) kX4_11 (CX7_init Γ (σ := sA σ 8 5) (b := b) sA_new) rfl ⟨Nat.le_of_ble_eq_true rfl, Nat.le_of_ble_eq_true rfl⟩ (Nat.le_of_ble_eq_true rfl) (Nat.le_of_ble_eq_true rfl) (Nat.le_of_ble_eq_true rfl) rfl dX4_init_10 ?_
  refine WP.putR (pc := 13) (k := 0) uX4 fX4_14 rfl rfl rfl rfl rfl (sA_T t0 l0) dX4_init_13 ?_
  refine WP.aload_n (pc := 16) dX4_init_16 rfl ?_
  refine WP.aload_n (pc := 17) dX4_init_17 rfl ?_
  refine WP.putR (pc := 18) (k := 1) uX4 fX4_20 rfl rfl rfl rfl rfl (sA_T t0 l0) dX4_init_18 ?_
  exact WP.vret (pc := 21) rfl dX4_init_21 ⟨rfl, rfl⟩
