-- behind: 39 40
def stR (σ : cAS) (x k : Nat) (v : Option Nat) : cAS := sR σ (if k < 8 then x + 61 else x + 60) (if k < 8 then k else k - 8) v
theorem plc_stR {σ : cAS} {x k k' : Nat} {v : Option Nat} : plc (stR σ x k v) x k' = if k' = k then v else plc σ x k' := by
  unfold plc stR
  simp only [aR_sR]
  by_cases h1 : k < 8
  · simp only [h1, if_true]
    by_cases h2 : k' < 8
    · simp only [h2, if_true, true_and]
    · simp only [h2, if_false]
      rw [if_neg (fun q => by have := q.1; omega), if_neg (by omega)]
  · simp only [h1, if_false]
    by_cases h2 : k' < 8
    · simp only [h2, if_true]
      rw [if_neg (fun q => by have := q.1; omega), if_neg (by omega)]
    · simp only [h2, if_false, true_and]
      by_cases h3 : k' = k
      · rw [if_pos (by omega), if_pos h3]
      · rw [if_neg (by omega), if_neg h3]
/-- all but the place k -/
def xBut (σ : cAS) (x k : Nat) (m : mX) : Prop := shX σ x ∧ x + 62 ≤ aN σ ∧ stAt (aI σ) (x + 1) m.s ∧ flAt (aI σ) x m ∧ rgs σ x ∧ (∀ k', k' < 10 → k' ≠ k → ∀ s, occ m k' = some s → ∃ q, plc σ x k' = some q ∧ stAt (aI σ) q s) ∧ ∀ k', 8 ≤ k' → k' < 10 → k' ≠ k → occ m k' = none → plc σ x k' = none
theorem xAt.but {σ : cAS} {x : Nat} {m : mX} (h : xAt σ x m) (k : Nat) : xBut σ x k m := by
  obtain ⟨a1, a2, a3, a4, a5, a6, a7⟩ := h
  exact ⟨a1, a2, a3, a4, a5, fun k' h1 _ => a6 k' h1, fun k' h1 h2 _ => a7 k' h1 h2⟩
theorem stAt.ext {I I' : Nat → Nat → Int32} {b : Nat} {s : mS} (h : stAt I b s) (he : ∀ a, b ≤ a → a < b + 25 → I' a = I a) : stAt I' b s := by
  have e : ∀ j, j < 25 → I' (b + j) = I (b + j) := fun j hj => he _ (by omega) (by omega)
  have e0 : I' b = I b := he _ (by omega) (by omega)
  unfold stAt scAt bkAt skAt cuAt evAt at h ⊢
  rw [e0, e 1 (by omega), e 2 (by omega), e 3 (by omega), e 4 (by omega), e 5 (by omega), e 6 (by omega), e 7 (by omega), e 8 (by omega), e 9 (by omega), e 10 (by omega), e 11 (by omega), e 12 (by omega), e 13 (by omega), e 14 (by omega), e 15 (by omega), e 16 (by omega), e 17 (by omega), e 18 (by omega), e 19 (by omega), e 20 (by omega), e 21 (by omega), e 22 (by omega), e 23 (by omega), e 24 (by omega)]
  exact h
theorem xBut.wr {σ : cAS} {x k q : Nat} {m m' : mX} {I : Nat → Nat → Int32} {s : mS} (h : xBut σ x k m) (hk : k < 10) (hq : plc σ x k = some q) (hf : ∀ a, a ≠ x → (a < q ∨ q + 25 ≤ a) → I a = aI σ a) (hst : stAt I q s) (hs : m'.s = m.s) (hfl : flAt I x m') (ho : ∀ k', k' < 10 → occ m' k' = if k' = k then some s else occ m k') : xAt (wI σ I) x m' ∧ kpM σ (wI σ I) x := by
  obtain ⟨a1, a2, a3, a4, a5, a6, a7⟩ := h
  obtain ⟨b1, b2, b3⟩ := a5.1 k hk q hq
  refine ⟨⟨a1.of rfl rfl, a2, ?_, hfl, a5.of rfl rfl (Nat.le_refl _), fun k' hk' s' hs' => ?_, fun k' h1 h2 h3 => ?_⟩, fun a hfa => ⟨hfa, rfl, hf a (by have := hfa.1; omega) (by have := hfa.2.2 k hk q hq; omega), rfl, rfl⟩⟩
  · rw [hs]
    exact a3.ext (fun a h1 h2 => hf a (by omega) (by omega))
  · show ∃ q', plc σ x k' = some q' ∧ stAt I q' s'
    rw [ho k' hk'] at hs'
    by_cases e : k' = k
    · rw [if_pos e] at hs'
      cases hs'
      exact ⟨q, by rw [e]; exact hq, hst⟩
    · rw [if_neg e] at hs'
      obtain ⟨q', hq', hst'⟩ := a6 k' hk' e s' hs'
      obtain ⟨-, c2, -⟩ := a5.1 k' hk' q' hq'
      have hap := a5.2 k' k hk' hk e q' q hq' hq
      unfold apart at hap
      exact ⟨q', hq', hst'.ext (fun a h1 h2 => hf a (by omega) (by omega))⟩
  · rw [ho k' h2] at h3
    by_cases e : k' = k
    · rw [if_pos e] at h3
      cases h3
    · rw [if_neg e] at h3
      exact a7 k' h1 h2 e h3
theorem shX.ofs {σ τ : cAS} {x : Nat} (h : shX σ x) (hT : ∀ a, x ≤ a → a < x + 62 → aT τ a = aT σ a) (hR : ∀ a, x ≤ a → a < x + 60 → aR τ a = aR σ a) : shX τ x := by
  obtain ⟨h1, h2, h3, h4⟩ := h
  have hS : ∀ b, x ≤ b → b + 25 ≤ x + 60 → shS σ b → shS τ b := by
    intro b hb1 hb2 hs
    refine ⟨fun k hk => ?_, fun q hq => ?_⟩
    · have : k < 25 := by
        simp only [List.mem_cons, List.not_mem_nil, or_false] at hk
        omega
      rw [hT _ (by omega) (by omega)]
      exact hs.1 k hk
    · have : q.1 < 25 := by
        have : ∀ q ∈ shSR, q.1 < 25 := by decide
        exact this q hq
      rw [hR _ (by omega) (by omega)]
      exact hs.2 q hq
  refine ⟨fun k hk => ?_, fun q hq => ?_, hS _ (by omega) (by omega) h3, hS _ (by omega) (by omega) h4⟩
  · have : k < 62 := by
      simp only [List.mem_cons, List.not_mem_nil, or_false] at hk
      omega
    rw [hT _ (by omega) (by omega)]
    exact h1 k hk
  · have : q.1 < 60 := by
      have : ∀ q ∈ shXR, q.1 < 60 := by decide
      exact this q hq
    rw [hR _ (by omega) (by omega)]
    exact h2 q hq
theorem shS.ofs {σ τ : cAS} {b : Nat} (hs : shS σ b) (hT : ∀ a, b ≤ a → a < b + 25 → aT τ a = aT σ a) (hR : ∀ a, b ≤ a → a < b + 25 → aR τ a = aR σ a) : shS τ b := by
  refine ⟨fun k hk => ?_, fun q hq => ?_⟩
  · have : k < 25 := by
      simp only [List.mem_cons, List.not_mem_nil, or_false] at hk
      omega
    rw [hT _ (by omega) (by omega)]
    exact hs.1 k hk
  · have : q.1 < 25 := by
      have : ∀ q ∈ shSR, q.1 < 25 := by decide
      exact this q hq
    rw [hR _ (by omega) (by omega)]
    exact hs.2 q hq
/-- a new market, put into the place k -/
abbrev nwS (σ : cAS) : cAS := iSt (sA σ 6 13) (aN σ)
theorem nwS_old {σ : cAS} {d : Nat} (hd : d < aN σ) : aT (nwS σ) d = aT σ d ∧ aI (nwS σ) d = aI σ d ∧ aR (nwS σ) d = aR σ d ∧ aL (nwS σ) d = aL σ d := by
  obtain ⟨h1, h2, h3, h4⟩ := iSt_old (σ := sA σ 6 13) (b := aN σ) rfl hd
  exact ⟨h1.trans (saTo (Nat.ne_of_lt hd)), h2.trans (saIo (Nat.ne_of_lt hd)), h3.trans (funext fun j => saRo (Nat.ne_of_lt hd)), h4.trans (saLo (Nat.ne_of_lt hd))⟩
theorem nwS_N {σ : cAS} : aN (nwS σ) = aN σ + 25 := rfl
theorem nwS_shS {σ : cAS} : shS (nwS σ) (aN σ) := iSt_shS sA_new rfl
theorem xAt.al {σ : cAS} {x k : Nat} {m : mX} (h : xAt σ x m) (hk : k < 10) (hn : plc σ x k = none) : xBut (stR (nwS σ) x k (some (aN σ))) x k m ∧ plc (stR (nwS σ) x k (some (aN σ))) x k = some (aN σ) ∧ kpM σ (stR (nwS σ) x k (some (aN σ))) x := by
  obtain ⟨a1, a2, a3, a4, a5, a6, a7⟩ := h
  generalize hτ : stR (nwS σ) x k (some (aN σ)) = τ
  have hT : aT τ = aT (nwS σ) := by rw [← hτ]; rfl
  have hI : aI τ = aI (nwS σ) := by rw [← hτ]; rfl
  have hL : aL τ = aL (nwS σ) := by rw [← hτ]; rfl
  have hN : aN τ = aN σ + 25 := by rw [← hτ]; rfl
  have hR : ∀ a, a ≠ x + 60 → a ≠ x + 61 → aR τ a = aR (nwS σ) a := fun a h1 h2 => by
    rw [← hτ]
    funext j
    refine if_neg (fun q => ?_)
    have := q.1
    split at this <;> omega
  have hp : ∀ k', plc τ x k' = if k' = k then some (aN σ) else plc σ x k' := fun k' => by
    rw [← hτ, plc_stR]
    split
    · rfl
    · unfold plc
      rw [(nwS_old (σ := σ) (d := x + 61) (by omega)).2.2.1, (nwS_old (σ := σ) (d := x + 60) (by omega)).2.2.1]
  have hold : ∀ a, a < aN σ → aT τ a = aT σ a ∧ aI τ a = aI σ a ∧ aL τ a = aL σ a := fun a ha => by
    obtain ⟨h1, h2, h3, h4⟩ := nwS_old (σ := σ) (d := a) ha
    rw [hT, hI, hL]
    exact ⟨h1, h2, h4⟩
  have holdR : ∀ a, a < aN σ → a ≠ x + 60 → a ≠ x + 61 → aR τ a = aR σ a := fun a ha h1 h2 => by
    rw [hR a h1 h2]
    exact (nwS_old ha).2.2.1
  have hrg : ∀ q, rgn σ x q → rgn τ x q := fun q ⟨h1, h2, h3⟩ => ⟨h1.ofs (fun a c1 c2 => (hold a (by omega)).1) (fun a c1 c2 => holdR a (by omega) (by omega) (by omega)), h2, by omega⟩
  refine ⟨⟨a1.ofs (fun a c1 c2 => (hold a (by omega)).1) (fun a c1 c2 => holdR a (by omega) (by omega) (by omega)), by omega, ?_, ?_, ⟨fun k' hk' q hq => ?_, fun k1 k2 h1 h2 hne q1 q2 e1 e2 => ?_⟩, fun k' hk' hne s hs => ?_, fun k' h1 h2 h3 h4 => ?_⟩, by rw [hp, if_pos rfl], fun a hfa => ?_⟩
  · exact a3.ext (fun a c1 c2 => (hold a (by omega)).2.1)
  · unfold flAt at a4 ⊢
    rw [(hold x (by omega)).2.1, (hold (x + 27) (by omega)).2.1, (hold (x + 56) (by omega)).2.1, (hold (x + 59) (by omega)).2.1]
    exact a4
  · rw [hp] at hq
    split at hq
    · cases hq
      exact ⟨nwS_shS.ofs (fun a c1 c2 => by rw [hT]) (fun a c1 c2 => hR a (by omega) (by omega)), a2, by omega⟩
    · exact hrg q (a5.1 k' hk' q hq)
  · rw [hp] at e1 e2
    unfold apart
    split at e1
    · next z1 =>
      cases e1
      rw [if_neg (by omega)] at e2
      obtain ⟨-, -, c3⟩ := a5.1 k2 h2 q2 e2
      omega
    · split at e2
      · cases e2
        obtain ⟨-, -, c3⟩ := a5.1 k1 h1 q1 e1
        omega
      · exact a5.2 k1 k2 h1 h2 hne q1 q2 e1 e2
  · obtain ⟨q, hq, hst⟩ := a6 k' hk' s hs
    obtain ⟨-, c2, c3⟩ := a5.1 k' hk' q hq
    refine ⟨q, by rw [hp, if_neg hne]; exact hq, hst.ext (fun a d1 d2 => (hold a (by omega)).2.1)⟩
  · rw [hp, if_neg h3]
    exact a7 k' h1 h2 h4
  · have ha := hfa.2.1
    have hxa := hfa.1
    obtain ⟨c1, c2, c3⟩ := hold a ha
    refine ⟨⟨hxa, by omega, fun k' hk' q hq => ?_⟩, c1, c2, holdR a ha (by omega) (by omega), c3⟩
    rw [hp] at hq
    split at hq
    · cases hq
      exact Or.inl ha
    · exact hfa.2.2 k' hk' q hq
-- the past
def pushP (l : List mS) (s : mS) : List mS := (if 8 ≤ l.length then l.tail else l) ++ [s]
def setR (σ : cAS) (a : Nat) (f : Nat → Option Nat) : cAS := (σ.1, σ.2.1, fun b j => if b = a then f j else σ.2.2.1 b j, σ.2.2.2)
theorem sR_setR {σ : cAS} {a k : Nat} {f : Nat → Option Nat} {v : Option Nat} : sR (setR σ a f) a k v = setR σ a (fun j => if j = k then v else f j) := by
  unfold sR setR
  congr 3
  funext b j
  by_cases h : b = a
  · by_cases h2 : j = k
    · simp [h, h2]
    · simp [h, h2]
  · simp [h]
theorem setR_self {σ : cAS} {a : Nat} : setR σ a (aR σ a) = σ := by
  obtain ⟨T, I, R, L, N⟩ := σ
  unfold setR
  congr 3
  funext b j
  show (if b = a then R a j else R b j) = R b j
  by_cases h : b = a
  · rw [if_pos h, h]
  · rw [if_neg h]
theorem setR_aR {σ : cAS} {a : Nat} {f : Nat → Option Nat} : aR (setR σ a f) a = f := funext fun j => if_pos rfl
theorem setR_aRo {σ : cAS} {a b : Nat} {f : Nat → Option Nat} (h : b ≠ a) : aR (setR σ a f) b = aR σ b := funext fun j => if_neg h
def rotF (f : Nat → Option Nat) (i : Nat) : Nat → Option Nat := fun k => if k + 1 < i then f (k + 1) else f k
section T
variable (Γ : cG) {σ : cAS} {x : Nat} {m : mX}
theorem LX8_forget (hx : shX σ x) (ha : ∀ k, k < 8 → ∃ q, aR σ (x + 61) k = some q ∧ aT σ q = (6, 13)) {q0 : Nat} {Φ : cRes → cAS → Prop} {r : cRm} : ∀ n i, i + n = 8 → 1 ≤ i → WP Γ r MX8_forgetOldest Φ 35 [some (.ref x), some (.ref q0), some (.int (nI 8))] [] (setR σ (x + 61) (rotF (aR σ (x + 61)) 8)) → WP Γ r MX8_forgetOldest Φ 9 [some (.ref x), some (.ref q0), some (.int (nI i))] [] (setR σ (x + 61) (rotF (aR σ (x + 61)) i)) := by
  intro n
  induction n with
  | zero =>
    intro i hi h1 H
    have : i = 8 := by omega
    subst this
    refine WP.iload_n (pc := 9) dX8_forgetOldest_9 rfl ?_
    refine WP.bipush (pc := 10) (v := 8) dX8_forgetOldest_10 (by decide) ?_
    refine WP.icmp_ge (pc := 12) (tgt := 35) dX8_forgetOldest_12 (by decide) (fun h2 => ?_) (fun h2 => ?_)
    · exact H
    · exact absurd (nI_le (a := 8) (b := 8) (by omega) (by omega)) h2
  | succ n ih =>
    intro i hi h1 H
    have hx' : shX (setR σ (x + 61) (rotF (aR σ (x + 61)) i)) x := hx.ofs (fun _ _ _ => rfl) (fun a c1 c2 => setR_aRo (by omega))
    obtain ⟨q, hq, hqt⟩ := ha i (by omega)
    refine WP.iload_n (pc := 9) dX8_forgetOldest_9 rfl ?_
    refine WP.bipush (pc := 10) (v := 8) dX8_forgetOldest_10 (by decide) ?_
    refine WP.icmp_ge (pc := 12) (tgt := 35) dX8_forgetOldest_12 (by decide) (fun h2 => ?_) (fun h2 => ?_)
    · exact absurd h2 (nI_ge (b := 8) (by omega) (by omega))
    · refine WP.self ?_
      refine WP.aload_n (pc := 15) dX8_forgetOldest_15 rfl ?_
      refine WP.gR (pc := 16) uX8 fX8_46 hx'.t0 hx'.r0_7 dX8_forgetOldest_16 ?_
      refine WP.iload_n (pc := 19) dX8_forgetOldest_19 rfl ?_
      refine WP.iconst (pc := 20) (v := 1) dX8_forgetOldest_20 (by decide) ?_
      refine WP.isub (pc := 21) dX8_forgetOldest_21 ?_
      refine (?_ : WP Γ _ MX8_forgetOldest _ 22 _ [.int (nI i - nI 1), .ref (x + 61)] _)
      rw [pk_sub h1]
      refine WP.aload_n (pc := 22) dX8_forgetOldest_22 rfl ?_
      refine WP.gR (pc := 23) uX8 fX8_46 hx'.t0 hx'.r0_7 dX8_forgetOldest_23 ?_
      refine WP.iload_n (pc := 26) dX8_forgetOldest_26 rfl ?_
      refine WP.aald (pc := 27) hx'.t61 (by omega) (by decide) dX8_forgetOldest_27 ?_
      rw [setR_aR, show rotF (aR σ (x + 61)) i i = some q from by unfold rotF; rw [if_neg (by omega)]; exact hq]
      refine WP.aastore (pc := 28) (nv := 13) (n := 8) (v := q) hx'.t61 (by exact hqt) (cVin (by omega) (by omega)) dX8_forgetOldest_28 ?_
      rw [cClamp (n := 8) (k := i - 1) (by omega) (by decide)]
      refine (?_ : WP Γ _ MX8_forgetOldest _ 29 _ [] (sR (setR σ (x + 61) (rotF (aR σ (x + 61)) i)) (x + 61) (i - 1) (some q)))
      rw [sR_setR]
      have er : (fun j => if j = i - 1 then some q else rotF (aR σ (x + 61)) i j) = rotF (aR σ (x + 61)) (i + 1) := by
        funext j
        unfold rotF
        by_cases e : j = i - 1
        · rw [if_pos e, if_pos (by omega), ← hq, e, show i - 1 + 1 = i by omega]
        · rw [if_neg e]
          by_cases e2 : j + 1 < i
          · rw [if_pos e2, if_pos (by omega)]
          · rw [if_neg e2, if_neg (by omega)]
      rw [er]
      refine WP.iinc (pc := 29) dX8_forgetOldest_29 rfl (nI_1 _) (by decide) rfl ?_
      refine WP.goto (pc := 32) (tgt := 9) dX8_forgetOldest_32 (by decide) ?_
      exact ih (i + 1) (by omega) (by omega) H
theorem CX8_forgetOldest (hx : shX σ x) (ha : ∀ k, k < 8 → ∃ q, aR σ (x + 61) k = some q ∧ aT σ q = (6, 13)) : Ctr Γ (0, 0, 0, 0) MX8_forgetOldest [.ref x] σ (rV none (sI (setR σ (x + 61) (fun k => if k = 7 then aR σ (x + 61) 0 else rotF (aR σ (x + 61)) 8 k)) x 8 7)) := by
  obtain ⟨q0, hq0, hq0t⟩ := ha 0 (by omega)
  refine Ctr.go rfl (by decide) rfl rfl ?_
  refine WP.self ?_
  refine WP.aload_n (pc := 0) dX8_forgetOldest_0 rfl ?_
  refine WP.gR (pc := 1) uX8 fX8_46 hx.t0 hx.r0_7 dX8_forgetOldest_1 ?_
  refine WP.iconst (pc := 4) (v := 0) dX8_forgetOldest_4 (by decide) ?_
  refine WP.aald (pc := 5) (k := 0) hx.t61 (by decide) (by decide) dX8_forgetOldest_5 ?_
  rw [hq0]
  refine WP.astore_n (pc := 6) dX8_forgetOldest_6 (by decide) rfl ?_
  refine WP.iconst (pc := 7) (v := 1) dX8_forgetOldest_7 (by decide) ?_
  refine WP.istore_n (pc := 8) dX8_forgetOldest_8 (by decide) rfl ?_
  have e1 : wI σ (aI σ) = setR σ (x + 61) (rotF (aR σ (x + 61)) 1) := by
    have : rotF (aR σ (x + 61)) 1 = aR σ (x + 61) := funext fun k => by unfold rotF; rw [if_neg (by omega)]
    rw [this, setR_self]
    rfl
  rw [e1]
  refine LX8_forget Γ hx ha (q0 := q0) 7 1 (by omega) (by omega) ?_
  have hx' : shX (setR σ (x + 61) (rotF (aR σ (x + 61)) 8)) x := hx.ofs (fun _ _ _ => rfl) (fun a c1 c2 => setR_aRo (by omega))
  refine WP.self ?_
  refine WP.aload_n (pc := 35) dX8_forgetOldest_35 rfl ?_
  refine WP.gR (pc := 36) uX8 fX8_46 hx'.t0 hx'.r0_7 dX8_forgetOldest_36 ?_
  refine WP.bipush (pc := 39) (v := 7) dX8_forgetOldest_39 (by decide) ?_
  refine WP.aload_n (pc := 41) dX8_forgetOldest_41 rfl ?_
  refine WP.aastore (pc := 42) (nv := 13) (n := 8) (v := q0) hx'.t61 (by exact hq0t) (cVin (k := 7) (by omega) (by omega)) dX8_forgetOldest_42 ?_
  refine (?_ : WP Γ _ MX8_forgetOldest _ 43 _ [] (sR (setR σ (x + 61) (rotF (aR σ (x + 61)) 8)) (x + 61) 7 (some q0)))
  rw [sR_setR]
  have hx2 : shX (setR σ (x + 61) (fun j => if j = 7 then some q0 else rotF (aR σ (x + 61)) 8 j)) x := hx.ofs (fun _ _ _ => rfl) (fun a c1 c2 => setR_aRo (by omega))
  refine WP.self ?_
  refine WP.aload_n (pc := 43) dX8_forgetOldest_43 rfl ?_
  refine WP.bipush (pc := 44) (v := 7) dX8_forgetOldest_44 (by decide) ?_
  refine WP.pI (pc := 46) uX8 fX8_342 rfl rfl hx2.t0 dX8_forgetOldest_46 ?_
  refine WP.vret (pc := 49) rfl dX8_forgetOldest_49 ?_
  exact ⟨rfl, rfl⟩
theorem xAt.rot (h : xAt σ x m) (h8 : m.past.length = 8) : xAt (sI (setR σ (x + 61) (fun k => if k = 7 then aR σ (x + 61) 0 else rotF (aR σ (x + 61)) 8 k)) x 8 7) x (mX.w_past m (m.past.tail)) ∧ kpM σ (sI (setR σ (x + 61) (fun k => if k = 7 then aR σ (x + 61) 0 else rotF (aR σ (x + 61)) 8 k)) x 8 7) x := by
  obtain ⟨a1, a2, a3, a4, a5, a6, a7⟩ := h
  generalize hτ : sI (setR σ (x + 61) (fun k => if k = 7 then aR σ (x + 61) 0 else rotF (aR σ (x + 61)) 8 k)) x 8 7 = τ
  have hT : aT τ = aT σ := by rw [← hτ]; rfl
  have hN : aN τ = aN σ := by rw [← hτ]; rfl
  have hL : aL τ = aL σ := by rw [← hτ]; rfl
  have hI : ∀ a, a ≠ x → aI τ a = aI σ a := fun a ha => by
    rw [← hτ]
    funext j
    exact if_neg (fun q => ha q.1)
  have hIx : ∀ j, aI τ x j = if j = 8 then 7 else aI σ x j := fun j => by
    rw [← hτ, aI_sI]
    by_cases e : j = 8
    · rw [if_pos ⟨rfl, e⟩, if_pos e]
    · rw [if_neg (fun q => e q.2), if_neg e]
      rfl
  have hR : ∀ a, a ≠ x + 61 → aR τ a = aR σ a := fun a ha => by
    rw [← hτ]
    exact setR_aRo ha
  have hR61 : ∀ k, aR τ (x + 61) k = if k = 7 then aR σ (x + 61) 0 else rotF (aR σ (x + 61)) 8 k := fun k => by
    rw [← hτ]
    exact congrFun setR_aR k
  -- where the place k came from
  let p : Nat → Nat := fun k => if k < 7 then k + 1 else if k = 7 then 0 else k
  have hp : ∀ k, k < 10 → plc τ x k = plc σ x (p k) := fun k hk => by
    show plc τ x k = plc σ x (if k < 7 then k + 1 else if k = 7 then 0 else k)
    unfold plc
    by_cases c1 : k < 8
    · rw [if_pos c1, hR61]
      by_cases c2 : k = 7
      · rw [if_pos c2, if_neg (show ¬ k < 7 by omega), if_pos c2, if_pos (by omega)]
      · rw [if_neg c2, if_pos (show k < 7 by omega), if_pos (show k + 1 < 8 by omega)]
        unfold rotF
        rw [if_pos (by omega)]
    · rw [if_neg c1, hR _ (by omega), if_neg (show ¬ k < 7 by omega), if_neg (show ¬ k = 7 by omega), if_neg c1]
  have hpl : ∀ k, k < 10 → p k < 10 := fun k hk => by
    show (if k < 7 then k + 1 else if k = 7 then 0 else k) < 10
    split
    · omega
    · split <;> omega
  have hpi : ∀ k k', k < 10 → k' < 10 → k ≠ k' → p k ≠ p k' := fun k k' hk hk' hne => by
    show (if k < 7 then k + 1 else if k = 7 then 0 else k) ≠ (if k' < 7 then k' + 1 else if k' = 7 then 0 else k')
    split <;> split <;> (try split) <;> (try split) <;> omega
  have hoc : ∀ k, k < 10 → occ (mX.w_past m (m.past.tail)) k = if k = 7 then none else occ m (p k) := fun k hk => by
    show (if k < 8 then m.past.tail[k]? else m.sl (k - 8)) = if k = 7 then none else (if p k < 8 then m.past[p k]? else m.sl (p k - 8))
    by_cases c1 : k < 8
    · rw [if_pos c1, List.getElem?_tail]
      by_cases c2 : k = 7
      · rw [if_pos c2, List.getElem?_eq_none (by omega)]
      · rw [if_neg c2, show p k = k + 1 from if_pos (by omega), if_pos (by omega)]
    · have e : p k = k := by
        show (if k < 7 then k + 1 else if k = 7 then 0 else k) = k
        rw [if_neg (by omega), if_neg (by omega)]
      rw [if_neg c1, if_neg (show ¬ k = 7 by omega), e, if_neg c1]
  refine ⟨⟨a1.ofs (fun a _ _ => by rw [hT]) (fun a c1 c2 => hR a (by omega)), by omega, a3.ext (fun a c1 c2 => hI a (by omega)), ?_, ⟨fun k hk q hq => ?_, fun k k' hk hk' hne q q' e1 e2 => ?_⟩, fun k hk s hs => ?_, fun k h1 h2 h3 => ?_⟩, fun a hfa => ⟨⟨hfa.1, by rw [hN]; exact hfa.2.1, fun k hk q hq => hfa.2.2 _ (hpl k hk) q (by rw [← hp k hk]; exact hq)⟩, by rw [hT], hI a (by have := hfa.1; omega), hR a (by have := hfa.1; omega), by rw [hL]⟩⟩
  · obtain ⟨b1, b2, b3, b4, b5, b6, b7, b8, b9, b10, b11, b12⟩ := a4
    refine ⟨fun j hj => by rw [hI _ (by omega)]; exact b1 j hj, by rw [hI _ (by omega)]; exact b2, by rw [hIx]; exact b3, b4, by rw [hIx]; exact b5, b6, by rw [hIx]; exact b7, by rw [hIx]; exact b8, b9, fun i v hv => by rw [hI _ (by omega)]; exact b10 i v hv, ?_, ?_⟩
    · rw [hIx, if_pos rfl]
      show (7 : Int32) = nI m.past.tail.length
      rw [List.length_tail, h8]
      rfl
    · show m.past.tail.length ≤ 8
      rw [List.length_tail]
      omega
  · rw [hp k hk] at hq
    obtain ⟨c1, c2, c3⟩ := a5.1 _ (hpl k hk) q hq
    exact ⟨c1.ofs (fun a _ _ => by rw [hT]) (fun a d1 d2 => hR a (by omega)), c2, by omega⟩
  · rw [hp k hk] at e1
    rw [hp k' hk'] at e2
    exact a5.2 _ _ (hpl k hk) (hpl k' hk') (hpi k k' hk hk' hne) q q' e1 e2
  · rw [hoc k hk] at hs
    split at hs
    · cases hs
    · obtain ⟨q, hq, hst⟩ := a6 _ (hpl k hk) s hs
      obtain ⟨-, c2, -⟩ := a5.1 _ (hpl k hk) q hq
      exact ⟨q, by rw [hp k hk]; exact hq, hst.ext (fun a d1 d2 => hI a (by omega))⟩
  · rw [hoc k h2, if_neg (by omega)] at h3
    have e : p k = k := by
      show (if k < 7 then k + 1 else if k = 7 then 0 else k) = k
      rw [if_neg (by omega), if_neg (by omega)]
    rw [e] at h3
    rw [hp k h2, e]
    exact a7 k h1 h2 h3
end T
