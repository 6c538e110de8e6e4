section T
variable (Γ : cG) {σ : cAS} {x h N : Nat} {m : mX} {S : hBd}
section P
variable {Q : List mCu} {k : Int32} {g : Nat → Int32} {i : Nat} {e : mCu}
theorem bbP_no {b : Int32} (h : bbP Q k g i b) (he : Q[i]? = some e) (hn : ¬ (e.2.2.1 = k ∧ 0 < g i)) : bbP Q k g (i + 1) b := by
  have hx : ∀ (i' : Nat) (e' : mCu), i' < i + 1 → Q[i']? = some e' → (e'.2.2.1 = k ∧ 0 < g i') → i' < i := fun i' e' h1 h2 h3 => by
    rcases Nat.lt_or_ge i' i with q | q
    · exact q
    · have : i' = i := by omega
      subst this
      rw [he] at h2
      cases h2
      exact absurd h3 hn
  rcases h with ⟨h1, h2⟩ | ⟨j, e0, h1, h2, h3, h4, h5⟩
  · exact Or.inl ⟨h1, fun i' e' q1 q2 q3 => h2 i' e' (hx i' e' q1 q2 q3) q2 q3⟩
  · exact Or.inr ⟨j, e0, h1, by omega, h3, h4, fun i' e' q1 q2 q3 => h5 i' e' (hx i' e' q1 q2 q3) q2 q3⟩
theorem bbP_first (h : ∀ (i' : Nat) (e' : mCu), i' < i → Q[i']? = some e' → ¬ (e'.2.2.1 = k ∧ 0 < g i')) (he : Q[i]? = some e) (hy : e.2.2.1 = k ∧ 0 < g i) : bbP Q k g (i + 1) (nI i) := Or.inr ⟨i, e, rfl, by omega, he, hy, fun i' e' q1 q2 q3 => by
  rcases Nat.lt_or_ge i' i with q | q
  · exact absurd q3 (h i' e' q q2)
  · have : i' = i := by omega
    subst this
    rw [he] at q2
    cases q2
    exact Or.inr ⟨rfl, Nat.le_refl _⟩⟩
theorem bbP_keep {j : Nat} {e0 : mCu} (h2 : j < i) (h3 : Q[j]? = some e0) (h4 : e0.2.2.1 = k ∧ 0 < g j) (h5 : ∀ (i' : Nat) (e' : mCu), i' < i → Q[i']? = some e' → (e'.2.2.1 = k ∧ 0 < g i') → e'.2.2.2.2.1 < e0.2.2.2.2.1 ∨ (e'.2.2.2.2.1 = e0.2.2.2.2.1 ∧ j ≤ i')) (he : Q[i]? = some e) (hle : e.2.2.2.2.1 ≤ e0.2.2.2.2.1) : bbP Q k g (i + 1) (nI j) := Or.inr ⟨j, e0, rfl, by omega, h3, h4, fun i' e' q1 q2 q3 => by
  rcases Nat.lt_or_ge i' i with q | q
  · exact h5 i' e' q q2 q3
  · have : i' = i := by omega
    subst this
    rw [he] at q2
    cases q2
    rcases Int32.lt_or_eq_of_le hle with w | w
    · exact Or.inl w
    · exact Or.inr ⟨w, by omega⟩⟩
theorem bbP_new {j : Nat} {e0 : mCu} (h5 : ∀ (i' : Nat) (e' : mCu), i' < i → Q[i']? = some e' → (e'.2.2.1 = k ∧ 0 < g i') → e'.2.2.2.2.1 < e0.2.2.2.2.1 ∨ (e'.2.2.2.2.1 = e0.2.2.2.2.1 ∧ j ≤ i')) (he : Q[i]? = some e) (hy : e.2.2.1 = k ∧ 0 < g i) (hlt : e0.2.2.2.2.1 < e.2.2.2.2.1) : bbP Q k g (i + 1) (nI i) := Or.inr ⟨i, e, rfl, by omega, he, hy, fun i' e' q1 q2 q3 => by
  rcases Nat.lt_or_ge i' i with q | q
  · rcases h5 i' e' q q2 q3 with w | ⟨w, -⟩
    · exact Or.inl (Int32.lt_trans w hlt)
    · exact Or.inl (by rw [w]; exact hlt)
  · have : i' = i := by omega
    subst this
    rw [he] at q2
    cases q2
    exact Or.inr ⟨rfl, Nat.le_refl _⟩⟩
end P
theorem LH_bb {r : cRm} {Φ : cRes → cAS → Prop} {k : Int32} {c n : Nat} (hj : hJ σ x m h N S) (ht : aT σ c = (11, n)) (hn : n = S.2.2.2.1.length) (hn2 : n ≤ 10) (h5 : S.1 5 = nI n) (kk : ∀ b, bbP S.2.2.2.1 k (aI σ c) n b → Φ (.inl (some (.int b))) σ) : ∀ d i b, i + d = n → bbP S.2.2.2.1 k (aI σ c) i b → WP Γ r MX9_bestBidder Φ 5 [some (.ref h), some (.int k), some (.ref c), some (.int b), some (.int (nI i))] [] σ := by
  intro d
  induction d with
  | zero =>
    intro i b h1 hb
    have hi : i = n := by omega
    rw [hi] at hb ⊢
    refine WP.iload (pc := 5) dX9_bestBidder_5 rfl ?_
    refine WP.aload_n (pc := 7) dX9_bestBidder_7 rfl ?_
    refine WP.gIs (pc := 8) uX9 fX9_46 hj.t0 (v := nI n) ((hj.fI 5).trans (h5)) dX9_bestBidder_8 ?_
    refine WP.icmp_ge (pc := 11) (tgt := 67) dX9_bestBidder_11 (by decide) (fun q => ?_) (fun q => ?_)
    · refine WP.iload_n (pc := 67) dX9_bestBidder_67 rfl ?_
      exact WP.iret (pc := 68) rfl dX9_bestBidder_68 (kk b hb)
    · exact absurd (nI_le (Nat.le_refl _) (by omega)) q
  | succ d ih =>
    intro i b h1 hb
    obtain ⟨e, he⟩ : ∃ e, S.2.2.2.1[i]? = some e := ⟨_, List.getElem?_eq_getElem (by omega)⟩
    obtain ⟨a, a1, a2, a3, -, -⟩ := hj.qu he
    refine WP.iload (pc := 5) dX9_bestBidder_5 rfl ?_
    refine WP.aload_n (pc := 7) dX9_bestBidder_7 rfl ?_
    refine WP.gIs (pc := 8) uX9 fX9_46 hj.t0 (v := nI n) ((hj.fI 5).trans (h5)) dX9_bestBidder_8 ?_
    refine WP.icmp_ge (pc := 11) (tgt := 67) dX9_bestBidder_11 (by decide) (fun q => ?_) (fun q => ?_)
    · exact absurd q (nI_ge (by omega) (by omega))
    · refine WP.aload_n (pc := 14) dX9_bestBidder_14 rfl ?_
      refine WP.gRs (pc := 15) uX9 fX9_18 hj.t0 hj.r0_2 dX9_bestBidder_15 ?_
      refine WP.iload (pc := 18) dX9_bestBidder_18 rfl ?_
      refine WP.aaldS (pc := 20) hj.t3 (by omega) (by decide) a1 dX9_bestBidder_20 ?_
      refine WP.iconst (pc := 21) (v := 1) dX9_bestBidder_21 (by decide) ?_
      refine WP.ialdS (pc := 22) (k := 1) a2 (by decide) (by decide) (v := e.2.2.1) (congrFun a3 1) dX9_bestBidder_22 ?_
      refine WP.iload_n (pc := 23) dX9_bestBidder_23 rfl ?_
      refine WP.icmp_ne (pc := 24) (tgt := 61) dX9_bestBidder_24 (by decide) (fun q1 => ?_) (fun q1 => ?_)
      · refine WP.iinc (pc := 61) dX9_bestBidder_61 rfl (nI_1 _) (by decide) rfl ?_
        refine WP.goto (pc := 64) (tgt := 5) dX9_bestBidder_64 (by decide) ?_
        exact ih (i + 1) b (by omega) (bbP_no hb he (fun z => q1 z.1))
      · have q1 : e.2.2.1 = k := by
          first | exact q1 | exact Classical.not_not.mp q1
        refine WP.aload_n (pc := 27) dX9_bestBidder_27 rfl ?_
        refine WP.iload (pc := 28) dX9_bestBidder_28 rfl ?_
        refine WP.ialdS (pc := 30) ht (by omega) (by omega) rfl dX9_bestBidder_30 ?_
        refine WP.if_le (pc := 31) (tgt := 61) dX9_bestBidder_31 (by decide) (fun q2 => ?_) (fun q2 => ?_)
        · refine WP.iinc (pc := 61) dX9_bestBidder_61 rfl (nI_1 _) (by decide) rfl ?_
          refine WP.goto (pc := 64) (tgt := 5) dX9_bestBidder_64 (by decide) ?_
          exact ih (i + 1) b (by omega) (bbP_no hb he (fun z => Int32.lt_irrefl (Int32.lt_of_lt_of_le z.2 q2)))
        · have q2 : 0 < aI σ c i := Int32.not_le.mp q2
          refine WP.iload_n (pc := 34) dX9_bestBidder_34 rfl ?_
          rcases hb with ⟨rfl, h2⟩ | ⟨j, e0, rfl, h2, h3, h4, h5'⟩
          · refine WP.if_lt (pc := 35) (tgt := 58) dX9_bestBidder_35 (by decide) (fun q3 => ?_) (fun q3 => ?_)
            · refine WP.iload (pc := 58) dX9_bestBidder_58 rfl ?_
              refine WP.istore_n (pc := 60) dX9_bestBidder_60 (by decide) rfl ?_
              refine WP.iinc (pc := 61) dX9_bestBidder_61 rfl (nI_1 _) (by decide) rfl ?_
              refine WP.goto (pc := 64) (tgt := 5) dX9_bestBidder_64 (by decide) ?_
              exact ih (i + 1) (nI i) (by omega) (bbP_first h2 he ⟨q1, q2⟩)
            · exact absurd (by decide) q3
          · refine WP.if_lt (pc := 35) (tgt := 58) dX9_bestBidder_35 (by decide) (fun q3 => ?_) (fun q3 => ?_)
            · exact absurd q3 (nI_pos (by omega))
            · obtain ⟨a', a'1, a'2, a'3, -, -⟩ := hj.qu h3
              refine WP.aload_n (pc := 38) dX9_bestBidder_38 rfl ?_
              refine WP.gRs (pc := 39) uX9 fX9_18 hj.t0 hj.r0_2 dX9_bestBidder_39 ?_
              refine WP.iload (pc := 42) dX9_bestBidder_42 rfl ?_
              refine WP.aaldS (pc := 44) hj.t3 (by omega) (by decide) a1 dX9_bestBidder_44 ?_
              refine WP.iconst (pc := 45) (v := 3) dX9_bestBidder_45 (by decide) ?_
              refine WP.ialdS (pc := 46) (k := 3) a2 (by decide) (by decide) (v := e.2.2.2.2.1) (congrFun a3 3) dX9_bestBidder_46 ?_
              refine WP.aload_n (pc := 47) dX9_bestBidder_47 rfl ?_
              refine WP.gRs (pc := 48) uX9 fX9_18 hj.t0 hj.r0_2 dX9_bestBidder_48 ?_
              refine WP.iload_n (pc := 51) dX9_bestBidder_51 rfl ?_
              refine WP.aaldS (pc := 52) hj.t3 (by omega) (by decide) a'1 dX9_bestBidder_52 ?_
              refine WP.iconst (pc := 53) (v := 3) dX9_bestBidder_53 (by decide) ?_
              refine WP.ialdS (pc := 54) (k := 3) a'2 (by decide) (by decide) (v := e0.2.2.2.2.1) (congrFun a'3 3) dX9_bestBidder_54 ?_
              refine WP.icmp_le (pc := 55) (tgt := 61) dX9_bestBidder_55 (by decide) (fun q4 => ?_) (fun q4 => ?_)
              · refine WP.iinc (pc := 61) dX9_bestBidder_61 rfl (nI_1 _) (by decide) rfl ?_
                refine WP.goto (pc := 64) (tgt := 5) dX9_bestBidder_64 (by decide) ?_
                exact ih (i + 1) (nI j) (by omega) (bbP_keep h2 h3 h4 h5' he q4)
              · refine WP.iload (pc := 58) dX9_bestBidder_58 rfl ?_
                refine WP.istore_n (pc := 60) dX9_bestBidder_60 (by decide) rfl ?_
                refine WP.iinc (pc := 61) dX9_bestBidder_61 rfl (nI_1 _) (by decide) rfl ?_
                refine WP.goto (pc := 64) (tgt := 5) dX9_bestBidder_64 (by decide) ?_
                exact ih (i + 1) (nI i) (by omega) (bbP_new h5' he ⟨q1, q2⟩ (Int32.not_le.mp q4))
theorem CH_bestBidder {k : Int32} {c n : Nat} (hj : hJ σ x m h N S) (ht : aT σ c = (11, n)) (hn : n = S.2.2.2.1.length) (hn2 : n ≤ 10) (h5 : S.1 5 = nI n) : Ctr Γ (0, 0, 0, 0) MX9_bestBidder [.ref h, .int k, .ref c] σ (rS (fun v τ => τ = σ ∧ ∃ b, v = some (.int b) ∧ bbP S.2.2.2.1 k (aI σ c) n b)) := by
  refine Ctr.go rfl (by decide) rfl rfl ?_
  refine WP.iconst (pc := 0) (v := (-1)) dX9_bestBidder_0 (by decide) ?_
  refine WP.istore_n (pc := 1) dX9_bestBidder_1 (by decide) rfl ?_
  refine WP.iconst (pc := 2) (v := 0) dX9_bestBidder_2 (by decide) ?_
  refine WP.istore (pc := 3) dX9_bestBidder_3 (by decide) rfl ?_
  exact LH_bb Γ hj ht hn hn2 h5 (fun b hb => ⟨_, rfl, rfl, b, rfl, hb⟩) n 0 (-1) (Nat.zero_add _) (Or.inl ⟨rfl, fun i e q => absurd q (Nat.not_lt_zero _)⟩)
section P
variable {z : Nat → Int32} {Q : List mLf} {k : Int32} {g : Nat → Int32} {i : Nat} {e : mLf}
theorem chP_no {b : Int32} (h : chP z Q k g i b) (he : Q[i]? = some e) (hn : ¬ (e.1 = k ∧ g i = 0)) : chP z Q k g (i + 1) b := by
  have hx : ∀ (i' : Nat) (e' : mLf), i' < i + 1 → Q[i']? = some e' → (e'.1 = k ∧ g i' = 0) → i' < i := fun i' e' h1 h2 h3 => by
    rcases Nat.lt_or_ge i' i with q | q
    · exact q
    · have : i' = i := by omega
      subst this
      rw [he] at h2
      cases h2
      exact absurd h3 hn
  rcases h with ⟨h1, h2⟩ | ⟨j, e0, h1, h2, h3, h4, h5⟩
  · exact Or.inl ⟨h1, fun i' e' q1 q2 q3 => h2 i' e' (hx i' e' q1 q2 q3) q2 q3⟩
  · exact Or.inr ⟨j, e0, h1, by omega, h3, h4, fun i' e' q1 q2 q3 => h5 i' e' (hx i' e' q1 q2 q3) q2 q3⟩
theorem chP_first (h : ∀ (i' : Nat) (e' : mLf), i' < i → Q[i']? = some e' → ¬ (e'.1 = k ∧ g i' = 0)) (he : Q[i]? = some e) (hy : e.1 = k ∧ g i = 0) : chP z Q k g (i + 1) (nI i) := Or.inr ⟨i, e, rfl, by omega, he, hy, fun i' e' q1 q2 q3 => by
  rcases Nat.lt_or_ge i' i with q | q
  · exact absurd q3 (h i' e' q q2)
  · have : i' = i := by omega
    subst this
    rw [he] at q2
    cases q2
    exact Or.inr ⟨rfl, Nat.le_refl _⟩⟩
theorem chP_keep {j : Nat} {e0 : mLf} (h2 : j < i) (h3 : Q[j]? = some e0) (h4 : e0.1 = k ∧ g j = 0) (h5 : ∀ (i' : Nat) (e' : mLf), i' < i → Q[i']? = some e' → (e'.1 = k ∧ g i' = 0) → rsE z e0 < rsE z e' ∨ (rsE z e0 = rsE z e' ∧ j ≤ i')) (he : Q[i]? = some e) (hle : rsE z e0 ≤ rsE z e) : chP z Q k g (i + 1) (nI j) := Or.inr ⟨j, e0, rfl, by omega, h3, h4, fun i' e' q1 q2 q3 => by
  rcases Nat.lt_or_ge i' i with q | q
  · exact h5 i' e' q q2 q3
  · have : i' = i := by omega
    subst this
    rw [he] at q2
    cases q2
    rcases Int32.lt_or_eq_of_le hle with w | w
    · exact Or.inl w
    · exact Or.inr ⟨w, by omega⟩⟩
theorem chP_new {j : Nat} {e0 : mLf} (h5 : ∀ (i' : Nat) (e' : mLf), i' < i → Q[i']? = some e' → (e'.1 = k ∧ g i' = 0) → rsE z e0 < rsE z e' ∨ (rsE z e0 = rsE z e' ∧ j ≤ i')) (he : Q[i]? = some e) (hy : e.1 = k ∧ g i = 0) (hlt : rsE z e < rsE z e0) : chP z Q k g (i + 1) (nI i) := Or.inr ⟨i, e, rfl, by omega, he, hy, fun i' e' q1 q2 q3 => by
  rcases Nat.lt_or_ge i' i with q | q
  · rcases h5 i' e' q q2 q3 with w | ⟨w, -⟩
    · exact Or.inl (Int32.lt_trans hlt w)
    · exact Or.inl (by rw [← w]; exact hlt)
  · have : i' = i := by omega
    subst this
    rw [he] at q2
    cases q2
    exact Or.inr ⟨rfl, Nat.le_refl _⟩⟩
end P
theorem LH_ch {Φ : cRes → cAS → Prop} {mc ms T C A nb : Nat} {z : Nat → Int32} {k : Int32} {c n : Nat} (hj : hJ σ x m h N S) (ht : aT σ c = (13, 60)) (hn : n = S.2.2.2.2.1.length) (hn2 : n ≤ 60) (h6 : S.1 6 = nI n) (hz : okZ T C z) (hA : A ≤ 2000) (hok : ∀ e ∈ S.2.2.2.2.1, okL A z nb e) (hZt : hZ z S) (kk : ∀ b, chP z S.2.2.2.2.1 k (aI σ c) n b → Φ (.inl (some (.int b))) σ) : ∀ d i b, i + d = n → chP z S.2.2.2.2.1 k (aI σ c) i b → WP Γ (2, 48, mc, ms) MX9_cheapest Φ 5 [some (.ref h), some (.int k), some (.ref c), some (.int b), some (.int (nI i))] [] σ := by
  intro d
  induction d with
  | zero =>
    intro i b h1 hb
    have hi : i = n := by omega
    rw [hi] at hb ⊢
    refine WP.iload (pc := 5) dX9_cheapest_5 rfl ?_
    refine WP.aload_n (pc := 7) dX9_cheapest_7 rfl ?_
    refine WP.gIs (pc := 8) uX9 fX9_93 hj.t0 (v := nI n) ((hj.fI 6).trans (h6)) dX9_cheapest_8 ?_
    refine WP.icmp_ge (pc := 11) (tgt := 71) dX9_cheapest_11 (by decide) (fun q => ?_) (fun q => ?_)
    · refine WP.iload_n (pc := 71) dX9_cheapest_71 rfl ?_
      exact WP.iret (pc := 72) rfl dX9_cheapest_72 (kk b hb)
    · exact absurd (nI_le (Nat.le_refl _) (by omega)) q
  | succ d ih =>
    intro i b h1 hb
    obtain ⟨e, he⟩ : ∃ e, S.2.2.2.2.1[i]? = some e := ⟨_, List.getElem?_eq_getElem (by omega)⟩
    obtain ⟨a, a1, a2, a3, -, -⟩ := hj.lf he
    refine WP.iload (pc := 5) dX9_cheapest_5 rfl ?_
    refine WP.aload_n (pc := 7) dX9_cheapest_7 rfl ?_
    refine WP.gIs (pc := 8) uX9 fX9_93 hj.t0 (v := nI n) ((hj.fI 6).trans (h6)) dX9_cheapest_8 ?_
    refine WP.icmp_ge (pc := 11) (tgt := 71) dX9_cheapest_11 (by decide) (fun q => ?_) (fun q => ?_)
    · exact absurd q (nI_ge (by omega) (by omega))
    · refine WP.aload_n (pc := 14) dX9_cheapest_14 rfl ?_
      refine WP.gRs (pc := 15) uX9 fX9_21 hj.t0 hj.r0_3 dX9_cheapest_15 ?_
      refine WP.iload (pc := 18) dX9_cheapest_18 rfl ?_
      refine WP.aaldS (pc := 20) hj.t4 (by omega) (by decide) a1 dX9_cheapest_20 ?_
      refine WP.iconst (pc := 21) (v := 0) dX9_cheapest_21 (by decide) ?_
      refine WP.ialdS (pc := 22) (k := 0) a2 (by decide) (by decide) (v := e.1) (congrFun a3 0) dX9_cheapest_22 ?_
      refine WP.iload_n (pc := 23) dX9_cheapest_23 rfl ?_
      refine WP.icmp_ne (pc := 24) (tgt := 65) dX9_cheapest_24 (by decide) (fun q1 => ?_) (fun q1 => ?_)
      · refine WP.iinc (pc := 65) dX9_cheapest_65 rfl (nI_1 _) (by decide) rfl ?_
        refine WP.goto (pc := 68) (tgt := 5) dX9_cheapest_68 (by decide) ?_
        exact ih (i + 1) b (by omega) (chP_no hb he (fun z => q1 z.1))
      · have q1 : e.1 = k := by
          first | exact q1 | exact Classical.not_not.mp q1
        refine WP.aload_n (pc := 27) dX9_cheapest_27 rfl ?_
        refine WP.iload (pc := 28) dX9_cheapest_28 rfl ?_
        refine WP.zaldS (pc := 30) ht (by omega) (by omega) rfl dX9_cheapest_30 ?_
        refine WP.if_ne (pc := 31) (tgt := 65) dX9_cheapest_31 (by decide) (fun q2 => ?_) (fun q2 => ?_)
        · refine WP.iinc (pc := 65) dX9_cheapest_65 rfl (nI_1 _) (by decide) rfl ?_
          refine WP.goto (pc := 68) (tgt := 5) dX9_cheapest_68 (by decide) ?_
          exact ih (i + 1) b (by omega) (chP_no hb he (fun z => q2 z.2))
        · have q2 : aI σ c i = 0 := by
            first | exact q2 | exact Classical.not_not.mp q2
          refine WP.iload_n (pc := 34) dX9_cheapest_34 rfl ?_
          rcases hb with ⟨rfl, h2⟩ | ⟨j, e0, rfl, h2, h3, h4, h5'⟩
          · refine WP.if_lt (pc := 35) (tgt := 62) dX9_cheapest_35 (by decide) (fun q3 => ?_) (fun q3 => ?_)
            · refine WP.iload (pc := 62) dX9_cheapest_62 rfl ?_
              refine WP.istore_n (pc := 64) dX9_cheapest_64 (by decide) rfl ?_
              refine WP.iinc (pc := 65) dX9_cheapest_65 rfl (nI_1 _) (by decide) rfl ?_
              refine WP.goto (pc := 68) (tgt := 5) dX9_cheapest_68 (by decide) ?_
              exact ih (i + 1) (nI i) (by omega) (chP_first h2 he ⟨q1, q2⟩)
            · exact absurd (by decide) q3
          · refine WP.if_lt (pc := 35) (tgt := 62) dX9_cheapest_35 (by decide) (fun q3 => ?_) (fun q3 => ?_)
            · exact absurd q3 (nI_pos (by omega))
            · obtain ⟨a', a'1, a'2, a'3, -, -⟩ := hj.lf h3
              refine WP.aload_n (pc := 38) dX9_cheapest_38 rfl ?_
              refine WP.aload_n (pc := 39) dX9_cheapest_39 rfl ?_
              refine WP.gRs (pc := 40) uX9 fX9_21 hj.t0 hj.r0_3 dX9_cheapest_40 ?_
              refine WP.iload (pc := 43) dX9_cheapest_43 rfl ?_
              refine WP.aaldS (pc := 45) hj.t4 (by omega) (by decide) a1 dX9_cheapest_45 ?_
              refine WP.cV1 (pc := 46) (mc2 := mc) (ms2 := ms) (ci := 9) kX9_100 (CH_reserve Γ hj a2 a3 hz hA (hok e (List.mem_of_getElem? he)) hZt) (by decide) rfl hj.t0 rfl ⟨Nat.le_of_ble_eq_true rfl, Nat.le_of_ble_eq_true rfl⟩ (by omega) (by omega) (Nat.le_of_ble_eq_true rfl) rfl dX9_cheapest_46 ?_
              refine WP.aload_n (pc := 49) dX9_cheapest_49 rfl ?_
              refine WP.aload_n (pc := 50) dX9_cheapest_50 rfl ?_
              refine WP.gRs (pc := 51) uX9 fX9_21 hj.t0 hj.r0_3 dX9_cheapest_51 ?_
              refine WP.iload_n (pc := 54) dX9_cheapest_54 rfl ?_
              refine WP.aaldS (pc := 55) hj.t4 (by omega) (by decide) a'1 dX9_cheapest_55 ?_
              refine WP.cV1 (pc := 56) (mc2 := mc) (ms2 := ms) (ci := 9) kX9_100 (CH_reserve Γ hj a'2 a'3 hz hA (hok e0 (List.mem_of_getElem? h3)) hZt) (by decide) rfl hj.t0 rfl ⟨Nat.le_of_ble_eq_true rfl, Nat.le_of_ble_eq_true rfl⟩ (by omega) (by omega) (Nat.le_of_ble_eq_true rfl) rfl dX9_cheapest_56 ?_
              refine WP.icmp_ge (pc := 59) (tgt := 65) dX9_cheapest_59 (by decide) (fun q4 => ?_) (fun q4 => ?_)
              · refine WP.iinc (pc := 65) dX9_cheapest_65 rfl (nI_1 _) (by decide) rfl ?_
                refine WP.goto (pc := 68) (tgt := 5) dX9_cheapest_68 (by decide) ?_
                exact ih (i + 1) (nI j) (by omega) (chP_keep h2 h3 h4 h5' he q4)
              · refine WP.iload (pc := 62) dX9_cheapest_62 rfl ?_
                refine WP.istore_n (pc := 64) dX9_cheapest_64 (by decide) rfl ?_
                refine WP.iinc (pc := 65) dX9_cheapest_65 rfl (nI_1 _) (by decide) rfl ?_
                refine WP.goto (pc := 68) (tgt := 5) dX9_cheapest_68 (by decide) ?_
                exact ih (i + 1) (nI i) (by omega) (chP_new h5' he ⟨q1, q2⟩ (Int32.not_le.mp q4))
theorem CH_cheapest {T C A nb : Nat} {z : Nat → Int32} {k : Int32} {c n : Nat} (hj : hJ σ x m h N S) (ht : aT σ c = (13, 60)) (hn : n = S.2.2.2.2.1.length) (hn2 : n ≤ 60) (h6 : S.1 6 = nI n) (hz : okZ T C z) (hA : A ≤ 2000) (hok : ∀ e ∈ S.2.2.2.2.1, okL A z nb e) (hZt : hZ z S) : Ctr Γ (2, 48, 0, 0) MX9_cheapest [.ref h, .int k, .ref c] σ (rS (fun v τ => τ = σ ∧ ∃ b, v = some (.int b) ∧ chP z S.2.2.2.2.1 k (aI σ c) n b)) := by
  refine Ctr.go rfl (by decide) rfl rfl ?_
  refine WP.iconst (pc := 0) (v := (-1)) dX9_cheapest_0 (by decide) ?_
  refine WP.istore_n (pc := 1) dX9_cheapest_1 (by decide) rfl ?_
  refine WP.iconst (pc := 2) (v := 0) dX9_cheapest_2 (by decide) ?_
  refine WP.istore (pc := 3) dX9_cheapest_3 (by decide) rfl ?_
  exact LH_ch Γ hj ht hn hn2 h6 hz hA hok hZt (fun b hb => ⟨_, rfl, rfl, b, rfl, hb⟩) n 0 (-1) (Nat.zero_add _) (Or.inl ⟨rfl, fun i e q => absurd q (Nat.not_lt_zero _)⟩)
end T
