theorem trN_stop {bs ls : List mBd} {y u : mBd} (h1 : bs[trN bs ls]? = some y) (h2 : ls[trN bs ls]? = some u) : ¬ u.2 ≤ y.2 := by
  induction bs generalizing ls with
  | nil => simp at h1
  | cons b bs ih =>
    cases ls with
    | nil => simp at h2
    | cons l ls =>
      by_cases q : l.2 ≤ b.2
      · have e : trN (b :: bs) (l :: ls) = trN bs ls + 1 := by
          simp only [trN]
          rw [if_pos q]
        rw [e] at h1 h2
        exact ih (by simpa using h1) (by simpa using h2)
      · have e : trN (b :: bs) (l :: ls) = 0 := by
          simp only [trN]
          rw [if_neg q]
        rw [e] at h1 h2
        have e1 : b = y := by simpa using h1
        have e2 : l = u := by simpa using h2
        rw [← e1, ← e2]
        exact q
def prT (ls : List mBd) (t : Nat) : Int32 := if t = 0 then 1 else prH ls t
theorem prT_s {ls : List mBd} {t : Nat} {u : mBd} (h : ls[t]? = some u) : prT ls (t + 1) = if 1 < u.2 then u.2 else 1 := by
  unfold prT prH
  rw [if_neg (by omega), Nat.add_sub_cancel, h]
theorem lfP_step {T : Nat} {Q : List mCu} {k : Int32} {t j0 : Nat} {lim : Int32} {g : Nat → Int32} (hok : ∀ e ∈ Q, okC T e) (hl : Q.length ≤ 10) (hg : lfP Q k (bdF Q k Q.length) t g) (hb : (bdF Q k Q.length)[t]? = some (nI j0, lim)) (hj0 : j0 < Q.length) : lfP Q k (bdF Q k Q.length) (t + 1) (u1 g j0 (g j0 - 1)) := fun j e he hk => by
  have hj := gE_lt he
  have h1 := cntB_bdF (k := k) he hl Q.length (Nat.le_refl _)
  rw [if_pos hj] at h1
  have h2 := take_succ_cnt hb (nI j)
  have h3 := cntB_take (l := bdF Q k Q.length) (v := nI j) (t + 1)
  have h9 := bdN_9 (hok e (List.mem_of_getElem? he)) k
  unfold u1
  by_cases q : j = j0
  · subst q
    rw [if_pos rfl] at h2 ⊢
    rw [hg j e he hk, h2]
    have := pk_sub (a := bdN e k - cntB ((bdF Q k Q.length).take t) (nI j)) (b := 1) (by omega)
    rw [show bdN e k - (cntB ((bdF Q k Q.length).take t) (nI j) + 1) = bdN e k - cntB ((bdF Q k Q.length).take t) (nI j) - 1 by omega]
    exact this
  · rw [if_neg q, hg j e he hk, h2, if_neg (fun z => q ((nI_eq (by omega) (by omega)).mp z).symm), Nat.add_zero]
theorem tkP_step {ls : List mBd} {t j1 : Nat} {r : Int32} {g : Nat → Int32} (hg : tkP ls t g) (hu : ls[t]? = some (nI j1, r)) (hj : j1 < 60) : tkP ls (t + 1) (u1 g j1 1) := fun j hj2 => by
  have e : (ls.take (t + 1)).map Prod.fst = (ls.take t).map Prod.fst ++ [nI j1] := by
    rw [List.take_add_one, hu]
    simp
  rw [e]
  unfold u1
  by_cases q : j = j1
  · subst q
    rw [if_pos rfl, if_pos (by simp)]
  · rw [if_neg q, hg j hj2]
    have : nI j ≠ nI j1 := fun z => q ((nI_eq (by omega) (by omega)).mp z)
    by_cases w : nI j ∈ (ls.take t).map Prod.fst
    · rw [if_pos w, if_pos (List.mem_append_left _ w)]
    · rw [if_neg w, if_neg (fun z => by
        rcases List.mem_append.mp z with z | z
        · exact w z
        · exact this (List.mem_singleton.mp z))]
/-- what is marked as sold -/
theorem sell_mk {s : mS} {k p : Int32} {bs ls : List mBd} (hbk : bkOk s) (h0 : ∀ e ∈ s.2.2.1, e.1 ≠ -1) (hl60 : s.2.2.1.length ≤ 60) (hb3 : s.2.1.length ≤ 4) (hQ : s.2.2.2.1.length ≤ 10) (hb : ∀ y ∈ bs, ∃ c, y.1 = nI c ∧ c < s.2.2.2.1.length) (hl : ∀ y ∈ ls, ∃ c, y.1 = nI c ∧ c < s.2.2.1.length) : ∀ i, i ≤ bs.length → i ≤ ls.length → ∀ (j : Nat) (el : mLf), (sellN s k p bs ls i).2.2.1[j]? = some el → (el.1 = -1 ↔ nI j ∈ (ls.take i).map Prod.fst)
  | 0, _, _, j, el, he => by
    constructor
    · intro h
      exact absurd h (h0 el (List.mem_of_getElem? he))
    · intro h
      simp at h
  | i + 1, h1, h2, j, el, he => by
    have ih := sell_mk (k := k) (p := p) hbk h0 hl60 hb3 hQ hb hl i (by omega) (by omega)
    obtain ⟨n1, n2, n3⟩ := sellN_len s k p bs ls i
    have hgb : bs[i]? = some bs[i] := List.getElem?_eq_getElem (by omega)
    have hgl : ls[i]? = some ls[i] := List.getElem?_eq_getElem (by omega)
    generalize bs[i] = y at hgb
    generalize ls[i] = u at hgl
    obtain ⟨c, hc, hc2⟩ := hb y (List.mem_of_getElem? hgb)
    obtain ⟨d, hd, hd2⟩ := hl u (List.mem_of_getElem? hgl)
    obtain ⟨y1, y2⟩ := y
    obtain ⟨u1', u2⟩ := u
    simp only at hc hd
    subst hc
    subst hd
    have gc : (sellN s k p bs ls i).2.2.2.1[c]? = some ((sellN s k p bs ls i).2.2.2.1[c]'(by omega)) := List.getElem?_eq_getElem (by omega)
    have gl : (sellN s k p bs ls i).2.2.1[d]? = some ((sellN s k p bs ls i).2.2.1[d]'(by omega)) := List.getElem?_eq_getElem (by omega)
    generalize (sellN s k p bs ls i).2.2.2.1[c]'(by omega) = ec at gc
    generalize (sellN s k p bs ls i).2.2.1[d]'(by omega) = eld at gl
    obtain ⟨bi, b1, b2⟩ := sellN_bk k p bs ls hbk i eld (List.mem_of_getElem? gl)
    have gb : (sellN s k p bs ls i).2.1[bi]? = some ((sellN s k p bs ls i).2.1[bi]'b2) := List.getElem?_eq_getElem b2
    have hst := sellN_step hgb hgl gc gl b1 gb (by omega) (by omega) (by omega)
    rw [hst] at he
    have he : ((sellN s k p bs ls i).2.2.1.set d (-1, eld.2))[j]? = some el := he
    have e : (ls.take (i + 1)).map Prod.fst = (ls.take i).map Prod.fst ++ [nI d] := by
      rw [List.take_add_one, hgl]
      simp
    rw [e]
    by_cases q : j = d
    · subst q
      rw [List.getElem?_set_self (by omega)] at he
      rw [← Option.some.inj he]
      constructor
      · intro _
        simp
      · intro _
        rfl
    · rw [List.getElem?_set_ne (by omega)] at he
      rw [ih j el he]
      have hj : j < 60 := by have := gE_lt he; omega
      constructor
      · intro w
        exact List.mem_append_left _ w
      · intro w
        rcases List.mem_append.mp w with w | w
        · exact w
        · exact absurd ((nI_eq (by omega) (by omega)).mp (List.mem_singleton.mp w)) q
section T
variable (Γ : cG) {x h : Nat} {m : mX}
-- what each could buy
theorem LH_lf {Φ : cRes → cAS → Prop} {mc ms : Nat} {k : Int32} {T c n : Nat} {Q : List mCu} (hn : n = Q.length) (hn2 : n ≤ 10) (hok : ∀ e ∈ Q, okC T e) {S : hBd} {N : Nat} (hSQ : S.2.2.2.1 = Q) (h5 : S.1 5 = nI n) (hc : N ≤ c)
    (kk : ∀ τ, hJ τ x m h N S → aT τ c = (11, n) → fre τ x c → lfP Q k (bdF Q k Q.length) 0 (aI τ c) → WP Γ (3, 72, mc, ms) MX9_holds Φ 54 [some (.ref h), some (.int k), some (.ref c), some (.int (nI n)), none, none, none, none, none, none, none] [] τ) :
    ∀ d i σ, i + d = n → hJ σ x m h N S → aT σ c = (11, n) → fre σ x c → (∀ (j : Nat) (e : mCu), j < i → Q[j]? = some e → e.2.2.1 = k → aI σ c j = nI (bdN e k)) → WP Γ (3, 72, mc, ms) MX9_holds Φ 9 [some (.ref h), some (.int k), some (.ref c), some (.int (nI i)), none, none, none, none, none, none, none] [] σ := by
  intro d
  induction d with
  | zero =>
    intro i σ h1 hj ht hf hg
    have hi : i = n := by omega
    subst hi
    refine WP.iload_n (pc := 9) dX9_holds_9 rfl ?_
    refine WP.aload_n (pc := 10) dX9_holds_10 rfl ?_
    refine WP.gIs (pc := 11) uX9 fX9_46 hj.t0 (v := nI i) ((hj.fI 5).trans (h5)) dX9_holds_11 ?_
    refine WP.icmp_ge (pc := 14) (tgt := 54) dX9_holds_14 (by decide) (fun q => ?_) (fun q => ?_)
    · refine kk σ hj ht hf (fun j e he hk => ?_)
      rw [hg j e (by have := gE_lt he; omega) he hk, List.take_zero]
      rfl
    · exact absurd (nI_le (Nat.le_refl _) (by omega)) q
  | succ d ih =>
    intro i σ h1 hj ht hf hg
    obtain ⟨e, he⟩ : ∃ e, Q[i]? = some e := ⟨_, List.getElem?_eq_getElem (by omega)⟩
    obtain ⟨a, a1, a2, a3, -, -⟩ := hj.qu (by rw [hSQ]; exact he)
    obtain ⟨w, l, q, hw, hl, hq, w9, l1, l9, q9, -, -, -, hbn⟩ := bdI_okC (hok e (List.mem_of_getElem? he)) k
    have hdv : q / l ≤ q := Nat.div_le_self _ _
    refine WP.iload_n (pc := 9) dX9_holds_9 rfl ?_
    refine WP.aload_n (pc := 10) dX9_holds_10 rfl ?_
    refine WP.gIs (pc := 11) uX9 fX9_46 hj.t0 (v := nI n) ((hj.fI 5).trans (h5)) dX9_holds_11 ?_
    refine WP.icmp_ge (pc := 14) (tgt := 54) dX9_holds_14 (by decide) (fun qc => ?_) (fun qc => ?_)
    · exact absurd qc (nI_ge (by omega) (by omega))
    · refine WP.aload_n (pc := 17) dX9_holds_17 rfl ?_
      refine WP.iload_n (pc := 18) dX9_holds_18 rfl ?_
      refine WP.aload_n (pc := 19) dX9_holds_19 rfl ?_
      refine WP.gRs (pc := 20) uX9 fX9_18 hj.t0 hj.r0_2 dX9_holds_20 ?_
      refine WP.iload_n (pc := 23) dX9_holds_23 rfl ?_
      refine WP.aaldS (pc := 24) hj.t3 (by omega) (by decide) a1 dX9_holds_24 ?_
      refine WP.iconst (pc := 25) (v := 2) dX9_holds_25 (by decide) ?_
      refine WP.ialdS (pc := 26) (k := 2) a2 (by decide) (by decide) (v := (nI w)) ((congrFun a3 2).trans (hw)) dX9_holds_26 ?_
      refine WP.aload_n (pc := 27) dX9_holds_27 rfl ?_
      refine WP.gRs (pc := 28) uX9 fX9_18 hj.t0 hj.r0_2 dX9_holds_28 ?_
      refine WP.iload_n (pc := 31) dX9_holds_31 rfl ?_
      refine WP.aaldS (pc := 32) hj.t3 (by omega) (by decide) a1 dX9_holds_32 ?_
      refine WP.iconst (pc := 33) (v := 4) dX9_holds_33 (by decide) ?_
      refine WP.ialdS (pc := 34) (k := 4) a2 (by decide) (by decide) (v := (nI q)) ((congrFun a3 4).trans (hq)) dX9_holds_34 ?_
      refine WP.aload_n (pc := 35) dX9_holds_35 rfl ?_
      refine WP.gRs (pc := 36) uX9 fX9_18 hj.t0 hj.r0_2 dX9_holds_36 ?_
      refine WP.iload_n (pc := 39) dX9_holds_39 rfl ?_
      refine WP.aaldS (pc := 40) hj.t3 (by omega) (by decide) a1 dX9_holds_40 ?_
      refine WP.iconst (pc := 41) (v := 3) dX9_holds_41 (by decide) ?_
      refine WP.ialdS (pc := 42) (k := 3) a2 (by decide) (by decide) (v := (nI l)) ((congrFun a3 3).trans (hl)) dX9_holds_42 ?_
      refine WP.idN (pc := 43) rfl (by omega) (by omega) (by omega) dX9_holds_43 ?_
      refine WP.mmin (pc := 44) kX9_108 (by decide) (Nat.le_of_ble_eq_true rfl) dX9_holds_44 ?_
      have e0 : (if nI (q / l) < nI w then nI (q / l) else nI w) = nI (min (q / l) w) := by
        by_cases y : q / l < w
        · rw [if_pos (nI_lt y (by omega)), Nat.min_eq_left (by omega)]
        · rw [if_neg (nI_nlt (by omega) (by omega)), Nat.min_eq_right (by omega)]
      rw [e0]
      refine WP.iastS (pc := 47) ht (by omega) (by omega) dX9_holds_47 ?_
      refine WP.iinc (pc := 48) dX9_holds_48 rfl (nI_1 _) (by decide) rfl ?_
      refine WP.goto (pc := 51) (tgt := 9) dX9_holds_51 (by decide) ?_
      refine ih (i + 1) _ (by omega) (hj.tmp hc hf) ht hf (fun j e' hj' he' hk => ?_)
      rw [aI_u1]
      unfold u1
      by_cases y : j = i
      · subst y
        rw [he] at he'
        cases he'
        rw [if_pos rfl, hbn, if_pos hk]
      · rw [if_neg y]
        exact hg j e' (by omega) he' hk
end T
