-- stale loaves go
theorem tsF_cr {T A C nb : Nat} {s : mS} (h : inR (s.1 4) 0 C) : ∀ i, inR (tsF s i).2.1 0 (C + 5 * i)
  | 0 => h.mono (Nat.le_refl _) (by omega)
  | i + 1 => by
    have ih := tsF_cr (T := T) (A := A) (nb := nb) h i
    unfold tsF
    split
    · split
      · exact (ih.add 5).mono (by omega) (by omega)
      · exact ih.mono (Nat.le_refl _) (by omega)
    · exact ih.mono (Nat.le_refl _) (by omega)
theorem tsF_ev {s : mS} (h : s.2.2.2.2.length ≤ 30) : ∀ i, (tsF s i).2.2.length ≤ 30
  | 0 => h
  | i + 1 => by
    have ih := tsF_ev h i
    unfold tsF
    split
    · split
      · exact evAdd_len ih
      · exact ih
    · exact ih
theorem mkS_filter {z : Nat → Int32} : ∀ {l : List mLf}, (∀ e ∈ l, e.1 ≠ -1) → (l.map (mkS z)).filter pK = l.filter (fun e => !decide (rsE z e = 0))
  | [], _ => rfl
  | e :: t, h => by
    have ih := mkS_filter (z := z) (l := t) (fun y hy => h y (List.mem_cons_of_mem _ hy))
    have he := h e List.mem_cons_self
    rw [List.map_cons, List.filter_cons, List.filter_cons, ih]
    unfold mkS
    by_cases q : rsE z e = 0
    · rw [if_pos q]
      simp [pK, q]
    · rw [if_neg q]
      simp [pK, q, he]
theorem stOut_wf {A T C : Nat} {s : mS} (hA : A ≤ 2000) (h : wfA A T C s) : wfA 73 T (C + 300) (stOut s) := by
  obtain ⟨h1, h2, h3, h4, h5, h6⟩ := h
  have hlen : s.2.2.1.length ≤ 60 := by omega
  have hf := mkS_filter (z := s.1) (fun e he => (h4.1 e he).kind)
  have hst : (stOut s).2.2.1 = s.2.2.1.filter (fun e => !decide (rsE s.1 e = 0)) := hf
  have hag : ∀ e, ag (stOut s).1 e = ag s.1 e := fun e => rfl
  refine ⟨⟨fun j hj => ?_, ?_, h1.2.2.1, h1.2.2.2⟩, h2, ?_, ⟨fun e he => ?_, ?_⟩, h5, tsF_ev h6 _⟩
  · have : (stOut s).1 j = s.1 j := by
      show (zup (zup s.1 8 _) 4 _) j = _
      rw [zup_eq, if_neg (by omega), zup_eq, if_neg (by omega)]
    rw [this]
    exact h1.1 j hj
  · exact (tsF_cr (T := T) (A := A) (nb := 0) h1.2.1 s.2.2.1.length).mono (Nat.le_refl _) (by omega)
  · rw [hst]
    have := List.length_filter_le (fun e => !decide (rsE s.1 e = 0)) s.2.2.1
    show _ + ovU s.2.1 ≤ 60
    omega
  · rw [hst] at he
    obtain ⟨he, hr⟩ := List.mem_filter.mp he
    have hk := h4.1 e he
    obtain ⟨j, b, e1, e2, e3, e4, e5⟩ := rsE_N h1 hA hk
    refine ⟨hk.1, hk.2.1, hk.2.2.1, ?_⟩
    rw [hag]
    rcases Nat.lt_or_ge 73 (ag s.1 e) with q | q
    · rw [e5, rsvN_old e4 q] at hr
      exact absurd hr (by decide)
    · exact q
  · rw [hst]
    exact (h4.2.filter _).imp (fun {a b} hab => by rw [hag, hag]; exact hab)
-- the sparrows
def spN (c p : Nat) : Nat := if 20 < c then (if p < 9 then p + 1 else p) else if c = 0 ∧ 0 < p then p - 1 else p
theorem spEat_N {z : Nat → Int32} {c p : Nat} (h4 : z 4 = nI c) (h5 : z 5 = nI p) (hc : c < 2 ^ 31) (hp : p ≤ 9) : spEat z = zup (zup z 4 (nI (c - 3 * p))) 5 (nI (spN (c - 3 * p) p)) := by
  have e3 : 3 * z 5 = nI (3 * p) := by rw [h5]; exact pk_mul 3 p
  have ec : (if 3 * z 5 < z 4 then z 4 - 3 * z 5 else 0) = nI (c - 3 * p) := by
    rw [e3, h4]
    by_cases q : 3 * p < c
    · rw [if_pos (nI_lt q (by omega)), pk_sub (by omega)]
    · rw [if_neg (nI_nlt (by omega) (by omega)), show c - 3 * p = 0 by omega]
      rfl
  unfold spEat
  simp only [ec]
  rw [h5]
  have zz : ∀ y : Nat → Int32, y 5 = nI p → zup y 5 (nI p) = y := fun y hy => by rw [← hy]; exact zup_id y 5
  unfold spN
  by_cases q : 20 < c - 3 * p
  · rw [if_pos (show 20 < nI (c - 3 * p) from nI_lt (a := 20) q (by omega)), if_pos q]
    by_cases q2 : p < 9
    · rw [if_pos (show nI p < 9 from nI_lt (b := 9) q2 (by decide)), if_pos q2, nI_1]
    · rw [if_neg (show ¬ nI p < 9 from nI_nlt (b := 9) (by omega) (by omega)), if_neg q2]
      exact (zz (zup z 4 (nI (c - 3 * p))) h5).symm
  · rw [if_neg (show ¬ 20 < nI (c - 3 * p) from nI_nlt (a := 20) (by omega) (by omega)), if_neg q]
    by_cases q2 : c - 3 * p = 0 ∧ 0 < p
    · have e0 : nI (c - 3 * p) = 0 := by rw [q2.1]; rfl
      rw [if_pos q2, if_pos ⟨e0, nI_lt (a := 0) q2.2 (by omega)⟩]
      obtain ⟨p', rfl⟩ : ∃ p', p = p' + 1 := ⟨p - 1, by omega⟩
      rw [nI_pred]
      rfl
    · rw [if_neg q2]
      rw [if_neg]
      · exact (zz (zup z 4 (nI (c - 3 * p))) h5).symm
      · rintro ⟨a1, a2⟩
        refine q2 ⟨?_, ?_⟩
        · rcases Nat.eq_zero_or_pos (c - 3 * p) with y | y
          · exact y
          · exact absurd a1 (nI_ne0 y (by omega))
        · rcases Nat.eq_zero_or_pos p with y | y
          · subst y
            exact absurd a2 (by decide)
          · exact y
theorem spN_le {c p : Nat} (hp : p ≤ 9) : spN c p ≤ 9 := by
  unfold spN
  split
  · split <;> omega
  · split <;> omega
theorem spEat_wf {A T C : Nat} {s : mS} (hC : C < 2147483648) (h : wfA A T C s) : wfA A T C (spEat s.1, s.2) := by
  obtain ⟨h1, h2⟩ := h
  obtain ⟨c, hc, -, hc2⟩ := h1.2.1
  obtain ⟨p, hp, -, hp2⟩ := h1.2.2.1
  rw [spEat_N hc hp (by omega) hp2]
  refine ⟨⟨fun j hj => ?_, ⟨_, rfl, Nat.zero_le _, by omega⟩, ⟨_, rfl, Nat.zero_le _, spN_le hp2⟩, h1.2.2.2⟩, h2⟩
  show inR (zup (zup s.1 4 _) 5 _ j) 0 99
  rw [zup_eq, if_neg (by omega), zup_eq, if_neg (by omega)]
  exact h1.1 j hj
-- patience
theorem lpF_ev {s : mS} (h : s.2.2.2.2.length ≤ 30) : ∀ i, (lpF s i).2.length ≤ 30
  | 0 => h
  | i + 1 => by
    have ih := lpF_ev h i
    unfold lpF
    split
    · split
      · exact evAdd_len ih
      · exact ih
    · exact ih
theorem okC.tk {T : Nat} {e : mCu} (h : okC T e) (hT : T ≤ 2147483647) : e.2.1 ≠ -1 := by
  obtain ⟨t, ht, h2⟩ := h.2.1
  rw [ht]
  exact nI_ne_m1 (by omega)
def decP (e : mCu) : mCu := (e.1, e.2.1, e.2.2.1, e.2.2.2.1, e.2.2.2.2.1, e.2.2.2.2.2.1, e.2.2.2.2.2.2 - 1)
def dieP (e : mCu) : Bool := decide (e.2.2.2.2.2.2 - 1 ≤ 0)
theorem mkP_filter : ∀ {l : List mCu}, (∀ e ∈ l, e.2.1 ≠ -1) → (l.map mkP).filter pC = (l.filter (fun e => !dieP e)).map decP
  | [], _ => rfl
  | e :: t, h => by
    have ih := mkP_filter (l := t) (fun y hy => h y (List.mem_cons_of_mem _ hy))
    have he := h e List.mem_cons_self
    rw [List.map_cons, List.filter_cons, List.filter_cons, ih]
    unfold mkP
    by_cases q : e.2.2.2.2.2.2 - 1 ≤ 0
    · rw [if_pos q]
      simp [pC, dieP, q]
    · rw [if_neg q]
      simp [pC, dieP, q, he, decP]
theorem lpOut_wf {A T C : Nat} {s : mS} (hT : T ≤ 2147483647) (h : wfA A T C s) : wfA A T C (lpOut s) := by
  obtain ⟨h1, h2, h3, h4, h5, h6⟩ := h
  have hf := mkP_filter (fun e he => (h5.2 e he).tk hT)
  have hst : (lpOut s).2.2.2.1 = (s.2.2.2.1.filter (fun e => !dieP e)).map decP := hf
  refine ⟨⟨fun j hj => ?_, h1.2.1, h1.2.2.1, h1.2.2.2⟩, h2, h3, h4, ?_, lpF_ev h6 _⟩
  · have : (lpOut s).1 j = s.1 j := by
      show (zup s.1 10 _) j = _
      rw [zup_eq, if_neg (by omega)]
    rw [this]
    exact h1.1 j hj
  · rw [hst]
    refine ⟨?_, fun e he => ?_⟩
    · rw [List.length_map]
      have := List.length_filter_le (fun e => !dieP e) s.2.2.2.1
      omega
    · obtain ⟨e0, h0, rfl⟩ := List.mem_map.mp he
      obtain ⟨h0, hq⟩ := List.mem_filter.mp h0
      obtain ⟨a1, a2, a3, a4, a5, a6, a7⟩ := h5.2 e0 h0
      refine ⟨a1, a2, a3, a4, a5, a6, ?_⟩
      obtain ⟨v, hv, l1, l2⟩ := a7
      show inR (e0.2.2.2.2.2.2 - 1) 1 99
      have hq' : ¬ e0.2.2.2.2.2.2 - 1 ≤ 0 := by simpa [dieP] using hq
      obtain ⟨w, rfl⟩ : ∃ w, v = w + 1 := ⟨v - 1, by omega⟩
      rw [hv, nI_pred] at hq' ⊢
      have : w ≠ 0 := fun q => hq' (by rw [q]; decide)
      exact ⟨w, rfl, by omega, by omega⟩
theorem hrOut_wf {T C : Nat} {s : mS} (hT : T ≤ 2147483647) (hC : C + 300 < 2147483648) (h : wf T C s) : wf T (C + 300) (hrOut s) :=
  lpOut_wf hT (spEat_wf hC (stOut_wf (by decide) (ovOut_wf (hr1_wf h))))
theorem hrOut_cap {T C : Nat} {s : mS} (h : wf T C s) : ovCap (hr1 s) := ovCap_of (hr1_wf h)
theorem okC.cu {T : Nat} {e : mCu} (h : okC T e) : cuOk e := by
  obtain ⟨-, -, -, ⟨w, hw, w1, w2⟩, ⟨l, hl, l1, l2⟩, ⟨q, hq, q1, q2⟩, -⟩ := h
  unfold cuOk
  rw [hw, hl, hq]
  exact ⟨nI_le (a := 1) l1 (by omega), nI_le (b := 99) l2 (by decide), nI_pos' (by omega), nI_le (b := 9) w2 (by decide), nI_pos' (by omega)⟩
theorem wfA.cu {A T C : Nat} {s : mS} (h : wfA A T C s) : ∀ e ∈ s.2.2.2.1, cuOk e := fun e he => (h.2.2.2.2.1.2 e he).cu
theorem wfA.bk {A T C : Nat} {s : mS} (h : wfA A T C s) : bkOk s := fun e he => (h.2.2.2.1.1 e he).2.1
