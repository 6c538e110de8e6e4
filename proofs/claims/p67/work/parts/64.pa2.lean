section P
variable {f : Nat → Int32} {n p : Nat}
theorem dgs_dig : ∀ v, v < 1000 → (∀ x ∈ dgs v, 48 ≤ x ∧ x ≤ 57) ∧ dgs v ≠ [] := by decide +kernel
theorem vl_stp {a d : Nat} (ha : a ≤ 1000) (hd : d ≤ 9) : (if (100000 : Int32) < nI a * 10 + nI (48 + d) - 48 then (100000 : Int32) else nI a * 10 + nI (48 + d) - 48) = nI (a * 10 + d) := by
  have e : nI a * 10 + nI (48 + d) - 48 = nI (a * 10 + d) := by
    rw [show nI a * 10 = nI (a * 10) from pk_mul a 10, nI_add, show nI (a * 10 + (48 + d)) - 48 = nI (a * 10 + (48 + d)) - nI 48 from rfl, pk_sub (by omega), show a * 10 + (48 + d) - 48 = a * 10 + d by omega]
  rw [e, if_neg (show ¬ (100000 : Int32) < nI (a * 10 + d) from nI_nlt (a := 100000) (b := a * 10 + d) (by omega) (by decide))]
theorem vl_dgs {v : Nat} {r : List Nat} (hv : v < 1000) (h : rdl f n p (dgs v ++ r)) : vlA f (dgs v).length p 0 = nI v := by
  have hg : ∀ i, i < (dgs v).length → f (p + i) = nI ((dgs v).getD i 0) := fun i hi => h.get hi
  by_cases h1 : v < 10
  · rw [dgs_1 h1] at hg ⊢
    have g0 : f p = nI (48 + v) := hg 0 (by simp)
    show vlA f 0 (p + 1) (if (100000 : Int32) < 0 * 10 + f p - 48 then (100000 : Int32) else 0 * 10 + f p - 48) = nI v
    rw [g0]
    have := vl_stp (a := 0) (d := v) (by omega) (by omega)
    rw [show (0 : Nat) * 10 + v = v by omega] at this
    exact this
  · by_cases h2 : v < 100
    · rw [dgs_2 h1 h2] at hg ⊢
      have g0 : f p = nI (48 + v / 10) := hg 0 (by simp)
      have g1 : f (p + 1) = nI (48 + v % 10) := hg 1 (by simp)
      show vlA f 1 (p + 1) (if (100000 : Int32) < 0 * 10 + f p - 48 then (100000 : Int32) else 0 * 10 + f p - 48) = nI v
      rw [g0]
      have s0 := vl_stp (a := 0) (d := v / 10) (by omega) (by omega)
      rw [show nI 0 = (0 : Int32) from rfl] at s0
      rw [s0]
      show vlA f 0 (p + 1 + 1) (if (100000 : Int32) < nI (0 * 10 + v / 10) * 10 + f (p + 1) - 48 then (100000 : Int32) else nI (0 * 10 + v / 10) * 10 + f (p + 1) - 48) = nI v
      rw [g1, vl_stp (by omega) (by omega), show (0 * 10 + v / 10) * 10 + v % 10 = v by omega]
      rfl
    · rw [dgs_3 h1 h2] at hg ⊢
      have g0 : f p = nI (48 + v / 100) := hg 0 (by simp)
      have g1 : f (p + 1) = nI (48 + v / 10 % 10) := hg 1 (by simp)
      have g2 : f (p + 1 + 1) = nI (48 + v % 10) := hg 2 (by simp)
      show vlA f 2 (p + 1) (if (100000 : Int32) < 0 * 10 + f p - 48 then (100000 : Int32) else 0 * 10 + f p - 48) = nI v
      rw [g0]
      have s0 := vl_stp (a := 0) (d := v / 100) (by omega) (by omega)
      rw [show nI 0 = (0 : Int32) from rfl] at s0
      rw [s0]
      show vlA f 1 (p + 1 + 1) (if (100000 : Int32) < nI (0 * 10 + v / 100) * 10 + f (p + 1) - 48 then (100000 : Int32) else nI (0 * 10 + v / 100) * 10 + f (p + 1) - 48) = nI v
      rw [g1, vl_stp (by omega) (by omega)]
      show vlA f 0 (p + 1 + 1 + 1) (if (100000 : Int32) < nI ((0 * 10 + v / 100) * 10 + v / 10 % 10) * 10 + f (p + 1 + 1) - 48 then (100000 : Int32) else nI ((0 * 10 + v / 100) * 10 + v / 10 % 10) * 10 + f (p + 1 + 1) - 48) = nI v
      rw [g2, vl_stp (by omega) (by omega), show ((0 * 10 + v / 100) * 10 + v / 10 % 10) * 10 + v % 10 = v by omega]
      rfl
theorem num_S {v c a b : Nat} {r : List Nat} {lo hi : Int32} (h : rdl f n p (dgs v ++ c :: r)) (hv : v < 1000) (hc : c < 48 ∨ (57 < c ∧ c < 128)) (hlo : lo = nI a) (hhi : hi = nI b) (h1 : a ≤ v) (h2 : v ≤ b) (hb : b < 1000) : ldNum f n lo hi (S0 f n p) = (nI v, S0 f n (p + (dgs v).length)) := by
  have ht := tk_num h (dgs_dig v hv).1 (dgs_dig v hv).2 hc
  have hV : ldNumV f (S0 f n p) = nI v := by
    unfold ldNumV S0
    rw [ht]
    exact vl_dgs hv h
  unfold ldNum
  rw [if_pos rfl, if_pos (by show (tkN f n p).1 = 2; rw [ht]), hV, if_neg (fun q => by
    subst hlo
    subst hhi
    rcases q with q | q
    · exact nI_nlt (by omega) (by omega) q
    · exact nI_nlt (by omega) (by omega) q), ldX_S ht]
theorem knd_w : ∀ q, q < 3 → (∀ x ∈ cTx (19 + q), 97 ≤ x ∧ x ≤ 122) ∧ cTx (19 + q) ≠ [] ∧ decide (cTx 4 = cTx (19 + q)) = decide (q = 0) ∧ decide (cTx 5 = cTx (19 + q)) = decide (q = 1) ∧ decide (cTx 6 = cTx (19 + q)) = decide (q = 2) := by decide +kernel
theorem kind_S {q c : Nat} {r : List Nat} (hq : q < 3) (h : rdl f n p (cTx (19 + q) ++ c :: r)) (hc : c < 97) : ldKind f n (S0 f n p) = (nI q, S0 f n (p + (cTx (19 + q)).length)) := by
  obtain ⟨k1, k2, k3, k4, k5⟩ := knd_w q hq
  have ht := tk_word h k1 k2 hc
  have hV : ldKindV f (S0 f n p) = nI q := by
    unfold ldKindV
    show (if wdI f (tkN f n p) 4 = true then (0 : Int32) else if wdI f (tkN f n p) 5 = true then 1 else if wdI f (tkN f n p) 6 = true then 2 else -1) = nI q
    rw [wd_word (by decide) h k1 k2 hc, wd_word (by decide) h k1 k2 hc, wd_word (by decide) h k1 k2 hc, k3, k4, k5]
    rcases (show q = 0 ∨ q = 1 ∨ q = 2 by omega) with rfl | rfl | rfl <;> rfl
  unfold ldKind
  rw [if_pos rfl, hV, if_neg (by rcases (show q = 0 ∨ q = 1 ∨ q = 2 by omega) with rfl | rfl | rfl <;> decide), ldX_S ht]
-- names of two letters
def nm2 (a b : Nat) : Nat := (((a - 96) * 27 + (b - 96)) * 27 + 0) * 27 + 0
theorem nm2_lc {a b c : Nat} {r : List Nat} (h : rdl f n p ([a, b] ++ c :: r)) (ha : 97 ≤ a ∧ a ≤ 122) (hb : 97 ≤ b ∧ b ≤ 122) : pkN f p 2 ≠ -1 ∧ pkN f p 2 = nI (a + 256 * b) ∧ nmF f p 2 = nm2 a b := by
  have g0 : f p = nI a := h.get (i := 0) (by simp)
  have g1 : f (p + 1) = nI b := h.get (i := 1) (by simp)
  have l0 : lc f p 0 = a := by unfold lc; rw [show p + 0 = p from rfl, g0, nI_clamp (by omega)]
  have l1 : lc f p 1 = b := by unfold lc; rw [g1, nI_clamp (by omega)]
  have hal : allL f p 2 = true := by
    show ((true && isLet (f (p + 0))) && isLet (f (p + 1))) = true
    rw [show p + 0 = p from rfl, g0, g1, (sg_fact a (by omega)).1, (sg_fact b (by omega)).1]
    unfold lt1
    simp
    omega
  have hP : pkP f p 2 = a + 256 * b := by
    show 2 ^ (8 * 1) * lc f p 1 + (2 ^ (8 * 0) * lc f p 0 + 0) = _
    rw [l0, l1]
    omega
  have hN : pkN f p 2 = nI (a + 256 * b) := by
    unfold pkN
    rw [if_pos ⟨by omega, by omega, hal⟩, (pkA_P 2 (by omega) hal).1, hP]
  refine ⟨by rw [hN]; exact nI_ne_m1 (by omega), hN, ?_⟩
  unfold nmF nmC nm2
  rw [if_pos (by omega), if_pos (by omega), if_neg (by omega), if_neg (by omega), l0, l1]
theorem name_S {a b c : Nat} {r : List Nat} {s : mS} (h : rdl f n p ([a, b] ++ c :: r)) (ha : 97 ≤ a ∧ a ≤ 122) (hb : 97 ≤ b ∧ b ≤ 122) (hc : c < 97) (hn : hasN s (nI (a + 256 * b)) = false) : ldName f n s (S0 f n p) = S0 f n (p + 2) := by
  have ht := tk_word h (fun x hx => by
    rcases List.mem_cons.mp hx with rfl | hx
    · exact ha
    · rw [List.mem_singleton.mp hx]
      exact hb) (by simp) hc
  obtain ⟨h1, h2, -⟩ := nm2_lc h ha hb
  have hN : ldNm f (S0 f n p) = nI (a + 256 * b) := by
    unfold ldNm S0
    rw [ht]
    exact h2
  unfold ldName
  rw [if_pos (by show (tkN f n p).1 = 1; rw [ht]), hN, if_neg (by rw [← h2]; exact h1), if_neg (by rw [hn]; decide), ldX_S ht]
  rfl
theorem bkr_S {a b c : Nat} {r : List Nat} {s : mS} (h : rdl f n p ([a, b] ++ c :: r)) (ha : 97 ≤ a ∧ a ≤ 122) (hb : 97 ≤ b ∧ b ≤ 122) (hc : c < 97) (hn : bkIx s.2.1 (nI (a + 256 * b)) ≠ -1) : ldNm f (S0 f n p) = nI (a + 256 * b) ∧ ldBkr f n s (S0 f n p) = S0 f n (p + 2) := by
  have ht := tk_word h (fun x hx => by
    rcases List.mem_cons.mp hx with rfl | hx
    · exact ha
    · rw [List.mem_singleton.mp hx]
      exact hb) (by simp) hc
  obtain ⟨h1, h2, -⟩ := nm2_lc h ha hb
  have hN : ldNm f (S0 f n p) = nI (a + 256 * b) := by
    unfold ldNm S0
    rw [ht]
    exact h2
  refine ⟨hN, ?_⟩
  unfold ldBkr
  rw [if_pos (by show (tkN f n p).1 = 1; rw [ht]), hN, if_neg hn, ldX_S ht]
  rfl
theorem kw_w : ∀ j, j < 11 → 0 < j → (∀ x ∈ cTx j, 97 ≤ x ∧ x ≤ 122) ∧ cTx j ≠ [] := by decide +kernel
theorem kw_S {j c : Nat} {r : List Nat} (hj : j < 11) (h0 : 0 < j) (h : rdl f n p (cTx j ++ c :: r)) (hc : c < 97) : ldX f n (S0 f n p) = S0 f n (p + (cTx j).length) := ldX_S (tk_word h (kw_w j hj h0).1 (kw_w j hj h0).2 hc)
-- the statements
theorem market_S {a b c : Nat} {r : List Nat} {s : mS} (ha : 1 ≤ a ∧ a ≤ 99) (hb : 1 ≤ b ∧ b ≤ 99) (hc : 1 ≤ c ∧ c ≤ 99) (h : rdl f n p (cTx 1 ++ 32 :: (dgs a ++ 32 :: (dgs b ++ 32 :: (dgs c ++ 59 :: r))))) : ∃ q, sdMarket f n s (S0 f n p) = (bsS s (nI a) (nI b) (nI c), S0 f n q) ∧ rdl f n q r := by
  have h1 := h.app
  have h2 := h1.cons.2
  have h3 := h2.app
  have h4 := h3.cons.2
  have h5 := h4.app
  have h6 := h5.cons.2
  have h7 := h6.app
  have h8 := h7.cons.2
  refine ⟨_, ?_, h8⟩
  unfold sdMarket
  rw [kw_S (by decide) (by decide) h (by decide), S0_sp h1]
  simp only [num_S h2 (by omega) (Or.inl (by decide)) (lo := 1) (hi := 99) rfl rfl ha.1 ha.2 (by decide)]
  simp only [S0_sp h3, num_S h4 (by omega) (Or.inl (by decide)) (lo := 1) (hi := 99) rfl rfl hb.1 hb.2 (by decide)]
  simp only [S0_sp h5, num_S h6 (by omega) (Or.inr (by decide)) (lo := 1) (hi := 99) rfl rfl hc.1 hc.2 (by decide)]
  simp only [semi_S h7]
  rw [if_pos trivial]
theorem baker_S {k a b : Nat} {r : List Nat} {s : mS} (hk : k ≤ 2) (ha : 1 ≤ a ∧ a ≤ 12) (hb : 1 ≤ b ∧ b ≤ 9) (hl : s.2.1.length < 4) (hn : hasN s (nI (98 + 256 * (120 + k))) = false) (h : rdl f n p (cTx 2 ++ 32 :: ([98, 120 + k] ++ 32 :: (dgs a ++ 32 :: (dgs b ++ 59 :: r))))) : ∃ q, sdBaker f n s (S0 f n p) = (adB s (nm2 98 (120 + k)) (nI a) (nI b), S0 f n q) ∧ rdl f n q r := by
  have h1 := h.app
  have h2 := h1.cons.2
  have h3 : rdl f n (p + (cTx 2).length + 1 + 2) (32 :: (dgs a ++ 32 :: (dgs b ++ 59 :: r))) := h2.app
  have h4 := h3.cons.2
  have h5 := h4.app
  have h6 := h5.cons.2
  have h7 := h6.app
  have h8 := h7.cons.2
  refine ⟨_, ?_, h8⟩
  have ht := tk_word h2 (fun x hx => by
    rcases List.mem_cons.mp hx with rfl | hx
    · exact ⟨by decide, by decide⟩
    · rw [List.mem_singleton.mp hx]
      omega) (by simp) (by decide)
  have hF : nmF f (tkN f n (p + (cTx 2).length + 1)).2.1 (tkN f n (p + (cTx 2).length + 1)).2.2 = nm2 98 (120 + k) := by
    rw [ht]
    exact (nm2_lc h2 (by omega) (by omega)).2.2
  unfold sdBaker
  rw [if_pos hl, kw_S (by decide) (by decide) h (by decide), S0_sp h1]
  simp only [name_S h2 (by omega) (by omega) (by decide) hn]
  simp only [S0_sp h3, num_S h4 (by omega) (Or.inl (by decide)) (lo := 1) (hi := 12) rfl rfl ha.1 ha.2 (by decide)]
  simp only [S0_sp h5, num_S h6 (by omega) (Or.inr (by decide)) (lo := 1) (hi := 9) rfl rfl hb.1 hb.2 (by decide)]
  simp only [semi_S h7, hF]
  rw [if_pos trivial]
theorem bake_S {k q i : Nat} {r : List Nat} {s : mS} (hk : k ≤ 2) (hq : q < 3) (hi : bkIx s.2.1 (nI (98 + 256 * (120 + k))) = nI i) (hi4 : i < 4) (hr : rfB s i = 0) (h : rdl f n p (cTx 3 ++ 32 :: ([98, 120 + k] ++ 32 :: (cTx (19 + q) ++ 59 :: r)))) : ∃ q', sdBake f n s (S0 f n p) = (bgB s i (nI q), S0 f n q') ∧ rdl f n q' r := by
  have h1 := h.app
  have h2 := h1.cons.2
  have h3 : rdl f n (p + (cTx 3).length + 1 + 2) (32 :: (cTx (19 + q) ++ 59 :: r)) := h2.app
  have h4 := h3.cons.2
  have h5 := h4.app
  have h8 := h5.cons.2
  refine ⟨_, ?_, h8⟩
  obtain ⟨b1, b2⟩ := bkr_S (s := s) h2 (by omega) (by omega) (by decide) (by rw [hi]; exact nI_ne_m1 (by omega))
  unfold sdBake
  rw [kw_S (by decide) (by decide) h (by decide), S0_sp h1]
  simp only [b1, b2, hi, nI_clamp (show i < 2 ^ 31 by omega)]
  simp only [S0_sp h3, kind_S hq h4 (by decide)]
  have e6 : ∀ l : mLd, sdBk6 f s i l = l := fun l => by
    unfold sdBk6
    rw [if_neg (fun z => z.2.2 (hr))]
  simp only [e6, semi_S h5]
  rw [if_pos trivial]
theorem cust_S {k q a b c d : Nat} {r : List Nat} {s : mS} (hk : k ≤ 1) (hq : q < 3) (ha : 1 ≤ a ∧ a ≤ 9) (hb : 1 ≤ b ∧ b ≤ 99) (hc : c ≤ 999) (hd : 1 ≤ d ∧ d ≤ 99) (hl : s.2.2.2.1.length < 10) (hn : hasN s (nI (99 + 256 * (120 + k))) = false)
    (h : rdl f n p (cTx 7 ++ 32 :: ([99, 120 + k] ++ 32 :: (cTx (19 + q) ++ 32 :: (dgs a ++ 32 :: (dgs b ++ 32 :: (dgs c ++ 32 :: (dgs d ++ 59 :: r)))))))) : ∃ q', sdCust f n s (S0 f n p) = (wlC s (nm2 99 (120 + k)) (nI q) (nI a) (nI b) (nI c) (nI d), S0 f n q') ∧ rdl f n q' r := by
  have h1 := h.app
  have h2 := h1.cons.2
  have h3 : rdl f n (p + (cTx 7).length + 1 + 2) (32 :: (cTx (19 + q) ++ 32 :: (dgs a ++ 32 :: (dgs b ++ 32 :: (dgs c ++ 32 :: (dgs d ++ 59 :: r)))))) := h2.app
  have h4 := h3.cons.2
  have h5 := h4.app
  have h6 := h5.cons.2
  have h7 := h6.app
  have h8 := h7.cons.2
  have h9 := h8.app
  have h10 := h9.cons.2
  have h11 := h10.app
  have h12 := h11.cons.2
  have h13 := h12.app
  have h14 := h13.cons.2
  refine ⟨_, ?_, h14⟩
  have ht := tk_word h2 (fun x hx => by
    rcases List.mem_cons.mp hx with rfl | hx
    · exact ⟨by decide, by decide⟩
    · rw [List.mem_singleton.mp hx]
      omega) (by simp) (by decide)
  have hF : nmF f (tkN f n (p + (cTx 7).length + 1)).2.1 (tkN f n (p + (cTx 7).length + 1)).2.2 = nm2 99 (120 + k) := by
    rw [ht]
    exact (nm2_lc h2 (by omega) (by omega)).2.2
  unfold sdCust
  rw [if_pos hl, kw_S (by decide) (by decide) h (by decide), S0_sp h1]
  simp only [name_S h2 (by omega) (by omega) (by decide) hn]
  simp only [S0_sp h3, kind_S hq h4 (by decide)]
  simp only [S0_sp h5, num_S h6 (by omega) (Or.inl (by decide)) (lo := 1) (hi := 9) rfl rfl ha.1 ha.2 (by decide)]
  simp only [S0_sp h7, num_S h8 (by omega) (Or.inl (by decide)) (lo := 1) (hi := 99) rfl rfl hb.1 hb.2 (by decide)]
  simp only [S0_sp h9, num_S h10 (by omega) (Or.inl (by decide)) (lo := 0) (hi := 999) (a := 0) rfl rfl (by omega) hc (by decide)]
  simp only [S0_sp h11, num_S h12 (by omega) (Or.inr (by decide)) (lo := 1) (hi := 99) rfl rfl hd.1 hd.2 (by decide)]
  simp only [semi_S h13, hF]
  rw [if_pos trivial]
theorem spar_S {a b : Nat} {r : List Nat} {s : mS} (ha : a ≤ 9) (hb : b ≤ 999) (h : rdl f n p (cTx 9 ++ 32 :: (dgs a ++ 32 :: (dgs b ++ 59 :: r)))) : ∃ q, sdSpar f n s (S0 f n p) = ((zup (zup s.1 5 (nI a)) 4 (nI b), s.2), S0 f n q) ∧ rdl f n q r := by
  have h1 := h.app
  have h2 := h1.cons.2
  have h3 := h2.app
  have h4 := h3.cons.2
  have h5 := h4.app
  have h8 := h5.cons.2
  refine ⟨_, ?_, h8⟩
  unfold sdSpar
  rw [kw_S (by decide) (by decide) h (by decide), S0_sp h1]
  simp only [num_S h2 (by omega) (Or.inl (by decide)) (lo := 0) (hi := 9) (a := 0) rfl rfl (by omega) ha (by decide)]
  simp only [S0_sp h3, num_S h4 (by omega) (Or.inr (by decide)) (lo := 0) (hi := 999) (a := 0) rfl rfl (by omega) hb (by decide)]
  simp only [semi_S h5]
  rw [if_pos trivial]
end P
