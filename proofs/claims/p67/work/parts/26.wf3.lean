-- how often a customer bids
def cntB (l : List mBd) (v : Int32) : Nat := l.countP (fun y => decide (y.1 = v))
theorem cntB_insM (l : List mBd) (x : mBd) (m : Nat) (v : Int32) : cntB (insM l x m) v = cntB l v + (if x.1 = v then m else 0) := by
  unfold cntB insM hiB loB
  rw [List.countP_append, List.countP_append, List.countP_replicate]
  have key : ∀ l : List mBd, List.countP (fun y => decide (y.1 = v)) (List.filter (fun y => !decide (y.2 < x.2)) l) + List.countP (fun y => decide (y.1 = v)) (List.filter (fun y => decide (y.2 < x.2)) l) = List.countP (fun y => decide (y.1 = v)) l := by
    intro l
    induction l with
    | nil => rfl
    | cons y t ih =>
      by_cases q : y.2 < x.2
      · rw [List.filter_cons_of_neg (by simp [q]), List.filter_cons_of_pos (by simp [q]), List.countP_cons, List.countP_cons]
        omega
      · rw [List.filter_cons_of_pos (by simp [q]), List.filter_cons_of_neg (by simp [q]), List.countP_cons, List.countP_cons]
        omega
  have := key l
  by_cases q : x.1 = v
  · simp only [q, decide_true, if_true]
    omega
  · simp only [q, decide_false, if_false, Bool.false_eq_true]
    omega
theorem cntB_bdF {l : List mCu} {k : Int32} {c : Nat} {e : mCu} (hc : l[c]? = some e) (hl : l.length ≤ 10) : ∀ i, i ≤ l.length → cntB (bdF l k i) (nI c) = if c < i then bdN e k else 0
  | 0, _ => rfl
  | i + 1, hi => by
    have ih := cntB_bdF (k := k) hc hl i (by omega)
    have hg : l[i]? = some l[i] := List.getElem?_eq_getElem (by omega)
    have hcl := gE_lt hc
    unfold bdF
    rw [hg]
    dsimp only
    rw [cntB_insM, ih]
    have hne : i ≠ c → ¬ nI i = nI c := fun h z => h ((nI_eq (by omega) (by omega)).mp z)
    rcases Nat.lt_trichotomy c i with q | q | q
    · rw [if_pos q, if_neg (hne (by omega)), if_pos (show c < i + 1 by omega), Nat.add_zero]
    · subst q
      rw [if_neg (Nat.lt_irrefl c), if_pos rfl, if_pos (Nat.lt_succ_self c)]
      rw [hc] at hg
      cases hg
      omega
    · rw [if_neg (show ¬ c < i by omega), if_neg (hne (by omega)), if_neg (show ¬ c < i + 1 by omega)]
theorem cntB_take {l : List mBd} {v : Int32} (i : Nat) : cntB (l.take i) v ≤ cntB l v := List.Sublist.countP_le (List.take_sublist i l)
-- what the bids can be
theorem bdI_okC {T : Nat} {e : mCu} (h : okC T e) (k : Int32) : ∃ w l q, e.2.2.2.1 = nI w ∧ e.2.2.2.2.1 = nI l ∧ e.2.2.2.2.2.1 = nI q ∧ w ≤ 9 ∧ 1 ≤ l ∧ l ≤ 99 ∧ q ≤ 999 ∧ bdN e k ≤ w ∧ bdN e k * l ≤ q ∧ bdI e k = nI (if e.2.2.1 = k then min (q / l) w else 0) ∧ bdN e k = (if e.2.2.1 = k then min (q / l) w else 0) := by
  obtain ⟨-, -, -, ⟨w, hw, w1, w2⟩, ⟨l, hl, l1, l2⟩, ⟨q, hq, q1, q2⟩, -⟩ := h
  have hd : q / l ≤ q := Nat.div_le_self _ _
  have e1 : bdI e k = nI (if e.2.2.1 = k then min (q / l) w else 0) := by
    unfold bdI
    rw [hw, hl, hq, pk_div (by omega) (by omega) (by omega)]
    split
    · by_cases y : q / l < w
      · rw [if_pos (nI_lt y (by omega)), Nat.min_eq_left (by omega)]
      · rw [if_neg (nI_nlt (by omega) (by omega)), Nat.min_eq_right (by omega)]
    · rfl
  have e2 : bdN e k = (if e.2.2.1 = k then min (q / l) w else 0) := by
    unfold bdN
    rw [e1, nI_clamp]
    split <;> omega
  refine ⟨w, l, q, hw, hl, hq, w2, l1, l2, q2, ?_, ?_, e1, e2⟩
  · rw [e2]
    split <;> omega
  · rw [e2]
    split
    · have h1 : min (q / l) w * l ≤ q / l * l := Nat.mul_le_mul_right _ (Nat.min_le_left _ _)
      have h2 := Nat.div_mul_le_self q l
      omega
    · omega
theorem trN_get {bs ls : List mBd} : ∀ {t : Nat}, t < trN bs ls → ∃ y u, bs[t]? = some y ∧ ls[t]? = some u ∧ u.2 ≤ y.2 := by
  induction bs generalizing ls with
  | nil => intro t h; simp [trN] at h
  | cons b bs ih =>
    intro t h
    cases ls with
    | nil => simp [trN] at h
    | cons l ls =>
      simp only [trN] at h
      split at h
      · next q =>
        cases t with
        | zero => exact ⟨b, l, rfl, rfl, q⟩
        | succ t =>
          obtain ⟨y, u, h1, h2, h3⟩ := ih (ls := ls) (t := t) (by omega)
          exact ⟨y, u, by simpa using h1, by simpa using h2, h3⟩
      · omega
theorem srt_get {l : List mBd} (h : srt l) {i j : Nat} {x y : mBd} (hij : i ≤ j) (hi : l[i]? = some x) (hj : l[j]? = some y) : y.2 ≤ x.2 := by
  obtain ⟨a1, rfl⟩ := List.getElem?_eq_some_iff.mp hi
  obtain ⟨b1, rfl⟩ := List.getElem?_eq_some_iff.mp hj
  rcases Nat.lt_or_eq_of_le hij with q | q
  · exact List.pairwise_iff_getElem.mp h i j a1 b1 q
  · subst q
    exact Int32.le_refl _
theorem plP_le {A T C : Nat} {s : mS} (h : wfA A T C s) (k : Int32) {t : Nat} (ht : t < plT s k) {y : mBd} (hy : (plB s k)[t]? = some y) : plP s k ≤ y.2 := by
  have h0 : plT s k ≠ 0 := by omega
  have hb1 : ∀ {t : Nat} {y : mBd}, (plB s k)[t]? = some y → 1 ≤ y.2 := fun {t y} hy => by
    obtain ⟨j, e, a1, a2, rfl⟩ := bdF_mem _ (List.mem_of_getElem? hy)
    exact (h.cu e (List.mem_of_getElem? a2)).1
  have hs := bdF_srt s.2.2.2.1 k s.2.2.2.1.length
  have hpr : prH (plL s k) (plT s k) ≤ y.2 := by
    unfold prH
    obtain ⟨y2, u, g1, g2, g3⟩ := trN_get (t := plT s k - 1) (bs := plB s k) (ls := plL s k) (by show _ < plT s k; omega)
    rw [g2]
    dsimp only
    have := srt_get hs (i := t) (j := plT s k - 1) (by omega) hy g1
    split
    · exact Int32.le_trans g3 this
    · exact hb1 hy
  unfold plP prN
  rw [if_neg h0]
  split
  · next z hz =>
    split
    · exact srt_get hs (by omega) hy hz
    · exact hpr
  · exact hpr
theorem rsE_le {A T C nb : Nat} {z : Nat → Int32} {e : mLf} (h : okZ T C z) (hA : A ≤ 2000) (he : okL A z nb e) : inR (rsE z e) 0 99 := by
  obtain ⟨j, b, h1, h2, h3, h4, h5⟩ := rsE_N h hA he
  rw [h5]
  have := @rsvN_le j b (ag z e)
  exact ⟨_, rfl, Nat.zero_le _, by omega⟩
theorem plP_in {A T C : Nat} {s : mS} (hA : A ≤ 2000) (h : wfA A T C s) (k : Int32) : inR (plP s k) 0 99 := by
  have hl : ∀ u ∈ plL s k, inR u.2 0 99 := fun u hu => by
    obtain ⟨j, e, a1, a2, a3, rfl⟩ := lvF_mem _ hu
    exact rsE_le h.1 hA (h.2.2.2.1.1 e (List.mem_of_getElem? a2))
  have hb : ∀ u ∈ plB s k, inR u.2 0 99 := fun u hu => by
    obtain ⟨j, e, a1, a2, rfl⟩ := bdF_mem _ hu
    exact (h.2.2.2.2.1.2 e (List.mem_of_getElem? a2)).2.2.2.2.1.mono (by omega) (Nat.le_refl _)
  have h1 : inR (1 : Int32) 0 99 := ⟨1, rfl, by omega, by omega⟩
  have hpr : inR (prH (plL s k) (plT s k)) 0 99 := by
    unfold prH
    split
    · next l hl' =>
      split
      · exact hl _ (List.mem_of_getElem? hl')
      · exact h1
    · exact h1
  unfold plP prN
  split
  · exact ⟨0, rfl, by omega, by omega⟩
  · split
    · next b hb' =>
      split
      · exact hb _ (List.mem_of_getElem? hb')
      · exact hpr
    · exact hpr
-- a trade
def payN (e : mCu) (p : Int32) (n : Nat) : mCu := (e.1, e.2.1, e.2.2.1, e.2.2.2.1 - nI n, e.2.2.2.2.1, e.2.2.2.2.2.1 - nI n * p, e.2.2.2.2.2.2)
theorem payN_0 (e : mCu) (p : Int32) : payN e p 0 = e := by
  obtain ⟨a, b, c, d, f, g, h⟩ := e
  show (a, b, c, d - 0, f, g - 0 * p, h) = _
  rw [Int32.zero_mul, Int32.sub_zero, Int32.sub_zero]
theorem payN_S (e : mCu) (p : Int32) (n : Nat) : payC (payN e p n) p = payN e p (n + 1) := by
  have a : e.2.2.2.1 - nI n - 1 = e.2.2.2.1 - nI (n + 1) := by
    rw [nI_succ, Int32.sub_eq_add_neg, Int32.sub_eq_add_neg, Int32.sub_eq_add_neg, Int32.neg_add, Int32.sub_eq_add_neg, Int32.add_assoc]
  have b : e.2.2.2.2.2.1 - nI n * p - p = e.2.2.2.2.2.1 - nI (n + 1) * p := by
    rw [nI_succ, Int32.add_mul, Int32.one_mul, Int32.sub_eq_add_neg, Int32.sub_eq_add_neg, Int32.sub_eq_add_neg, Int32.neg_add, Int32.sub_eq_add_neg, Int32.add_assoc]
  unfold payC payN
  dsimp only
  rw [a, b]
theorem filter_set_sub {α : Type} (p : α → Bool) {y : α} (hy : p y = false) : ∀ (l : List α) (i : Nat), ((l.set i y).filter p).Sublist (l.filter p)
  | [], i => by simp
  | x :: t, 0 => by
    rw [List.set_cons_zero, List.filter_cons_of_neg (by simp [hy])]
    by_cases q : p x
    · rw [List.filter_cons_of_pos q]
      exact List.Sublist.cons _ (List.Sublist.refl _)
    · rw [List.filter_cons_of_neg q]
      exact List.Sublist.refl _
  | x :: t, i + 1 => by
    rw [List.set_cons_succ]
    have ih := filter_set_sub p hy t i
    by_cases q : p x
    · rw [List.filter_cons_of_pos q, List.filter_cons_of_pos q]
      exact List.Sublist.cons_cons _ ih
    · rw [List.filter_cons_of_neg q, List.filter_cons_of_neg q]
      exact ih
theorem take_succ_cnt {l : List mBd} {i : Nat} {y : mBd} (h : l[i]? = some y) (v : Int32) : cntB (l.take (i + 1)) v = cntB (l.take i) v + (if y.1 = v then 1 else 0) := by
  rw [List.take_add_one, h]
  unfold cntB
  rw [List.countP_append]
  simp [List.countP_cons]
/-- what a row of sales leaves -/
theorem sellN_ok {A T C : Nat} {s : mS} (h : wfA A T C s) (k p : Int32) (hk : inR k 0 2) (bs ls : List mBd) (hb : ∀ y ∈ bs, ∃ c, y.1 = nI c ∧ c < s.2.2.2.1.length) (hl : ∀ y ∈ ls, ∃ c, y.1 = nI c ∧ c < s.2.2.1.length) : ∀ i, i ≤ bs.length → i ≤ ls.length →
    (∀ j, j ≠ 4 → j ≠ 7 → (sellN s k p bs ls i).1 j = s.1 j) ∧ inR ((sellN s k p bs ls i).1 4) 0 (C + 3 * i) ∧ ((∀ e ∈ (sellN s k p bs ls i).2.1, okB e) ∧ ovU (sellN s k p bs ls i).2.1 = ovU s.2.1) ∧ ((sellN s k p bs ls i).2.2.1.filter pK).Sublist s.2.2.1 ∧
    (∀ c e, s.2.2.2.1[c]? = some e → (sellN s k p bs ls i).2.2.2.1[c]? = some (payN e p (cntB (bs.take i) (nI c)))) ∧ (sellN s k p bs ls i).2.2.2.2 = s.2.2.2.2
  | 0, _, _ => by
    refine ⟨fun j _ _ => rfl, h.1.2.1.mono (Nat.le_refl _) (by omega), ⟨h.2.1.2, rfl⟩, List.filter_sublist, fun c e he => ?_, rfl⟩
    show s.2.2.2.1[c]? = some (payN e p 0)
    rw [payN_0]
    exact he
  | i + 1, h1, h2 => by
    obtain ⟨i1, i2, i3, i4, i5, i6⟩ := sellN_ok h k p hk bs ls hb hl i (by omega) (by omega)
    obtain ⟨n1, n2, n3⟩ := sellN_len s k p bs ls i
    have hgb : bs[i]? = some bs[i] := List.getElem?_eq_getElem (by omega)
    have hgl : ls[i]? = some ls[i] := List.getElem?_eq_getElem (by omega)
    generalize bs[i] = y at hgb
    generalize ls[i] = u at hgl
    obtain ⟨c, hc, hc2⟩ := hb y (List.mem_of_getElem? hgb)
    obtain ⟨d, hd, hd2⟩ := hl u (List.mem_of_getElem? hgl)
    have hlen := h.2.2.2.2.1.1
    have hlen2 := h.2.2.1
    have hbk := sellN_bk k p bs ls h.bk i
    have e0 : sellN s k p bs ls (i + 1) = sellS (sellN s k p bs ls i) k p c d := by
      show (match bs[i]?, ls[i]? with | some b, some l => sellS (sellN s k p bs ls i) k p b.1.toNatClampNeg l.1.toNatClampNeg | _, _ => sellN s k p bs ls i) = _
      rw [hgb, hgl]
      dsimp only
      rw [hc, hd, nI_clamp (by omega), nI_clamp (by omega)]
    rw [e0]
    have hcs : s.2.2.2.1[c]? = some s.2.2.2.1[c] := List.getElem?_eq_getElem hc2
    generalize s.2.2.2.1[c] = ec at hcs
    have hc' := i5 c ec hcs
    have hd' : (sellN s k p bs ls i).2.2.1[d]? = some (sellN s k p bs ls i).2.2.1[d] := List.getElem?_eq_getElem (by omega)
    generalize (sellN s k p bs ls i).2.2.1[d] = el at hd'
    obtain ⟨bi, hbi, hbi2⟩ := hbk el (List.mem_of_getElem? hd')
    have hlb := h.2.1.1
    have hb' : (sellN s k p bs ls i).2.1[bi]? = some (sellN s k p bs ls i).2.1[bi] := List.getElem?_eq_getElem hbi2
    generalize (sellN s k p bs ls i).2.1[bi] = eb at hb'
    have e1 : sellS (sellN s k p bs ls i) k p c d = slS (sellN s k p bs ls i) k p c d bi (payN ec p (cntB (bs.take i) (nI c))) el eb := by
      unfold sellS
      rw [hc', hd']
      dsimp only
      rw [hbi, nI_clamp (by omega), hb']
    rw [e1]
    generalize sellN s k p bs ls i = S at *
    refine ⟨fun j j4 j7 => ?_, ?_, ⟨fun e he => ?_, ?_⟩, ?_, fun c2 e2 he2 => ?_, i6⟩
    · show (zup (zup S.1 7 _) 4 _) j = _
      rw [zup_eq, if_neg j4, zup_eq, if_neg j7]
      exact i1 j j4 j7
    · show inR (S.1 4 + crK k) 0 _
      obtain ⟨kk, rfl, -, hk2⟩ := hk
      have : crK (nI kk) = nI (kk + 1) := by
        rcases (by omega : kk = 0 ∨ kk = 1 ∨ kk = 2) with rfl | rfl | rfl <;> decide
      rw [this]
      exact (i2.add (kk + 1)).mono (by omega) (by omega)
    · rcases List.mem_or_eq_of_mem_set he with q | q
      · exact i3.1 e q
      · rw [q]
        exact i3.1 eb (List.mem_of_getElem? hb')
    · have := ovU_set (e' := ernB eb p) hb'
      have h9 : ovE (ernB eb p) = ovE eb := rfl
      show ovU (S.2.1.set bi (ernB eb p)) = _
      rw [← i3.2]
      omega
    · exact (filter_set_sub pK (by simp [pK]) S.2.2.1 d).trans i4
    · show (S.2.2.2.1.set c _)[c2]? = _
      rw [List.getElem?_set, take_succ_cnt hgb, hc]
      have hc2l := gE_lt he2
      by_cases q : c = c2
      · subst q
        rw [if_pos rfl, if_pos (by rw [n3]; exact hc2), if_pos rfl]
        rw [hcs] at he2
        cases he2
        rw [payN_S]
      · rw [if_neg q, if_neg (fun z => q ((nI_eq (by omega) (by omega)).mp z))]
        exact i5 c2 e2 he2
theorem dsF_ev {s : mS} {q : mCu → Bool} {why : Int32} (h : s.2.2.2.2.length ≤ 30) : ∀ i, (dsF s q why i).2.length ≤ 30
  | 0 => h
  | i + 1 => by
    have ih := dsF_ev (q := q) (why := why) h i
    unfold dsF
    split
    · split
      · exact evAdd_len ih
      · exact ih
    · exact ih
theorem mkD_filter {q : mCu → Bool} : ∀ {l : List mCu}, (∀ e ∈ l, e.2.1 ≠ -1) → (l.map (mkD q)).filter pC = l.filter (fun e => !q e)
  | [], _ => rfl
  | e :: t, h => by
    have ih := mkD_filter (q := q) (l := t) (fun y hy => h y (List.mem_cons_of_mem _ hy))
    have he := h e List.mem_cons_self
    rw [List.map_cons, List.filter_cons, List.filter_cons, ih]
    unfold mkD
    by_cases z : q e = true
    · rw [if_pos z]
      simp [pC, z]
    · rw [if_neg z]
      simp only [pC, ne_eq, he, not_false_eq_true, decide_true, if_true]
      simp [z]
/-- a customer that may want no more -/
def okD (T : Nat) (e : mCu) : Prop := nmOk e.1 ∧ (∃ t, e.2.1 = nI t ∧ t < T) ∧ inR e.2.2.1 0 2 ∧ inR e.2.2.2.1 0 9 ∧ inR e.2.2.2.2.1 1 99 ∧ inR e.2.2.2.2.2.1 0 999 ∧ inR e.2.2.2.2.2.2 1 99
theorem hdA_ok {A T C : Nat} {s : mS} (hA : A ≤ 2000) (h : wfA A T C s) {k : Int32} (hk : inR k 0 2) : (∀ j, j ≠ 4 → j ≠ 7 → (hdA s k).1 j = s.1 j) ∧ inR ((hdA s k).1 4) 0 (C + 180) ∧ ((∀ e ∈ (hdA s k).2.1, okB e) ∧ ovU (hdA s k).2.1 = ovU s.2.1 ∧ (hdA s k).2.1.length = s.2.1.length) ∧ ((hdA s k).2.2.1.filter pK).Sublist s.2.2.1 ∧ ((hdA s k).2.2.2.1.length = s.2.2.2.1.length ∧ ∀ e ∈ (hdA s k).2.2.2.1, okD T e) ∧ (hdA s k).2.2.2.2 = s.2.2.2.2 := by
  have hb : ∀ y ∈ plB s k, ∃ c, y.1 = nI c ∧ c < s.2.2.2.1.length := fun y hy => by
    obtain ⟨j, e, a1, a2, rfl⟩ := bdF_mem _ hy
    exact ⟨j, rfl, a1⟩
  have hl : ∀ y ∈ plL s k, ∃ c, y.1 = nI c ∧ c < s.2.2.1.length := fun y hy => by
    obtain ⟨j, e, a1, a2, -, rfl⟩ := lvF_mem _ hy
    exact ⟨j, rfl, a1⟩
  obtain ⟨t1, t2⟩ := trN_le (plB s k) (plL s k)
  obtain ⟨i1, i2, i3, i4, i5, i6⟩ := sellN_ok h k (plP s k) hk (plB s k) (plL s k) hb hl (plT s k) t1 t2
  obtain ⟨n1, n2, n3⟩ := sellN_len s k (plP s k) (plB s k) (plL s k) (plT s k)
  have hll : (plL s k).length ≤ s.2.2.1.length := lvF_len _
  have h60 := h.2.2.1
  refine ⟨i1, i2.mono (Nat.le_refl _) (by have : plT s k ≤ (plL s k).length := t2; omega), ⟨i3.1, i3.2, n1⟩, i4, ⟨n3, fun e he => ?_⟩, i6⟩
  obtain ⟨c, hc⟩ := List.getElem?_of_mem he
  have hcl : c < s.2.2.2.1.length := by have := gE_lt hc; unfold hdA at this; omega
  have hcs : s.2.2.2.1[c]? = some s.2.2.2.1[c] := List.getElem?_eq_getElem hcl
  generalize s.2.2.2.1[c] = e0 at hcs
  have h5 := i5 c e0 hcs
  unfold hdA at hc
  rw [h5] at hc
  cases hc
  have hok := h.2.2.2.2.1.2 e0 (List.mem_of_getElem? hcs)
  obtain ⟨w, l, q, hw, hl', hq, w9, l1, l99, q999, b1, b2, -, -⟩ := bdI_okC hok k
  have hcnt : cntB ((plB s k).take (plT s k)) (nI c) ≤ bdN e0 k := by
    refine Nat.le_trans (cntB_take _) ?_
    have := cntB_bdF (k := k) hcs h.2.2.2.2.1.1 _ (Nat.le_refl _)
    rw [if_pos hcl] at this
    exact Nat.le_of_eq this
  obtain ⟨pp, hp, -, hp2⟩ := plP_in hA h k
  obtain ⟨a1, a2, a3, a4, a5, a6, a7⟩ := hok
  generalize hn : cntB ((plB s k).take (plT s k)) (nI c) = n at hcnt
  have hple : n ≠ 0 → pp ≤ l := fun h0 => by
    have : ∃ y ∈ (plB s k).take (plT s k), decide (y.1 = nI c) = true := by
      have := List.countP_pos_iff.mp (show 0 < List.countP (fun y => decide (y.1 = nI c)) ((plB s k).take (plT s k)) by unfold cntB at hn; omega)
      exact this
    obtain ⟨y, hy, hyc⟩ := this
    obtain ⟨t, ht⟩ := List.getElem?_of_mem hy
    have htl : t < plT s k := by have := gE_lt ht; simp at this; omega
    rw [List.getElem?_take_of_lt htl] at ht
    have hle := plP_le h k htl ht
    obtain ⟨j, e', x1, x2, rfl⟩ := bdF_mem _ (List.mem_of_getElem? ht)
    have hjl := gE_lt x2
    have hlen := h.2.2.2.2.1.1
    have : j = c := (nI_eq (by omega) (by omega)).mp (by simpa using hyc)
    subst this
    rw [hcs] at x2
    cases x2
    rw [hp] at hle
    have hle : nI pp ≤ e0.2.2.2.2.1 := hle
    rw [hl'] at hle
    exact (nI_leI (by omega) (by omega)).mp hle
  have hnp : n * pp ≤ q := by
    rcases Nat.eq_zero_or_pos n with z | z
    · rw [z]; omega
    · have h1 := Nat.mul_le_mul hcnt (hple (by omega))
      omega
  refine ⟨a1, a2, a3, ?_, a5, ?_, a7⟩
  · show inR (e0.2.2.2.1 - nI n) 0 9
    rw [hw, pk_sub (by omega)]
    exact ⟨_, rfl, by omega, by omega⟩
  · show inR (e0.2.2.2.2.2.1 - nI n * plP s k) 0 999
    rw [hq, hp, pk_mul, pk_sub (by omega)]
    exact ⟨_, rfl, by omega, by omega⟩
theorem hdOut_wf {A T C : Nat} {s : mS} (hA : A ≤ 2000) (hT : T ≤ 2147483647) (h : wfA A T C s) {k : Int32} (hk : inR k 0 2) : wfA A T (C + 180) (hdOut s k) := by
  obtain ⟨h1, h2, h3, h4, h5, h6⟩ := id h
  unfold hdOut
  split
  · exact ⟨⟨h1.1, h1.2.1.mono (Nat.le_refl _) (by omega), h1.2.2⟩, h2, h3, h4, h5, h6⟩
  · obtain ⟨i1, i2, i3, i4, i5, i6⟩ := hdA_ok hA h hk
    have hf : (dsOut (hdB s k) noW 0).2.2.2.1 = (hdA s k).2.2.2.1.filter (fun e => !noW e) := mkD_filter (fun e he => by
      obtain ⟨t, ht, h2⟩ := (i5.2 e he).2.1
      rw [ht]
      exact nI_ne_m1 (by omega))
    have hz : ∀ j, j ≠ 4 → j ≠ 7 → j ≠ 10 → (dsOut (hdB s k) noW 0).1 j = s.1 j := fun j j4 j7 j10 => by
      show (zup (hdA s k).1 10 _) j = _
      rw [zup_eq, if_neg j10]
      exact i1 j j4 j7
    have hag : ∀ e, ag (dsOut (hdB s k) noW 0).1 e = ag s.1 e := fun e => by
      unfold ag
      rw [hz 3 (by omega) (by omega) (by omega)]
    refine ⟨⟨fun j hj => by rw [hz j (by omega) (by omega) (by omega)]; exact h1.1 j hj, i2, by rw [hz 5 (by omega) (by omega) (by omega)]; exact h1.2.2.1, by rw [hz 11 (by omega) (by omega) (by omega)]; exact h1.2.2.2⟩, ⟨by show (hdA s k).2.1.length ≤ 4; rw [i3.2.2]; exact h2.1, i3.1⟩, ?_, ⟨fun e he => ?_, ?_⟩, ?_, dsF_ev (evAdd_len (by rw [i6]; exact h6)) _⟩
    · have := i4.length_le
      show ((hdA s k).2.2.1.filter pK).length + ovU (hdA s k).2.1 ≤ 60
      rw [i3.2.1]
      omega
    · obtain ⟨a1, a2, a3, a4⟩ := h4.1 e (i4.subset he)
      refine ⟨a1, ?_, ?_, by rw [hag]; exact a4⟩
      · show ∃ j, e.2.1 = nI j ∧ j < (hdA s k).2.1.length
        rw [i3.2.2]
        exact a2
      · rw [hag, hz 3 (by omega) (by omega) (by omega)]
        exact a3
    · refine List.Pairwise.sublist i4 (h4.2.imp (fun {a b} hab => ?_))
      rw [hag, hag]
      exact hab
    · rw [hf]
      refine ⟨?_, fun e he => ?_⟩
      · have := List.length_filter_le (fun e => !noW e) (hdA s k).2.2.2.1
        omega
      · obtain ⟨he, hq⟩ := List.mem_filter.mp he
        obtain ⟨a1, a2, a3, ⟨w, hw, -, w9⟩, a5⟩ := i5.2 e he
        refine ⟨a1, a2, a3, ⟨w, hw, ?_, w9⟩, a5⟩
        rcases Nat.eq_zero_or_pos w with z | z
        · subst z
          rw [noW, hw] at hq
          exact absurd hq (by decide)
        · exact z
