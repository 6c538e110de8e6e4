theorem er_len {α : Type} {l : List α} {i : Nat} (hi : i < l.length) : (l.eraseIdx i).length = l.length - 1 := by
  rw [List.length_eraseIdx, if_pos hi]
def kpL (z : Nat → Int32) (e : mLf) : Bool := !decide (rsE z e = 0)
def stM (s : mS) (i : Nat) : mS := (zup (zup s.1 8 (tsF s i).1) 4 (tsF s i).2.1, s.2.1, (s.2.2.1.take i).filter (kpL s.1) ++ s.2.2.1.drop i, s.2.2.2.1, (tsF s i).2.2)
theorem stM_0 (s : mS) : stM s 0 = s := by
  show (zup (zup s.1 8 (s.1 8)) 4 (s.1 4), _) = _
  rw [zup_id, zup_id]
  rfl
theorem stM_full {s : mS} (hk : ∀ e ∈ s.2.2.1, e.1 ≠ -1) : stM s s.2.2.1.length = stOut s := by
  unfold stM stOut
  rw [mkS_filter hk]
  simp
  exact ⟨rfl, rfl⟩
theorem cut_get {α : Type} (K l : List α) (i : Nat) : (K ++ l.drop i)[K.length]? = l[i]? := by
  rw [List.getElem?_append_right (Nat.le_refl _), Nat.sub_self, List.getElem?_drop, Nat.add_zero]
theorem cut_er {α : Type} (K l : List α) {i : Nat} (hi : i < l.length) : (K ++ l.drop i).eraseIdx K.length = K ++ l.drop (i + 1) := by
  rw [List.eraseIdx_append_of_length_le (Nat.le_refl _), Nat.sub_self, List.drop_eq_getElem_cons hi]
  rfl
theorem cut_nx {α : Type} (K l : List α) {i : Nat} {e : α} (he : l[i]? = some e) : K ++ [e] ++ l.drop (i + 1) = K ++ l.drop i := by
  obtain ⟨hi, he⟩ := List.getElem?_eq_some_iff.mp he
  rw [List.drop_eq_getElem_cons hi, he, List.append_assoc]
  rfl
def lpK (s : mS) (i : Nat) : List mCu := ((s.2.2.2.1.take i).filter (fun e => !dieP e)).map decP
def lpM (s : mS) (i : Nat) : mS := (zup s.1 10 (lpF s i).1, s.2.1, s.2.2.1, lpK s i ++ s.2.2.2.1.drop i, (lpF s i).2)
theorem lpM_0 (s : mS) : lpM s 0 = s := by
  show (zup s.1 10 (s.1 10), _) = _
  rw [zup_id]
  rfl
theorem lpM_full {s : mS} (hk : ∀ e ∈ s.2.2.2.1, e.2.1 ≠ -1) : lpM s s.2.2.2.1.length = lpOut s := by
  unfold lpM lpOut lpK
  rw [mkP_filter hk]
  simp
theorem cut_set {α : Type} (K l : List α) {i : Nat} (hi : i < l.length) (y : α) : (K ++ l.drop i).set K.length y = K ++ y :: l.drop (i + 1) := by
  rw [List.set_append, if_neg (by omega), Nat.sub_self, List.drop_eq_getElem_cons hi]
  rfl
theorem cut_er2 {α : Type} (K t : List α) (y : α) : (K ++ y :: t).eraseIdx K.length = K ++ t := by
  rw [List.eraseIdx_append_of_length_le (Nat.le_refl _), Nat.sub_self]
  rfl
theorem cut_get2 {α : Type} (K t : List α) (y : α) : (K ++ y :: t)[K.length]? = some y := by
  rw [List.getElem?_append_right (Nat.le_refl _), Nat.sub_self]
  rfl
def gbI (l : List mCu) (k v : Int32) : Nat → List mBd
  | 0 => []
  | i + 1 => match l[i]? with
    | some e => if e.2.2.1 = k ∧ e.2.2.2.2.1 = v then gbI l k v i ++ List.replicate (bdN e k) (nI i, v) else gbI l k v i
    | none => gbI l k v i
def gbT (l : List mCu) (k : Int32) (i : Nat) : Nat → List mBd
  | 0 => []
  | t + 1 => gbT l k i t ++ gbI l k (nI (99 - t)) i
theorem gbI_2 {l : List mCu} {k v : Int32} : ∀ {i : Nat} {y : mBd}, y ∈ gbI l k v i → y.2 = v := by
  intro i
  induction i with
  | zero => intro y h; cases h
  | succ i ih =>
    intro y h
    simp only [gbI] at h
    split at h
    · split at h
      · rcases List.mem_append.mp h with q | q
        · exact ih q
        · rw [List.eq_of_mem_replicate q]
      · exact ih h
    · exact ih h
theorem gbT_2 {l : List mCu} {k : Int32} {i : Nat} : ∀ {t : Nat} {y : mBd}, y ∈ gbT l k i t → ∃ u, u < t ∧ y.2 = nI (99 - u) := by
  intro t
  induction t with
  | zero => intro y h; cases h
  | succ t ih =>
    intro y h
    rcases List.mem_append.mp h with q | q
    · obtain ⟨u, h1, h2⟩ := ih q
      exact ⟨u, by omega, h2⟩
    · exact ⟨t, by omega, gbI_2 q⟩
theorem loB_nil {l : List mBd} {v : Int32} (h : ∀ y ∈ l, ¬ y.2 < v) : loB l v = [] ∧ hiB l v = l := by
  unfold loB hiB
  constructor
  · exact List.filter_eq_nil_iff.mpr fun y hy => by simpa using h y hy
  · exact List.filter_eq_self.mpr fun y hy => by simpa using h y hy
theorem hiB_nil {l : List mBd} {v : Int32} (h : ∀ y ∈ l, y.2 < v) : hiB l v = [] ∧ loB l v = l := by
  unfold loB hiB
  constructor
  · exact List.filter_eq_nil_iff.mpr fun y hy => by simpa using h y hy
  · exact List.filter_eq_self.mpr fun y hy => by simpa using h y hy
theorem hiB_app (l l' : List mBd) (v : Int32) : hiB (l ++ l') v = hiB l v ++ hiB l' v := List.filter_append ..
theorem loB_app (l l' : List mBd) (v : Int32) : loB (l ++ l') v = loB l v ++ loB l' v := List.filter_append ..
theorem bdN_ne {e : mCu} {k : Int32} (h : ¬ e.2.2.1 = k) : bdN e k = 0 := by
  unfold bdN bdI
  rw [if_neg h]
  rfl
theorem gbT_ins {l : List mCu} {k : Int32} {i L : Nat} {e : mCu} (he : l[i]? = some e) (hL : e.2.2.2.2.1 = nI L) (h1 : 1 ≤ L) (h9 : L ≤ 99) : ∀ t, t ≤ 99 → gbT l k (i + 1) t = if 99 - t < L then insM (gbT l k i t) (nI i, nI L) (bdN e k) else gbT l k i t := by
  intro t
  induction t with
  | zero =>
    intro _
    rw [if_neg (by omega)]
    rfl
  | succ t ih =>
    intro ht
    have ih := ih (by omega)
    have hlo : ∀ y ∈ gbI l k (nI (99 - t)) i, y.2 = nI (99 - t) := fun y hy => gbI_2 hy
    have hs : gbI l k (nI (99 - t)) (i + 1) = if e.2.2.1 = k ∧ nI L = nI (99 - t) then gbI l k (nI (99 - t)) i ++ List.replicate (bdN e k) (nI i, nI (99 - t)) else gbI l k (nI (99 - t)) i := by simp only [gbI, he, hL]
    show gbT l k (i + 1) t ++ gbI l k (nI (99 - t)) (i + 1) = if 99 - (t + 1) < L then insM (gbT l k i t ++ gbI l k (nI (99 - t)) i) (nI i, nI L) (bdN e k) else gbT l k i t ++ gbI l k (nI (99 - t)) i
    rw [ih, hs]
    have hE : nI L = nI (99 - t) ↔ L = 99 - t := nI_eq (by omega) (by omega)
    rcases Nat.lt_trichotomy L (99 - t) with q | q | q
    · rw [if_neg (show ¬ 99 - t < L by omega), if_neg (show ¬ 99 - (t + 1) < L by omega), if_neg (show ¬ (e.2.2.1 = k ∧ nI L = nI (99 - t)) from fun z => by have := hE.mp z.2; omega)]
    · have hA : ∀ y ∈ gbT l k i t, ¬ y.2 < nI L := fun y hy => by
        obtain ⟨u, h2, h3⟩ := gbT_2 hy
        rw [h3]
        exact nI_nlt (by omega) (by omega)
      have hB : ∀ y ∈ gbI l k (nI (99 - t)) i, ¬ y.2 < nI L := fun y hy => by
        rw [hlo y hy]
        exact nI_nlt (by omega) (by omega)
      rw [if_neg (show ¬ 99 - t < L by omega), if_pos (show 99 - (t + 1) < L by omega)]
      unfold insM
      dsimp only
      rw [hiB_app, loB_app, (loB_nil hA).1, (loB_nil hA).2, (loB_nil hB).1, (loB_nil hB).2, List.append_nil, List.append_nil]
      by_cases hk : e.2.2.1 = k
      · rw [if_pos ⟨hk, hE.mpr q⟩, ← q, List.append_assoc]
      · rw [if_neg (fun z => hk z.1), bdN_ne hk, List.replicate_zero, List.append_nil]
    · have hB : ∀ y ∈ gbI l k (nI (99 - t)) i, y.2 < nI L := fun y hy => by
        rw [hlo y hy]
        exact nI_lt (by omega) (by omega)
      rw [if_pos (show 99 - t < L by omega), if_pos (show 99 - (t + 1) < L by omega), if_neg (show ¬ (e.2.2.1 = k ∧ nI L = nI (99 - t)) from fun z => by have := hE.mp z.2; omega)]
      unfold insM
      dsimp only
      rw [hiB_app, loB_app, (hiB_nil hB).1, (hiB_nil hB).2, List.append_nil, List.append_assoc, List.append_assoc]
theorem gbT_bdF {l : List mCu} {k : Int32} {T : Nat} (hok : ∀ e ∈ l, okC T e) : ∀ i, i ≤ l.length → gbT l k i 99 = bdF l k i := by
  intro i
  induction i with
  | zero =>
    intro _
    have : ∀ t, gbT l k 0 t = [] := fun t => by
      induction t with
      | zero => rfl
      | succ t ih => show gbT l k 0 t ++ [] = []; rw [ih]; rfl
    exact this 99
  | succ i ih =>
    intro hi
    obtain ⟨e, he⟩ : ∃ e, l[i]? = some e := ⟨l[i]'(by omega), List.getElem?_eq_getElem (by omega)⟩
    obtain ⟨L, hL1, hL2, hL3⟩ := (hok e (List.mem_of_getElem? he)).2.2.2.2.1
    rw [gbT_ins he hL1 hL2 hL3 99 (Nat.le_refl _), if_pos (by omega), ih (by omega)]
    simp only [bdF, he, hL1]
theorem rsE_mono {A T C nb : Nat} {z : Nat → Int32} {e e' : mLf} (h : okZ T C z) (hA : A ≤ 2000) (he : okL A z nb e) (he' : okL A z nb e') (hk : e.1 = e'.1) (hag : ag z e' ≤ ag z e) : rsE z e ≤ rsE z e' := by
  obtain ⟨j, b, h1, h2, h3, h4, h5⟩ := rsE_N h hA he
  obtain ⟨j', b', h1', h2', h3', h4', h5'⟩ := rsE_N h hA he'
  have hj : j = j' := (nI_eq (by omega) (by omega)).mp (by rw [← h1, ← h1', hk])
  subst hj
  have hb : b = b' := (nI_eq (by omega) (by omega)).mp (by rw [← h3, ← h3'])
  subst hb
  rw [h5, h5']
  have := rsvN_le (k := j) (b := b) (a := ag z e')
  exact nI_le (rsvN_anti hag) (by omega)
theorem sellS_lf {s : mS} {k p : Int32} {c l : Nat} {j : Nat} {el : mLf} (h : (sellS s k p c l).2.2.1[j]? = some el) : ∃ e0, s.2.2.1[j]? = some e0 ∧ el.2 = e0.2 ∧ (el = e0 ∨ el.1 = -1) := by
  unfold sellS at h
  split at h
  · next ec e1 h1 h2 =>
    split at h
    · rcases gE_set h with ⟨rfl, rfl⟩ | ⟨q1, q2⟩
      · exact ⟨e1, h2, rfl, Or.inr rfl⟩
      · exact ⟨el, q2, rfl, Or.inl rfl⟩
    · exact ⟨el, h, rfl, Or.inl rfl⟩
  · exact ⟨el, h, rfl, Or.inl rfl⟩
theorem sellN_lf {s : mS} {k p : Int32} {bs ls : List mBd} : ∀ i {j : Nat} {el : mLf}, (sellN s k p bs ls i).2.2.1[j]? = some el → ∃ e0, s.2.2.1[j]? = some e0 ∧ el.2 = e0.2 ∧ (el = e0 ∨ el.1 = -1) := by
  intro i
  induction i with
  | zero => intro j el h; exact ⟨el, h, rfl, Or.inl rfl⟩
  | succ i ih =>
    intro j el h
    simp only [sellN] at h
    split at h
    · obtain ⟨e1, h1, h2, h3⟩ := sellS_lf h
      obtain ⟨e0, g1, g2, g3⟩ := ih h1
      refine ⟨e0, g1, h2.trans g2, ?_⟩
      rcases h3 with rfl | h3
      · exact g3
      · exact Or.inr h3
    · exact ih h
theorem sellN_step {s : mS} {k p : Int32} {bs ls : List mBd} {i c j bi : Nat} {lim r : Int32} {ec : mCu} {el : mLf} {eb : mBk} (hb : bs[i]? = some (nI c, lim)) (hl : ls[i]? = some (nI j, r)) (hc : (sellN s k p bs ls i).2.2.2.1[c]? = some ec) (hlf : (sellN s k p bs ls i).2.2.1[j]? = some el) (hbi : el.2.1 = nI bi) (heb : (sellN s k p bs ls i).2.1[bi]? = some eb) (hc2 : c < 100) (hj2 : j < 100) (hb2 : bi < 100) :
    sellN s k p bs ls (i + 1) = slS (sellN s k p bs ls i) k p c j bi ec el eb := by
  show (match bs[i]?, ls[i]? with
    | some b, some l => sellS (sellN s k p bs ls i) k p b.1.toNatClampNeg l.1.toNatClampNeg
    | _, _ => sellN s k p bs ls i) = _
  rw [hb, hl]
  dsimp only
  rw [nI_clamp (by omega), nI_clamp (by omega)]
  unfold sellS
  rw [hc, hlf]
  dsimp only
  rw [hbi, nI_clamp (by omega), heb]
theorem crK_of {k : Int32} (hk : inR k 0 2) : crK k = k + 1 := by
  obtain ⟨j, rfl, -, h⟩ := hk
  rcases (by omega : j = 0 ∨ j = 1 ∨ j = 2) with rfl | rfl | rfl <;> decide
def cutL (L Lm : List mLf) (d : Nat) : List mLf := L.take d ++ (Lm.drop d).filter pK
theorem cutL_full {L Lm : List mLf} {d : Nat} (hl : Lm.length = L.length) (hd : L.length ≤ d) : cutL L Lm d = L := by
  unfold cutL
  rw [List.take_of_length_le hd, List.drop_of_length_le (by omega)]
  simp
theorem cutL_0 {L Lm : List mLf} : cutL L Lm 0 = Lm.filter pK := by
  unfold cutL
  simp
theorem cutL_keep {L Lm : List mLf} {d : Nat} {e : mLf} (h1 : L[d]? = some e) (h2 : Lm[d]? = some e) (hk : e.1 ≠ -1) : cutL L Lm d = cutL L Lm (d + 1) := by
  unfold cutL
  obtain ⟨w1, w2⟩ := List.getElem?_eq_some_iff.mp h2
  rw [tk_app h1, List.drop_eq_getElem_cons w1, w2, List.filter_cons, if_pos (by simp [pK, hk]), List.append_assoc]
  rfl
theorem cutL_out {L Lm : List mLf} {d : Nat} {e e' : mLf} (h1 : L[d]? = some e) (h2 : Lm[d]? = some e') (hk : e'.1 = -1) : (cutL L Lm (d + 1)).eraseIdx d = cutL L Lm d := by
  unfold cutL
  obtain ⟨w1, w2⟩ := List.getElem?_eq_some_iff.mp h2
  have hlen : (L.take d).length = d := by
    rw [List.length_take]
    have := gE_lt h1
    omega
  rw [tk_app h1, List.drop_eq_getElem_cons w1, w2, List.filter_cons, if_neg (by simp [pK, hk]), List.append_assoc, List.eraseIdx_append_of_length_le (by omega), hlen, Nat.sub_self]
  rfl
theorem cutL_len {L Lm : List mLf} {d : Nat} (hd : d ≤ L.length) : d ≤ (cutL L Lm d).length := by
  unfold cutL
  rw [List.length_append, List.length_take]
  omega
def dsM (s : mS) (q : mCu → Bool) (why : Int32) (i : Nat) : mS := (zup s.1 10 (dsF s q why i).1, s.2.1, s.2.2.1, (s.2.2.2.1.take i).filter (fun e => !q e) ++ s.2.2.2.1.drop i, (dsF s q why i).2)
theorem dsM_0 (s : mS) (q : mCu → Bool) (why : Int32) : dsM s q why 0 = s := by
  show (zup s.1 10 (s.1 10), _) = _
  rw [zup_id]
  rfl
theorem dsM_full {s : mS} {q : mCu → Bool} {why : Int32} (hk : ∀ e ∈ s.2.2.2.1, e.2.1 ≠ -1) : dsM s q why s.2.2.2.1.length = dsOut s q why := by
  unfold dsM dsOut
  rw [mkD_filter hk]
  simp
theorem dsF_no {s : mS} {q : mCu → Bool} {why : Int32} (h : ∀ e ∈ s.2.2.2.1, q e = false) : ∀ i, dsF s q why i = (s.1 10, s.2.2.2.2) := by
  intro i
  induction i with
  | zero => rfl
  | succ i ih =>
    simp only [dsF]
    split
    · next e he =>
      rw [if_neg (by rw [h e (List.mem_of_getElem? he)]; decide)]
      exact ih
    · exact ih
theorem dsOut_no {s : mS} {q : mCu → Bool} {why : Int32} (h : ∀ e ∈ s.2.2.2.1, q e = false) (hk : ∀ e ∈ s.2.2.2.1, e.2.1 ≠ -1) : dsOut s q why = s := by
  unfold dsOut
  rw [mkD_filter hk, dsF_no h]
  have e1 : s.2.2.2.1.filter (fun e => !q e) = s.2.2.2.1 := List.filter_eq_self.mpr fun e he => by simp [h e he]
  rw [e1]
  show (zup s.1 10 (s.1 10), _) = _
  rw [zup_id]
theorem i32_gain (a b c d : Int32) : a - c + (b - d) = a + b - (c + d) := by
  rw [Int32.sub_eq_add_neg, Int32.sub_eq_add_neg, Int32.sub_eq_add_neg, Int32.neg_add, Int32.sub_eq_add_neg]
  ac_rfl
theorem filter_erase {l : List mCu} : (∀ e ∈ l, e.2.1 ≠ -1) → ∀ {i : Nat} {x : mCu}, i < l.length → x.2.1 = -1 → (l.set i x).filter pC = l.eraseIdx i := by
  induction l with
  | nil => intro _ i x hi; exact absurd hi (Nat.not_lt_zero _)
  | cons y t ih =>
    intro h i x hi hx
    have hall : t.filter pC = t := List.filter_eq_self.mpr fun e he => by
      have := h e (List.mem_cons_of_mem _ he)
      simpa [pC] using this
    cases i with
    | zero =>
      show (x :: t).filter pC = t
      rw [List.filter_cons, if_neg (by simp [pC, hx]), hall]
    | succ i =>
      show (y :: t.set i x).filter pC = y :: t.eraseIdx i
      have hy : pC y = true := by
        have := h y List.mem_cons_self
        simpa [pC] using this
      rw [List.filter_cons, if_pos hy, ih (fun e he => h e (List.mem_cons_of_mem _ he)) (by simpa using hi) hx]
theorem ix_in {k : Int32} (h : ¬ ixB k 3) : inR k 0 2 := by
  obtain ⟨j, rfl, hj⟩ := ixN h (by omega)
  exact ⟨j, rfl, by omega, by omega⟩
