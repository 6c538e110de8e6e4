-- what stays
def pS : List mCu → Int32
  | [] => 0
  | e :: l => e.2.2.2.2.2.1 + pS l
def eS : List mBk → Int32
  | [] => 0
  | e :: l => e.2.2.2.2.2 + eS l
theorem pS_app (a b : List mCu) : pS (a ++ b) = pS a + pS b := by
  induction a with
  | nil => show pS b = 0 + pS b; rw [Int32.zero_add]
  | cons x t ih => show x.2.2.2.2.2.1 + pS (t ++ b) = x.2.2.2.2.2.1 + pS t + pS b; rw [ih, Int32.add_assoc]
theorem pS_one (e : mCu) : pS [e] = e.2.2.2.2.2.1 := Int32.add_zero _
theorem pS_set {l : List mCu} {i : Nat} {e e' : mCu} (h : l[i]? = some e) : pS (l.set i e') + e.2.2.2.2.2.1 = pS l + e'.2.2.2.2.2.1 := by
  induction l generalizing i with
  | nil => simp at h
  | cons y t ih =>
    cases i with
    | zero =>
      simp at h
      subst h
      show e'.2.2.2.2.2.1 + pS t + y.2.2.2.2.2.1 = y.2.2.2.2.2.1 + pS t + e'.2.2.2.2.2.1
      ac_rfl
    | succ i =>
      simp at h
      show y.2.2.2.2.2.1 + pS (t.set i e') + e.2.2.2.2.2.1 = y.2.2.2.2.2.1 + pS t + e'.2.2.2.2.2.1
      rw [Int32.add_assoc, ih h, Int32.add_assoc]
theorem eS_set {l : List mBk} {i : Nat} {e e' : mBk} (h : l[i]? = some e) : eS (l.set i e') + e.2.2.2.2.2 = eS l + e'.2.2.2.2.2 := by
  induction l generalizing i with
  | nil => simp at h
  | cons y t ih =>
    cases i with
    | zero =>
      simp at h
      subst h
      show e'.2.2.2.2.2 + eS t + y.2.2.2.2.2 = y.2.2.2.2.2 + eS t + e'.2.2.2.2.2
      ac_rfl
    | succ i =>
      simp at h
      show y.2.2.2.2.2 + eS (t.set i e') + e.2.2.2.2.2 = y.2.2.2.2.2 + eS t + e'.2.2.2.2.2
      rw [Int32.add_assoc, ih h, Int32.add_assoc]
theorem pS_smI (l : List mCu) : smI (fun i => (l.getD i dC).2.2.2.2.2.1) l.length = pS l := by
  have key : ∀ n, n ≤ l.length → smI (fun i => (l.getD i dC).2.2.2.2.2.1) n = pS (l.take n) := by
    intro n
    induction n with
    | zero => intro _; rfl
    | succ n ih =>
      intro hn
      have hg : l[n]? = some l[n] := List.getElem?_eq_getElem (by omega)
      show smI _ n + (l.getD n dC).2.2.2.2.2.1 = _
      rw [ih (by omega), tk_app hg, pS_app, pS_one, List.getD_eq_getElem?_getD, hg]
      rfl
  rw [key _ (Nat.le_refl _), List.take_length]
theorem eS_app (a b : List mBk) : eS (a ++ b) = eS a + eS b := by
  induction a with
  | nil => show eS b = 0 + eS b; rw [Int32.zero_add]
  | cons x t ih => show x.2.2.2.2.2 + eS (t ++ b) = x.2.2.2.2.2 + eS t + eS b; rw [ih, Int32.add_assoc]
theorem eS_one (e : mBk) : eS [e] = e.2.2.2.2.2 := Int32.add_zero _
theorem eS_smI (l : List mBk) : smI (fun i => (l.getD i dB).2.2.2.2.2) l.length = eS l := by
  have key : ∀ n, n ≤ l.length → smI (fun i => (l.getD i dB).2.2.2.2.2) n = eS (l.take n) := by
    intro n
    induction n with
    | zero => intro _; rfl
    | succ n ih =>
      intro hn
      have hg : l[n]? = some l[n] := List.getElem?_eq_getElem (by omega)
      show smI _ n + (l.getD n dB).2.2.2.2.2 = _
      rw [ih (by omega), tk_app hg, eS_app, eS_one, List.getD_eq_getElem?_getD, hg]
      rfl
  rw [key _ (Nat.le_refl _), List.take_length]
theorem i32_cr {a b c : Int32} (h : a + c = b + c) : a = b := by
  have := congrArg (fun v => v - c) h
  simp only [Int32.add_sub_cancel] at this
  exact this
def keyC (e : mCu) : Nat × Int32 := (e.1, e.2.1)
def csv (s : mS) : Prop := s.1 9 = pS s.2.2.2.1 + s.1 10 + eS s.2.1 ∧ s.1 6 = s.1 7 + s.1 8 + nI s.2.2.1.length
def thr (s s' : mS) : Prop := (s'.2.2.2.1.map keyC).Sublist (s.2.2.2.1.map keyC) ∧ s'.2.1.map Prod.fst = s.2.1.map Prod.fst ∧ s'.1 11 = s.1 11 ∧ (csv s → csv s')
theorem thr.rf (s : mS) : thr s s := ⟨List.Sublist.refl _, rfl, rfl, id⟩
theorem thr.trans {s t u : mS} (h : thr s t) (h' : thr t u) : thr s u := ⟨h'.1.trans h.1, h'.2.1.trans h.2.1, h'.2.2.1.trans h.2.2.1, fun q => h'.2.2.2 (h.2.2.2 q)⟩
theorem thr_z {s : mS} {z : Nat → Int32} (hz : z 11 = s.1 11 ∧ z 6 = s.1 6 ∧ z 7 = s.1 7 ∧ z 8 = s.1 8 ∧ z 9 = s.1 9 ∧ z 10 = s.1 10) : thr s (z, s.2) := ⟨List.Sublist.refl _, rfl, hz.1, fun h => ⟨by show z 9 = _ + z 10 + _; rw [hz.2.2.2.2.1, hz.2.2.2.2.2]; exact h.1, by show z 6 = z 7 + z 8 + _; rw [hz.2.1, hz.2.2.1, hz.2.2.2.1]; exact h.2⟩⟩
theorem map_set_fst {l : List mBk} {i : Nat} {e e' : mBk} (h : l[i]? = some e) (he : e'.1 = e.1) : (l.set i e').map Prod.fst = l.map Prod.fst := by
  rw [List.map_set]
  obtain ⟨h1, h2⟩ := List.getElem?_eq_some_iff.mp h
  have : (l.map Prod.fst).set i ((l.map Prod.fst)[i]'(by rw [List.length_map]; exact h1)) = l.map Prod.fst := List.set_getElem_self _
  rw [List.getElem_map, h2, ← he] at this
  exact this
theorem map_set_key {l : List mCu} {i : Nat} {e e' : mCu} (h : l[i]? = some e) (he : keyC e' = keyC e) : (l.set i e').map keyC = l.map keyC := by
  rw [List.map_set]
  obtain ⟨h1, h2⟩ := List.getElem?_eq_some_iff.mp h
  have : (l.map keyC).set i ((l.map keyC)[i]'(by rw [List.length_map]; exact h1)) = l.map keyC := List.set_getElem_self _
  rw [List.getElem_map, h2, ← he] at this
  exact this
-- baking
theorem thr_bgB (s : mS) (i : Nat) (k : Int32) : thr s (bgB s i k) := by
  unfold bgB
  split
  · next e he =>
    refine ⟨List.Sublist.refl _, map_set_fst he rfl, rfl, fun h => ⟨?_, h.2⟩⟩
    have := eS_set (e' := (e.1, e.2.1, e.2.2.1, k, e.2.2.1, e.2.2.2.2.2)) he
    have h2 : eS (s.2.1.set i (e.1, e.2.1, e.2.2.1, k, e.2.2.1, e.2.2.2.2.2)) = eS s.2.1 := i32_cr this
    show s.1 9 = pS s.2.2.2.1 + s.1 10 + eS (s.2.1.set i _)
    rw [h2]
    exact h.1
  · exact thr.rf s
-- an hour
theorem ovF_cn {s : mS} (h : ∀ e ∈ s.2.1, okB e) : ∀ i, ∃ d, (ovF s i).2.1 = s.1 6 + nI d ∧ (ovF s i).1.length = s.2.2.1.length + d
  | 0 => ⟨0, (Int32.add_zero _).symm, rfl⟩
  | i + 1 => by
    obtain ⟨d, h1, h2⟩ := ovF_cn h i
    unfold ovF
    split
    · next e he =>
      split
      · exact ⟨d, h1, h2⟩
      · split
        · obtain ⟨o, ho, o1, o2⟩ := (h e (List.mem_of_getElem? he)).2.1
          refine ⟨d + o, ?_, ?_⟩
          · show (ovF s i).2.1 + e.2.1 = _
            rw [h1, ho, Int32.add_assoc, nI_add]
          · show ((ovF s i).1 ++ List.replicate e.2.1.toNatClampNeg _).length = _
            rw [List.length_append, List.length_replicate, h2, ho, nI_clamp (by omega)]
            omega
        · exact ⟨d, h1, h2⟩
    · exact ⟨d, h1, h2⟩
theorem mkO_fst (e : mBk) : (mkO e).1 = e.1 ∧ (mkO e).2.2.2.2.2 = e.2.2.2.2.2 := by
  unfold mkO
  split
  · exact ⟨rfl, rfl⟩
  · split <;> exact ⟨rfl, rfl⟩
theorem eS_mkO (l : List mBk) : eS (l.map mkO) = eS l ∧ (l.map mkO).map Prod.fst = l.map Prod.fst := by
  induction l with
  | nil => exact ⟨rfl, rfl⟩
  | cons e t ih =>
    constructor
    · show (mkO e).2.2.2.2.2 + eS (t.map mkO) = e.2.2.2.2.2 + eS t
      rw [(mkO_fst e).2, ih.1]
    · show (mkO e).1 :: (t.map mkO).map Prod.fst = e.1 :: t.map Prod.fst
      rw [(mkO_fst e).1, ih.2]
theorem thr_ov {s : mS} (h : ∀ e ∈ s.2.1, okB e) : thr s (ovOut s) := by
  obtain ⟨d, h1, h2⟩ := ovF_cn h s.2.1.length
  obtain ⟨e1, e2⟩ := eS_mkO s.2.1
  refine ⟨List.Sublist.refl _, e2, rfl, fun q => ⟨?_, ?_⟩⟩
  · show s.1 9 = pS s.2.2.2.1 + s.1 10 + eS (s.2.1.map mkO)
    rw [e1]
    exact q.1
  · show (ovF s s.2.1.length).2.1 = s.1 7 + s.1 8 + nI (ovF s s.2.1.length).1.length
    rw [h1, h2, q.2, ← nI_add, Int32.add_assoc (s.1 7 + s.1 8)]
theorem tsF_cn (t : mS) : ∀ i, i ≤ t.2.2.1.length → ∃ d, (tsF t i).1 = t.1 8 + nI d ∧ (stK t i).length + d = i
  | 0, _ => ⟨0, (Int32.add_zero _).symm, rfl⟩
  | i + 1, hi => by
    obtain ⟨d, h1, h2⟩ := tsF_cn t i (by omega)
    have hg : t.2.2.1[i]? = some t.2.2.1[i] := List.getElem?_eq_getElem (by omega)
    rw [tsF_s hg, stK_s hg]
    split
    · refine ⟨d + 1, ?_, by omega⟩
      show (tsF t i).1 + 1 = _
      rw [h1, Int32.add_assoc]
      congr 1
      exact nI_1 d
    · refine ⟨d, h1, ?_⟩
      rw [List.length_append, List.length_singleton]
      omega
theorem thr_st {t : mS} (hk : ∀ e ∈ t.2.2.1, e.1 ≠ -1) : thr t (stOut t) := by
  rw [← stM_full hk]
  obtain ⟨d, h1, h2⟩ := tsF_cn t t.2.2.1.length (Nat.le_refl _)
  have hL : (stM t t.2.2.1.length).2.2.1.length = (stK t t.2.2.1.length).length := by
    show (stK t _ ++ List.drop _ _).length = _
    rw [List.drop_length, List.append_nil]
  refine ⟨List.Sublist.refl _, rfl, rfl, fun q => ⟨q.1, ?_⟩⟩
  show t.1 6 = t.1 7 + (tsF t t.2.2.1.length).1 + nI (stM t t.2.2.1.length).2.2.1.length
  rw [hL, h1, q.2]
  have e : nI t.2.2.1.length = nI d + nI (stK t t.2.2.1.length).length := by rw [nI_add, Nat.add_comm, h2]
  rw [e]
  ac_rfl
theorem lpF_cn (t : mS) : ∀ i, i ≤ t.2.2.2.1.length → (lpF t i).1 + pS (lpK t i) = t.1 10 + pS (t.2.2.2.1.take i) ∧ ((lpK t i).map keyC).Sublist ((t.2.2.2.1.take i).map keyC)
  | 0, _ => ⟨rfl, List.Sublist.refl _⟩
  | i + 1, hi => by
    obtain ⟨h1, h2⟩ := lpF_cn t i (by omega)
    have hg : t.2.2.2.1[i]? = some t.2.2.2.1[i] := List.getElem?_eq_getElem (by omega)
    rw [lpF_s hg, lpK_s hg, tk_app hg, pS_app, pS_one, List.map_append]
    split
    · refine ⟨?_, h2.trans (List.sublist_append_left _ _)⟩
      show (lpF t i).1 + _ + pS (lpK t i) = _
      rw [← Int32.add_assoc (t.1 10), ← h1]
      ac_rfl
    · rw [pS_app, pS_one, List.map_append]
      refine ⟨?_, h2.append (List.Sublist.refl _)⟩
      rw [← Int32.add_assoc, h1, Int32.add_assoc]
      rfl
theorem thr_lp {t : mS} (hk : ∀ e ∈ t.2.2.2.1, e.2.1 ≠ -1) : thr t (lpOut t) := by
  rw [← lpM_full hk]
  obtain ⟨h1, h2⟩ := lpF_cn t t.2.2.2.1.length (Nat.le_refl _)
  rw [List.take_length] at h1 h2
  have hL : (lpM t t.2.2.2.1.length).2.2.2.1 = lpK t t.2.2.2.1.length := by
    show lpK t _ ++ List.drop _ _ = _
    rw [List.drop_length, List.append_nil]
  refine ⟨by rw [hL]; exact h2, rfl, rfl, fun q => ⟨?_, q.2⟩⟩
  show t.1 9 = pS (lpM t t.2.2.2.1.length).2.2.2.1 + (lpF t t.2.2.2.1.length).1 + eS t.2.1
  rw [hL, q.1, Int32.add_comm (pS (lpK t _)), h1, Int32.add_comm (t.1 10)]
theorem spEat_zz (z : Nat → Int32) : ∀ j, j ≠ 4 → j ≠ 5 → spEat z j = z j := fun j h4 h5 => by
  have e4 : ∀ (y : Nat → Int32) v, zup y 4 v j = y j := fun y v => if_neg h4
  have e5 : ∀ (y : Nat → Int32) v, zup y 5 v j = y j := fun y v => if_neg h5
  unfold spEat
  split
  · split <;> (split <;> simp only [e4, e5])
  · split <;> (split <;> simp only [e4, e5])
theorem thr_hr {T C : Nat} {s : mS} (hT : T ≤ 2147483647) (hC : C + 300 < 2147483648) (hw : wf T C s) : thr s (hrOut s) := by
  have hw1 := hr1_wf hw
  have hw2 := ovOut_wf hw1
  have hw3 := stOut_wf (by decide) hw2
  have t1 : thr s (hr1 s) := thr_z ⟨rfl, rfl, rfl, rfl, rfl, rfl⟩
  have t2 := thr_ov hw1.2.1.2
  have t3 := thr_st (t := ovOut (hr1 s)) (fun e he => by
    obtain ⟨j, h1, h2, h3⟩ := (hw2.2.2.2.1.1 e he).1
    rw [h1]
    exact nI_ne_m1 (by omega))
  have t4 : thr (stOut (ovOut (hr1 s))) (spEat (stOut (ovOut (hr1 s))).1, (stOut (ovOut (hr1 s))).2) := thr_z ⟨spEat_zz _ 11 (by decide) (by decide), spEat_zz _ 6 (by decide) (by decide), spEat_zz _ 7 (by decide) (by decide), spEat_zz _ 8 (by decide) (by decide), spEat_zz _ 9 (by decide) (by decide), spEat_zz _ 10 (by decide) (by decide)⟩
  have t5 := thr_lp (t := (spEat (stOut (ovOut (hr1 s))).1, (stOut (ovOut (hr1 s))).2)) (fun e he => by
    obtain ⟨t, h1, h2⟩ := (hw3.2.2.2.2.1.2 e he).2.1
    rw [h1]
    exact nI_ne_m1 (by omega))
  exact t1.trans (t2.trans (t3.trans (t4.trans t5)))
theorem thr_hrs {T : Nat} (hT : T ≤ 2147483647) : ∀ n {C : Nat} {s : mS}, C + 300 * n < 2147483648 → wf T C s → thr s (hrsN n s)
  | 0, C, s, _, _ => thr.rf s
  | n + 1, C, s, hC, hw => by
    have h1 : C + 300 < 2147483648 := Nat.lt_of_le_of_lt (Nat.add_le_add_left (Nat.le_mul_of_pos_right 300 (Nat.succ_pos n)) C) hC
    have h2 : C + 300 + 300 * n < 2147483648 := by
      rw [Nat.mul_succ, Nat.add_comm (300 * n), ← Nat.add_assoc] at hC
      exact hC
    exact (thr_hr hT h1 hw).trans (thr_hrs hT n h2 (hrOut_wf hT h1 hw))
-- a customer is sent away
theorem thr_sdA {T C : Nat} {s : mS} (hT : T ≤ 2147483647) (hw : wf T C s) {i : Nat} (hi : i < s.2.2.2.1.length) : thr s (sdA s i) := by
  obtain ⟨e, he⟩ : ∃ e, s.2.2.2.1[i]? = some e := ⟨_, List.getElem?_eq_getElem hi⟩
  have hgd : s.2.2.2.1.getD i dC = e := gd_of he
  have e1 : (s.2.2.2.1.set i (e.1, -1, e.2.2)).filter pC = s.2.2.2.1.eraseIdx i := filter_erase (fun e he => by
    obtain ⟨t, h1, h2⟩ := (hw.2.2.2.2.1.2 e he).2.1
    rw [h1]
    exact nI_ne_m1 (by omega)) hi rfl
  have hsd : sdA s i = (zup s.1 10 (s.1 10 + e.2.2.2.2.2.1), s.2.1, s.2.2.1, s.2.2.2.1.eraseIdx i, evAdd s.2.2.2.2 (3, e.2.1, 2)) := by
    unfold sdA
    rw [hgd, e1]
  rw [hsd]
  have hp : pS (s.2.2.2.1.eraseIdx i) + e.2.2.2.2.2.1 = pS s.2.2.2.1 := by
    have h1 : s.2.2.2.1 = s.2.2.2.1.take i ++ e :: s.2.2.2.1.drop (i + 1) := by
      obtain ⟨q1, q2⟩ := List.getElem?_eq_some_iff.mp he
      rw [← q2, ← List.drop_eq_getElem_cons q1, List.take_append_drop]
    have h2 : s.2.2.2.1.eraseIdx i = s.2.2.2.1.take i ++ s.2.2.2.1.drop (i + 1) := List.eraseIdx_eq_take_drop_succ _ _
    rw [h2, pS_app]
    conv => rhs; rw [h1]
    rw [pS_app]
    show _ = pS (s.2.2.2.1.take i) + (e.2.2.2.2.2.1 + pS (s.2.2.2.1.drop (i + 1)))
    ac_rfl
  refine ⟨(List.eraseIdx_sublist _ _).map _, rfl, rfl, fun q => ⟨?_, q.2⟩⟩
  show s.1 9 = pS (s.2.2.2.1.eraseIdx i) + (s.1 10 + e.2.2.2.2.2.1) + eS s.2.1
  rw [q.1, ← hp]
  ac_rfl
