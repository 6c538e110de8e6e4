-- an auction
theorem flt_set {l : List mLf} {i : Nat} {e e' : mLf} (h : l[i]? = some e) (h1 : pK e = true) (h2 : pK e' = false) : ((l.set i e').filter pK).length + 1 = (l.filter pK).length := by
  induction l generalizing i with
  | nil => simp at h
  | cons y t ih =>
    cases i with
    | zero =>
      simp at h
      subst h
      rw [List.set_cons_zero, List.filter_cons_of_neg (by simp [h2]), List.filter_cons_of_pos h1, List.length_cons]
    | succ i =>
      simp at h
      have := ih h
      rw [List.set_cons_succ]
      by_cases q : pK y = true
      · rw [List.filter_cons_of_pos q, List.filter_cons_of_pos q, List.length_cons, List.length_cons, this]
      · rw [List.filter_cons_of_neg q, List.filter_cons_of_neg q, this]
theorem sell_cn {s : mS} {k p : Int32} {bs ls : List mBd} (hbk : bkOk s) (h0 : ∀ e ∈ s.2.2.1, e.1 ≠ -1) (hl60 : s.2.2.1.length ≤ 60) (hb3 : s.2.1.length ≤ 4) (hQ : s.2.2.2.1.length ≤ 10) (hb : ∀ y ∈ bs, ∃ c, y.1 = nI c ∧ c < s.2.2.2.1.length) (hl : ∀ y ∈ ls, ∃ c, y.1 = nI c ∧ c < s.2.2.1.length) (hR : ls.Pairwise lR) : ∀ i, i ≤ bs.length → i ≤ ls.length →
    ((sellN s k p bs ls i).2.2.2.1.map keyC = s.2.2.2.1.map keyC ∧ (sellN s k p bs ls i).2.1.map Prod.fst = s.2.1.map Prod.fst) ∧ pS (sellN s k p bs ls i).2.2.2.1 + eS (sellN s k p bs ls i).2.1 = pS s.2.2.2.1 + eS s.2.1 ∧ (sellN s k p bs ls i).1 7 = s.1 7 + nI i ∧ ((sellN s k p bs ls i).2.2.1.filter pK).length + i = s.2.2.1.length
  | 0, _, _ => ⟨⟨rfl, rfl⟩, rfl, (Int32.add_zero _).symm, by
    show (s.2.2.1.filter pK).length + 0 = _
    rw [List.filter_eq_self.mpr (fun e he => by simp [pK, h0 e he])]
    rfl⟩
  | i + 1, h1, h2 => by
    obtain ⟨⟨i1, i2⟩, i3, i4, i5⟩ := sell_cn (k := k) (p := p) hbk h0 hl60 hb3 hQ hb hl hR i (by omega) (by omega)
    have hmk := sell_mk (k := k) (p := p) hbk h0 hl60 hb3 hQ hb hl i (by omega) (by omega)
    obtain ⟨n1, n2, n3⟩ := sellN_len s k p bs ls i
    have hgb : bs[i]? = some bs[i] := List.getElem?_eq_getElem (by omega)
    have hgl : ls[i]? = some ls[i] := List.getElem?_eq_getElem (by omega)
    have hil : i < ls.length := by omega
    generalize bs[i] = y at hgb
    generalize ls[i] = u at hgl
    obtain ⟨c, hc, hc2⟩ := hb y (List.mem_of_getElem? hgb)
    obtain ⟨d, hd, hd2⟩ := hl u (List.mem_of_getElem? hgl)
    obtain ⟨y1, y2⟩ := y
    obtain ⟨u1', u2⟩ := u
    simp only at hc hd
    subst hc
    subst hd
    have gc : (sellN s k p bs ls i).2.2.2.1[c]? = some ((sellN s k p bs ls i).2.2.2.1[c]'(by omega)) := List.getElem?_eq_getElem (by omega)
    have gl : (sellN s k p bs ls i).2.2.1[d]? = some ((sellN s k p bs ls i).2.2.1[d]'(by omega)) := List.getElem?_eq_getElem (by omega)
    generalize (sellN s k p bs ls i).2.2.2.1[c]'(by omega) = ec at gc
    generalize (sellN s k p bs ls i).2.2.1[d]'(by omega) = eld at gl
    obtain ⟨bi, b1, b2⟩ := sellN_bk k p bs ls hbk i eld (List.mem_of_getElem? gl)
    have gb : (sellN s k p bs ls i).2.1[bi]? = some ((sellN s k p bs ls i).2.1[bi]'b2) := List.getElem?_eq_getElem b2
    generalize (sellN s k p bs ls i).2.1[bi]'b2 = eb at gb
    have hst := sellN_step hgb hgl gc gl b1 gb (by omega) (by omega) (by omega)
    have hnin : nI d ∉ (ls.take i).map Prod.fst := fun q => by
      obtain ⟨w, w1, w2⟩ := List.mem_map.mp q
      rw [← List.take_append_drop i ls] at hR
      have hmem : (nI d, u2) ∈ ls.drop i := by
        rw [List.drop_eq_getElem_cons hil]
        have : ls[i] = (nI d, u2) := Option.some.inj ((List.getElem?_eq_getElem hil).symm.trans hgl)
        rw [this]
        exact List.mem_cons_self
      have := ((List.pairwise_append.mp hR).2.2 w w1 _ hmem).2
      rw [w2] at this
      exact absurd this (Nat.lt_irrefl _)
    have hpk : pK eld = true := by
      have : eld.1 ≠ -1 := fun z => hnin ((hmk d eld gl).mp z)
      simp [pK, this]
    rw [hst]
    have f1 := pS_set (e' := payC ec p) gc
    have f2 := eS_set (e' := ernB eb p) gb
    have f3 := flt_set (e' := (-1, eld.2)) gl hpk (by simp [pK])
    refine ⟨⟨(map_set_key (e' := payC ec p) gc rfl).trans i1, (map_set_fst (e' := ernB eb p) gb rfl).trans i2⟩, ?_, ?_, ?_⟩
    · show pS ((sellN s k p bs ls i).2.2.2.1.set c (payC ec p)) + eS ((sellN s k p bs ls i).2.1.set bi (ernB eb p)) = _
      rw [← i3]
      have f1' : pS ((sellN s k p bs ls i).2.2.2.1.set c (payC ec p)) + p = pS (sellN s k p bs ls i).2.2.2.1 := by
        have f1 : pS ((sellN s k p bs ls i).2.2.2.1.set c (payC ec p)) + ec.2.2.2.2.2.1 = pS (sellN s k p bs ls i).2.2.2.1 + (ec.2.2.2.2.2.1 - p) := f1
        refine i32_cr (c := ec.2.2.2.2.2.1) ?_
        rw [Int32.add_assoc, Int32.add_comm p, ← Int32.add_assoc, f1, Int32.add_assoc, Int32.sub_add_cancel]
      have f2' : eS ((sellN s k p bs ls i).2.1.set bi (ernB eb p)) = eS (sellN s k p bs ls i).2.1 + p := by
        have f2 : eS ((sellN s k p bs ls i).2.1.set bi (ernB eb p)) + eb.2.2.2.2.2 = eS (sellN s k p bs ls i).2.1 + (eb.2.2.2.2.2 + p) := f2
        refine i32_cr (c := eb.2.2.2.2.2) ?_
        rw [f2]
        ac_rfl
      rw [f2', ← f1']
      ac_rfl
    · show (sellN s k p bs ls i).1 7 + 1 = _
      rw [i4, Int32.add_assoc]
      congr 1
      exact nI_1 i
    · show (((sellN s k p bs ls i).2.2.1.set d (-1, eld.2)).filter pK).length + (i + 1) = _
      omega
theorem dsF_cn (t : mS) : ∀ i, i ≤ t.2.2.2.1.length → (dsF t noW 0 i).1 + pS (dsK t i) = t.1 10 + pS (t.2.2.2.1.take i) ∧ ((dsK t i).map keyC).Sublist ((t.2.2.2.1.take i).map keyC)
  | 0, _ => ⟨rfl, List.Sublist.refl _⟩
  | i + 1, hi => by
    obtain ⟨h1, h2⟩ := dsF_cn t i (by omega)
    have hg : t.2.2.2.1[i]? = some t.2.2.2.1[i] := List.getElem?_eq_getElem (by omega)
    rw [dsF_s hg, dsK_s hg, tk_app hg, pS_app, pS_one, List.map_append]
    split
    · refine ⟨?_, h2.trans (List.sublist_append_left _ _)⟩
      show (dsF t noW 0 i).1 + _ + pS (dsK t i) = _
      rw [← Int32.add_assoc (t.1 10), ← h1]
      ac_rfl
    · rw [pS_app, pS_one, List.map_append]
      refine ⟨?_, h2.append (List.Sublist.refl _)⟩
      rw [← Int32.add_assoc, h1, Int32.add_assoc]
theorem thr_ds {t : mS} (hk : ∀ e ∈ t.2.2.2.1, e.2.1 ≠ -1) : thr t (dsOut t noW 0) := by
  rw [← dsM_full hk]
  obtain ⟨h1, h2⟩ := dsF_cn t t.2.2.2.1.length (Nat.le_refl _)
  rw [List.take_length] at h1 h2
  have hL : (dsM t noW 0 t.2.2.2.1.length).2.2.2.1 = dsK t t.2.2.2.1.length := by
    show dsK t _ ++ List.drop _ _ = _
    rw [List.drop_length, List.append_nil]
  refine ⟨by rw [hL]; exact h2, rfl, rfl, fun q => ⟨?_, q.2⟩⟩
  show t.1 9 = pS (dsM t noW 0 t.2.2.2.1.length).2.2.2.1 + (dsF t noW 0 t.2.2.2.1.length).1 + eS t.2.1
  rw [hL, q.1, Int32.add_comm (pS (dsK t _)), h1, Int32.add_comm (t.1 10)]
theorem thr_hd {TT C : Nat} {s : mS} {k : Int32} (hw : wf TT C s) (hT : TT ≤ 2147483647) (hk : inR k 0 2) : thr s (hdOut s k) := by
  unfold hdOut
  split
  · exact thr.rf s
  · have hok := hw.2.2.2.2.1.2
    have hl10 := hw.2.2.2.2.1.1
    have hL60 : s.2.2.1.length ≤ 60 := by have := hw.2.2.1; omega
    have hbs : ∀ y ∈ plB s k, ∃ c, y.1 = nI c ∧ c < s.2.2.2.1.length := fun y hy => by
      obtain ⟨j, e, h1, h2, rfl⟩ := bdF_mem _ hy
      exact ⟨j, rfl, h1⟩
    have hls : ∀ y ∈ plL s k, ∃ c, y.1 = nI c ∧ c < s.2.2.1.length := fun y hy => by
      obtain ⟨j, e, h1, h2, h3, rfl⟩ := lvF_mem _ hy
      exact ⟨j, rfl, h1⟩
    have hne : ∀ e ∈ s.2.2.1, e.1 ≠ -1 := fun e he => by
      obtain ⟨j, h1, h2, h3⟩ := (hw.2.2.2.1.1 e he).1
      rw [h1]
      exact nI_ne_m1 (by omega)
    obtain ⟨tb, tl⟩ := plT_bs s k
    obtain ⟨o1, -, -, -, o5, -⟩ := sellN_ok hw k (plP s k) hk (plB s k) (plL s k) hbs hls (plT s k) tb tl
    obtain ⟨⟨c1, c2⟩, c3, c4, c5⟩ := sell_cn (k := k) (p := plP s k) hw.bk hne hL60 hw.2.1.1 hl10 hbs hls (lvF_R hw.1 (by decide : (73 : Nat) ≤ 2000) hw.2.2.2.1 hL60 _ (Nat.le_refl _)) (plT s k) tb tl
    have t1 : thr s (hdB s k) := by
      refine ⟨?_, c2, o1 11 (by decide) (by decide), fun q => ⟨?_, ?_⟩⟩
      · show ((hdA s k).2.2.2.1.map keyC).Sublist _
        rw [show (hdA s k).2.2.2.1.map keyC = s.2.2.2.1.map keyC from c1]
        exact List.Sublist.refl _
      · show (hdA s k).1 9 = pS (hdA s k).2.2.2.1 + (hdA s k).1 10 + eS (hdA s k).2.1
        rw [show (hdA s k).1 9 = s.1 9 from o1 9 (by decide) (by decide), show (hdA s k).1 10 = s.1 10 from o1 10 (by decide) (by decide), q.1]
        have c3 : pS (hdA s k).2.2.2.1 + eS (hdA s k).2.1 = pS s.2.2.2.1 + eS s.2.1 := c3
        rw [show pS s.2.2.2.1 + s.1 10 + eS s.2.1 = pS s.2.2.2.1 + eS s.2.1 + s.1 10 by ac_rfl, ← c3]
        ac_rfl
      · show (hdA s k).1 6 = (hdA s k).1 7 + (hdA s k).1 8 + nI ((hdA s k).2.2.1.filter pK).length
        rw [show (hdA s k).1 6 = s.1 6 from o1 6 (by decide) (by decide), show (hdA s k).1 8 = s.1 8 from o1 8 (by decide) (by decide), show (hdA s k).1 7 = s.1 7 + nI (plT s k) from c4, q.2]
        have e : nI s.2.2.1.length = nI (plT s k) + nI ((hdA s k).2.2.1.filter pK).length := by
          rw [nI_add, Nat.add_comm]
          exact congrArg nI c5.symm
        rw [e]
        ac_rfl
    have hk1 : ∀ e ∈ (hdB s k).2.2.2.1, e.2.1 ≠ -1 := fun e he => by
      have he : e ∈ (hdA s k).2.2.2.1 := he
      have h1 : keyC e ∈ (hdA s k).2.2.2.1.map keyC := List.mem_map.mpr ⟨e, he, rfl⟩
      rw [show (hdA s k).2.2.2.1.map keyC = s.2.2.2.1.map keyC from c1] at h1
      obtain ⟨e0, g1, g2⟩ := List.mem_map.mp h1
      obtain ⟨t, h1, h2⟩ := (hok e0 g1).2.1
      have : e.2.1 = e0.2.1 := (congrArg Prod.snd g2).symm
      rw [this, h1]
      exact nI_ne_m1 (by omega)
    exact t1.trans (thr_ds hk1)
