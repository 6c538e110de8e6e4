theorem okC.mono {T T' : Nat} {e : mCu} (h : okC T e) (hT : T ≤ T') : okC T' e := by
  obtain ⟨a, ⟨t, h1, h2⟩, b⟩ := h
  exact ⟨a, ⟨t, h1, by omega⟩, b⟩
theorem wfA.mono {A T C T' C' : Nat} {s : mS} (h : wfA A T C s) (hT : T ≤ T') (hC : C ≤ C') : wfA A T' C' s := by
  obtain ⟨h1, h2, h3, h4, h5, h6⟩ := h
  exact ⟨⟨h1.1, h1.2.1.mono (Nat.le_refl _) hC, h1.2.2.1, h1.2.2.2.mono (Nat.le_refl _) hT⟩, h2, h3, h4, ⟨h5.1, fun e he => (h5.2 e he).mono hT⟩, h6⟩
theorem okS.z {A nb : Nat} {z z' : Nat → Int32} {l : List mLf} (h : okS A z nb l) (h3 : z' 3 = z 3) : okS A z' nb l := by
  have hag : ∀ e, ag z' e = ag z e := fun e => by
    unfold ag
    rw [h3]
  refine ⟨fun e he => ?_, h.2.imp (fun {a b} hab => by rw [hag, hag]; exact hab)⟩
  obtain ⟨a1, a2, a3, a4⟩ := h.1 e he
  exact ⟨a1, a2, by rw [hag, h3]; exact a3, by rw [hag]; exact a4⟩
theorem okS.nb {A nb nb' : Nat} {z : Nat → Int32} {l : List mLf} (h : okS A z nb l) (hn : nb ≤ nb') : okS A z nb' l := by
  refine ⟨fun e he => ?_, h.2⟩
  obtain ⟨a1, ⟨j, e1, e2⟩, a3⟩ := h.1 e he
  exact ⟨a1, ⟨j, e1, by omega⟩, a3⟩
theorem bsS_wf {A T C : Nat} {s : mS} (h : wfA A T C s) {r w o : Int32} (hr : inR r 0 99) (hw : inR w 0 99) (ho : inR o 0 99) : wfA A T C (bsS s r w o) := by
  obtain ⟨h1, h2, h3, h4, h5⟩ := h
  refine ⟨⟨fun j hj => ?_, h1.2⟩, h2, h3, h4.z rfl, h5⟩
  rcases (by omega : j = 0 ∨ j = 1 ∨ j = 2) with rfl | rfl | rfl
  · exact hr
  · exact hw
  · exact ho
theorem ovU_app (l : List mBk) (e : mBk) : ovU (l ++ [e]) = ovU l + ovE e := by
  unfold ovU
  simp
theorem adB_wf {A T C : Nat} {s : mS} (h : wfA A T C s) {nm : Nat} {size hours : Int32} (hn : nmOk nm) (hs : inR size 1 12) (hh : inR hours 1 9) (hl : s.2.1.length < 4) : wfA A T C (adB s nm size hours) := by
  obtain ⟨h1, h2, h3, h4, h5⟩ := h
  refine ⟨h1, ⟨?_, fun e he => ?_⟩, ?_, ?_, h5⟩
  · show (s.2.1 ++ [_]).length ≤ 4
    simp
    omega
  · rcases List.mem_append.mp he with q | q
    · exact h2.2 e q
    · rw [List.mem_singleton.mp q]
      exact ⟨hn, hs, hh, Or.inl ⟨rfl, rfl⟩⟩
  · show s.2.2.1.length + ovU (s.2.1 ++ [_]) ≤ 60
    rw [ovU_app]
    have : ovE (nm, size, hours, -1, 0, 0) = 0 := rfl
    omega
  · show okS A s.1 (s.2.1 ++ [_]).length s.2.2.1
    exact h4.nb (by simp)
theorem ovN_U {l : List mBk} (h : ∀ e ∈ l, okB e) : ∀ i, i ≤ l.length → ovN l i = nI (ovU (l.take i))
  | 0, _ => rfl
  | i + 1, hi => by
    have ih := ovN_U h i (by omega)
    have hg : l[i]? = some (l[i]'(by omega)) := List.getElem?_eq_getElem (by omega)
    generalize l[i]'(by omega) = e at hg
    have hb := h e (List.mem_of_getElem? hg)
    unfold ovN
    rw [hg, List.take_add_one, hg]
    dsimp only [Option.toList]
    rw [ovU_app, ih]
    unfold ovE
    obtain ⟨o, ho, -, ho2⟩ := hb.2.1
    split
    · rfl
    · rw [ho, nI_clamp (by omega), nI_add]
theorem rfU_N {A T C : Nat} {s : mS} (h : wfA A T C s) {i o : Nat} {e : mBk} (he : s.2.1[i]? = some e) (ho : e.2.1 = nI o) (ho2 : o ≤ 12) : rfU s e = if e.2.2.2.1 = -1 then (if 60 < s.2.2.1.length + ovU s.2.1 + o then 2 else 0) else 1 := by
  obtain ⟨h1, h2, h3, h4, h5⟩ := h
  unfold rfU
  rw [ovN_U h2.2 _ (Nat.le_refl _), List.take_length, ho, nI_add, nI_add]
  by_cases q : e.2.2.2.1 = -1
  · rw [if_pos q, if_pos q]
    by_cases y : 60 < s.2.2.1.length + ovU s.2.1 + o
    · rw [if_pos (show (60 : Int32) < nI _ from nI_lt (a := 60) y (by omega)), if_pos y]
    · rw [if_neg (show ¬ (60 : Int32) < nI _ from nI_nlt (a := 60) (by omega) (by omega)), if_neg y]
  · rw [if_neg q, if_neg q]
theorem bgB_wf {A T C : Nat} {s : mS} (h : wfA A T C s) {i : Nat} {k : Int32} (hk : inR k 0 2) (hr : rfB s i = 0) : wfA A T C (bgB s i k) := by
  unfold rfB at hr
  unfold bgB
  split at hr
  · next e he =>
    obtain ⟨o, ho, o1, o2⟩ := (h.2.1.2 e (List.mem_of_getElem? he)).2.1
    rw [rfU_N h he ho o2] at hr
    have hb := h.2.1.2 e (List.mem_of_getElem? he)
    obtain ⟨h1, h2, h3, h4, h5⟩ := h
    split at hr
    · next q =>
      split at hr
      · exact absurd hr (by decide)
      · next y =>
        refine ⟨h1, ⟨?_, fun e' he' => ?_⟩, ?_, ?_, h5⟩
        · show (s.2.1.set i _).length ≤ 4
          simpa using h2.1
        · rcases List.mem_or_eq_of_mem_set he' with z | z
          · exact h2.2 e' z
          · rw [z]
            exact ⟨hb.1, hb.2.1, hb.2.2.1, Or.inr ⟨hk, hb.2.2.1⟩⟩
        · have := ovU_set (e' := (e.1, e.2.1, e.2.2.1, k, e.2.2.1, e.2.2.2.2.2)) he
          have e0 : ovE e = 0 := by
            unfold ovE
            rw [if_pos q]
          have e1 : ovE (e.1, e.2.1, e.2.2.1, k, e.2.2.1, e.2.2.2.2.2) = o := by
            unfold ovE
            rw [if_neg (hk.ne (by decide))]
            show e.2.1.toNatClampNeg = o
            rw [ho, nI_clamp (by omega)]
          show s.2.2.1.length + ovU (s.2.1.set i _) ≤ 60
          omega
        · show okS A s.1 (s.2.1.set i _).length s.2.2.1
          rw [List.length_set]
          exact h4
    · exact absurd hr (by decide)
  · exact absurd hr (by decide)
theorem wlC_wf {A T C : Nat} {s : mS} (h : wfA A T C s) {nm : Nat} {kind wanted limit purse patience : Int32} (hn : nmOk nm) (h1 : inR kind 0 2) (h2 : inR wanted 1 9) (h3 : inR limit 1 99) (h4 : inR purse 0 999) (h5 : inR patience 1 99) (hl : s.2.2.2.1.length < 10) : wfA A (T + 1) C (wlC s nm kind wanted limit purse patience) := by
  obtain ⟨g1, g2, g3, g4, g5, g6⟩ := h
  obtain ⟨t, ht, -, ht2⟩ := g1.2.2.2
  refine ⟨⟨fun j hj => ?_, g1.2.1, g1.2.2.1, ?_⟩, g2, g3, g4.z rfl, ⟨?_, fun e he => ?_⟩, g6⟩
  · show inR (zup (zup s.1 9 _) 11 _ j) 0 99
    rw [zup_eq, if_neg (by omega), zup_eq, if_neg (by omega)]
    exact g1.1 j hj
  · show inR (s.1 11 + 1) 0 (T + 1)
    rw [ht, nI_1]
    exact ⟨_, rfl, by omega, by omega⟩
  · show (s.2.2.2.1 ++ [_]).length ≤ 10
    simp
    omega
  · rcases List.mem_append.mp he with q | q
    · exact (g5.2 e q).mono (by omega)
    · rw [List.mem_singleton.mp q]
      exact ⟨hn, ⟨t, ht, by omega⟩, h1, h2, h3, h4, h5⟩
set_option maxRecDepth 4000 in
theorem hrsN_wf {T : Nat} (hT : T ≤ 2147483647) : ∀ n {C : Nat} {s : mS}, C + 300 * n < 2147483648 → wf T C s → wf T (C + 300 * n) (hrsN n s)
  | 0, C, s, _, h => h.mono (Nat.le_refl _) (by omega)
  | n + 1, C, s, hC, h => by
    have h2 : wf T (C + 300) (hrOut s) := hrOut_wf (T := T) (C := C) (s := s) hT (by omega) h
    have := hrsN_wf hT n (C := C + 300) (s := hrOut s) (by omega) h2
    exact this.mono (Nat.le_refl _) (by omega)
theorem mS0_wf {A T C : Nat} {z : Nat → Int32} (h : ∀ j, j < 3 → inR (z j) 0 99) : wfA A T C (mS0 z) := by
  refine ⟨⟨fun j hj => ?_, ⟨0, rfl, by omega, by omega⟩, ⟨0, rfl, by omega, by omega⟩, ⟨0, rfl, by omega, by omega⟩⟩, by simp [mS0], by simp [mS0, ovU], ⟨by simp [mS0], List.Pairwise.nil⟩, by simp [mS0], by simp [mS0]⟩
  show inR (if j < 3 then z j else 0) 0 99
  rw [if_pos hj]
  exact h j hj
theorem spar_wf {A T C : Nat} {s : mS} (h : wfA A T C s) {p c : Int32} (hp : inR p 0 9) (hc : inR c 0 999) : wfA A T (C + 999) (zup (zup s.1 5 p) 4 c, s.2) := by
  obtain ⟨g1, g2, g3, g4, g5, g6⟩ := h
  refine ⟨⟨fun j hj => ?_, hc.mono (by omega) (by omega), hp, g1.2.2.2⟩, g2, g3, g4.z rfl, g5, g6⟩
  show inR (zup (zup s.1 5 _) 4 _ j) 0 99
  rw [zup_eq, if_neg (by omega), zup_eq, if_neg (by omega)]
  exact g1.1 j hj
theorem sdMarket_wf {f : Nat → Int32} {n T C : Nat} {s : mS} {l : mLd} (h : wf T C s) : wf T C (sdMarket f n s l).1 := by
  unfold sdMarket
  dsimp only
  split
  · next q =>
    have d1 := (ldSemi_0 q).1
    have c1 := (ldNum_0 d1).1
    have b1 := (ldNum_0 c1).1
    exact bsS_wf h ((ldNum_in 1 99 rfl rfl (by decide) (by decide) b1).mono (by omega) (Nat.le_refl _)) ((ldNum_in 1 99 rfl rfl (by decide) (by decide) c1).mono (by omega) (Nat.le_refl _)) ((ldNum_in 1 99 rfl rfl (by decide) (by decide) d1).mono (by omega) (Nat.le_refl _))
  · exact h
theorem sdStep_wf {f : Nat → Int32} {n T C : Nat} {s : mS} {l : mLd} (hT : T ≤ 2147483646) (hC : C + 18000 < 2147483648) (h : wf T C s) : wf (T + 1) (C + 18000) (sdStep f n s l).1 := by
  have hm : wf (T + 1) (C + 18000) s := h.mono (by omega) (by omega)
  unfold sdStep
  split
  · unfold sdBaker
    split
    · next hl =>
      dsimp only
      split
      · next q =>
        have c1 := (ldSemi_0 q).1
        have b1 := (ldNum_0 c1).1
        have a1 := (ldNum_0 b1).1
        have nm := ldName_0 a1
        exact adB_wf hm (pkN_nm nm.1).2 (ldNum_in 1 12 rfl rfl (by decide) (by decide) b1) (ldNum_in 1 9 rfl rfl (by decide) (by decide) c1) hl
      · exact hm
    · exact hm
  · split
    · unfold sdBake
      dsimp only
      split
      · next q =>
        have b1 := (ldSemi_0 q).1
        have s1 := (ldSemi_0 q).2.1
        unfold sdBk6 at b1 s1
        split at b1
        · exact absurd b1 (by show ¬ 6 = 0; decide)
        · next y =>
          have k1 := ldKind_0 b1
          rw [if_neg y] at s1
          have hr : rfB s (bkIx s.2.1 (ldNm f (ldX f n l))).toNatClampNeg = 0 := by
            rcases Classical.em (rfB s (bkIx s.2.1 (ldNm f (ldX f n l))).toNatClampNeg = 0) with z | z
            · exact z
            · exact absurd ⟨b1, s1, z⟩ y
          exact bgB_wf hm k1.2 hr
      · exact hm
    · split
      · unfold sdCust
        split
        · next hl =>
          dsimp only
          split
          · next q =>
            have g1 := (ldSemi_0 q).1
            have e1 := (ldNum_0 g1).1
            have c1 := (ldNum_0 e1).1
            have b1 := (ldNum_0 c1).1
            have a1 := (ldNum_0 b1).1
            have k1 := ldKind_0 a1
            have nm := ldName_0 k1.1
            exact (wlC_wf h (pkN_nm nm.1).2 k1.2 (ldNum_in 1 9 rfl rfl (by decide) (by decide) b1) (ldNum_in 1 99 rfl rfl (by decide) (by decide) c1) (ldNum_in 0 999 rfl rfl (by decide) (by decide) e1) (ldNum_in 1 99 rfl rfl (by decide) (by decide) g1) hl).mono (Nat.le_refl _) (by omega)
          · exact hm
        · exact hm
      · split
        · unfold sdAuct
          dsimp only
          split
          · next q =>
            have a1 := (ldSemi_0 q).1
            exact (hdOut_wf (by decide) (by omega) h (ldKind_0 a1).2).mono (by omega) (by omega)
          · exact hm
        · split
          · unfold sdSpar
            dsimp only
            split
            · next q =>
              have b1 := (ldSemi_0 q).1
              have a1 := (ldNum_0 b1).1
              exact (spar_wf h (ldNum_in 0 9 rfl rfl (by decide) (by decide) a1) (ldNum_in 0 999 rfl rfl (by decide) (by decide) b1)).mono (by omega) (by omega)
            · exact hm
          · split
            · unfold sdHour
              dsimp only
              split
              · next q =>
                have a1 := (ldSemi_0 q).1
                obtain ⟨a, ha, -, ha2⟩ := ldNum_in (lo := 0) (hi := 60) 0 60 rfl rfl (by decide) (by decide) a1
                rw [ha, nI_clamp (by omega)]
                exact (hrsN_wf (by omega) a (by omega) h).mono (by omega) (by omega)
              · exact hm
            · exact hm
set_option maxRecDepth 40000 in
theorem sdLoop_wf {f : Nat → Int32} {n : Nat} : ∀ m {T C : Nat} {p : mS × mLd}, T + m ≤ 2147483646 → C + 18000 * m < 2147483648 → wf T C p.1 → wf (T + m) (C + 18000 * m) (sdLoop f n m p).1
  | 0, T, C, p, _, _, h => h
  | m + 1, T, C, p, hT, hC, h => by
    unfold sdLoop
    split
    · have h2 : wf (T + 1) (C + 18000) (sdStep f n p.1 p.2).1 := sdStep_wf (T := T) (C := C) (s := p.1) (by omega) (by omega) h
      exact (sdLoop_wf m (T := T + 1) (C := C + 18000) (p := sdStep f n p.1 p.2) (by omega) (by omega) h2).mono (by omega) (by omega)
    · exact h.mono (by omega) (by omega)
theorem sdRead_wf {f : Nat → Int32} {n T C : Nat} (hn : n ≤ 600) {s : mS} (h : wf 0 0 s) : wf 600 10800000 (sdRead f n s).1 := by
  unfold sdRead
  refine (sdLoop_wf n (T := 0) (C := 0) (by omega) (by omega) ?_).mono (by omega) (by omega)
  split
  · exact sdMarket_wf h
  · exact h
