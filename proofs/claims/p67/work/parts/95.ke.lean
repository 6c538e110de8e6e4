-- what the law keeps from turn to turn
def nmQ (t n : Nat) : Prop := n = nm2 99 120 ∨ n = nm2 99 121 ∨ ∃ t', 3 ≤ t' ∧ t' < t ∧ n = nmT t'
def kLt (a b : Nat × Int32) : Prop := a.2.toNatClampNeg < b.2.toNatClampNeg
def IV (t : Nat) (s : mS) : Prop := csv s ∧ s.2.1.map Prod.fst = [nm2 98 120, nm2 98 121, nm2 98 122] ∧ (∀ q ∈ s.2.2.2.1.map keyC, nmQ t q.1 ∧ q.2.toNatClampNeg < (s.1 11).toNatClampNeg) ∧ (s.2.2.2.1.map keyC).Pairwise kLt
theorem IV.thr {t : Nat} {s s' : mS} (h : IV t s) (ht : thr s s') : IV t s' := ⟨ht.2.2.2 h.1, ht.2.1.trans h.2.1, fun q hq => by rw [ht.2.2.1]; exact h.2.2.1 q (ht.1.subset hq), h.2.2.2.sublist ht.1⟩
theorem IV.up {t : Nat} {s : mS} (h : IV t s) : IV (t + 1) s := ⟨h.1, h.2.1, fun q hq => by
  obtain ⟨h1, h2⟩ := h.2.2.1 q hq
  refine ⟨h1.imp id (fun z => z.imp id (fun ⟨t', a, b, c⟩ => ⟨t', a, by omega, c⟩)), h2⟩, h.2.2.2⟩
theorem IV.join {t T : Nat} {s : mS} (h : IV t s) (ht : 3 ≤ t) (h11 : s.1 11 = nI T) (hT : T < 2147483647) (k w l p pt : Int32) : IV (t + 1) (wlC s (nmT t) k w l p pt) := by
  have e11 : (wlC s (nmT t) k w l p pt).1 11 = nI (T + 1) := by
    show s.1 11 + 1 = _
    rw [h11]
    exact nI_1 T
  have hmap : (wlC s (nmT t) k w l p pt).2.2.2.1.map keyC = s.2.2.2.1.map keyC ++ [(nmT t, nI T)] := by
    show (s.2.2.2.1 ++ [_]).map keyC = _
    rw [List.map_append, h11]
    rfl
  refine ⟨⟨?_, h.1.2⟩, h.2.1, fun q hq => ?_, ?_⟩
  · show s.1 9 + p = pS (s.2.2.2.1 ++ [_]) + s.1 10 + eS s.2.1
    rw [pS_app, pS_one, h.1.1]
    show _ + p = pS s.2.2.2.1 + p + s.1 10 + eS s.2.1
    ac_rfl
  · rw [hmap] at hq
    rw [e11, nI_clamp (by omega)]
    rcases List.mem_append.mp hq with hq | hq
    · obtain ⟨h1, h2⟩ := h.2.2.1 q hq
      rw [h11, nI_clamp (by omega)] at h2
      exact ⟨h1.imp id (fun z => z.imp id (fun ⟨t', a, b, c⟩ => ⟨t', a, by omega, c⟩)), by omega⟩
    · rw [List.mem_singleton.mp hq]
      refine ⟨Or.inr (Or.inr ⟨t, ht, by omega, rfl⟩), ?_⟩
      show (nI T).toNatClampNeg < T + 1
      rw [nI_clamp (by omega)]
      omega
  · rw [hmap]
    refine List.pairwise_append.mpr ⟨h.2.2.2, List.pairwise_singleton _ _, fun a ha b hb => ?_⟩
    rw [List.mem_singleton.mp hb]
    have := (h.2.2.1 a ha).2
    rw [h11] at this
    exact this
theorem IV.act {t X TT C : Nat} {s : mS} (h : IV t s) (ht : 3 ≤ t) (hw : wf TT C s) (hT : TT < 2147483647) (hC : C + 900 < 2147483648) : IV (t + 1) (hdAct (nmT t) s X).2 := by
  unfold hdAct
  split
  · split
    · exact (h.thr (thr_bgB _ _ _)).up
    · exact h.up
  · split
    · split
      · exact h.up
      · obtain ⟨T, h1, -, h2⟩ := hw.1.2.2.2
        exact h.join ht h1 (by omega) _ _ _ _ _
    · split
      · split
        · exact h.up
        · next q => exact (h.thr (thr_sdA (by omega) hw (Nat.mod_lt _ (by omega)))).up
      · split
        · have e : ∀ j, 3 ≤ j → zup s.1 (X / 16 % 3) (nI (1 + X / 16 / 4 % 40)) j = s.1 j := fun j hj => if_neg (by omega)
          exact (h.thr (thr_z ⟨e 11 (by decide), e 6 (by decide), e 7 (by decide), e 8 (by decide), e 9 (by decide), e 10 (by decide)⟩)).up
        · split
          · exact (h.thr (thr_z ⟨rfl, rfl, rfl, rfl, rfl, rfl⟩)).up
          · split
            · exact (h.thr (thr_hd hw (by omega) ⟨X / 16 % 3, rfl, Nat.zero_le _, by omega⟩)).up
            · have hi : X / 16 % 3 < 3 := Nat.mod_lt _ (by decide)
              have hC4 : C + 300 * (X / 16 % 3 + 1) < 2147483648 := Nat.lt_of_le_of_lt (Nat.add_le_add_left (Nat.mul_le_mul_left 300 hi) C) hC
              exact (h.thr (thr_hrs (by omega) _ hC4 hw)).up
theorem IV.fresh {t : Nat} {s : mS} (h : IV t s) (ht : 3 ≤ t) (ht2 : t < 27) : hasN s (nI (100 + 256 * (97 + t % 26))) = false := by
  have hm : t % 26 < 26 := Nat.mod_lt _ (by decide)
  refine hasN_no (fun i e he => ?_) (fun i e he => ?_)
  · have h1 : e.1 ∈ s.2.1.map Prod.fst := List.mem_map.mpr ⟨e, List.mem_of_getElem? he, rfl⟩
    rw [h.2.1] at h1
    simp only [List.mem_cons, List.not_mem_nil, or_false] at h1
    rcases h1 with q | q | q
    · rw [q, show nmA (nm2 98 120) = _ from nm_A 0 (by decide)]
      exact fun z => absurd ((nI_eq (by omega) (by omega)).mp z) (by omega)
    · rw [q, show nmA (nm2 98 121) = _ from nm_A 1 (by decide)]
      exact fun z => absurd ((nI_eq (by omega) (by omega)).mp z) (by omega)
    · rw [q, show nmA (nm2 98 122) = _ from nm_A 2 (by decide)]
      exact fun z => absurd ((nI_eq (by omega) (by omega)).mp z) (by omega)
  · have h1 := (h.2.2.1 (keyC e) (List.mem_map.mpr ⟨e, List.mem_of_getElem? he, rfl⟩)).1
    rcases h1 with q | q | ⟨t', q1, q2, q⟩
    · rw [show e.1 = nm2 99 120 from q, show nmA (nm2 99 120) = _ from nm_C 0 (by decide)]
      exact fun z => absurd ((nI_eq (by omega) (by omega)).mp z) (by omega)
    · rw [show e.1 = nm2 99 121 from q, show nmA (nm2 99 121) = _ from nm_C 1 (by decide)]
      exact fun z => absurd ((nI_eq (by omega) (by omega)).mp z) (by omega)
    · have hm' : t' % 26 < 26 := Nat.mod_lt _ (by decide)
      rw [show e.1 = nm2 100 (97 + t' % 26) from q, nm_D _ (by omega) (by omega)]
      exact fun z => absurd ((nI_eq (by omega) (by omega)).mp z) (by omega)
theorem fnd_at2 {g : Nat → Int32} {v : Int32} {k : Nat} (h1 : g k = v) (h2 : ∀ i, i < k → g i ≠ v) : ∀ m i n, i + m = k → m < n → fndI g v n i = nI k
  | 0, i, n, e, hn => by
    obtain ⟨n', rfl⟩ : ∃ n', n = n' + 1 := ⟨n - 1, by omega⟩
    show (if g i = v then nI i else _) = _
    rw [show i = k by omega, if_pos h1]
  | m + 1, i, n, e, hn => by
    obtain ⟨n', rfl⟩ : ∃ n', n = n' + 1 := ⟨n - 1, by omega⟩
    show (if g i = v then nI i else fndI g v n' (i + 1)) = _
    rw [if_neg (h2 i (by omega))]
    exact fnd_at2 h1 h2 m (i + 1) n' (by omega) (by omega)
theorem IV.tick {t : Nat} {s : mS} (h : IV t s) (i : Nat) (e : mCu) (he : s.2.2.2.1[i]? = some e) : fndI (fun i => (s.2.2.2.1.getD i dC).2.1) e.2.1 s.2.2.2.1.length 0 = nI i := by
  have hi := gE_lt he
  refine fnd_at2 (k := i) (by simp only [gd_of he]) (fun j hj => ?_) i 0 _ (Nat.zero_add _) hi
  have hg : s.2.2.2.1[j]? = some (s.2.2.2.1[j]'(by omega)) := List.getElem?_eq_getElem (by omega)
  simp only [gd_of hg]
  have hp := List.pairwise_iff_getElem.mp h.2.2.2 j i (by rw [List.length_map]; omega) (by rw [List.length_map]; exact hi) hj
  rw [List.getElem_map, List.getElem_map] at hp
  have he' : s.2.2.2.1[i] = e := Option.some.inj ((List.getElem?_eq_getElem hi).symm.trans he)
  rw [he'] at hp
  intro z
  have hp : (s.2.2.2.1[j]'(by omega)).2.1.toNatClampNeg < e.2.1.toNatClampNeg := hp
  rw [z] at hp
  exact Nat.lt_irrefl _ hp
theorem csv.money {m : mX} (h : csv m.s) : q_moneyDifference m = (0, 0, m) := by
  unfold q_moneyDifference
  rw [pS_smI, eS_smI, h.1]
  rw [show pS m.s.2.2.2.1 + m.s.1 10 + eS m.s.2.1 - pS m.s.2.2.2.1 - m.s.1 10 - eS m.s.2.1 = 0 by
    rw [Int32.add_comm (pS m.s.2.2.2.1 + m.s.1 10), Int32.add_comm (pS m.s.2.2.2.1), ← Int32.add_assoc, Int32.add_sub_cancel, Int32.add_sub_cancel, Int32.sub_self]]
theorem csv.loaf {m : mX} (h : csv m.s) : q_loafDifference m = (0, 0, m) := by
  unfold q_loafDifference
  rw [h.2]
  rw [show m.s.1 7 + m.s.1 8 + nI m.s.2.2.1.length - m.s.1 7 - m.s.1 8 - nI m.s.2.2.1.length = 0 by
    rw [Int32.add_comm (m.s.1 7 + m.s.1 8), Int32.add_comm (m.s.1 7), ← Int32.add_assoc, Int32.add_sub_cancel, Int32.add_sub_cancel, Int32.sub_self]]
theorem PI.IV {s : mS} (h : PI 3 2 s) : IV 3 s := by
  obtain ⟨⟨z3, z6, z7, z8, z10, z11, z9⟩, hL, hE, h3, hB, h2, hC⟩ := h
  have g : ∀ i (hi : i < 3), bkP i (s.2.1[i]'(by omega)) := fun i hi => hB i _ (List.getElem?_eq_getElem (by omega))
  have gc : ∀ i (hi : i < 2), cuP i (s.2.2.2.1[i]'(by omega)) := fun i hi => hC i _ (List.getElem?_eq_getElem (by omega))
  obtain ⟨b0, b1, b2, hb⟩ : ∃ b0 b1 b2, s.2.1 = [b0, b1, b2] := by
    match hq : s.2.1, h3 with
    | [b0, b1, b2], _ => exact ⟨b0, b1, b2, rfl⟩
  obtain ⟨c0, c1, hc⟩ : ∃ c0 c1, s.2.2.2.1 = [c0, c1] := by
    match hq : s.2.2.2.1, h2 with
    | [c0, c1], _ => exact ⟨c0, c1, rfl⟩
  have k0 := hB 0 b0 (by rw [hb]; rfl)
  have k1 := hB 1 b1 (by rw [hb]; rfl)
  have k2 := hB 2 b2 (by rw [hb]; rfl)
  have l0 := hC 0 c0 (by rw [hc]; rfl)
  have l1 := hC 1 c1 (by rw [hc]; rfl)
  refine ⟨⟨?_, ?_⟩, ?_, ?_, ?_⟩
  · rw [z9, pS_smI, z10, hb]
    show _ = _ + 0 + (b0.2.2.2.2.2 + (b1.2.2.2.2.2 + (b2.2.2.2.2.2 + 0)))
    rw [k0.2.2, k1.2.2, k2.2.2]
    show _ = pS s.2.2.2.1 + 0 + 0
    rw [Int32.add_zero, Int32.add_zero]
  · rw [z6, z7, z8, hL]
    rfl
  · rw [hb]
    show [b0.1, b1.1, b2.1] = _
    rw [k0.1, k1.1, k2.1]
  · rw [hc, z11]
    intro q hq
    simp only [List.map_cons, List.map_nil, List.mem_cons, List.not_mem_nil, or_false] at hq
    rcases hq with rfl | rfl
    · refine ⟨Or.inl l0.1, ?_⟩
      show c0.2.1.toNatClampNeg < _
      rw [l0.2]
      decide
    · refine ⟨Or.inr (Or.inl l1.1), ?_⟩
      show c1.2.1.toNatClampNeg < _
      rw [l1.2]
      decide
  · rw [hc]
    refine List.pairwise_cons.mpr ⟨fun b hb => ?_, List.pairwise_singleton _ _⟩
    rw [List.mem_singleton.mp hb]
    show c0.2.1.toNatClampNeg < c1.2.1.toNatClampNeg
    rw [l0.2, l1.2]
    decide
