-- behind: 69.xk 67 66
-- what stays, from call to call
def gd (T C Z : Nat) (s : mS) : Prop := wf T C s ∧ inR (s.1 6) 0 Z
def inv (T C Z : Nat) (m : mX) : Prop := gd T C Z m.s ∧ (∀ k s, m.sl k = some s → gd T C Z s) ∧ ∀ s ∈ m.past, gd T C Z s
theorem gd.mono {T C Z T' C' Z' : Nat} {s : mS} (h : gd T C Z s) (hT : T ≤ T') (hC : C ≤ C') (hZ : Z ≤ Z') : gd T' C' Z' s := ⟨h.1.mono hT hC, h.2.mono (Nat.le_refl _) hZ⟩
theorem inv.mono {T C Z T' C' Z' : Nat} {m : mX} (h : inv T C Z m) (hT : T ≤ T') (hC : C ≤ C') (hZ : Z ≤ Z') : inv T' C' Z' m :=
  ⟨h.1.mono hT hC hZ, fun k s hs => (h.2.1 k s hs).mono hT hC hZ, fun s hs => (h.2.2 s hs).mono hT hC hZ⟩
theorem inv.psh {T C Z : Nat} {m : mX} {s : mS} (h : inv T C Z m) (hs : gd T C Z s) : inv T C Z (psh m s) := by
  refine ⟨hs, h.2.1, fun s' hs' => ?_⟩
  have hs' : s' ∈ (if 8 ≤ m.past.length then m.past.tail else m.past) ++ [m.s] := hs'
  rcases List.mem_append.mp hs' with q | q
  · split at q
    · exact h.2.2 s' (List.mem_of_mem_tail q)
    · exact h.2.2 s' q
  · rw [List.mem_singleton.mp q]
    exact h.1
theorem ovF_z6 {s : mS} {Z : Nat} (h : ∀ e ∈ s.2.1, okB e) (hz : inR (s.1 6) 0 Z) : ∀ n, inR (ovF s n).2.1 0 (Z + 12 * n)
  | 0 => hz
  | n + 1 => by
    have ih := ovF_z6 h hz n
    have im : inR (ovF s n).2.1 0 (Z + 12 * (n + 1)) := ih.mono (Nat.le_refl _) (by omega)
    unfold ovF
    split
    · next e he =>
      split
      · exact im
      · split
        · obtain ⟨a, ha, -, ha2⟩ := (h e (List.mem_of_getElem? he)).2.1
          show inR ((ovF s n).2.1 + e.2.1) 0 _
          rw [ha]
          exact (ih.add a).mono (Nat.zero_le _) (by omega)
        · exact im
    · exact im
theorem spEat_6 (z : Nat → Int32) : spEat z 6 = z 6 := by
  unfold spEat
  split
  · split <;> (split <;> rfl)
  · split <;> (split <;> rfl)
theorem z6n {z : Nat → Int32} {i : Nat} {v : Int32} (h : 6 ≠ i) : zup z i v 6 = z 6 := if_neg h
theorem lpO6 (s : mS) : (lpOut s).1 6 = s.1 6 := rfl
theorem stO6 (s : mS) : (stOut s).1 6 = s.1 6 := rfl
theorem ovO6 (s : mS) : (ovOut s).1 6 = (ovF s s.2.1.length).2.1 := rfl
theorem hrOut_6 (s : mS) : (hrOut s).1 6 = (ovF (hr1 s) s.2.1.length).2.1 := (lpO6 _).trans ((spEat_6 _).trans ((stO6 _).trans (ovO6 _)))
set_option maxRecDepth 4000 in
theorem hrOut_gd {T C Z : Nat} {s : mS} (hT : T ≤ 2147483647) (hC : C + 300 < 2147483648) (h : gd T C Z s) : gd T (C + 300) (Z + 48) (hrOut s) := by
  refine ⟨hrOut_wf hT hC h.1, ?_⟩
  rw [hrOut_6]
  have hl := h.1.2.1.1
  have := ovF_z6 (s := hr1 s) (Z := Z) h.1.2.1.2 (show inR (zup s.1 3 (s.1 3 + 1) 6) 0 Z by rw [z6n (by decide)]; exact h.2) s.2.1.length
  exact this.mono (Nat.le_refl _) (by omega)
set_option maxRecDepth 4000 in
theorem hrsN_gd {T : Nat} (hT : T ≤ 2147483647) : ∀ n {C Z : Nat} {s : mS}, C + 300 * n < 2147483648 → gd T C Z s → gd T (C + 300 * n) (Z + 48 * n) (hrsN n s)
  | 0, C, Z, s, _, h => h.mono (Nat.le_refl _) (by omega) (by omega)
  | n + 1, C, Z, s, hC, h => by
    have h2 : gd T (C + 300) (Z + 48) (hrOut s) := hrOut_gd hT (by omega) h
    have := hrsN_gd hT n (C := C + 300) (Z := Z + 48) (s := hrOut s) (by omega) h2
    exact this.mono (Nat.le_refl _) (by omega) (by omega)
theorem sellS_6 (s : mS) (k p : Int32) (c l : Nat) : (sellS s k p c l).1 6 = s.1 6 := by
  unfold sellS
  split
  · split
    · rfl
    · rfl
  · rfl
theorem sellN_6 (s : mS) (k p : Int32) (bs ls : List mBd) : ∀ n, (sellN s k p bs ls n).1 6 = s.1 6
  | 0 => rfl
  | n + 1 => by
    unfold sellN
    split
    · rw [sellS_6, sellN_6 s k p bs ls n]
    · exact sellN_6 s k p bs ls n
theorem hdOut_6 (s : mS) (k : Int32) : (hdOut s k).1 6 = s.1 6 := by
  unfold hdOut
  split
  · rfl
  · exact (show (hdA s k).1 6 = s.1 6 from sellN_6 _ _ _ _ _ _)
theorem hdOut_gd {T C Z : Nat} {s : mS} (hT : T ≤ 2147483647) (h : gd T C Z s) {k : Int32} (hk : inR k 0 2) : gd T (C + 180) Z (hdOut s k) := ⟨hdOut_wf (by decide) hT h.1 hk, by rw [hdOut_6]; exact h.2⟩
theorem sdMarket_gd {f : Nat → Int32} {n T C Z : Nat} {s : mS} {l : mLd} (h : gd T C Z s) : gd T C Z (sdMarket f n s l).1 := by
  refine ⟨sdMarket_wf h.1, ?_⟩
  unfold sdMarket
  dsimp only
  split
  · exact h.2
  · exact h.2
set_option maxRecDepth 40000 in
theorem sdStep_z6 {f : Nat → Int32} {n T C Z : Nat} {s : mS} {l : mLd} (hT : T ≤ 2147483646) (hC : C + 18000 < 2147483648) (h : gd T C Z s) : inR ((sdStep f n s l).1.1 6) 0 (Z + 2880) := by
  have hm : inR (s.1 6) 0 (Z + 2880) := h.2.mono (Nat.le_refl _) (by omega)
  unfold sdStep
  split
  · unfold sdBaker
    split
    · dsimp only
      split <;> exact hm
    · exact hm
  · split
    · unfold sdBake
      dsimp only
      split
      · unfold bgB
        split <;> exact hm
      · exact hm
    · split
      · unfold sdCust
        split
        · dsimp only
          split
          · exact hm
          · exact hm
        · exact hm
      · split
        · unfold sdAuct
          dsimp only
          split
          · rw [hdOut_6]
            exact hm
          · exact hm
        · split
          · unfold sdSpar
            dsimp only
            split
            · exact hm
            · exact hm
          · split
            · unfold sdHour
              dsimp only
              split
              · next q =>
                have a1 := (ldSemi_0 q).1
                obtain ⟨a, ha, -, ha2⟩ := ldNum_in (lo := 0) (hi := 60) 0 60 rfl rfl (by decide) (by decide) a1
                rw [ha, nI_clamp (by omega)]
                exact (hrsN_gd (by omega) a (by omega) h).2.mono (Nat.le_refl _) (by omega)
              · exact hm
            · exact hm
set_option maxRecDepth 40000 in
theorem sdLoop_gd {f : Nat → Int32} {n : Nat} : ∀ m {T C Z : Nat} {p : mS × mLd}, T + m ≤ 2147483646 → C + 18000 * m < 2147483648 → gd T C Z p.1 → gd (T + m) (C + 18000 * m) (Z + 2880 * m) (sdLoop f n m p).1
  | 0, T, C, Z, p, _, _, h => h
  | m + 1, T, C, Z, p, hT, hC, h => by
    unfold sdLoop
    split
    · have h2 : gd (T + 1) (C + 18000) (Z + 2880) (sdStep f n p.1 p.2).1 := ⟨sdStep_wf (T := T) (C := C) (s := p.1) (by omega) (by omega) h.1, sdStep_z6 (T := T) (C := C) (by omega) (by omega) h⟩
      exact (sdLoop_gd m (T := T + 1) (C := C + 18000) (Z := Z + 2880) (p := sdStep f n p.1 p.2) (by omega) (by omega) h2).mono (by omega) (by omega) (by omega)
    · exact h.mono (by omega) (by omega) (by omega)
set_option maxRecDepth 40000 in
theorem sdRead_gd {f : Nat → Int32} {n : Nat} (hn : n ≤ 600) : gd 600 10800000 1728000 (sdRead f n s00).1 := by
  have h : gd 0 0 0 s00 := ⟨mS0_wf (fun j _ => ⟨0, rfl, Nat.zero_le _, by decide⟩), 0, rfl, Nat.le_refl _, Nat.le_refl _⟩
  unfold sdRead
  refine (sdLoop_gd n (T := 0) (C := 0) (Z := 0) (by omega) (by omega) ?_).mono (by omega) (by omega) (by omega)
  split
  · exact sdMarket_gd h
  · exact h
theorem mkm_inv {T C Z : Nat} {s : mS} (h : gd T C Z s) : inv T C Z (mkm s) := ⟨h, fun k s hs => (nomatch hs), fun s hs => (nomatch hs)⟩
theorem m00_inv : inv 600 10800000 1728000 m00 := mkm_inv (sdRead_gd (Nat.le_trans f0_len (by decide)))
theorem bgB_gd {T C Z : Nat} {s : mS} (h : gd T C Z s) {i : Nat} {k : Int32} (hk : inR k 0 2) (hr : rfB s i = 0) : gd T C Z (bgB s i k) := by
  refine ⟨bgB_wf h.1 hk hr, ?_⟩
  unfold bgB
  split <;> exact h.2
theorem zup_gd {T C Z : Nat} {s : mS} (h : gd T C Z s) {k : Nat} {v : Int32} (hk : k < 3) (hv : inR v 0 99) : gd T C Z (zup s.1 k v, s.2) := by
  obtain ⟨⟨g1, g2, g3, g4, g5, g6⟩, hz⟩ := h
  have e : ∀ j, 3 ≤ j → zup s.1 k v j = s.1 j := fun j hj => by rw [zup_eq, if_neg (by omega)]
  refine ⟨⟨⟨fun j hj => ?_, ?_, ?_, ?_⟩, g2, g3, g4.z (e 3 (by decide)), g5, g6⟩, ?_⟩
  · show inR (zup s.1 k v j) 0 99
    rw [zup_eq]
    split
    · exact hv
    · exact g1.1 j hj
  · show inR (zup s.1 k v 4) 0 C
    rw [e 4 (by decide)]
    exact g1.2.1
  · show inR (zup s.1 k v 5) 0 9
    rw [e 5 (by decide)]
    exact g1.2.2.1
  · show inR (zup s.1 k v 11) 0 T
    rw [e 11 (by decide)]
    exact g1.2.2.2
  · show inR (zup s.1 k v 6) 0 Z
    rw [e 6 (by decide)]
    exact hz
theorem scat_gd {T C Z : Nat} {s : mS} (h : gd T C Z s) {c : Int32} (hc : inR c 0 99) : gd T (C + 99) Z (zup s.1 4 (s.1 4 + c), s.2) := by
  obtain ⟨⟨g1, g2, g3, g4, g5, g6⟩, hz⟩ := h
  have e : ∀ j, j ≠ 4 → zup s.1 4 (s.1 4 + c) j = s.1 j := fun j hj => by rw [zup_eq, if_neg hj]
  have e4 : zup s.1 4 (s.1 4 + c) 4 = s.1 4 + c := by rw [zup_eq, if_pos rfl]
  have K : okZ T (C + 99) (zup s.1 4 (s.1 4 + c)) := by
    refine ⟨fun j hj => ?_, ?_, ?_, ?_⟩
    · rw [e j (by omega)]
      exact g1.1 j hj
    · rw [e4]
      obtain ⟨a, rfl, -, ha⟩ := hc
      exact (g1.2.1.add a).mono (Nat.zero_le _) (by omega)
    · rw [e 5 (by decide)]
      exact g1.2.2.1
    · rw [e 11 (by decide)]
      exact g1.2.2.2
  exact ⟨⟨K, g2, g3, g4.z (e 3 (by decide)), g5, g6⟩, hz⟩
theorem sdA_gd {T C Z : Nat} {s : mS} (h : gd T C Z s) {i : Nat} (hT : T ≤ 2147483647) (hi : i < s.2.2.2.1.length) : gd T C Z (sdA s i) := by
  obtain ⟨⟨g1, g2, g3, g4, g5, g6⟩, hz⟩ := h
  have e : ∀ v, ∀ j, j ≠ 10 → zup s.1 10 v j = s.1 j := fun v j hj => by rw [zup_eq, if_neg hj]
  have K : ∀ v, okZ T C (zup s.1 10 v) := fun v => by
    refine ⟨fun j hj => ?_, ?_, ?_, ?_⟩
    · rw [e v j (by omega)]
      exact g1.1 j hj
    · rw [e v 4 (by decide)]
      exact g1.2.1
    · rw [e v 5 (by decide)]
      exact g1.2.2.1
    · rw [e v 11 (by decide)]
      exact g1.2.2.2
  unfold sdA
  rw [filter_erase (fun e he => (g5.2 e he).tk hT) hi rfl]
  refine ⟨⟨K _, g2, g3, g4.z rfl, ⟨?_, fun e he => g5.2 e (List.mem_of_mem_eraseIdx he)⟩, evAdd_len g6⟩, hz⟩
  show (s.2.2.2.1.eraseIdx i).length ≤ 10
  rw [List.length_eraseIdx]
  split <;> omega
theorem wlC_gd {T C Z : Nat} {s : mS} (h : gd T C Z s) {nm : Nat} {kind wanted limit purse patience : Int32} (hn : nmOk nm) (h1 : inR kind 0 2) (h2 : inR wanted 1 9) (h3 : inR limit 1 99) (h4 : inR purse 0 999) (h5 : inR patience 1 99) (hl : s.2.2.2.1.length < 10) : gd (T + 1) C Z (wlC s nm kind wanted limit purse patience) := by
  refine ⟨wlC_wf h.1 hn h1 h2 h3 h4 h5 hl, ?_⟩
  exact h.2
theorem rng {v : Int32} {lo hi : Nat} (hh : hi < 2147483648) (hl : lo < 2147483648) (h : ¬ (v < nI lo ∨ nI hi < v)) : inR v lo hi := by
  have h1 : ¬ v < nI lo := fun q => h (Or.inl q)
  have h2 : ¬ nI hi < v := fun q => h (Or.inr q)
  have h0 : ¬ v < 0 := fun q => by
    have a : (0 : Int32) ≤ nI lo := nI_le (a := 0) (Nat.zero_le _) hl
    exact h1 (Int32.lt_of_lt_of_le q a)
  obtain ⟨a, ha, rfl⟩ := nI_of h0
  refine ⟨a, rfl, Nat.not_lt.mp fun q => h1 ((nI_ltI ha hl).mpr q), Nat.not_lt.mp fun q => h2 ((nI_ltI hh ha).mpr q)⟩
-- every call
def nxt (T C Z : Nat) (m m' : mX) : Prop := inv T C Z m → inv (T + 1) (C + 18000) (Z + 2880) m'
variable {T C Z : Nat} {m : mX}
theorem inv.up (h : inv T C Z m) : inv (T + 1) (C + 18000) (Z + 2880) m := h.mono (Nat.le_add_right _ _) (Nat.le_add_right _ _) (Nat.le_add_right _ _)
theorem gd.up {s : mS} (h : gd T C Z s) : gd (T + 1) (C + 18000) (Z + 2880) s := h.mono (Nat.le_add_right _ _) (Nat.le_add_right _ _) (Nat.le_add_right _ _)
theorem q_bake_inv (h : inv T C Z m) (i k : Int32) : inv (T + 1) (C + 18000) (Z + 2880) (q_bake m i k).2.2 := by
  unfold q_bake
  split
  · exact h.up
  · next hb =>
    split
    · exact h.up
    · next hk =>
      split
      · next hr =>
        obtain ⟨j, rfl, hj⟩ := ixN hb (by have := h.1.1.2.1.1; omega)
        rw [nI_clamp (by have := h.1.1.2.1.1; omega)] at hr ⊢
        refine (h.psh (bgB_gd h.1 (ix_in hk) ?_)).up
        unfold rfB
        rw [gD_of dB hj]
        exact hr
      · exact h.up
theorem q_auction_inv (hT : T ≤ 2147483647) (h : inv T C Z m) (k : Int32) : inv (T + 1) (C + 18000) (Z + 2880) (q_auction m k).2.2 := by
  unfold q_auction
  split
  · exact h.up
  · next hk =>
    exact (h.up).psh ((hdOut_gd hT h.1 (ix_in hk)).mono (Nat.le_add_right _ _) (by omega) (Nat.le_add_right _ _))
theorem q_sendAway_inv (hT : T ≤ 2147483647) (h : inv T C Z m) (i : Int32) : inv (T + 1) (C + 18000) (Z + 2880) (q_sendAway m i).2.2 := by
  unfold q_sendAway
  split
  · exact h.up
  · next hb =>
    have hl := h.1.1.2.2.2.2.1.1
    obtain ⟨j, rfl, hj⟩ := ixN hb (by omega)
    rw [nI_clamp (by omega)]
    exact (h.psh (sdA_gd h.1 hT hj)).up
theorem q_setBasePrice_inv (h : inv T C Z m) (k p : Int32) : inv (T + 1) (C + 18000) (Z + 2880) (q_setBasePrice m k p).2.2 := by
  unfold q_setBasePrice
  split
  · exact h.up
  · next hk =>
    split
    · exact h.up
    · next hp =>
      obtain ⟨j, rfl, hj⟩ := ixN hk (by decide)
      rw [nI_clamp (by omega)]
      exact (h.psh (zup_gd h.1 hj ((rng (lo := 1) (hi := 99) (by decide) (by decide) hp).mono (Nat.zero_le _) (Nat.le_refl _)))).up
theorem q_scatter_inv (h : inv T C Z m) (c : Int32) : inv (T + 1) (C + 18000) (Z + 2880) (q_scatter m c).2.2 := by
  unfold q_scatter
  split
  · exact h.up
  · next hp =>
    exact h.up.psh ((scat_gd h.1 ((rng (lo := 1) (hi := 99) (by decide) (by decide) hp).mono (Nat.zero_le _) (Nat.le_refl _))).mono (Nat.le_add_right _ _) (by omega) (Nat.le_add_right _ _))
theorem q_passHours_inv (hT : T ≤ 2147483647) (hC : C + 18000 < 2147483648) (h : inv T C Z m) (n : Int32) : inv (T + 1) (C + 18000) (Z + 2880) (q_passHours m n).2.2 := by
  unfold q_passHours
  split
  · exact h.up
  · next hp =>
    obtain ⟨a, rfl, -, ha⟩ := rng (lo := 1) (hi := 60) (by decide) (by decide) hp
    rw [nI_clamp (by omega)]
    exact h.up.psh ((hrsN_gd hT a (by omega) h.1).mono (Nat.le_add_right _ _) (by omega) (by omega))
theorem q_joinQueue_inv (h : inv T C Z m) (k w l p t : Int32) : inv (T + 1) (C + 18000) (Z + 2880) (q_joinQueue m k w l p t).2.2 := by
  unfold q_joinQueue
  split
  · exact h.up
  · next hk =>
    split
    · exact h.up
    · next hw =>
      split
      · exact h.up
      · next hl =>
        split
        · exact h.up
        · next hp =>
          split
          · exact h.up
          · next ht =>
            split
            · exact h.up
            · next hn =>
              split
              · exact h.up
              · next hf =>
                have g : inv (T + 1) (C + 18000) (Z + 2880) (psh m (wlC m.s (nmF m.f 0 m.n) k w l p t)) := by
                  refine h.up.psh ((wlC_gd h.1 (pkN_nm hn).2 (ix_in hk) (rng (lo := 1) (hi := 9) (by decide) (by decide) hw) (rng (lo := 1) (hi := 99) (by decide) (by decide) hl) (rng (lo := 0) (hi := 999) (by decide) (by decide) hp) (rng (lo := 1) (hi := 99) (by decide) (by decide) ht) ?_).mono (Nat.le_refl _) (Nat.le_add_right _ _) (Nat.le_add_right _ _))
                  exact Nat.not_le.mp fun q => hf (Or.inl q)
                exact g
theorem q_load_inv (hT : 600 ≤ T) (hC : 10800000 ≤ C) (hZ : 1728000 ≤ Z) (hn : m.n ≤ 600) (h : inv T C Z m) : inv (T + 1) (C + 18000) (Z + 2880) (q_load m).2.2 := by
  unfold q_load
  split
  · have g : inv T C Z (psh m (sdRead m.f m.n s00).1) := h.psh ((sdRead_gd hn).mono hT hC hZ)
    exact g.up
  · exact h.up
theorem q_undo_inv (h : inv T C Z m) : inv (T + 1) (C + 18000) (Z + 2880) (q_undo m).2.2 := by
  unfold q_undo
  split
  · exact h.up
  · next hl =>
    refine ⟨?_, h.up.2.1, fun s hs => h.up.2.2 s (List.mem_of_mem_take hs)⟩
    show gd _ _ _ (m.past.getD (m.past.length - 1) m.s)
    refine (h.2.2 _ ?_).up
    rw [List.getD_eq_getElem?_getD, List.getElem?_eq_getElem (by omega)]
    exact List.getElem_mem _
theorem q_save_inv (h : inv T C Z m) (i : Int32) : inv (T + 1) (C + 18000) (Z + 2880) (q_save m i).2.2 := by
  unfold q_save
  split
  · exact h.up
  · refine ⟨h.up.1, fun k s hs => ?_, h.up.2.2⟩
    have hs : (if k = i.toNatClampNeg then some m.s else m.sl k) = some s := hs
    split at hs
    · cases hs
      exact h.up.1
    · exact h.up.2.1 k s hs
theorem q_restore_inv (h : inv T C Z m) (i : Int32) : inv (T + 1) (C + 18000) (Z + 2880) (q_restore m i).2.2 := by
  unfold q_restore
  split
  · exact h.up
  · split
    · next s hs => exact (h.psh (h.2.1 _ s hs)).up
    · exact h.up
theorem q_appendInput_inv (h : inv T C Z m) (a b c d e : Int32) : inv (T + 1) (C + 18000) (Z + 2880) (q_appendInput m a b c d e).2.2 := by
  unfold q_appendInput
  split <;> exact h.up
theorem q_truncateInput_inv (h : inv T C Z m) (l : Int32) : inv (T + 1) (C + 18000) (Z + 2880) (q_truncateInput m l).2.2 := by
  unfold q_truncateInput
  split <;> exact h.up
