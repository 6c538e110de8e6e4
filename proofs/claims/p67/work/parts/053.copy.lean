section CHP
variable {Γ : cG} {r : cRm} {M : cM} {Φ : cRes → cAS → Prop} {pc : Nat} {L : List (Option Value)} {st : List Value} {σ : cAS}
theorem cNest_tab {w : Cond} (h : cNest w = true) : w.onTables = true := by
  cases w <;> first | rfl | cases h
theorem cNn {z : Int32} (hz : ¬ z < 0) : z.toInt = (z.toNatClampNeg : Int) := by
  have hz0 : (0 : Int) ≤ z.toInt := by
    have := Int32.not_lt.mp hz
    simpa using Int32.le_iff_toInt_le.mp this
  show z.toInt = ((z.toInt.toNat : Nat) : Int)
  omega
/-- System.arraycopy over rows of ints -/
theorem WP.copy {f lo mc ms index a0 a n0 n1 : Nat} {sp dp n : Int32} (h1 : Cond.methodLink (mY M).cls index arraycopyName ∈ cALL) (h2 : Cond.native arraycopyName ∈ cALL) (h3 : Cond.static arraycopyName ∈ cALL) (h4 : Cond.initialized "java/lang/System" ∈ cALL) (ht0 : aT σ a0 = (11, n0)) (ht1 : aT σ a = (11, n1)) (g1 : ¬ sp < 0) (g2 : ¬ dp < 0) (g3 : ¬ n < 0) (g4 : sp.toNatClampNeg + n.toNatClampNeg ≤ n0) (g5 : dp.toNatClampNeg + n.toNatClampNeg ≤ n1) (hf : 1 ≤ f) (hlo : (st.map fun v => v.category).sum + (nativeFrameWords "java/lang/System" "arraycopy" 5 + 11) ≤ lo) (d : decode (mC M) pc = .ok (.invokestatic index, 3)) (k : WP Γ (f, lo, mc, ms) M Φ (pc + 3) L st (sC σ a0 a sp.toNatClampNeg dp.toNatClampNeg n.toNatClampNeg)) : WP Γ (f, lo, mc, ms) M Φ pc L (.int n :: .int dp :: .ref a :: .int sp :: .ref a0 :: st) σ := by
  intro p e R s m args below meth c H locs cells slots ls hO hS
  have hal := hS.1
  dsimp only at hal
  have hat := hS.2.1.at ht1 (by omega)
  have e0 := hS.2.1.arr (Nat.le_refl _) (by omega) ht0
  have e1 := hS.2.1.arr (Nat.le_refl _) (by omega) ht1
  have hV : ∀ b, (fun j => cV σ b 11 j) = fun j => Value.int (aI σ b j) := fun b => rfl
  rw [hV] at e0 e1
  have hArr := (hO.w.arr (kd := 11) (by omega) (by omega)).1
  obtain ⟨-, k0, hk0, cm0, hkk0⟩ := hArr n0 (fun j => .int (aI σ a0 j))
  obtain ⟨-, k1, hk1, cm1, hkk1⟩ := hArr n1 (fun j => .int (aI σ a j))
  intro T hT X
  obtain ⟨vm', X', step⟩ := X.arraycopy hO.1 hO.2.2.2.1 (cHts hO _ h1) (cHts hO _ h2) (cHts hO _ h3) (cHts hO _ h4) (src := a0) (dst := a) (srcPos := sp) (destPos := dp) (n := n) (by rw [hT]; exact e0) (by rw [hT]; exact e1)
    (fun _ h => by cases h) (fun _ h => by cases h) (fun h => by cases h) (fun h => by cases h) hk0 hk1 hkk0 hkk1 rfl g1 g2 g3
    (by rw [cNn g1, cNn g3, arrV_size]; omega)
    (by rw [cNn g2, cNn g3, arrV_size]; omega)
    (fun vm₁ _ i hi => by
      have e : (arrV (gA Γ 11) n0 (fun j => Value.int (aI σ a0 j))).slots.getD (sp.toNatClampNeg + i) .null = .int (aI σ a0 (sp.toNatClampNeg + i)) := by
        rw [Array.getD_eq_getD_getElem?, arrV_read _ _ (by omega)]
        rfl
      refine ⟨?_, ?_⟩
      · rw [e]
        rfl
      · rw [e]
        exact trivial)
    (g := F0 m pc ls (.int n :: .int dp :: .ref a :: .int sp :: .ref a0 :: st)) rfl (hS.2.2.2.1.1.trans hO.2.2.1.symm) (rest := st) rfl (by rw [hO.2.1]; exact d) (by omega) (by show 2 * 0 + _ + _ ≤ _; omega)
  have e2 : copied (arrV (gA Γ 11) n0 (fun j => Value.int (aI σ a0 j))) (arrV (gA Γ 11) n1 (fun j => Value.int (aI σ a j))) sp dp n = arrV (gA Γ 11) n1 (fun j => Value.int (va_cpy (aI σ a0) (aI σ a) sp.toNatClampNeg dp.toNatClampNeg n.toNatClampNeg j)) := va_copied (fun z => .int z) _ _ _ _ g4
  rw [e2] at X' step
  have hl : a < H.size := hat.2.1
  generalize hcd : arrV (gA Γ 11) n1 (fun j => Value.int (va_cpy (aI σ a0) (aI σ a) sp.toNatClampNeg dp.toNatClampNeg n.toNatClampNeg j)) = cd at X' step
  have hheap : ((T.setVm vm').setCell a cd).heap = H.setIfInBounds a cd := by rw [← hT]; rfl
  have oq : ∀ q : Nat, q ≠ a → (H.setIfInBounds a cd)[q]? = H[q]? := fun q hq => by simp [Array.getElem?_setIfInBounds, Ne.symm hq]
  have hR : cRep Γ (sC σ a0 a sp.toNatClampNeg dp.toNatClampNeg n.toNatClampNeg) (H.setIfInBounds a cd) := by
    refine hS.2.1.put ht1 (by omega) rfl rfl cV_sC ?_ (by simp) oq
    unfold cAt
    rw [if_neg (by omega)]
    have e4 : (H.setIfInBounds a cd)[a]? = some cd := by simp [Array.getElem?_setIfInBounds, hl]
    rw [e4, ← hcd]
    congr 2
    funext j
    show _ = Value.int (aI (sC σ a0 a _ _ _) a j)
    rw [aI_sC, if_pos rfl]
  obtain ⟨t, a1, b1⟩ := k p e R s m args below meth c _ _ cells slots ls hO ⟨hS.1, hR, by rw [Array.size_setIfInBounds]; exact hS.2.2.1, hS.2.2.2.1, fun q hq => by
      rcases List.mem_append.mp hq with h | h
      · exact hS.2.2.2.2 q h
      · obtain ⟨z, -, hz⟩ := List.mem_map.mp h
        rw [← hz]
        exact hat.1⟩ _ hheap X'
  exact ⟨t, step t a1, b1⟩
-- exceptions that the class throws itself
def cNms : List String := ["java/lang/RuntimeException", "java/lang/Exception"]
def cKT (own E text : String) (ik is ic sa : Nat) : Prop :=
  Bundle.fit E = true ∧ (∀ n ∈ cNms, Bundle.fit n = true) ∧ Cond.classLink own ik E ∈ cALL ∧ Cond.initialized E ∈ cALL ∧ (own, is, text, sa) ∈ cSTR ∧ (∀ w ∈ vx_atS own ic E cNms, w ∈ cALL ∨ w ∈ cNW) ∧ ∀ w ∈ vx_atS own ic E cNms, vx_ot w = true
theorem cZq {C n d : String} {s : State} (h : vx_Zq C n d (gF Γ) s (gH Γ)) (hs : ∀ q : Nat, q < gB Γ → s.heap[q]? = (gH Γ)[q]?) : vx_Zq C n d (gF Γ) s s.heap := h.kept (fun a ha _ => hs a ha)
theorem cVaS {s : State} {H : Heap} {locs : List Loc} (hR : cRep Γ σ H) (hz : s.heap.size ≤ H.size) (hs : ∀ q : Nat, q < gB Γ → s.heap[q]? = (gH Γ)[q]?) (hl : ∀ z ∈ locs, gF Γ z.base) : va_S (gF Γ) s.heap H locs := ⟨hz, fun q _ h2 => by rw [hR.2.1 q (Nat.not_le.mp h2), hs q (Nat.not_le.mp h2)], hl⟩
theorem cRep.more {H H' : Heap} (h : cRep Γ σ H) (hz : H.size ≤ H'.size) (ho : ∀ q : Nat, q < H.size → H'[q]? = H[q]?) : cRep Γ (sX σ H'.size) H' := by
  obtain ⟨h1, h2, h3, h4⟩ := id h
  refine ⟨by omega, fun q hq => by rw [ho q (by omega)]; exact h2 q hq, rfl, fun b kb nb hb hk => ?_⟩
  obtain ⟨g1, g2, g3, g4⟩ := h4 b kb nb hb hk
  refine ⟨g1, g2, by omega, ?_⟩
  unfold cAt at g4 ⊢
  split
  · rename_i hle
    rw [if_pos hle] at g4
    exact ⟨g4.1, g4.2.kept (ho b g3)⟩
  · rename_i hle
    rw [if_neg hle] at g4
    rw [ho b g3]
    exact g4
theorem WP.throwS {f lo mc ms ik is ic sa : Nat} {E text : String} (hh : mH M = []) (lk : cKT (mY M).cls E text ik is ic sa) (hr : 6 ≤ f ∧ (st.map fun v => v.category).sum + 82 ≤ lo ∧ 1 ≤ mc ∧ 6 ≤ ms)
    (d0 : decode (mC M) pc = .ok (.new ik, 3)) (d3 : decode (mC M) (pc + 3) = .ok (.dup, 1)) (d4 : decode (mC M) (pc + 4) = .ok (.ldc is, 2)) (d6 : decode (mC M) (pc + 6) = .ok (.invokespecial ic, 3)) (d9 : decode (mC M) (pc + 9) = .ok (.athrow, 1))
    (h : ∀ n, aN σ ≤ n → Φ (.inr E) (sX σ n)) : WP Γ (f, lo, mc, ms) M Φ pc L st σ := by
  intro p e R s m args below meth c H locs cells slots ls hO hS
  obtain ⟨k1, k2, k3, k4, k5, k6, k7⟩ := lk
  have ha := hS.1
  dsimp only at ha
  have hsb := hO.2.2.2.2.2.2.2.2.2.2.2
  have hat : ∀ w ∈ vx_atS (mY M).cls ic E cNms, w.before args s = true := fun w hw => (k6 w hw).elim (cHts hO w) (fun h9 => va_Nw.use (cNest_tab (List.mem_filter.mp h9).2) (hO.w.2.2.1 w h9))
  refine vx_throwS (names := cNms) (A := gF Γ) (sa := gK Γ sa) (text := text) hO.1 hO.2.1 hO.w.2.2.2.2.2.2.2.2.2 hO.2.2.2.1 k1 k2 (cHts hO _ k3) (cHts hO _ k4) (hO.w.2.2.2.2.2.1 _ k5) hat (fun w hw => ?_) (cZq hO.w.2.2.2.2.1.1 hsb) (cZq hO.w.2.2.2.2.1.2 hsb) (cVaS hS.2.1 hS.2.2.1 hsb hS.2.2.2.2) (hS.2.2.2.1.1.trans hO.2.2.1.symm) d0 d3 d4 d6 d9 (fun x hx => ?_) (by show 2 + 3 < R.frames; omega) (by show _ + (13 * (2 + 1) + 43) ≤ _; omega) (by omega) (by omega) hO.2.2.2.2.2.1 (fun t _ hz ho => ⟨sX σ t.heap.size, h _ (by rw [hS.2.1.2.2.1]; exact hz), hS.2.1.more hz ho, by have := hS.2.2.1; omega⟩) hS.2.2.2.2 (by omega) (by omega)
  · rcases List.mem_cons.mp hw with rfl | hw
    · rfl
    · rcases List.mem_cons.mp hw with rfl | hw
      · rfl
      · exact k7 w hw
  · rw [hO.2.2.2.2.2.2.2.2.2.1, hh] at hx
    cases hx
theorem WP.throwSW {f lo mc ms ik is ic sa : Nat} {E text : String} (hh : mH M = []) (lk : cKT (mY M).cls E text ik is ic sa) (hr : 6 ≤ f ∧ (st.map fun v => v.category).sum + 82 ≤ lo ∧ 1 ≤ mc ∧ 6 ≤ ms)
    (d0 : decode (mC M) pc = .ok (.new ik, 3)) (d3 : decode (mC M) (pc + 3) = .ok (.dup, 1)) (d4 : decode (mC M) (pc + 4) = .ok (.ldc_w is, 3)) (d6 : decode (mC M) (pc + 7) = .ok (.invokespecial ic, 3)) (d9 : decode (mC M) (pc + 10) = .ok (.athrow, 1))
    (h : ∀ n, aN σ ≤ n → Φ (.inr E) (sX σ n)) : WP Γ (f, lo, mc, ms) M Φ pc L st σ := by
  intro p e R s m args below meth c H locs cells slots ls hO hS
  obtain ⟨k1, k2, k3, k4, k5, k6, k7⟩ := lk
  have ha := hS.1
  dsimp only at ha
  have hsb := hO.2.2.2.2.2.2.2.2.2.2.2
  have hat : ∀ w ∈ vx_atS (mY M).cls ic E cNms, w.before args s = true := fun w hw => (k6 w hw).elim (cHts hO w) (fun h9 => va_Nw.use (cNest_tab (List.mem_filter.mp h9).2) (hO.w.2.2.1 w h9))
  refine vx_throwSW (names := cNms) (A := gF Γ) (sa := gK Γ sa) (text := text) hO.1 hO.2.1 hO.w.2.2.2.2.2.2.2.2.2 hO.2.2.2.1 k1 k2 (cHts hO _ k3) (cHts hO _ k4) (hO.w.2.2.2.2.2.1 _ k5) hat (fun w hw => ?_) (cZq hO.w.2.2.2.2.1.1 hsb) (cZq hO.w.2.2.2.2.1.2 hsb) (cVaS hS.2.1 hS.2.2.1 hsb hS.2.2.2.2) (hS.2.2.2.1.1.trans hO.2.2.1.symm) d0 d3 d4 d6 d9 (fun x hx => ?_) (by show 2 + 3 < R.frames; omega) (by show _ + (13 * (2 + 1) + 43) ≤ _; omega) (by omega) (by omega) hO.2.2.2.2.2.1 (fun t _ hz ho => ⟨sX σ t.heap.size, h _ (by rw [hS.2.1.2.2.1]; exact hz), hS.2.1.more hz ho, by have := hS.2.2.1; omega⟩) hS.2.2.2.2 (by omega) (by omega)
  · rcases List.mem_cons.mp hw with rfl | hw
    · rfl
    · rcases List.mem_cons.mp hw with rfl | hw
      · rfl
      · exact k7 w hw
  · rw [hO.2.2.2.2.2.2.2.2.2.1, hh] at hx
    cases hx
end CHP
