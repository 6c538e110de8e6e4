-- behind: 72
-- the law: what holds at its loop's head
theorem WP.dstore {Γ : cG} {r : cRm} {M : cM} {Φ : cRes → cAS → Prop} {pc : Nat} {L : List (Option Value)} {st : List Value} {σ : cAS} {n : Nat} {x : UInt64} (d : decode (mC M) pc = .ok (.dstore n, 2)) (hn : n + 1 < mL M) (h0 : ∀ j w, j + 1 = n → L[j]? = some (some w) → w.category = 1) (k : WP Γ r M Φ (pc + 2) ((L.set n (some (.double x))).set (n + 1) none) st σ) : WP Γ r M Φ pc L (.double x :: st) σ := by
  intro p e R s m args below meth c H locs cells slots ls hO hS
  refine lv_dstore hO.1 hO.2.1 d hS.2.2.2.1.has hn rfl (fun ls' h' => k p e R s m args below meth c H locs cells slots ls' hO ⟨hS.1, hS.2.1, hS.2.2.1, ?_, hS.2.2.2.2⟩)
  obtain ⟨h1, h2, h3⟩ := h'
  refine ⟨h1, h2, by rw [List.length_set, List.length_set]; exact hS.2.2.2.1.2.2.1, fun j w hj => ?_⟩
  rw [List.getElem?_set] at hj
  by_cases e1 : n + 1 = j
  · rw [if_pos e1] at hj
    split at hj <;> cases hj
  · rw [if_neg e1, List.getElem?_set] at hj
    by_cases e : n = j
    · subst e
      rw [if_pos rfl] at hj
      split at hj
      · cases hj
        exact h3 _ List.mem_cons_self
      · cases hj
    · rw [if_neg e] at hj
      refine h3 (j, w) (List.mem_cons_of_mem _ (List.mem_filter.mpr ⟨cLp_mem.mpr hj, ?_⟩))
      by_cases e2 : j + 1 = n
      · have := h0 j w e2 hj
        simp [Ne.symm e, Ne.symm e1, this]
      · simp [Ne.symm e, Ne.symm e1, e2]
abbrev ML_law (nm : String × List (Nat × Nat × Nat × Nat)) : cM := (⟨RL, nm.1, "([I)Z"⟩, cL_law, 9, (some FieldType.boolean), nm.2)
abbrev lwL (Γ : cG) (x i : Nat) (a b c d : Option Value) : List (Option Value) := [some (.ref (gX Γ).1), some (.ref x), some (.ref (x + 62)), some (.ref (x + 74)), some (.int (nI i)), a, b, c, d]
def lwO : cRes → cAS → Prop := fun r _ => r = .inl (some (.int 1))
def SI (σ : cAS) (x : Nat) (mm : mX) : Prop := xAt σ x mm ∧ shM σ (x + 62) ∧ mdI (aI σ) (x + 62) mm ∧ aT σ (x + 74) = (14, 1)
def bd (T C Z : Nat) : Prop := 600 ≤ T ∧ T ≤ 2000 ∧ 10800000 ≤ C ∧ C ≤ 21000000 ∧ 1728000 ≤ Z ∧ Z ≤ 4000000
theorem bd.T {T C Z : Nat} (h : bd T C Z) : T ≤ 2147483647 := by unfold bd at h; omega
theorem bd.C {T C Z : Nat} (h : bd T C Z) : C + 30000 < 2147483648 := by unfold bd at h; omega
theorem bd.C2 {T C Z : Nat} (h : bd T C Z) : C + 18000 < 2147483648 := by unfold bd at h; omega
theorem bd.z6 {T C Z : Nat} {m : mX} (h : bd T C Z) (hv : inv T C Z m) : inR (m.s.1 6) 0 16777216 := hv.1.2.mono (Nat.le_refl _) (by unfold bd at h; omega)
def nxK (Γ : cG) (nm : String × List (Nat × Nat × Nat × Nat)) (x i k T C Z : Nat) : Prop := ∀ τ mm' a b c d, SI τ x mm' → inv (T + 1) (C + 18000) (Z + 2880) mm' → WP Γ (12, 260, 40 * k, 512 * k) (ML_law nm) lwO 3458 (lwL Γ x i a b c d) [] τ
/-- the model's steps leave the object alone -/
theorem xAt.md {σ : cAS} {x : Nat} {m : mX} {I : Nat → Nat → Int32} (h : xAt σ x m) (hf : fr (aI σ) I (x + 62) 12) : xAt (wI σ I) x m := by
  obtain ⟨a1, a2, a3, a4, a5, a6⟩ := h
  refine ⟨a1.of rfl rfl, a2, a3.ext (fun a c1 c2 => hf a (by omega)), ?_, a5.of rfl rfl (Nat.le_refl _), a6.of a5 rfl (fun a ha => ?_)⟩
  · unfold flAt at a4 ⊢
    rw [show aI (wI σ I) (x + 27) = aI σ (x + 27) from hf _ (by omega), show aI (wI σ I) (x + 56) = aI σ (x + 56) from hf _ (by omega), show aI (wI σ I) x = aI σ x from hf _ (by omega), show aI (wI σ I) (x + 59) = aI σ (x + 59) from hf _ (by omega)]
    exact a4
  · exact hf a (by omega)
theorem SI.x {σ τ : cAS} {x : Nat} {mm mm' : mX} (h : SI σ x mm) (hx : xAt τ x mm') (hk : ∀ a, x + 62 ≤ a → a < x + 75 → aT τ a = aT σ a ∧ aI τ a = aI σ a ∧ aR τ a = aR σ a) : xAt τ x mm' ∧ shM τ (x + 62) ∧ mdI (aI τ) (x + 62) mm ∧ aT τ (x + 74) = (14, 1) := by
  obtain ⟨-, h2, h3, h4⟩ := h
  refine ⟨hx, ⟨fun k hk' => ?_, fun q hq => ?_⟩, h3.fr (fun b hb => (hk b (by omega) (by omega)).2.1) (fun j _ => congrFun (hk (x + 62) (by omega) (by omega)).2.1 j), ((hk _ (by omega) (by omega)).1).trans h4⟩
  · have : k < 12 := by
      have : ∀ k ∈ [0, 1, 2, 3, 4, 5, 6, 7, 8, 9, 10, 11], k < 12 := by decide
      exact this k hk'
    rw [(hk _ (by omega) (by omega)).1]
    exact h2.1 k hk'
  · have : q.1 < 12 := by
      have : ∀ q ∈ shMR, q.1 < 12 := by decide
      exact this q hq
    rw [(hk _ (by omega) (by omega)).2.2]
    exact h2.2 q hq
theorem SI.m {τ : cAS} {x : Nat} {mm' : mX} {I : Nat → Nat → Int32} (hx : xAt τ x mm') (hm : shM τ (x + 62)) (ho : aT τ (x + 74) = (14, 1)) (hd : mdI I (x + 62) mm') (hf : fr (aI τ) I (x + 62) 12) : SI (wI τ I) x mm' := ⟨hx.md hf, ⟨hm.1, hm.2⟩, hd, ho⟩
theorem and63 (w : Int32) : ∃ n, n < 64 ∧ w &&& 63 = nI n := by
  refine ⟨w.toBitVec.toNat % 64, Nat.mod_lt _ (by decide), ?_⟩
  apply Int32.toBitVec_inj.mp
  apply BitVec.eq_of_toNat_eq
  rw [Int32.toBitVec_and, BitVec.toNat_and]
  show w.toBitVec.toNat &&& (2 ^ 6 - 1) = (BitVec.ofNat 32 (w.toBitVec.toNat % 64)).toNat
  rw [Nat.and_two_pow_sub_one_eq_mod, BitVec.toNat_ofNat]
  omega
theorem lg_self (a : Int64) : lg_cmp a a = 0 := by
  unfold lg_cmp
  simp
theorem mean_num (m : mX) (hl : m.s.2.2.1.length < 2147483648) : vf_n64 (q_meanAge m) := by
  unfold q_meanAge
  split
  · exact nn64 (by decide +kernel)
  · exact div_n64 _ _ (nI_ne0 (by omega) (by omega))
theorem share_num (m : mX) (hk : inR (m.s.1 6) 0 16777216) : vf_n32 (q_soldShare m) := by
  obtain ⟨a, ha, -, ha2⟩ := hk
  unfold q_soldShare
  split
  · exact nn32 (by decide +kernel)
  · next h =>
    rw [ha] at h ⊢
    refine div_n32 _ (fun q => h ?_) ha2
    rw [q]
    decide
theorem dcmp0 {r : UInt64} {op : CmpOp} (h : vf_n64 r) : Op.cmpValue (Jvm.FP.dcmp r r) op = 0 := by
  rw [dcmp_self h]
  rfl
section T
variable (Γ : cG) {σ : cAS} {m : Nat}
theorem CX9_thrown {I : Nat → Nat → Int32} (hm : shM σ m) : Ctr Γ (0, 0, 0, 0) MX9_thrown [.ref m] (wI σ I) (rV (some (.int (I m 8))) (wI σ I)) := by
  refine Ctr.go rfl (by decide) rfl rfl ?_
  refine WP.aload_n (pc := 0) dX9_thrown_0 rfl ?_
  refine WP.gI (pc := 1) uX9 fX9_75 hm.t0 dX9_thrown_1 ?_
  exact WP.iret (pc := 4) rfl dX9_thrown_4 ⟨rfl, rfl⟩
end T
