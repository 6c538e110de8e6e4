section CN
variable {Γ : cG} {r : cRm} {M : cM} {Φ : cRes → cAS → Prop} {pc : Nat} {L : List (Option Value)} {st : List Value} {σ : cAS}
theorem WP.iaN {a b : Nat} {x y : Int32} (hx : x = nI a) (hy : y = nI b) (d : decode (mC M) pc = .ok (.iadd, 1)) (k : WP Γ r M Φ (pc + 1) L (.int (nI (a + b)) :: st) σ) : WP Γ r M Φ pc L (.int y :: .int x :: st) σ := by
  subst hx
  subst hy
  refine WP.iadd d ?_
  rw [nI_add]
  exact k
theorem WP.imN {a b : Nat} {x y : Int32} (hx : x = nI a) (hy : y = nI b) (d : decode (mC M) pc = .ok (.imul, 1)) (k : WP Γ r M Φ (pc + 1) L (.int (nI (a * b)) :: st) σ) : WP Γ r M Φ pc L (.int y :: .int x :: st) σ := by
  subst hx
  subst hy
  refine WP.imul d ?_
  rw [pk_mul]
  exact k
theorem WP.idN {a b : Nat} {y : Int32} (hy : y = nI b) (ha : a < 2147483648) (h0 : 0 < b) (hb : b < 2147483648) (d : decode (mC M) pc = .ok (.idiv, 1)) (k : WP Γ r M Φ (pc + 1) L (.int (nI (a / b)) :: st) σ) : WP Γ r M Φ pc L (.int y :: .int (nI a) :: st) σ := by
  subst hy
  refine WP.idiv d (nI_ne0 h0 hb) ?_
  rw [pk_div ha h0 hb]
  exact k
theorem WP.irN {a b : Nat} {y : Int32} (hy : y = nI b) (ha : a < 2147483648) (h0 : 0 < b) (hb : b < 2147483648) (d : decode (mC M) pc = .ok (.irem, 1)) (k : WP Γ r M Φ (pc + 1) L (.int (nI (a % b)) :: st) σ) : WP Γ r M Φ pc L (.int y :: .int (nI a) :: st) σ := by
  subst hy
  refine WP.irem d (nI_ne0 h0 hb) ?_
  rw [pk_rem ha h0 hb]
  exact k
end CN
-- the script's cells, each without its highest bit
def clN (Γ : cG) (k : Nat) : Nat := if k < (gX Γ).2.1 then ((gX Γ).2.2 k).toBitVec.toNat % 2 ^ 31 else 0
theorem clN_lt (Γ : cG) (k : Nat) : clN Γ k < 2147483648 := by
  unfold clN
  split
  · exact Nat.mod_lt _ (by decide)
  · decide
section T
variable (Γ : cG) {σ : cAS} {B0 b v m : Nat} {l : List Nat}
theorem CL_cell (hN : (gX Γ).2.1 ≤ 260) {k : Nat} (hk : k < 1000) : Ctr Γ (0, 0, 0, 0) ML_cell [.ref (gX Γ).1, .int (nI k)] σ (rV (some (.int (nI (clN Γ k)))) σ) := by
  refine Ctr.go rfl (by decide) rfl rfl ?_
  refine WP.iload_n (pc := 0) dL_cell_0 rfl ?_
  refine WP.aload_n (pc := 1) dL_cell_1 rfl ?_
  refine WP.xN (pc := 2) dL_cell_2 ?_
  refine WP.icmp_ge (pc := 3) (tgt := 15) dL_cell_3 (by decide) (fun h => ?_) (fun h => ?_)
  · have hge : ¬ k < (gX Γ).2.1 := fun z => nI_ge z (by omega) h
    refine WP.iconst (pc := 15) (v := 0) dL_cell_15 (by decide) ?_
    refine WP.iret (pc := 16) rfl dL_cell_16 ⟨?_, rfl⟩
    unfold clN
    rw [if_neg hge]
    rfl
  · have hlt : k < (gX Γ).2.1 := Nat.lt_of_not_le (fun z => h (nI_le z (by omega)))
    refine WP.aload_n (pc := 6) dL_cell_6 rfl ?_
    refine WP.iload_n (pc := 7) dL_cell_7 rfl ?_
    refine WP.xA (pc := 8) hlt (by omega) dL_cell_8 ?_
    refine WP.ldc (pc := 9) qL_7 dL_cell_9 ?_
    refine WP.iand (pc := 11) dL_cell_11 ?_
    rw [pk_and _ 31 (by decide)]
    refine WP.goto (pc := 12) (tgt := 16) dL_cell_12 (by decide) ?_
    refine WP.iret (pc := 16) rfl dL_cell_16 ⟨?_, rfl⟩
    unfold clN
    rw [if_pos hlt]
theorem CL_kind {x : Nat} (hx : x < 2147483648) : Ctr Γ (0, 0, 0, 0) ML_kind [.int (nI x)] σ (rV (some (.ref (gK Γ (19 + x % 3)))) σ) := by
  refine Ctr.go rfl (by decide) rfl rfl ?_
  refine WP.iload_n (pc := 0) dL_kind_0 rfl ?_
  refine WP.iconst (pc := 1) (v := 3) dL_kind_1 (by decide) ?_
  refine WP.irN (pc := 2) (b := 3) rfl (by omega) (by omega) (by omega) dL_kind_2 ?_
  refine WP.if_ne (pc := 3) (tgt := 11) dL_kind_3 (by decide) (fun h => ?_) (fun h => ?_)
  · have h0 : x % 3 ≠ 0 := fun z => h (by rw [z]; rfl)
    refine WP.iload_n (pc := 11) dL_kind_11 rfl ?_
    refine WP.iconst (pc := 12) (v := 3) dL_kind_12 (by decide) ?_
    refine WP.irN (pc := 13) (b := 3) rfl (by omega) (by omega) (by omega) dL_kind_13 ?_
    refine WP.iconst (pc := 14) (v := 1) dL_kind_14 (by decide) ?_
    refine WP.icmp_ne (pc := 15) (tgt := 23) dL_kind_15 (by decide) (fun h2 => ?_) (fun h2 => ?_)
    · have h1 : x % 3 ≠ 1 := fun z => h2 (by rw [z]; rfl)
      refine WP.ldcS (pc := 23) (j := 21) (List.mem_of_getElem? (i := 21) rfl) dL_kind_23 ?_
      exact WP.aret (pc := 25) rfl (Or.inl ⟨_, rfl⟩) dL_kind_25 ⟨by rw [show 19 + x % 3 = 21 by omega], rfl⟩
    · have h1 : x % 3 = 1 := (nI_eq (by omega) (by omega)).mp h2
      refine WP.ldcS (pc := 18) (j := 20) (List.mem_of_getElem? (i := 20) rfl) dL_kind_18 ?_
      refine WP.goto (pc := 20) (tgt := 25) dL_kind_20 (by decide) ?_
      exact WP.aret (pc := 25) rfl (Or.inl ⟨_, rfl⟩) dL_kind_25 ⟨by rw [show 19 + x % 3 = 20 by omega], rfl⟩
  · have h0 : x % 3 = 0 := (nI_eq (by omega) (by omega)).mp h
    refine WP.ldcS (pc := 6) (j := 19) (List.mem_of_getElem? (i := 19) rfl) dL_kind_6 ?_
    refine WP.goto (pc := 8) (tgt := 25) dL_kind_8 (by decide) ?_
    exact WP.aret (pc := 25) rfl (Or.inl ⟨_, rfl⟩) dL_kind_25 ⟨by rw [show 19 + x % 3 = 19 by omega], rfl⟩
-- the builder, its text, a bound of its length
def capO (m : Nat) : Prop := m = 23 ∨ m = 48 ∨ m = 98 ∨ m = 198
theorem capO.gw {m q : Nat} (h : capO m) (hq : q ≤ 198) : capO (gwN q m) := by
  unfold capO gwN at *
  split
  · exact h
  · omega
def SB (σ : cAS) (B0 b : Nat) (l : List Nat) (n : Nat) : Prop := l.length ≤ n ∧ ∃ v m, sbC σ B0 b l v m ∧ capO m
theorem SB.t {n : Nat} (h : SB σ B0 b l n) : aT σ b = (15 + 1, 4) := by
  obtain ⟨-, v, m, h, -⟩ := h
  exact h.2.2.2.2.1
theorem AC {c n : Nat} (h : SB σ B0 b l n) (hc : c < 128) (hn : n + 1 ≤ 198) : Ctr Γ (6, 170, 1, 402) MJ4_append_cf468 [.ref b, .int (nI c)] σ (rS (fun w τ => w = some (.ref b) ∧ SB τ B0 b (l ++ [c]) (n + 1) ∧ kpB σ τ B0)) := by
  obtain ⟨hl, v, m, hs, hm⟩ := h
  refine Ctr.post (CJ4_appendC Γ hs hc (by unfold capO at hm; omega)) (fun w τ ⟨h1, ⟨v', h2⟩, h3⟩ => ?_)
  exact ⟨h1, ⟨by simp; omega, v', _, h2, hm.gw (by omega)⟩, h3⟩
theorem AI {x n : Nat} (h : SB σ B0 b l n) (hx : x < 1000) (hn : n + 3 ≤ 198) : Ctr Γ (6, 170, 1, 402) MJ4_append_bf812 [.ref b, .int (nI x)] σ (rS (fun w τ => w = some (.ref b) ∧ SB τ B0 b (l ++ dgs x) (n + 3) ∧ kpB σ τ B0)) := by
  obtain ⟨hl, v, m, hs, hm⟩ := h
  have hl3 : (dgs x).length ≤ 3 := by rw [(dgs_fact x hx).1]; split <;> (try split) <;> omega
  refine Ctr.post (CJ4_appendI Γ hs hx (by unfold capO at hm; omega) (by unfold capO at hm; omega)) (fun w τ ⟨h1, ⟨v', h2⟩, h3⟩ => ?_)
  exact ⟨h1, ⟨by simp; omega, v', _, h2, hm.gw (by omega)⟩, h3⟩
theorem AS {j n N : Nat} (h : SB σ B0 b l n) (hj : j < 30) (hjN : cTL j ≤ N) (hN : N ≤ 20) (hn : n + N ≤ 198) : Ctr Γ (6, 180, 1, 402) MJ4_append_15ec4 [.ref b, .ref (gK Γ j)] σ (rS (fun w τ => w = some (.ref b) ∧ SB τ B0 b (l ++ cTx j) (n + N) ∧ kpB σ τ B0)) := by
  obtain ⟨hl, v, m, hs, hm⟩ := h
  refine Ctr.post (CJ4_appendS Γ hj hs (by unfold capO at hm; omega) (by unfold capO at hm; omega)) (fun w τ ⟨h1, ⟨v', h2⟩, h3⟩ => ?_)
  refine ⟨h1, ⟨?_, v', _, h2, hm.gw (by omega)⟩, h3⟩
  rw [List.length_append]
  have e : (cTx j).length = cTL j := rfl
  omega
end T
