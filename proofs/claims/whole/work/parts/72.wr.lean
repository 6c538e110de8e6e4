-- behind: 69.xn 70 68 67
-- the wrappers: what is thrown becomes a number
def wO (σ : cAS) (x : Nat) (q : oR) : cRes → cAS → Prop := fun r τ => r = .inl (some (.int (nI q.1))) ∧ xAt τ x q.2.2 ∧ (∀ a, x + 62 ≤ a → a < x + 75 → aT τ a = aT σ a ∧ aI τ a = aI σ a ∧ aR τ a = aR σ a) ∧ (q.1 = 0 → aL τ (x + 74) 0 = q.2.1.toInt64)
theorem wO.ok {σ τ : cAS} {x : Nat} {q : oR} (h0 : q.1 = 0) (h : xAt τ x q.2.2) (hk : kpM σ τ x) : wO σ x q (.inl (some (.int 0))) (sL τ (x + 74) 0 q.2.1.toInt64) := by
  refine ⟨by rw [h0]; rfl, h, fun a c1 c2 => ?_, fun _ => ?_⟩
  · obtain ⟨h1, h2, h3, -⟩ := hk a c1 c2
    exact ⟨h1, h2, h3⟩
  · show (if x + 74 = x + 74 ∧ 0 = 0 then _ else _) = _
    rw [if_pos ⟨rfl, rfl⟩]
theorem wO.no {σ τ : cAS} {x t : Nat} {q : oR} {v : Int32} (h0 : q.1 = t) (ht : t ≠ 0) (hv : v = nI t) (h : xAt τ x q.2.2) (hk : kpM σ τ x) : wO σ x q (.inl (some (.int v))) τ := by
  refine ⟨by rw [h0, hv], h, fun a c1 c2 => ?_, fun h1 => absurd (h0.symm.trans h1) ht⟩
  obtain ⟨h1, h2, h3, -⟩ := hk a c1 c2
  exact ⟨h1, h2, h3⟩
theorem vp01 : vp_in 0 1 := cVin (k := 0) (by decide) (by decide)
section CALL
variable {Γ : cG} {M : cM} {Φ : cRes → cAS → Prop} {pc : Nat} {L : List (Option Value)} {σ : cAS}
variable {f lo mc ms mc2 ms2 f' lo' mc' ms' n index x : Nat} {M' : cM} {av rest stk : List Value}
theorem WP.cXO {k0 : Nat} {Es : List String} {q : oR} (lk : cKV (mY M).cls index M' n) (hC : Ctr Γ (f', lo', mc', ms') M' (.ref x :: av) σ (xO σ x Es q)) (hcl : (mY M').cls = (cCl 8).1) (ht : aT σ x = (9, k0)) (hn : av.length = n) (hr : f' + 1 ≤ f ∧ 8 + (mL M' + 11) + lo' ≤ lo) (hmc : mc2 + mc' ≤ mc) (hms : ms2 + ms' ≤ ms) (hst : (rest.map fun v => v.category).sum ≤ 8) (hstk : stk = av.reverse ++ .ref x :: rest) (d : decode (mC M) pc = .ok (.invokevirtual index, 3))
    (kr : ∀ τ, q.1 = 0 → xAt τ x q.2.2 → kpM σ τ x → WP Γ (f, lo, mc2, ms2) M Φ (pc + 3) L (.int q.2.1 :: rest) τ) (kx : ∀ τ t, q.1 = t + 1 → xAt τ x q.2.2 → kpM σ τ x → WX Γ (f, lo, mc2, ms2) M Φ pc L (Es.getD t "") τ) : WP Γ (f, lo, mc, ms) M Φ pc L stk σ :=
  WP.callV lk hC (ci := 8) (by decide) hcl ht hn hr hmc hms hst hstk d (fun v σ' h => by
    obtain ⟨h1, h2, h3⟩ := h
    unfold xE at h1
    split at h1
    · next h0 =>
      cases h1
      exact kr σ' h0 h2 h3
    · cases h1) (fun E σ' h => by
    obtain ⟨h1, h2, h3⟩ := h
    unfold xE at h1
    split at h1
    · cases h1
    · next h0 =>
      cases h1
      obtain ⟨t, ht⟩ : ∃ t, q.1 = t + 1 := ⟨q.1 - 1, by omega⟩
      rw [ht, Nat.add_sub_cancel]
      exact kx σ' t ht h2 h3)
end CALL
theorem bC_13 : Cond.castable eIS eIS ∈ cNW := cInN 759 (by decide +kernel) (by decide +kernel)
theorem bL_13 : Cond.classLink RL 13 eIS ∈ cALL := cInT 752 (by decide +kernel) (by decide +kernel)
theorem bC_19 : Cond.castable eIA eIA ∈ cNW := cInN 842 (by decide +kernel) (by decide +kernel)
theorem bL_19 : Cond.classLink RL 19 eIA ∈ cALL := cInT 832 (by decide +kernel) (by decide +kernel)
theorem bC_29 : Cond.castable eIO eIO ∈ cNW := cInN 918 (by decide +kernel) (by decide +kernel)
theorem bL_29 : Cond.classLink RL 29 eIO ∈ cALL := cInT 903 (by decide +kernel) (by decide +kernel)
theorem bC_31 : Cond.castable nE nE ∈ cNW := cInN 937 (by decide +kernel) (by decide +kernel)
theorem bL_31 : Cond.classLink RL 31 nE ∈ cALL := cInT 904 (by decide +kernel) (by decide +kernel)
theorem bN_13_19 : (eIS, eIA) ∈ cNC := by decide
theorem bN_13_29 : (eIS, eIO) ∈ cNC := by decide
theorem bN_13_31 : (eIS, nE) ∈ cNC := by decide
theorem bN_19_13 : (eIA, eIS) ∈ cNC := by decide
theorem bN_19_29 : (eIA, eIO) ∈ cNC := by decide
theorem bN_19_31 : (eIA, nE) ∈ cNC := by decide
theorem bN_29_13 : (eIO, eIS) ∈ cNC := by decide
theorem bN_29_19 : (eIO, eIA) ∈ cNC := by decide
theorem bN_29_31 : (eIO, nE) ∈ cNC := by decide
theorem bN_31_13 : (nE, eIS) ∈ cNC := by decide
theorem bN_31_19 : (nE, eIA) ∈ cNC := by decide
theorem bN_31_29 : (nE, eIO) ∈ cNC := by decide
section T
variable (Γ : cG) {σ : cAS} {x : Nat} {mm : mX} {T C : Nat}
theorem qappendInput_le (m : mX) (a : Int32) (b : Int32) (c : Int32) (d : Int32) (e : Int32) : (q_appendInput m a b c d e).1 ≤ 1 := by
  unfold q_appendInput
  repeat' split
  all_goals exact Nat.le_of_ble_eq_true rfl
theorem CL_appendInput (hx : xAt σ x mm) (a b c d e : Int32) (ho : aT σ (x + 74) = (14, 1)) : Ctr Γ (7, 115, 1, 6) ML_appendInput [.ref x, .int a, .int b, .int c, .int d, .int e, .ref (x + 74)] σ (wO σ x (q_appendInput mm a b c d e)) := by
  refine Ctr.ofH (List.cons_ne_nil _ _) (by decide) (Nat.le_of_ble_eq_true rfl) (by intro v hv; simp only [List.mem_cons, List.not_mem_nil, or_false] at hv; rcases hv with rfl | rfl | rfl | rfl | rfl | rfl | rfl <;> rfl) ?_
  refine WP.aload (pc := 0) dL_appendInput_0 rfl ?_
  refine WP.iconst (pc := 2) (v := 0) dL_appendInput_2 (by decide) ?_
  refine WP.aload_n (pc := 3) dL_appendInput_3 rfl ?_
  refine WP.iload_n (pc := 4) dL_appendInput_4 rfl ?_
  refine WP.iload_n (pc := 5) dL_appendInput_5 rfl ?_
  refine WP.iload_n (pc := 6) dL_appendInput_6 rfl ?_
  refine WP.iload (pc := 7) dL_appendInput_7 rfl ?_
  refine WP.iload (pc := 9) dL_appendInput_9 rfl ?_
  refine WP.cXO (pc := 11) (mc2 := 0) (ms2 := 0) kL_7 (CX8_appendInput Γ hx a b c d e) rfl hx.1.t0 rfl ⟨(Nat.le_of_ble_eq_true rfl), (Nat.le_of_ble_eq_true rfl)⟩ (Nat.le_of_ble_eq_true rfl) (Nat.le_of_ble_eq_true rfl) (Nat.le_of_ble_eq_true rfl) rfl dL_appendInput_11 (fun τ h0 h1 k1 => ?_) (fun τ u h0 h1 k1 => ?_)
  · skip
    refine WP.i2l (pc := 14) dL_appendInput_14 ?_
    refine WP.lastore (pc := 15) (a := x + 74) (n := 1) ((k1 (x + 74) (by omega) (by omega)).1.trans ho) vp01 dL_appendInput_15 ?_
    refine WP.goto (pc := 16) (tgt := 23) dL_appendInput_16 (by decide) ?_
    refine WP.iconst (pc := 23) (v := 0) dL_appendInput_23 (by decide) ?_
    exact WP.iret (pc := 24) rfl dL_appendInput_24 (wO.ok h0 h1 k1)
  · have hle := qappendInput_le mm a b c d e
    obtain rfl : u = 0 := by omega
    refine WX.catch (E := eIS) (name := eIS) [] ⟨0, 16, 19, 13⟩ [] rfl (fun z hz => (nomatch hz)) (by decide) (by decide) bL_13 bC_13 (fun q => ?_)
    refine WP.astore (pc := 19) dL_appendInput_19 (by decide) rfl ?_
    refine WP.iconst (pc := 21) (v := 1) dL_appendInput_21 (by decide) ?_
    exact WP.iret (pc := 22) rfl dL_appendInput_22 (wO.no h0 (by decide) rfl h1 k1)
theorem qtruncateInput_le (m : mX) (l : Int32) : (q_truncateInput m l).1 ≤ 1 := by
  unfold q_truncateInput
  repeat' split
  all_goals exact Nat.le_of_ble_eq_true rfl
theorem CL_truncateInput (hx : xAt σ x mm) (l : Int32) (ho : aT σ (x + 74) = (14, 1)) : Ctr Γ (8, 133, 1, 6) ML_truncateInput [.ref x, .int l, .ref (x + 74)] σ (wO σ x (q_truncateInput mm l)) := by
  refine Ctr.ofH (List.cons_ne_nil _ _) (by decide) (Nat.le_of_ble_eq_true rfl) (by intro v hv; simp only [List.mem_cons, List.not_mem_nil, or_false] at hv; rcases hv with rfl | rfl | rfl <;> rfl) ?_
  refine WP.aload_n (pc := 0) dL_truncateInput_0 rfl ?_
  refine WP.iconst (pc := 1) (v := 0) dL_truncateInput_1 (by decide) ?_
  refine WP.aload_n (pc := 2) dL_truncateInput_2 rfl ?_
  refine WP.iload_n (pc := 3) dL_truncateInput_3 rfl ?_
  refine WP.cXO (pc := 4) (mc2 := 0) (ms2 := 0) kL_15 (CX8_truncateInput Γ hx l) rfl hx.1.t0 rfl ⟨(Nat.le_of_ble_eq_true rfl), (Nat.le_of_ble_eq_true rfl)⟩ (Nat.le_of_ble_eq_true rfl) (Nat.le_of_ble_eq_true rfl) (Nat.le_of_ble_eq_true rfl) rfl dL_truncateInput_4 (fun τ h0 h1 k1 => ?_) (fun τ u h0 h1 k1 => ?_)
  · skip
    refine WP.i2l (pc := 7) dL_truncateInput_7 ?_
    refine WP.lastore (pc := 8) (a := x + 74) (n := 1) ((k1 (x + 74) (by omega) (by omega)).1.trans ho) vp01 dL_truncateInput_8 ?_
    refine WP.goto (pc := 9) (tgt := 15) dL_truncateInput_9 (by decide) ?_
    refine WP.iconst (pc := 15) (v := 0) dL_truncateInput_15 (by decide) ?_
    exact WP.iret (pc := 16) rfl dL_truncateInput_16 (wO.ok h0 h1 k1)
  · have hle := qtruncateInput_le mm l
    obtain rfl : u = 0 := by omega
    refine WX.catch (E := eIA) (name := eIA) [] ⟨0, 9, 12, 19⟩ [] rfl (fun z hz => (nomatch hz)) (by decide) (by decide) bL_19 bC_19 (fun q => ?_)
    refine WP.astore_n (pc := 12) dL_truncateInput_12 (by decide) rfl ?_
    refine WP.iconst (pc := 13) (v := 1) dL_truncateInput_13 (by decide) ?_
    exact WP.iret (pc := 14) rfl dL_truncateInput_14 (wO.no h0 (by decide) rfl h1 k1)
theorem qload_le (m : mX) : (q_load m).1 ≤ 1 := by
  unfold q_load
  repeat' split
  all_goals exact Nat.le_of_ble_eq_true rfl
theorem CL_load (hx : xAt σ x mm) (ho : aT σ (x + 74) = (14, 1)) : Ctr Γ (10, 219, 27, 416) ML_load [.ref x, .ref (x + 74)] σ (wO σ x (q_load mm)) := by
  refine Ctr.ofH (List.cons_ne_nil _ _) (by decide) (Nat.le_of_ble_eq_true rfl) (by intro v hv; simp only [List.mem_cons, List.not_mem_nil, or_false] at hv; rcases hv with rfl | rfl <;> rfl) ?_
  refine WP.aload_n (pc := 0) dL_load_0 rfl ?_
  refine WP.iconst (pc := 1) (v := 0) dL_load_1 (by decide) ?_
  refine WP.aload_n (pc := 2) dL_load_2 rfl ?_
  refine WP.cXO (pc := 3) (mc2 := 0) (ms2 := 0) kL_21 (CX8_load Γ hx) rfl hx.1.t0 rfl ⟨(Nat.le_of_ble_eq_true rfl), (Nat.le_of_ble_eq_true rfl)⟩ (Nat.le_of_ble_eq_true rfl) (Nat.le_of_ble_eq_true rfl) (Nat.le_of_ble_eq_true rfl) rfl dL_load_3 (fun τ h0 h1 k1 => ?_) (fun τ u h0 h1 k1 => ?_)
  · skip
    refine WP.i2l (pc := 6) dL_load_6 ?_
    refine WP.lastore (pc := 7) (a := x + 74) (n := 1) ((k1 (x + 74) (by omega) (by omega)).1.trans ho) vp01 dL_load_7 ?_
    refine WP.goto (pc := 8) (tgt := 14) dL_load_8 (by decide) ?_
    refine WP.iconst (pc := 14) (v := 0) dL_load_14 (by decide) ?_
    exact WP.iret (pc := 15) rfl dL_load_15 (wO.ok h0 h1 k1)
  · have hle := qload_le mm
    obtain rfl : u = 0 := by omega
    refine WX.catch (E := eIA) (name := eIA) [] ⟨0, 8, 11, 19⟩ [] rfl (fun z hz => (nomatch hz)) (by decide) (by decide) bL_19 bC_19 (fun q => ?_)
    refine WP.astore_n (pc := 11) dL_load_11 (by decide) rfl ?_
    refine WP.iconst (pc := 12) (v := 1) dL_load_12 (by decide) ?_
    exact WP.iret (pc := 13) rfl dL_load_13 (wO.no h0 (by decide) rfl h1 k1)
theorem qbakerNameByte_le (m : mX) (i : Int32) (p : Int32) : (q_bakerNameByte m i p).1 ≤ 2 := by
  unfold q_bakerNameByte
  repeat' split
  all_goals exact Nat.le_of_ble_eq_true rfl
theorem CL_bakerNameByte (hx : xAt σ x mm) (i p : Int32) (ho : aT σ (x + 74) = (14, 1)) : Ctr Γ (9, 154, 2, 12) ML_bakerNameByte [.ref x, .int i, .int p, .ref (x + 74)] σ (wO σ x (q_bakerNameByte mm i p)) := by
  refine Ctr.ofH (List.cons_ne_nil _ _) (by decide) (Nat.le_of_ble_eq_true rfl) (by intro v hv; simp only [List.mem_cons, List.not_mem_nil, or_false] at hv; rcases hv with rfl | rfl | rfl | rfl <;> rfl) ?_
  refine WP.aload_n (pc := 0) dL_bakerNameByte_0 rfl ?_
  refine WP.iconst (pc := 1) (v := 0) dL_bakerNameByte_1 (by decide) ?_
  refine WP.aload_n (pc := 2) dL_bakerNameByte_2 rfl ?_
  refine WP.iload_n (pc := 3) dL_bakerNameByte_3 rfl ?_
  refine WP.iload_n (pc := 4) dL_bakerNameByte_4 rfl ?_
  refine WP.cXO (pc := 5) (mc2 := 0) (ms2 := 0) kL_25 (CX8_bakerNameByte Γ hx i p) rfl hx.1.t0 rfl ⟨(Nat.le_of_ble_eq_true rfl), (Nat.le_of_ble_eq_true rfl)⟩ (Nat.le_of_ble_eq_true rfl) (Nat.le_of_ble_eq_true rfl) (Nat.le_of_ble_eq_true rfl) rfl dL_bakerNameByte_5 (fun τ h0 h1 k1 => ?_) (fun τ u h0 h1 k1 => ?_)
  · skip
    refine WP.i2l (pc := 8) dL_bakerNameByte_8 ?_
    refine WP.lastore (pc := 9) (a := x + 74) (n := 1) ((k1 (x + 74) (by omega) (by omega)).1.trans ho) vp01 dL_bakerNameByte_9 ?_
    refine WP.goto (pc := 10) (tgt := 21) dL_bakerNameByte_10 (by decide) ?_
    refine WP.iconst (pc := 21) (v := 0) dL_bakerNameByte_21 (by decide) ?_
    exact WP.iret (pc := 22) rfl dL_bakerNameByte_22 (wO.ok h0 h1 k1)
  · have hle := qbakerNameByte_le mm i p
    rcases (by omega : u = 0 ∨ u = 1) with rfl | rfl
    · refine WX.catch (E := eIO) (name := eIO) [] ⟨0, 10, 13, 29⟩ [⟨0, 10, 17, 31⟩] rfl (fun z hz => (nomatch hz)) (by decide) (by decide) bL_29 bC_29 (fun q => ?_)
      refine WP.astore (pc := 13) dL_bakerNameByte_13 (by decide) rfl ?_
      refine WP.iconst (pc := 15) (v := 1) dL_bakerNameByte_15 (by decide) ?_
      exact WP.iret (pc := 16) rfl dL_bakerNameByte_16 (wO.no h0 (by decide) rfl h1 k1)
    · refine WX.catch (E := nE) (name := nE) [⟨0, 10, 13, 29⟩] ⟨0, 10, 17, 31⟩ [] rfl (fun z hz => by simp only [List.mem_cons, List.not_mem_nil, or_false] at hz; subst hz; first | exact ⟨(by decide : (29 : Nat) ≠ 0), _, bL_29, bN_31_29⟩) (by decide) (by decide) bL_31 bC_31 (fun q => ?_)
      refine WP.astore (pc := 17) dL_bakerNameByte_17 (by decide) rfl ?_
      refine WP.iconst (pc := 19) (v := 2) dL_bakerNameByte_19 (by decide) ?_
      exact WP.iret (pc := 20) rfl dL_bakerNameByte_20 (wO.no h0 (by decide) rfl h1 k1)
theorem qovenSize_le (m : mX) (i : Int32) : (q_ovenSize m i).1 ≤ 1 := by
  unfold q_ovenSize
  repeat' split
  all_goals exact Nat.le_of_ble_eq_true rfl
theorem CL_ovenSize (hx : xAt σ x mm) (i : Int32) (ho : aT σ (x + 74) = (14, 1)) : Ctr Γ (9, 153, 1, 6) ML_ovenSize [.ref x, .int i, .ref (x + 74)] σ (wO σ x (q_ovenSize mm i)) := by
  refine Ctr.ofH (List.cons_ne_nil _ _) (by decide) (Nat.le_of_ble_eq_true rfl) (by intro v hv; simp only [List.mem_cons, List.not_mem_nil, or_false] at hv; rcases hv with rfl | rfl | rfl <;> rfl) ?_
  refine WP.aload_n (pc := 0) dL_ovenSize_0 rfl ?_
  refine WP.iconst (pc := 1) (v := 0) dL_ovenSize_1 (by decide) ?_
  refine WP.aload_n (pc := 2) dL_ovenSize_2 rfl ?_
  refine WP.iload_n (pc := 3) dL_ovenSize_3 rfl ?_
  refine WP.cXO (pc := 4) (mc2 := 0) (ms2 := 0) kL_33 (CX8_ovenSize Γ hx i) rfl hx.1.t0 rfl ⟨(Nat.le_of_ble_eq_true rfl), (Nat.le_of_ble_eq_true rfl)⟩ (Nat.le_of_ble_eq_true rfl) (Nat.le_of_ble_eq_true rfl) (Nat.le_of_ble_eq_true rfl) rfl dL_ovenSize_4 (fun τ h0 h1 k1 => ?_) (fun τ u h0 h1 k1 => ?_)
  · skip
    refine WP.i2l (pc := 7) dL_ovenSize_7 ?_
    refine WP.lastore (pc := 8) (a := x + 74) (n := 1) ((k1 (x + 74) (by omega) (by omega)).1.trans ho) vp01 dL_ovenSize_8 ?_
    refine WP.goto (pc := 9) (tgt := 15) dL_ovenSize_9 (by decide) ?_
    refine WP.iconst (pc := 15) (v := 0) dL_ovenSize_15 (by decide) ?_
    exact WP.iret (pc := 16) rfl dL_ovenSize_16 (wO.ok h0 h1 k1)
  · have hle := qovenSize_le mm i
    obtain rfl : u = 0 := by omega
    refine WX.catch (E := eIO) (name := eIO) [] ⟨0, 9, 12, 29⟩ [] rfl (fun z hz => (nomatch hz)) (by decide) (by decide) bL_29 bC_29 (fun q => ?_)
    refine WP.astore_n (pc := 12) dL_ovenSize_12 (by decide) rfl ?_
    refine WP.iconst (pc := 13) (v := 1) dL_ovenSize_13 (by decide) ?_
    exact WP.iret (pc := 14) rfl dL_ovenSize_14 (wO.no h0 (by decide) rfl h1 k1)
theorem qbakingKind_le (m : mX) (i : Int32) : (q_bakingKind m i).1 ≤ 1 := by
  unfold q_bakingKind
  repeat' split
  all_goals exact Nat.le_of_ble_eq_true rfl
theorem CL_bakingKind (hx : xAt σ x mm) (i : Int32) (ho : aT σ (x + 74) = (14, 1)) : Ctr Γ (9, 153, 1, 6) ML_bakingKind [.ref x, .int i, .ref (x + 74)] σ (wO σ x (q_bakingKind mm i)) := by
  refine Ctr.ofH (List.cons_ne_nil _ _) (by decide) (Nat.le_of_ble_eq_true rfl) (by intro v hv; simp only [List.mem_cons, List.not_mem_nil, or_false] at hv; rcases hv with rfl | rfl | rfl <;> rfl) ?_
  refine WP.aload_n (pc := 0) dL_bakingKind_0 rfl ?_
  refine WP.iconst (pc := 1) (v := 0) dL_bakingKind_1 (by decide) ?_
  refine WP.aload_n (pc := 2) dL_bakingKind_2 rfl ?_
  refine WP.iload_n (pc := 3) dL_bakingKind_3 rfl ?_
  refine WP.cXO (pc := 4) (mc2 := 0) (ms2 := 0) kL_36 (CX8_bakingKind Γ hx i) rfl hx.1.t0 rfl ⟨(Nat.le_of_ble_eq_true rfl), (Nat.le_of_ble_eq_true rfl)⟩ (Nat.le_of_ble_eq_true rfl) (Nat.le_of_ble_eq_true rfl) (Nat.le_of_ble_eq_true rfl) rfl dL_bakingKind_4 (fun τ h0 h1 k1 => ?_) (fun τ u h0 h1 k1 => ?_)
  · skip
    refine WP.i2l (pc := 7) dL_bakingKind_7 ?_
    refine WP.lastore (pc := 8) (a := x + 74) (n := 1) ((k1 (x + 74) (by omega) (by omega)).1.trans ho) vp01 dL_bakingKind_8 ?_
    refine WP.goto (pc := 9) (tgt := 15) dL_bakingKind_9 (by decide) ?_
    refine WP.iconst (pc := 15) (v := 0) dL_bakingKind_15 (by decide) ?_
    exact WP.iret (pc := 16) rfl dL_bakingKind_16 (wO.ok h0 h1 k1)
  · have hle := qbakingKind_le mm i
    obtain rfl : u = 0 := by omega
    refine WX.catch (E := eIO) (name := eIO) [] ⟨0, 9, 12, 29⟩ [] rfl (fun z hz => (nomatch hz)) (by decide) (by decide) bL_29 bC_29 (fun q => ?_)
    refine WP.astore_n (pc := 12) dL_bakingKind_12 (by decide) rfl ?_
    refine WP.iconst (pc := 13) (v := 1) dL_bakingKind_13 (by decide) ?_
    exact WP.iret (pc := 14) rfl dL_bakingKind_14 (wO.no h0 (by decide) rfl h1 k1)
theorem qhoursLeft_le (m : mX) (i : Int32) : (q_hoursLeft m i).1 ≤ 1 := by
  unfold q_hoursLeft
  repeat' split
  all_goals exact Nat.le_of_ble_eq_true rfl
theorem CL_hoursLeft (hx : xAt σ x mm) (i : Int32) (ho : aT σ (x + 74) = (14, 1)) : Ctr Γ (9, 153, 1, 6) ML_hoursLeft [.ref x, .int i, .ref (x + 74)] σ (wO σ x (q_hoursLeft mm i)) := by
  refine Ctr.ofH (List.cons_ne_nil _ _) (by decide) (Nat.le_of_ble_eq_true rfl) (by intro v hv; simp only [List.mem_cons, List.not_mem_nil, or_false] at hv; rcases hv with rfl | rfl | rfl <;> rfl) ?_
  refine WP.aload_n (pc := 0) dL_hoursLeft_0 rfl ?_
  refine WP.iconst (pc := 1) (v := 0) dL_hoursLeft_1 (by decide) ?_
  refine WP.aload_n (pc := 2) dL_hoursLeft_2 rfl ?_
  refine WP.iload_n (pc := 3) dL_hoursLeft_3 rfl ?_
  refine WP.cXO (pc := 4) (mc2 := 0) (ms2 := 0) kL_39 (CX8_hoursLeft Γ hx i) rfl hx.1.t0 rfl ⟨(Nat.le_of_ble_eq_true rfl), (Nat.le_of_ble_eq_true rfl)⟩ (Nat.le_of_ble_eq_true rfl) (Nat.le_of_ble_eq_true rfl) (Nat.le_of_ble_eq_true rfl) rfl dL_hoursLeft_4 (fun τ h0 h1 k1 => ?_) (fun τ u h0 h1 k1 => ?_)
  · skip
    refine WP.i2l (pc := 7) dL_hoursLeft_7 ?_
    refine WP.lastore (pc := 8) (a := x + 74) (n := 1) ((k1 (x + 74) (by omega) (by omega)).1.trans ho) vp01 dL_hoursLeft_8 ?_
    refine WP.goto (pc := 9) (tgt := 15) dL_hoursLeft_9 (by decide) ?_
    refine WP.iconst (pc := 15) (v := 0) dL_hoursLeft_15 (by decide) ?_
    exact WP.iret (pc := 16) rfl dL_hoursLeft_16 (wO.ok h0 h1 k1)
  · have hle := qhoursLeft_le mm i
    obtain rfl : u = 0 := by omega
    refine WX.catch (E := eIO) (name := eIO) [] ⟨0, 9, 12, 29⟩ [] rfl (fun z hz => (nomatch hz)) (by decide) (by decide) bL_29 bC_29 (fun q => ?_)
    refine WP.astore_n (pc := 12) dL_hoursLeft_12 (by decide) rfl ?_
    refine WP.iconst (pc := 13) (v := 1) dL_hoursLeft_13 (by decide) ?_
    exact WP.iret (pc := 14) rfl dL_hoursLeft_14 (wO.no h0 (by decide) rfl h1 k1)
theorem qincome_le (m : mX) (i : Int32) : (q_income m i).1 ≤ 1 := by
  unfold q_income
  repeat' split
  all_goals exact Nat.le_of_ble_eq_true rfl
theorem CL_income (hx : xAt σ x mm) (i : Int32) (ho : aT σ (x + 74) = (14, 1)) : Ctr Γ (9, 153, 1, 6) ML_income [.ref x, .int i, .ref (x + 74)] σ (wO σ x (q_income mm i)) := by
  refine Ctr.ofH (List.cons_ne_nil _ _) (by decide) (Nat.le_of_ble_eq_true rfl) (by intro v hv; simp only [List.mem_cons, List.not_mem_nil, or_false] at hv; rcases hv with rfl | rfl | rfl <;> rfl) ?_
  refine WP.aload_n (pc := 0) dL_income_0 rfl ?_
  refine WP.iconst (pc := 1) (v := 0) dL_income_1 (by decide) ?_
  refine WP.aload_n (pc := 2) dL_income_2 rfl ?_
  refine WP.iload_n (pc := 3) dL_income_3 rfl ?_
  refine WP.cXO (pc := 4) (mc2 := 0) (ms2 := 0) kL_42 (CX8_income Γ hx i) rfl hx.1.t0 rfl ⟨(Nat.le_of_ble_eq_true rfl), (Nat.le_of_ble_eq_true rfl)⟩ (Nat.le_of_ble_eq_true rfl) (Nat.le_of_ble_eq_true rfl) (Nat.le_of_ble_eq_true rfl) rfl dL_income_4 (fun τ h0 h1 k1 => ?_) (fun τ u h0 h1 k1 => ?_)
  · skip
    refine WP.i2l (pc := 7) dL_income_7 ?_
    refine WP.lastore (pc := 8) (a := x + 74) (n := 1) ((k1 (x + 74) (by omega) (by omega)).1.trans ho) vp01 dL_income_8 ?_
    refine WP.goto (pc := 9) (tgt := 15) dL_income_9 (by decide) ?_
    refine WP.iconst (pc := 15) (v := 0) dL_income_15 (by decide) ?_
    exact WP.iret (pc := 16) rfl dL_income_16 (wO.ok h0 h1 k1)
  · have hle := qincome_le mm i
    obtain rfl : u = 0 := by omega
    refine WX.catch (E := eIO) (name := eIO) [] ⟨0, 9, 12, 29⟩ [] rfl (fun z hz => (nomatch hz)) (by decide) (by decide) bL_29 bC_29 (fun q => ?_)
    refine WP.astore_n (pc := 12) dL_income_12 (by decide) rfl ?_
    refine WP.iconst (pc := 13) (v := 1) dL_income_13 (by decide) ?_
    exact WP.iret (pc := 14) rfl dL_income_14 (wO.no h0 (by decide) rfl h1 k1)
theorem qbakeRefusal_le (m : mX) (i : Int32) (k : Int32) : (q_bakeRefusal m i k).1 ≤ 1 := by
  unfold q_bakeRefusal
  repeat' split
  all_goals exact Nat.le_of_ble_eq_true rfl
theorem CL_bakeRefusal (hx : xAt σ x mm) (i k : Int32) (ho : aT σ (x + 74) = (14, 1)) : Ctr Γ (9, 154, 3, 18) ML_bakeRefusal [.ref x, .int i, .int k, .ref (x + 74)] σ (wO σ x (q_bakeRefusal mm i k)) := by
  refine Ctr.ofH (List.cons_ne_nil _ _) (by decide) (Nat.le_of_ble_eq_true rfl) (by intro v hv; simp only [List.mem_cons, List.not_mem_nil, or_false] at hv; rcases hv with rfl | rfl | rfl | rfl <;> rfl) ?_
  refine WP.aload_n (pc := 0) dL_bakeRefusal_0 rfl ?_
  refine WP.iconst (pc := 1) (v := 0) dL_bakeRefusal_1 (by decide) ?_
  refine WP.aload_n (pc := 2) dL_bakeRefusal_2 rfl ?_
  refine WP.iload_n (pc := 3) dL_bakeRefusal_3 rfl ?_
  refine WP.iload_n (pc := 4) dL_bakeRefusal_4 rfl ?_
  refine WP.cXO (pc := 5) (mc2 := 0) (ms2 := 0) kL_45 (CX8_bakeRefusal Γ hx i k) rfl hx.1.t0 rfl ⟨(Nat.le_of_ble_eq_true rfl), (Nat.le_of_ble_eq_true rfl)⟩ (Nat.le_of_ble_eq_true rfl) (Nat.le_of_ble_eq_true rfl) (Nat.le_of_ble_eq_true rfl) rfl dL_bakeRefusal_5 (fun τ h0 h1 k1 => ?_) (fun τ u h0 h1 k1 => ?_)
  · skip
    refine WP.i2l (pc := 8) dL_bakeRefusal_8 ?_
    refine WP.lastore (pc := 9) (a := x + 74) (n := 1) ((k1 (x + 74) (by omega) (by omega)).1.trans ho) vp01 dL_bakeRefusal_9 ?_
    refine WP.goto (pc := 10) (tgt := 17) dL_bakeRefusal_10 (by decide) ?_
    refine WP.iconst (pc := 17) (v := 0) dL_bakeRefusal_17 (by decide) ?_
    exact WP.iret (pc := 18) rfl dL_bakeRefusal_18 (wO.ok h0 h1 k1)
  · have hle := qbakeRefusal_le mm i k
    obtain rfl : u = 0 := by omega
    refine WX.catch (E := eIO) (name := eIO) [] ⟨0, 10, 13, 29⟩ [] rfl (fun z hz => (nomatch hz)) (by decide) (by decide) bL_29 bC_29 (fun q => ?_)
    refine WP.astore (pc := 13) dL_bakeRefusal_13 (by decide) rfl ?_
    refine WP.iconst (pc := 15) (v := 1) dL_bakeRefusal_15 (by decide) ?_
    exact WP.iret (pc := 16) rfl dL_bakeRefusal_16 (wO.no h0 (by decide) rfl h1 k1)
theorem qcustomerNameByte_le (m : mX) (i : Int32) (p : Int32) : (q_customerNameByte m i p).1 ≤ 2 := by
  unfold q_customerNameByte
  repeat' split
  all_goals exact Nat.le_of_ble_eq_true rfl
theorem CL_customerNameByte (hx : xAt σ x mm) (i p : Int32) (ho : aT σ (x + 74) = (14, 1)) : Ctr Γ (9, 154, 2, 12) ML_customerNameByte [.ref x, .int i, .int p, .ref (x + 74)] σ (wO σ x (q_customerNameByte mm i p)) := by
  refine Ctr.ofH (List.cons_ne_nil _ _) (by decide) (Nat.le_of_ble_eq_true rfl) (by intro v hv; simp only [List.mem_cons, List.not_mem_nil, or_false] at hv; rcases hv with rfl | rfl | rfl | rfl <;> rfl) ?_
  refine WP.aload_n (pc := 0) dL_customerNameByte_0 rfl ?_
  refine WP.iconst (pc := 1) (v := 0) dL_customerNameByte_1 (by decide) ?_
  refine WP.aload_n (pc := 2) dL_customerNameByte_2 rfl ?_
  refine WP.iload_n (pc := 3) dL_customerNameByte_3 rfl ?_
  refine WP.iload_n (pc := 4) dL_customerNameByte_4 rfl ?_
  refine WP.cXO (pc := 5) (mc2 := 0) (ms2 := 0) kL_48 (CX8_customerNameByte Γ hx i p) rfl hx.1.t0 rfl ⟨(Nat.le_of_ble_eq_true rfl), (Nat.le_of_ble_eq_true rfl)⟩ (Nat.le_of_ble_eq_true rfl) (Nat.le_of_ble_eq_true rfl) (Nat.le_of_ble_eq_true rfl) rfl dL_customerNameByte_5 (fun τ h0 h1 k1 => ?_) (fun τ u h0 h1 k1 => ?_)
  · skip
    refine WP.i2l (pc := 8) dL_customerNameByte_8 ?_
    refine WP.lastore (pc := 9) (a := x + 74) (n := 1) ((k1 (x + 74) (by omega) (by omega)).1.trans ho) vp01 dL_customerNameByte_9 ?_
    refine WP.goto (pc := 10) (tgt := 21) dL_customerNameByte_10 (by decide) ?_
    refine WP.iconst (pc := 21) (v := 0) dL_customerNameByte_21 (by decide) ?_
    exact WP.iret (pc := 22) rfl dL_customerNameByte_22 (wO.ok h0 h1 k1)
  · have hle := qcustomerNameByte_le mm i p
    rcases (by omega : u = 0 ∨ u = 1) with rfl | rfl
    · refine WX.catch (E := eIO) (name := eIO) [] ⟨0, 10, 13, 29⟩ [⟨0, 10, 17, 31⟩] rfl (fun z hz => (nomatch hz)) (by decide) (by decide) bL_29 bC_29 (fun q => ?_)
      refine WP.astore (pc := 13) dL_customerNameByte_13 (by decide) rfl ?_
      refine WP.iconst (pc := 15) (v := 1) dL_customerNameByte_15 (by decide) ?_
      exact WP.iret (pc := 16) rfl dL_customerNameByte_16 (wO.no h0 (by decide) rfl h1 k1)
    · refine WX.catch (E := nE) (name := nE) [⟨0, 10, 13, 29⟩] ⟨0, 10, 17, 31⟩ [] rfl (fun z hz => by simp only [List.mem_cons, List.not_mem_nil, or_false] at hz; subst hz; first | exact ⟨(by decide : (29 : Nat) ≠ 0), _, bL_29, bN_31_29⟩) (by decide) (by decide) bL_31 bC_31 (fun q => ?_)
      refine WP.astore (pc := 17) dL_customerNameByte_17 (by decide) rfl ?_
      refine WP.iconst (pc := 19) (v := 2) dL_customerNameByte_19 (by decide) ?_
      exact WP.iret (pc := 20) rfl dL_customerNameByte_20 (wO.no h0 (by decide) rfl h1 k1)
theorem qticketOf_le (m : mX) (i : Int32) : (q_ticketOf m i).1 ≤ 1 := by
  unfold q_ticketOf
  repeat' split
  all_goals exact Nat.le_of_ble_eq_true rfl
theorem CL_ticketOf (hx : xAt σ x mm) (i : Int32) (ho : aT σ (x + 74) = (14, 1)) : Ctr Γ (9, 153, 1, 6) ML_ticketOf [.ref x, .int i, .ref (x + 74)] σ (wO σ x (q_ticketOf mm i)) := by
  refine Ctr.ofH (List.cons_ne_nil _ _) (by decide) (Nat.le_of_ble_eq_true rfl) (by intro v hv; simp only [List.mem_cons, List.not_mem_nil, or_false] at hv; rcases hv with rfl | rfl | rfl <;> rfl) ?_
  refine WP.aload_n (pc := 0) dL_ticketOf_0 rfl ?_
  refine WP.iconst (pc := 1) (v := 0) dL_ticketOf_1 (by decide) ?_
  refine WP.aload_n (pc := 2) dL_ticketOf_2 rfl ?_
  refine WP.iload_n (pc := 3) dL_ticketOf_3 rfl ?_
  refine WP.cXO (pc := 4) (mc2 := 0) (ms2 := 0) kL_51 (CX8_ticketOf Γ hx i) rfl hx.1.t0 rfl ⟨(Nat.le_of_ble_eq_true rfl), (Nat.le_of_ble_eq_true rfl)⟩ (Nat.le_of_ble_eq_true rfl) (Nat.le_of_ble_eq_true rfl) (Nat.le_of_ble_eq_true rfl) rfl dL_ticketOf_4 (fun τ h0 h1 k1 => ?_) (fun τ u h0 h1 k1 => ?_)
  · skip
    refine WP.i2l (pc := 7) dL_ticketOf_7 ?_
    refine WP.lastore (pc := 8) (a := x + 74) (n := 1) ((k1 (x + 74) (by omega) (by omega)).1.trans ho) vp01 dL_ticketOf_8 ?_
    refine WP.goto (pc := 9) (tgt := 15) dL_ticketOf_9 (by decide) ?_
    refine WP.iconst (pc := 15) (v := 0) dL_ticketOf_15 (by decide) ?_
    exact WP.iret (pc := 16) rfl dL_ticketOf_16 (wO.ok h0 h1 k1)
  · have hle := qticketOf_le mm i
    obtain rfl : u = 0 := by omega
    refine WX.catch (E := eIO) (name := eIO) [] ⟨0, 9, 12, 29⟩ [] rfl (fun z hz => (nomatch hz)) (by decide) (by decide) bL_29 bC_29 (fun q => ?_)
    refine WP.astore_n (pc := 12) dL_ticketOf_12 (by decide) rfl ?_
    refine WP.iconst (pc := 13) (v := 1) dL_ticketOf_13 (by decide) ?_
    exact WP.iret (pc := 14) rfl dL_ticketOf_14 (wO.no h0 (by decide) rfl h1 k1)
theorem qkindWanted_le (m : mX) (i : Int32) : (q_kindWanted m i).1 ≤ 1 := by
  unfold q_kindWanted
  repeat' split
  all_goals exact Nat.le_of_ble_eq_true rfl
theorem CL_kindWanted (hx : xAt σ x mm) (i : Int32) (ho : aT σ (x + 74) = (14, 1)) : Ctr Γ (9, 153, 1, 6) ML_kindWanted [.ref x, .int i, .ref (x + 74)] σ (wO σ x (q_kindWanted mm i)) := by
  refine Ctr.ofH (List.cons_ne_nil _ _) (by decide) (Nat.le_of_ble_eq_true rfl) (by intro v hv; simp only [List.mem_cons, List.not_mem_nil, or_false] at hv; rcases hv with rfl | rfl | rfl <;> rfl) ?_
  refine WP.aload_n (pc := 0) dL_kindWanted_0 rfl ?_
  refine WP.iconst (pc := 1) (v := 0) dL_kindWanted_1 (by decide) ?_
  refine WP.aload_n (pc := 2) dL_kindWanted_2 rfl ?_
  refine WP.iload_n (pc := 3) dL_kindWanted_3 rfl ?_
  refine WP.cXO (pc := 4) (mc2 := 0) (ms2 := 0) kL_54 (CX8_kindWanted Γ hx i) rfl hx.1.t0 rfl ⟨(Nat.le_of_ble_eq_true rfl), (Nat.le_of_ble_eq_true rfl)⟩ (Nat.le_of_ble_eq_true rfl) (Nat.le_of_ble_eq_true rfl) (Nat.le_of_ble_eq_true rfl) rfl dL_kindWanted_4 (fun τ h0 h1 k1 => ?_) (fun τ u h0 h1 k1 => ?_)
  · skip
    refine WP.i2l (pc := 7) dL_kindWanted_7 ?_
    refine WP.lastore (pc := 8) (a := x + 74) (n := 1) ((k1 (x + 74) (by omega) (by omega)).1.trans ho) vp01 dL_kindWanted_8 ?_
    refine WP.goto (pc := 9) (tgt := 15) dL_kindWanted_9 (by decide) ?_
    refine WP.iconst (pc := 15) (v := 0) dL_kindWanted_15 (by decide) ?_
    exact WP.iret (pc := 16) rfl dL_kindWanted_16 (wO.ok h0 h1 k1)
  · have hle := qkindWanted_le mm i
    obtain rfl : u = 0 := by omega
    refine WX.catch (E := eIO) (name := eIO) [] ⟨0, 9, 12, 29⟩ [] rfl (fun z hz => (nomatch hz)) (by decide) (by decide) bL_29 bC_29 (fun q => ?_)
    refine WP.astore_n (pc := 12) dL_kindWanted_12 (by decide) rfl ?_
    refine WP.iconst (pc := 13) (v := 1) dL_kindWanted_13 (by decide) ?_
    exact WP.iret (pc := 14) rfl dL_kindWanted_14 (wO.no h0 (by decide) rfl h1 k1)
theorem qwanted_le (m : mX) (i : Int32) : (q_wanted m i).1 ≤ 1 := by
  unfold q_wanted
  repeat' split
  all_goals exact Nat.le_of_ble_eq_true rfl
theorem CL_wanted (hx : xAt σ x mm) (i : Int32) (ho : aT σ (x + 74) = (14, 1)) : Ctr Γ (9, 153, 1, 6) ML_wanted [.ref x, .int i, .ref (x + 74)] σ (wO σ x (q_wanted mm i)) := by
  refine Ctr.ofH (List.cons_ne_nil _ _) (by decide) (Nat.le_of_ble_eq_true rfl) (by intro v hv; simp only [List.mem_cons, List.not_mem_nil, or_false] at hv; rcases hv with rfl | rfl | rfl <;> rfl) ?_
  refine WP.aload_n (pc := 0) dL_wanted_0 rfl ?_
  refine WP.iconst (pc := 1) (v := 0) dL_wanted_1 (by decide) ?_
  refine WP.aload_n (pc := 2) dL_wanted_2 rfl ?_
  refine WP.iload_n (pc := 3) dL_wanted_3 rfl ?_
  refine WP.cXO (pc := 4) (mc2 := 0) (ms2 := 0) kL_57 (CX8_wanted Γ hx i) rfl hx.1.t0 rfl ⟨(Nat.le_of_ble_eq_true rfl), (Nat.le_of_ble_eq_true rfl)⟩ (Nat.le_of_ble_eq_true rfl) (Nat.le_of_ble_eq_true rfl) (Nat.le_of_ble_eq_true rfl) rfl dL_wanted_4 (fun τ h0 h1 k1 => ?_) (fun τ u h0 h1 k1 => ?_)
  · skip
    refine WP.i2l (pc := 7) dL_wanted_7 ?_
    refine WP.lastore (pc := 8) (a := x + 74) (n := 1) ((k1 (x + 74) (by omega) (by omega)).1.trans ho) vp01 dL_wanted_8 ?_
    refine WP.goto (pc := 9) (tgt := 15) dL_wanted_9 (by decide) ?_
    refine WP.iconst (pc := 15) (v := 0) dL_wanted_15 (by decide) ?_
    exact WP.iret (pc := 16) rfl dL_wanted_16 (wO.ok h0 h1 k1)
  · have hle := qwanted_le mm i
    obtain rfl : u = 0 := by omega
    refine WX.catch (E := eIO) (name := eIO) [] ⟨0, 9, 12, 29⟩ [] rfl (fun z hz => (nomatch hz)) (by decide) (by decide) bL_29 bC_29 (fun q => ?_)
    refine WP.astore_n (pc := 12) dL_wanted_12 (by decide) rfl ?_
    refine WP.iconst (pc := 13) (v := 1) dL_wanted_13 (by decide) ?_
    exact WP.iret (pc := 14) rfl dL_wanted_14 (wO.no h0 (by decide) rfl h1 k1)
theorem qlimitPrice_le (m : mX) (i : Int32) : (q_limitPrice m i).1 ≤ 1 := by
  unfold q_limitPrice
  repeat' split
  all_goals exact Nat.le_of_ble_eq_true rfl
theorem CL_limitPrice (hx : xAt σ x mm) (i : Int32) (ho : aT σ (x + 74) = (14, 1)) : Ctr Γ (9, 153, 1, 6) ML_limitPrice [.ref x, .int i, .ref (x + 74)] σ (wO σ x (q_limitPrice mm i)) := by
  refine Ctr.ofH (List.cons_ne_nil _ _) (by decide) (Nat.le_of_ble_eq_true rfl) (by intro v hv; simp only [List.mem_cons, List.not_mem_nil, or_false] at hv; rcases hv with rfl | rfl | rfl <;> rfl) ?_
  refine WP.aload_n (pc := 0) dL_limitPrice_0 rfl ?_
  refine WP.iconst (pc := 1) (v := 0) dL_limitPrice_1 (by decide) ?_
  refine WP.aload_n (pc := 2) dL_limitPrice_2 rfl ?_
  refine WP.iload_n (pc := 3) dL_limitPrice_3 rfl ?_
  refine WP.cXO (pc := 4) (mc2 := 0) (ms2 := 0) kL_60 (CX8_limitPrice Γ hx i) rfl hx.1.t0 rfl ⟨(Nat.le_of_ble_eq_true rfl), (Nat.le_of_ble_eq_true rfl)⟩ (Nat.le_of_ble_eq_true rfl) (Nat.le_of_ble_eq_true rfl) (Nat.le_of_ble_eq_true rfl) rfl dL_limitPrice_4 (fun τ h0 h1 k1 => ?_) (fun τ u h0 h1 k1 => ?_)
  · skip
    refine WP.i2l (pc := 7) dL_limitPrice_7 ?_
    refine WP.lastore (pc := 8) (a := x + 74) (n := 1) ((k1 (x + 74) (by omega) (by omega)).1.trans ho) vp01 dL_limitPrice_8 ?_
    refine WP.goto (pc := 9) (tgt := 15) dL_limitPrice_9 (by decide) ?_
    refine WP.iconst (pc := 15) (v := 0) dL_limitPrice_15 (by decide) ?_
    exact WP.iret (pc := 16) rfl dL_limitPrice_16 (wO.ok h0 h1 k1)
  · have hle := qlimitPrice_le mm i
    obtain rfl : u = 0 := by omega
    refine WX.catch (E := eIO) (name := eIO) [] ⟨0, 9, 12, 29⟩ [] rfl (fun z hz => (nomatch hz)) (by decide) (by decide) bL_29 bC_29 (fun q => ?_)
    refine WP.astore_n (pc := 12) dL_limitPrice_12 (by decide) rfl ?_
    refine WP.iconst (pc := 13) (v := 1) dL_limitPrice_13 (by decide) ?_
    exact WP.iret (pc := 14) rfl dL_limitPrice_14 (wO.no h0 (by decide) rfl h1 k1)
theorem qpurse_le (m : mX) (i : Int32) : (q_purse m i).1 ≤ 1 := by
  unfold q_purse
  repeat' split
  all_goals exact Nat.le_of_ble_eq_true rfl
theorem CL_purse (hx : xAt σ x mm) (i : Int32) (ho : aT σ (x + 74) = (14, 1)) : Ctr Γ (9, 153, 1, 6) ML_purse [.ref x, .int i, .ref (x + 74)] σ (wO σ x (q_purse mm i)) := by
  refine Ctr.ofH (List.cons_ne_nil _ _) (by decide) (Nat.le_of_ble_eq_true rfl) (by intro v hv; simp only [List.mem_cons, List.not_mem_nil, or_false] at hv; rcases hv with rfl | rfl | rfl <;> rfl) ?_
  refine WP.aload_n (pc := 0) dL_purse_0 rfl ?_
  refine WP.iconst (pc := 1) (v := 0) dL_purse_1 (by decide) ?_
  refine WP.aload_n (pc := 2) dL_purse_2 rfl ?_
  refine WP.iload_n (pc := 3) dL_purse_3 rfl ?_
  refine WP.cXO (pc := 4) (mc2 := 0) (ms2 := 0) kL_63 (CX8_purse Γ hx i) rfl hx.1.t0 rfl ⟨(Nat.le_of_ble_eq_true rfl), (Nat.le_of_ble_eq_true rfl)⟩ (Nat.le_of_ble_eq_true rfl) (Nat.le_of_ble_eq_true rfl) (Nat.le_of_ble_eq_true rfl) rfl dL_purse_4 (fun τ h0 h1 k1 => ?_) (fun τ u h0 h1 k1 => ?_)
  · skip
    refine WP.i2l (pc := 7) dL_purse_7 ?_
    refine WP.lastore (pc := 8) (a := x + 74) (n := 1) ((k1 (x + 74) (by omega) (by omega)).1.trans ho) vp01 dL_purse_8 ?_
    refine WP.goto (pc := 9) (tgt := 15) dL_purse_9 (by decide) ?_
    refine WP.iconst (pc := 15) (v := 0) dL_purse_15 (by decide) ?_
    exact WP.iret (pc := 16) rfl dL_purse_16 (wO.ok h0 h1 k1)
  · have hle := qpurse_le mm i
    obtain rfl : u = 0 := by omega
    refine WX.catch (E := eIO) (name := eIO) [] ⟨0, 9, 12, 29⟩ [] rfl (fun z hz => (nomatch hz)) (by decide) (by decide) bL_29 bC_29 (fun q => ?_)
    refine WP.astore_n (pc := 12) dL_purse_12 (by decide) rfl ?_
    refine WP.iconst (pc := 13) (v := 1) dL_purse_13 (by decide) ?_
    exact WP.iret (pc := 14) rfl dL_purse_14 (wO.no h0 (by decide) rfl h1 k1)
theorem qpatience_le (m : mX) (i : Int32) : (q_patience m i).1 ≤ 1 := by
  unfold q_patience
  repeat' split
  all_goals exact Nat.le_of_ble_eq_true rfl
theorem CL_patience (hx : xAt σ x mm) (i : Int32) (ho : aT σ (x + 74) = (14, 1)) : Ctr Γ (9, 153, 1, 6) ML_patience [.ref x, .int i, .ref (x + 74)] σ (wO σ x (q_patience mm i)) := by
  refine Ctr.ofH (List.cons_ne_nil _ _) (by decide) (Nat.le_of_ble_eq_true rfl) (by intro v hv; simp only [List.mem_cons, List.not_mem_nil, or_false] at hv; rcases hv with rfl | rfl | rfl <;> rfl) ?_
  refine WP.aload_n (pc := 0) dL_patience_0 rfl ?_
  refine WP.iconst (pc := 1) (v := 0) dL_patience_1 (by decide) ?_
  refine WP.aload_n (pc := 2) dL_patience_2 rfl ?_
  refine WP.iload_n (pc := 3) dL_patience_3 rfl ?_
  refine WP.cXO (pc := 4) (mc2 := 0) (ms2 := 0) kL_66 (CX8_patience Γ hx i) rfl hx.1.t0 rfl ⟨(Nat.le_of_ble_eq_true rfl), (Nat.le_of_ble_eq_true rfl)⟩ (Nat.le_of_ble_eq_true rfl) (Nat.le_of_ble_eq_true rfl) (Nat.le_of_ble_eq_true rfl) rfl dL_patience_4 (fun τ h0 h1 k1 => ?_) (fun τ u h0 h1 k1 => ?_)
  · skip
    refine WP.i2l (pc := 7) dL_patience_7 ?_
    refine WP.lastore (pc := 8) (a := x + 74) (n := 1) ((k1 (x + 74) (by omega) (by omega)).1.trans ho) vp01 dL_patience_8 ?_
    refine WP.goto (pc := 9) (tgt := 15) dL_patience_9 (by decide) ?_
    refine WP.iconst (pc := 15) (v := 0) dL_patience_15 (by decide) ?_
    exact WP.iret (pc := 16) rfl dL_patience_16 (wO.ok h0 h1 k1)
  · have hle := qpatience_le mm i
    obtain rfl : u = 0 := by omega
    refine WX.catch (E := eIO) (name := eIO) [] ⟨0, 9, 12, 29⟩ [] rfl (fun z hz => (nomatch hz)) (by decide) (by decide) bL_29 bC_29 (fun q => ?_)
    refine WP.astore_n (pc := 12) dL_patience_12 (by decide) rfl ?_
    refine WP.iconst (pc := 13) (v := 1) dL_patience_13 (by decide) ?_
    exact WP.iret (pc := 14) rfl dL_patience_14 (wO.no h0 (by decide) rfl h1 k1)
theorem qloafKind_le (m : mX) (i : Int32) : (q_loafKind m i).1 ≤ 1 := by
  unfold q_loafKind
  repeat' split
  all_goals exact Nat.le_of_ble_eq_true rfl
theorem CL_loafKind (hx : xAt σ x mm) (i : Int32) (ho : aT σ (x + 74) = (14, 1)) : Ctr Γ (9, 153, 1, 6) ML_loafKind [.ref x, .int i, .ref (x + 74)] σ (wO σ x (q_loafKind mm i)) := by
  refine Ctr.ofH (List.cons_ne_nil _ _) (by decide) (Nat.le_of_ble_eq_true rfl) (by intro v hv; simp only [List.mem_cons, List.not_mem_nil, or_false] at hv; rcases hv with rfl | rfl | rfl <;> rfl) ?_
  refine WP.aload_n (pc := 0) dL_loafKind_0 rfl ?_
  refine WP.iconst (pc := 1) (v := 0) dL_loafKind_1 (by decide) ?_
  refine WP.aload_n (pc := 2) dL_loafKind_2 rfl ?_
  refine WP.iload_n (pc := 3) dL_loafKind_3 rfl ?_
  refine WP.cXO (pc := 4) (mc2 := 0) (ms2 := 0) kL_69 (CX8_loafKind Γ hx i) rfl hx.1.t0 rfl ⟨(Nat.le_of_ble_eq_true rfl), (Nat.le_of_ble_eq_true rfl)⟩ (Nat.le_of_ble_eq_true rfl) (Nat.le_of_ble_eq_true rfl) (Nat.le_of_ble_eq_true rfl) rfl dL_loafKind_4 (fun τ h0 h1 k1 => ?_) (fun τ u h0 h1 k1 => ?_)
  · skip
    refine WP.i2l (pc := 7) dL_loafKind_7 ?_
    refine WP.lastore (pc := 8) (a := x + 74) (n := 1) ((k1 (x + 74) (by omega) (by omega)).1.trans ho) vp01 dL_loafKind_8 ?_
    refine WP.goto (pc := 9) (tgt := 15) dL_loafKind_9 (by decide) ?_
    refine WP.iconst (pc := 15) (v := 0) dL_loafKind_15 (by decide) ?_
    exact WP.iret (pc := 16) rfl dL_loafKind_16 (wO.ok h0 h1 k1)
  · have hle := qloafKind_le mm i
    obtain rfl : u = 0 := by omega
    refine WX.catch (E := eIO) (name := eIO) [] ⟨0, 9, 12, 29⟩ [] rfl (fun z hz => (nomatch hz)) (by decide) (by decide) bL_29 bC_29 (fun q => ?_)
    refine WP.astore_n (pc := 12) dL_loafKind_12 (by decide) rfl ?_
    refine WP.iconst (pc := 13) (v := 1) dL_loafKind_13 (by decide) ?_
    exact WP.iret (pc := 14) rfl dL_loafKind_14 (wO.no h0 (by decide) rfl h1 k1)
theorem qloafBaker_le (m : mX) (i : Int32) : (q_loafBaker m i).1 ≤ 1 := by
  unfold q_loafBaker
  repeat' split
  all_goals exact Nat.le_of_ble_eq_true rfl
theorem CL_loafBaker (hx : xAt σ x mm) (i : Int32) (ho : aT σ (x + 74) = (14, 1)) : Ctr Γ (9, 153, 1, 6) ML_loafBaker [.ref x, .int i, .ref (x + 74)] σ (wO σ x (q_loafBaker mm i)) := by
  refine Ctr.ofH (List.cons_ne_nil _ _) (by decide) (Nat.le_of_ble_eq_true rfl) (by intro v hv; simp only [List.mem_cons, List.not_mem_nil, or_false] at hv; rcases hv with rfl | rfl | rfl <;> rfl) ?_
  refine WP.aload_n (pc := 0) dL_loafBaker_0 rfl ?_
  refine WP.iconst (pc := 1) (v := 0) dL_loafBaker_1 (by decide) ?_
  refine WP.aload_n (pc := 2) dL_loafBaker_2 rfl ?_
  refine WP.iload_n (pc := 3) dL_loafBaker_3 rfl ?_
  refine WP.cXO (pc := 4) (mc2 := 0) (ms2 := 0) kL_72 (CX8_loafBaker Γ hx i) rfl hx.1.t0 rfl ⟨(Nat.le_of_ble_eq_true rfl), (Nat.le_of_ble_eq_true rfl)⟩ (Nat.le_of_ble_eq_true rfl) (Nat.le_of_ble_eq_true rfl) (Nat.le_of_ble_eq_true rfl) rfl dL_loafBaker_4 (fun τ h0 h1 k1 => ?_) (fun τ u h0 h1 k1 => ?_)
  · skip
    refine WP.i2l (pc := 7) dL_loafBaker_7 ?_
    refine WP.lastore (pc := 8) (a := x + 74) (n := 1) ((k1 (x + 74) (by omega) (by omega)).1.trans ho) vp01 dL_loafBaker_8 ?_
    refine WP.goto (pc := 9) (tgt := 15) dL_loafBaker_9 (by decide) ?_
    refine WP.iconst (pc := 15) (v := 0) dL_loafBaker_15 (by decide) ?_
    exact WP.iret (pc := 16) rfl dL_loafBaker_16 (wO.ok h0 h1 k1)
  · have hle := qloafBaker_le mm i
    obtain rfl : u = 0 := by omega
    refine WX.catch (E := eIO) (name := eIO) [] ⟨0, 9, 12, 29⟩ [] rfl (fun z hz => (nomatch hz)) (by decide) (by decide) bL_29 bC_29 (fun q => ?_)
    refine WP.astore_n (pc := 12) dL_loafBaker_12 (by decide) rfl ?_
    refine WP.iconst (pc := 13) (v := 1) dL_loafBaker_13 (by decide) ?_
    exact WP.iret (pc := 14) rfl dL_loafBaker_14 (wO.no h0 (by decide) rfl h1 k1)
theorem qloafAge_le (m : mX) (i : Int32) : (q_loafAge m i).1 ≤ 1 := by
  unfold q_loafAge
  repeat' split
  all_goals exact Nat.le_of_ble_eq_true rfl
theorem CL_loafAge (hx : xAt σ x mm) (i : Int32) (ho : aT σ (x + 74) = (14, 1)) : Ctr Γ (9, 153, 2, 12) ML_loafAge [.ref x, .int i, .ref (x + 74)] σ (wO σ x (q_loafAge mm i)) := by
  refine Ctr.ofH (List.cons_ne_nil _ _) (by decide) (Nat.le_of_ble_eq_true rfl) (by intro v hv; simp only [List.mem_cons, List.not_mem_nil, or_false] at hv; rcases hv with rfl | rfl | rfl <;> rfl) ?_
  refine WP.aload_n (pc := 0) dL_loafAge_0 rfl ?_
  refine WP.iconst (pc := 1) (v := 0) dL_loafAge_1 (by decide) ?_
  refine WP.aload_n (pc := 2) dL_loafAge_2 rfl ?_
  refine WP.iload_n (pc := 3) dL_loafAge_3 rfl ?_
  refine WP.cXO (pc := 4) (mc2 := 0) (ms2 := 0) kL_75 (CX8_loafAge Γ hx i) rfl hx.1.t0 rfl ⟨(Nat.le_of_ble_eq_true rfl), (Nat.le_of_ble_eq_true rfl)⟩ (Nat.le_of_ble_eq_true rfl) (Nat.le_of_ble_eq_true rfl) (Nat.le_of_ble_eq_true rfl) rfl dL_loafAge_4 (fun τ h0 h1 k1 => ?_) (fun τ u h0 h1 k1 => ?_)
  · skip
    refine WP.i2l (pc := 7) dL_loafAge_7 ?_
    refine WP.lastore (pc := 8) (a := x + 74) (n := 1) ((k1 (x + 74) (by omega) (by omega)).1.trans ho) vp01 dL_loafAge_8 ?_
    refine WP.goto (pc := 9) (tgt := 15) dL_loafAge_9 (by decide) ?_
    refine WP.iconst (pc := 15) (v := 0) dL_loafAge_15 (by decide) ?_
    exact WP.iret (pc := 16) rfl dL_loafAge_16 (wO.ok h0 h1 k1)
  · have hle := qloafAge_le mm i
    obtain rfl : u = 0 := by omega
    refine WX.catch (E := eIO) (name := eIO) [] ⟨0, 9, 12, 29⟩ [] rfl (fun z hz => (nomatch hz)) (by decide) (by decide) bL_29 bC_29 (fun q => ?_)
    refine WP.astore_n (pc := 12) dL_loafAge_12 (by decide) rfl ?_
    refine WP.iconst (pc := 13) (v := 1) dL_loafAge_13 (by decide) ?_
    exact WP.iret (pc := 14) rfl dL_loafAge_14 (wO.no h0 (by decide) rfl h1 k1)
theorem qreservePrice_le (m : mX) (i : Int32) : (q_reservePrice m i).1 ≤ 1 := by
  unfold q_reservePrice
  repeat' split
  all_goals exact Nat.le_of_ble_eq_true rfl
theorem CL_reservePrice (hx : xAt σ x mm) (i : Int32) (ho : aT σ (x + 74) = (14, 1)) : Ctr Γ (9, 153, 2, 12) ML_reservePrice [.ref x, .int i, .ref (x + 74)] σ (wO σ x (q_reservePrice mm i)) := by
  refine Ctr.ofH (List.cons_ne_nil _ _) (by decide) (Nat.le_of_ble_eq_true rfl) (by intro v hv; simp only [List.mem_cons, List.not_mem_nil, or_false] at hv; rcases hv with rfl | rfl | rfl <;> rfl) ?_
  refine WP.aload_n (pc := 0) dL_reservePrice_0 rfl ?_
  refine WP.iconst (pc := 1) (v := 0) dL_reservePrice_1 (by decide) ?_
  refine WP.aload_n (pc := 2) dL_reservePrice_2 rfl ?_
  refine WP.iload_n (pc := 3) dL_reservePrice_3 rfl ?_
  refine WP.cXO (pc := 4) (mc2 := 0) (ms2 := 0) kL_78 (CX8_reservePrice Γ hx i) rfl hx.1.t0 rfl ⟨(Nat.le_of_ble_eq_true rfl), (Nat.le_of_ble_eq_true rfl)⟩ (Nat.le_of_ble_eq_true rfl) (Nat.le_of_ble_eq_true rfl) (Nat.le_of_ble_eq_true rfl) rfl dL_reservePrice_4 (fun τ h0 h1 k1 => ?_) (fun τ u h0 h1 k1 => ?_)
  · skip
    refine WP.i2l (pc := 7) dL_reservePrice_7 ?_
    refine WP.lastore (pc := 8) (a := x + 74) (n := 1) ((k1 (x + 74) (by omega) (by omega)).1.trans ho) vp01 dL_reservePrice_8 ?_
    refine WP.goto (pc := 9) (tgt := 15) dL_reservePrice_9 (by decide) ?_
    refine WP.iconst (pc := 15) (v := 0) dL_reservePrice_15 (by decide) ?_
    exact WP.iret (pc := 16) rfl dL_reservePrice_16 (wO.ok h0 h1 k1)
  · have hle := qreservePrice_le mm i
    obtain rfl : u = 0 := by omega
    refine WX.catch (E := eIO) (name := eIO) [] ⟨0, 9, 12, 29⟩ [] rfl (fun z hz => (nomatch hz)) (by decide) (by decide) bL_29 bC_29 (fun q => ?_)
    refine WP.astore_n (pc := 12) dL_reservePrice_12 (by decide) rfl ?_
    refine WP.iconst (pc := 13) (v := 1) dL_reservePrice_13 (by decide) ?_
    exact WP.iret (pc := 14) rfl dL_reservePrice_14 (wO.no h0 (by decide) rfl h1 k1)
theorem qhoursUntilStale_le (m : mX) (i : Int32) : (q_hoursUntilStale m i).1 ≤ 1 := by
  unfold q_hoursUntilStale
  repeat' split
  all_goals exact Nat.le_of_ble_eq_true rfl
theorem CL_hoursUntilStale (hx : xAt σ x mm) (i : Int32) (ho : aT σ (x + 74) = (14, 1)) : Ctr Γ (9, 156, 2, 12) ML_hoursUntilStale [.ref x, .int i, .ref (x + 74)] σ (wO σ x (q_hoursUntilStale mm i)) := by
  refine Ctr.ofH (List.cons_ne_nil _ _) (by decide) (Nat.le_of_ble_eq_true rfl) (by intro v hv; simp only [List.mem_cons, List.not_mem_nil, or_false] at hv; rcases hv with rfl | rfl | rfl <;> rfl) ?_
  refine WP.aload_n (pc := 0) dL_hoursUntilStale_0 rfl ?_
  refine WP.iconst (pc := 1) (v := 0) dL_hoursUntilStale_1 (by decide) ?_
  refine WP.aload_n (pc := 2) dL_hoursUntilStale_2 rfl ?_
  refine WP.iload_n (pc := 3) dL_hoursUntilStale_3 rfl ?_
  refine WP.cXO (pc := 4) (mc2 := 0) (ms2 := 0) kL_81 (CX8_hoursUntilStale Γ hx i) rfl hx.1.t0 rfl ⟨(Nat.le_of_ble_eq_true rfl), (Nat.le_of_ble_eq_true rfl)⟩ (Nat.le_of_ble_eq_true rfl) (Nat.le_of_ble_eq_true rfl) (Nat.le_of_ble_eq_true rfl) rfl dL_hoursUntilStale_4 (fun τ h0 h1 k1 => ?_) (fun τ u h0 h1 k1 => ?_)
  · skip
    refine WP.i2l (pc := 7) dL_hoursUntilStale_7 ?_
    refine WP.lastore (pc := 8) (a := x + 74) (n := 1) ((k1 (x + 74) (by omega) (by omega)).1.trans ho) vp01 dL_hoursUntilStale_8 ?_
    refine WP.goto (pc := 9) (tgt := 15) dL_hoursUntilStale_9 (by decide) ?_
    refine WP.iconst (pc := 15) (v := 0) dL_hoursUntilStale_15 (by decide) ?_
    exact WP.iret (pc := 16) rfl dL_hoursUntilStale_16 (wO.ok h0 h1 k1)
  · have hle := qhoursUntilStale_le mm i
    obtain rfl : u = 0 := by omega
    refine WX.catch (E := eIO) (name := eIO) [] ⟨0, 9, 12, 29⟩ [] rfl (fun z hz => (nomatch hz)) (by decide) (by decide) bL_29 bC_29 (fun q => ?_)
    refine WP.astore_n (pc := 12) dL_hoursUntilStale_12 (by decide) rfl ?_
    refine WP.iconst (pc := 13) (v := 1) dL_hoursUntilStale_13 (by decide) ?_
    exact WP.iret (pc := 14) rfl dL_hoursUntilStale_14 (wO.no h0 (by decide) rfl h1 k1)
theorem qbasePrice_le (m : mX) (k : Int32) : (q_basePrice m k).1 ≤ 1 := by
  unfold q_basePrice
  repeat' split
  all_goals exact Nat.le_of_ble_eq_true rfl
theorem CL_basePrice (hx : xAt σ x mm) (k : Int32) (ho : aT σ (x + 74) = (14, 1)) : Ctr Γ (9, 152, 2, 12) ML_basePrice [.ref x, .int k, .ref (x + 74)] σ (wO σ x (q_basePrice mm k)) := by
  refine Ctr.ofH (List.cons_ne_nil _ _) (by decide) (Nat.le_of_ble_eq_true rfl) (by intro v hv; simp only [List.mem_cons, List.not_mem_nil, or_false] at hv; rcases hv with rfl | rfl | rfl <;> rfl) ?_
  refine WP.aload_n (pc := 0) dL_basePrice_0 rfl ?_
  refine WP.iconst (pc := 1) (v := 0) dL_basePrice_1 (by decide) ?_
  refine WP.aload_n (pc := 2) dL_basePrice_2 rfl ?_
  refine WP.iload_n (pc := 3) dL_basePrice_3 rfl ?_
  refine WP.cXO (pc := 4) (mc2 := 0) (ms2 := 0) kL_84 (CX8_basePrice Γ hx k) rfl hx.1.t0 rfl ⟨(Nat.le_of_ble_eq_true rfl), (Nat.le_of_ble_eq_true rfl)⟩ (Nat.le_of_ble_eq_true rfl) (Nat.le_of_ble_eq_true rfl) (Nat.le_of_ble_eq_true rfl) rfl dL_basePrice_4 (fun τ h0 h1 k1 => ?_) (fun τ u h0 h1 k1 => ?_)
  · skip
    refine WP.i2l (pc := 7) dL_basePrice_7 ?_
    refine WP.lastore (pc := 8) (a := x + 74) (n := 1) ((k1 (x + 74) (by omega) (by omega)).1.trans ho) vp01 dL_basePrice_8 ?_
    refine WP.goto (pc := 9) (tgt := 15) dL_basePrice_9 (by decide) ?_
    refine WP.iconst (pc := 15) (v := 0) dL_basePrice_15 (by decide) ?_
    exact WP.iret (pc := 16) rfl dL_basePrice_16 (wO.ok h0 h1 k1)
  · have hle := qbasePrice_le mm k
    obtain rfl : u = 0 := by omega
    refine WX.catch (E := eIO) (name := eIO) [] ⟨0, 9, 12, 29⟩ [] rfl (fun z hz => (nomatch hz)) (by decide) (by decide) bL_29 bC_29 (fun q => ?_)
    refine WP.astore_n (pc := 12) dL_basePrice_12 (by decide) rfl ?_
    refine WP.iconst (pc := 13) (v := 1) dL_basePrice_13 (by decide) ?_
    exact WP.iret (pc := 14) rfl dL_basePrice_14 (wO.no h0 (by decide) rfl h1 k1)
theorem qreserveAt_le (m : mX) (k : Int32) (a : Int32) : (q_reserveAt m k a).1 ≤ 2 := by
  unfold q_reserveAt
  repeat' split
  all_goals exact Nat.le_of_ble_eq_true rfl
theorem CL_reserveAt (hx : xAt σ x mm) (k a : Int32) (ho : aT σ (x + 74) = (14, 1)) : Ctr Γ (9, 153, 3, 18) ML_reserveAt [.ref x, .int k, .int a, .ref (x + 74)] σ (wO σ x (q_reserveAt mm k a)) := by
  refine Ctr.ofH (List.cons_ne_nil _ _) (by decide) (Nat.le_of_ble_eq_true rfl) (by intro v hv; simp only [List.mem_cons, List.not_mem_nil, or_false] at hv; rcases hv with rfl | rfl | rfl | rfl <;> rfl) ?_
  refine WP.aload_n (pc := 0) dL_reserveAt_0 rfl ?_
  refine WP.iconst (pc := 1) (v := 0) dL_reserveAt_1 (by decide) ?_
  refine WP.aload_n (pc := 2) dL_reserveAt_2 rfl ?_
  refine WP.iload_n (pc := 3) dL_reserveAt_3 rfl ?_
  refine WP.iload_n (pc := 4) dL_reserveAt_4 rfl ?_
  refine WP.cXO (pc := 5) (mc2 := 0) (ms2 := 0) kL_87 (CX8_reserveAt Γ hx k a) rfl hx.1.t0 rfl ⟨(Nat.le_of_ble_eq_true rfl), (Nat.le_of_ble_eq_true rfl)⟩ (Nat.le_of_ble_eq_true rfl) (Nat.le_of_ble_eq_true rfl) (Nat.le_of_ble_eq_true rfl) rfl dL_reserveAt_5 (fun τ h0 h1 k1 => ?_) (fun τ u h0 h1 k1 => ?_)
  · skip
    refine WP.i2l (pc := 8) dL_reserveAt_8 ?_
    refine WP.lastore (pc := 9) (a := x + 74) (n := 1) ((k1 (x + 74) (by omega) (by omega)).1.trans ho) vp01 dL_reserveAt_9 ?_
    refine WP.goto (pc := 10) (tgt := 21) dL_reserveAt_10 (by decide) ?_
    refine WP.iconst (pc := 21) (v := 0) dL_reserveAt_21 (by decide) ?_
    exact WP.iret (pc := 22) rfl dL_reserveAt_22 (wO.ok h0 h1 k1)
  · have hle := qreserveAt_le mm k a
    rcases (by omega : u = 0 ∨ u = 1) with rfl | rfl
    · refine WX.catch (E := eIO) (name := eIO) [] ⟨0, 10, 13, 29⟩ [⟨0, 10, 17, 19⟩] rfl (fun z hz => (nomatch hz)) (by decide) (by decide) bL_29 bC_29 (fun q => ?_)
      refine WP.astore (pc := 13) dL_reserveAt_13 (by decide) rfl ?_
      refine WP.iconst (pc := 15) (v := 1) dL_reserveAt_15 (by decide) ?_
      exact WP.iret (pc := 16) rfl dL_reserveAt_16 (wO.no h0 (by decide) rfl h1 k1)
    · refine WX.catch (E := eIA) (name := eIA) [⟨0, 10, 13, 29⟩] ⟨0, 10, 17, 19⟩ [] rfl (fun z hz => by simp only [List.mem_cons, List.not_mem_nil, or_false] at hz; subst hz; first | exact ⟨(by decide : (29 : Nat) ≠ 0), _, bL_29, bN_19_29⟩) (by decide) (by decide) bL_19 bC_19 (fun q => ?_)
      refine WP.astore (pc := 17) dL_reserveAt_17 (by decide) rfl ?_
      refine WP.iconst (pc := 19) (v := 2) dL_reserveAt_19 (by decide) ?_
      exact WP.iret (pc := 20) rfl dL_reserveAt_20 (wO.no h0 (by decide) rfl h1 k1)
theorem qbidCount_le (m : mX) (k : Int32) : (q_bidCount m k).1 ≤ 1 := by
  unfold q_bidCount
  repeat' split
  all_goals exact Nat.le_of_ble_eq_true rfl
theorem CL_bidCount (hx : xAt σ x mm) (hw : wf T C mm.s) (k : Int32) (ho : aT σ (x + 74) = (14, 1)) : Ctr Γ (9, 152, 1, 6) ML_bidCount [.ref x, .int k, .ref (x + 74)] σ (wO σ x (q_bidCount mm k)) := by
  refine Ctr.ofH (List.cons_ne_nil _ _) (by decide) (Nat.le_of_ble_eq_true rfl) (by intro v hv; simp only [List.mem_cons, List.not_mem_nil, or_false] at hv; rcases hv with rfl | rfl | rfl <;> rfl) ?_
  refine WP.aload_n (pc := 0) dL_bidCount_0 rfl ?_
  refine WP.iconst (pc := 1) (v := 0) dL_bidCount_1 (by decide) ?_
  refine WP.aload_n (pc := 2) dL_bidCount_2 rfl ?_
  refine WP.iload_n (pc := 3) dL_bidCount_3 rfl ?_
  refine WP.cXO (pc := 4) (mc2 := 0) (ms2 := 0) kL_90 (CX8_bidCount Γ hx hw k) rfl hx.1.t0 rfl ⟨(Nat.le_of_ble_eq_true rfl), (Nat.le_of_ble_eq_true rfl)⟩ (Nat.le_of_ble_eq_true rfl) (Nat.le_of_ble_eq_true rfl) (Nat.le_of_ble_eq_true rfl) rfl dL_bidCount_4 (fun τ h0 h1 k1 => ?_) (fun τ u h0 h1 k1 => ?_)
  · skip
    refine WP.i2l (pc := 7) dL_bidCount_7 ?_
    refine WP.lastore (pc := 8) (a := x + 74) (n := 1) ((k1 (x + 74) (by omega) (by omega)).1.trans ho) vp01 dL_bidCount_8 ?_
    refine WP.goto (pc := 9) (tgt := 15) dL_bidCount_9 (by decide) ?_
    refine WP.iconst (pc := 15) (v := 0) dL_bidCount_15 (by decide) ?_
    exact WP.iret (pc := 16) rfl dL_bidCount_16 (wO.ok h0 h1 k1)
  · have hle := qbidCount_le mm k
    obtain rfl : u = 0 := by omega
    refine WX.catch (E := eIO) (name := eIO) [] ⟨0, 9, 12, 29⟩ [] rfl (fun z hz => (nomatch hz)) (by decide) (by decide) bL_29 bC_29 (fun q => ?_)
    refine WP.astore_n (pc := 12) dL_bidCount_12 (by decide) rfl ?_
    refine WP.iconst (pc := 13) (v := 1) dL_bidCount_13 (by decide) ?_
    exact WP.iret (pc := 14) rfl dL_bidCount_14 (wO.no h0 (by decide) rfl h1 k1)
theorem qtradeCount_le (m : mX) (k : Int32) : (q_tradeCount m k).1 ≤ 1 := by
  unfold q_tradeCount
  repeat' split
  all_goals exact Nat.le_of_ble_eq_true rfl
theorem CL_tradeCount (hx : xAt σ x mm) (hw : wf T C mm.s) (k : Int32) (ho : aT σ (x + 74) = (14, 1)) : Ctr Γ (9, 152, 1, 6) ML_tradeCount [.ref x, .int k, .ref (x + 74)] σ (wO σ x (q_tradeCount mm k)) := by
  refine Ctr.ofH (List.cons_ne_nil _ _) (by decide) (Nat.le_of_ble_eq_true rfl) (by intro v hv; simp only [List.mem_cons, List.not_mem_nil, or_false] at hv; rcases hv with rfl | rfl | rfl <;> rfl) ?_
  refine WP.aload_n (pc := 0) dL_tradeCount_0 rfl ?_
  refine WP.iconst (pc := 1) (v := 0) dL_tradeCount_1 (by decide) ?_
  refine WP.aload_n (pc := 2) dL_tradeCount_2 rfl ?_
  refine WP.iload_n (pc := 3) dL_tradeCount_3 rfl ?_
  refine WP.cXO (pc := 4) (mc2 := 0) (ms2 := 0) kL_93 (CX8_tradeCount Γ hx hw k) rfl hx.1.t0 rfl ⟨(Nat.le_of_ble_eq_true rfl), (Nat.le_of_ble_eq_true rfl)⟩ (Nat.le_of_ble_eq_true rfl) (Nat.le_of_ble_eq_true rfl) (Nat.le_of_ble_eq_true rfl) rfl dL_tradeCount_4 (fun τ h0 h1 k1 => ?_) (fun τ u h0 h1 k1 => ?_)
  · skip
    refine WP.i2l (pc := 7) dL_tradeCount_7 ?_
    refine WP.lastore (pc := 8) (a := x + 74) (n := 1) ((k1 (x + 74) (by omega) (by omega)).1.trans ho) vp01 dL_tradeCount_8 ?_
    refine WP.goto (pc := 9) (tgt := 15) dL_tradeCount_9 (by decide) ?_
    refine WP.iconst (pc := 15) (v := 0) dL_tradeCount_15 (by decide) ?_
    exact WP.iret (pc := 16) rfl dL_tradeCount_16 (wO.ok h0 h1 k1)
  · have hle := qtradeCount_le mm k
    obtain rfl : u = 0 := by omega
    refine WX.catch (E := eIO) (name := eIO) [] ⟨0, 9, 12, 29⟩ [] rfl (fun z hz => (nomatch hz)) (by decide) (by decide) bL_29 bC_29 (fun q => ?_)
    refine WP.astore_n (pc := 12) dL_tradeCount_12 (by decide) rfl ?_
    refine WP.iconst (pc := 13) (v := 1) dL_tradeCount_13 (by decide) ?_
    exact WP.iret (pc := 14) rfl dL_tradeCount_14 (wO.no h0 (by decide) rfl h1 k1)
theorem qclearingPrice_le (m : mX) (k : Int32) : (q_clearingPrice m k).1 ≤ 1 := by
  unfold q_clearingPrice
  repeat' split
  all_goals exact Nat.le_of_ble_eq_true rfl
theorem CL_clearingPrice (hx : xAt σ x mm) (hw : wf T C mm.s) (k : Int32) (ho : aT σ (x + 74) = (14, 1)) : Ctr Γ (9, 152, 1, 6) ML_clearingPrice [.ref x, .int k, .ref (x + 74)] σ (wO σ x (q_clearingPrice mm k)) := by
  refine Ctr.ofH (List.cons_ne_nil _ _) (by decide) (Nat.le_of_ble_eq_true rfl) (by intro v hv; simp only [List.mem_cons, List.not_mem_nil, or_false] at hv; rcases hv with rfl | rfl | rfl <;> rfl) ?_
  refine WP.aload_n (pc := 0) dL_clearingPrice_0 rfl ?_
  refine WP.iconst (pc := 1) (v := 0) dL_clearingPrice_1 (by decide) ?_
  refine WP.aload_n (pc := 2) dL_clearingPrice_2 rfl ?_
  refine WP.iload_n (pc := 3) dL_clearingPrice_3 rfl ?_
  refine WP.cXO (pc := 4) (mc2 := 0) (ms2 := 0) kL_96 (CX8_clearingPrice Γ hx hw k) rfl hx.1.t0 rfl ⟨(Nat.le_of_ble_eq_true rfl), (Nat.le_of_ble_eq_true rfl)⟩ (Nat.le_of_ble_eq_true rfl) (Nat.le_of_ble_eq_true rfl) (Nat.le_of_ble_eq_true rfl) rfl dL_clearingPrice_4 (fun τ h0 h1 k1 => ?_) (fun τ u h0 h1 k1 => ?_)
  · skip
    refine WP.i2l (pc := 7) dL_clearingPrice_7 ?_
    refine WP.lastore (pc := 8) (a := x + 74) (n := 1) ((k1 (x + 74) (by omega) (by omega)).1.trans ho) vp01 dL_clearingPrice_8 ?_
    refine WP.goto (pc := 9) (tgt := 15) dL_clearingPrice_9 (by decide) ?_
    refine WP.iconst (pc := 15) (v := 0) dL_clearingPrice_15 (by decide) ?_
    exact WP.iret (pc := 16) rfl dL_clearingPrice_16 (wO.ok h0 h1 k1)
  · have hle := qclearingPrice_le mm k
    obtain rfl : u = 0 := by omega
    refine WX.catch (E := eIO) (name := eIO) [] ⟨0, 9, 12, 29⟩ [] rfl (fun z hz => (nomatch hz)) (by decide) (by decide) bL_29 bC_29 (fun q => ?_)
    refine WP.astore_n (pc := 12) dL_clearingPrice_12 (by decide) rfl ?_
    refine WP.iconst (pc := 13) (v := 1) dL_clearingPrice_13 (by decide) ?_
    exact WP.iret (pc := 14) rfl dL_clearingPrice_14 (wO.no h0 (by decide) rfl h1 k1)
theorem qreasonNoTrades_le (m : mX) (k : Int32) : (q_reasonNoTrades m k).1 ≤ 1 := by
  unfold q_reasonNoTrades
  repeat' split
  all_goals exact Nat.le_of_ble_eq_true rfl
theorem CL_reasonNoTrades (hx : xAt σ x mm) (hw : wf T C mm.s) (k : Int32) (ho : aT σ (x + 74) = (14, 1)) : Ctr Γ (9, 152, 1, 6) ML_reasonNoTrades [.ref x, .int k, .ref (x + 74)] σ (wO σ x (q_reasonNoTrades mm k)) := by
  refine Ctr.ofH (List.cons_ne_nil _ _) (by decide) (Nat.le_of_ble_eq_true rfl) (by intro v hv; simp only [List.mem_cons, List.not_mem_nil, or_false] at hv; rcases hv with rfl | rfl | rfl <;> rfl) ?_
  refine WP.aload_n (pc := 0) dL_reasonNoTrades_0 rfl ?_
  refine WP.iconst (pc := 1) (v := 0) dL_reasonNoTrades_1 (by decide) ?_
  refine WP.aload_n (pc := 2) dL_reasonNoTrades_2 rfl ?_
  refine WP.iload_n (pc := 3) dL_reasonNoTrades_3 rfl ?_
  refine WP.cXO (pc := 4) (mc2 := 0) (ms2 := 0) kL_99 (CX8_reasonNoTrades Γ hx hw k) rfl hx.1.t0 rfl ⟨(Nat.le_of_ble_eq_true rfl), (Nat.le_of_ble_eq_true rfl)⟩ (Nat.le_of_ble_eq_true rfl) (Nat.le_of_ble_eq_true rfl) (Nat.le_of_ble_eq_true rfl) rfl dL_reasonNoTrades_4 (fun τ h0 h1 k1 => ?_) (fun τ u h0 h1 k1 => ?_)
  · skip
    refine WP.i2l (pc := 7) dL_reasonNoTrades_7 ?_
    refine WP.lastore (pc := 8) (a := x + 74) (n := 1) ((k1 (x + 74) (by omega) (by omega)).1.trans ho) vp01 dL_reasonNoTrades_8 ?_
    refine WP.goto (pc := 9) (tgt := 15) dL_reasonNoTrades_9 (by decide) ?_
    refine WP.iconst (pc := 15) (v := 0) dL_reasonNoTrades_15 (by decide) ?_
    exact WP.iret (pc := 16) rfl dL_reasonNoTrades_16 (wO.ok h0 h1 k1)
  · have hle := qreasonNoTrades_le mm k
    obtain rfl : u = 0 := by omega
    refine WX.catch (E := eIO) (name := eIO) [] ⟨0, 9, 12, 29⟩ [] rfl (fun z hz => (nomatch hz)) (by decide) (by decide) bL_29 bC_29 (fun q => ?_)
    refine WP.astore_n (pc := 12) dL_reasonNoTrades_12 (by decide) rfl ?_
    refine WP.iconst (pc := 13) (v := 1) dL_reasonNoTrades_13 (by decide) ?_
    exact WP.iret (pc := 14) rfl dL_reasonNoTrades_14 (wO.no h0 (by decide) rfl h1 k1)
theorem qbuyerOf_le (m : mX) (k : Int32) (t : Int32) : (q_buyerOf m k t).1 ≤ 2 := by
  unfold q_buyerOf
  repeat' split
  all_goals exact Nat.le_of_ble_eq_true rfl
theorem CL_buyerOf (hx : xAt σ x mm) (hw : wf T C mm.s) (k t : Int32) (ho : aT σ (x + 74) = (14, 1)) : Ctr Γ (9, 153, 2, 12) ML_buyerOf [.ref x, .int k, .int t, .ref (x + 74)] σ (wO σ x (q_buyerOf mm k t)) := by
  refine Ctr.ofH (List.cons_ne_nil _ _) (by decide) (Nat.le_of_ble_eq_true rfl) (by intro v hv; simp only [List.mem_cons, List.not_mem_nil, or_false] at hv; rcases hv with rfl | rfl | rfl | rfl <;> rfl) ?_
  refine WP.aload_n (pc := 0) dL_buyerOf_0 rfl ?_
  refine WP.iconst (pc := 1) (v := 0) dL_buyerOf_1 (by decide) ?_
  refine WP.aload_n (pc := 2) dL_buyerOf_2 rfl ?_
  refine WP.iload_n (pc := 3) dL_buyerOf_3 rfl ?_
  refine WP.iload_n (pc := 4) dL_buyerOf_4 rfl ?_
  refine WP.cXO (pc := 5) (mc2 := 0) (ms2 := 0) kL_102 (CX8_buyerOf Γ hx hw k t) rfl hx.1.t0 rfl ⟨(Nat.le_of_ble_eq_true rfl), (Nat.le_of_ble_eq_true rfl)⟩ (Nat.le_of_ble_eq_true rfl) (Nat.le_of_ble_eq_true rfl) (Nat.le_of_ble_eq_true rfl) rfl dL_buyerOf_5 (fun τ h0 h1 k1 => ?_) (fun τ u h0 h1 k1 => ?_)
  · skip
    refine WP.i2l (pc := 8) dL_buyerOf_8 ?_
    refine WP.lastore (pc := 9) (a := x + 74) (n := 1) ((k1 (x + 74) (by omega) (by omega)).1.trans ho) vp01 dL_buyerOf_9 ?_
    refine WP.goto (pc := 10) (tgt := 21) dL_buyerOf_10 (by decide) ?_
    refine WP.iconst (pc := 21) (v := 0) dL_buyerOf_21 (by decide) ?_
    exact WP.iret (pc := 22) rfl dL_buyerOf_22 (wO.ok h0 h1 k1)
  · have hle := qbuyerOf_le mm k t
    rcases (by omega : u = 0 ∨ u = 1) with rfl | rfl
    · refine WX.catch (E := eIO) (name := eIO) [] ⟨0, 10, 13, 29⟩ [⟨0, 10, 17, 31⟩] rfl (fun z hz => (nomatch hz)) (by decide) (by decide) bL_29 bC_29 (fun q => ?_)
      refine WP.astore (pc := 13) dL_buyerOf_13 (by decide) rfl ?_
      refine WP.iconst (pc := 15) (v := 1) dL_buyerOf_15 (by decide) ?_
      exact WP.iret (pc := 16) rfl dL_buyerOf_16 (wO.no h0 (by decide) rfl h1 k1)
    · refine WX.catch (E := nE) (name := nE) [⟨0, 10, 13, 29⟩] ⟨0, 10, 17, 31⟩ [] rfl (fun z hz => by simp only [List.mem_cons, List.not_mem_nil, or_false] at hz; subst hz; first | exact ⟨(by decide : (29 : Nat) ≠ 0), _, bL_29, bN_31_29⟩) (by decide) (by decide) bL_31 bC_31 (fun q => ?_)
      refine WP.astore (pc := 17) dL_buyerOf_17 (by decide) rfl ?_
      refine WP.iconst (pc := 19) (v := 2) dL_buyerOf_19 (by decide) ?_
      exact WP.iret (pc := 20) rfl dL_buyerOf_20 (wO.no h0 (by decide) rfl h1 k1)
theorem qloafOf_le (m : mX) (k : Int32) (t : Int32) : (q_loafOf m k t).1 ≤ 2 := by
  unfold q_loafOf
  repeat' split
  all_goals exact Nat.le_of_ble_eq_true rfl
theorem CL_loafOf (hx : xAt σ x mm) (hw : wf T C mm.s) (k t : Int32) (ho : aT σ (x + 74) = (14, 1)) : Ctr Γ (9, 153, 2, 12) ML_loafOf [.ref x, .int k, .int t, .ref (x + 74)] σ (wO σ x (q_loafOf mm k t)) := by
  refine Ctr.ofH (List.cons_ne_nil _ _) (by decide) (Nat.le_of_ble_eq_true rfl) (by intro v hv; simp only [List.mem_cons, List.not_mem_nil, or_false] at hv; rcases hv with rfl | rfl | rfl | rfl <;> rfl) ?_
  refine WP.aload_n (pc := 0) dL_loafOf_0 rfl ?_
  refine WP.iconst (pc := 1) (v := 0) dL_loafOf_1 (by decide) ?_
  refine WP.aload_n (pc := 2) dL_loafOf_2 rfl ?_
  refine WP.iload_n (pc := 3) dL_loafOf_3 rfl ?_
  refine WP.iload_n (pc := 4) dL_loafOf_4 rfl ?_
  refine WP.cXO (pc := 5) (mc2 := 0) (ms2 := 0) kL_105 (CX8_loafOf Γ hx hw k t) rfl hx.1.t0 rfl ⟨(Nat.le_of_ble_eq_true rfl), (Nat.le_of_ble_eq_true rfl)⟩ (Nat.le_of_ble_eq_true rfl) (Nat.le_of_ble_eq_true rfl) (Nat.le_of_ble_eq_true rfl) rfl dL_loafOf_5 (fun τ h0 h1 k1 => ?_) (fun τ u h0 h1 k1 => ?_)
  · skip
    refine WP.i2l (pc := 8) dL_loafOf_8 ?_
    refine WP.lastore (pc := 9) (a := x + 74) (n := 1) ((k1 (x + 74) (by omega) (by omega)).1.trans ho) vp01 dL_loafOf_9 ?_
    refine WP.goto (pc := 10) (tgt := 21) dL_loafOf_10 (by decide) ?_
    refine WP.iconst (pc := 21) (v := 0) dL_loafOf_21 (by decide) ?_
    exact WP.iret (pc := 22) rfl dL_loafOf_22 (wO.ok h0 h1 k1)
  · have hle := qloafOf_le mm k t
    rcases (by omega : u = 0 ∨ u = 1) with rfl | rfl
    · refine WX.catch (E := eIO) (name := eIO) [] ⟨0, 10, 13, 29⟩ [⟨0, 10, 17, 31⟩] rfl (fun z hz => (nomatch hz)) (by decide) (by decide) bL_29 bC_29 (fun q => ?_)
      refine WP.astore (pc := 13) dL_loafOf_13 (by decide) rfl ?_
      refine WP.iconst (pc := 15) (v := 1) dL_loafOf_15 (by decide) ?_
      exact WP.iret (pc := 16) rfl dL_loafOf_16 (wO.no h0 (by decide) rfl h1 k1)
    · refine WX.catch (E := nE) (name := nE) [⟨0, 10, 13, 29⟩] ⟨0, 10, 17, 31⟩ [] rfl (fun z hz => by simp only [List.mem_cons, List.not_mem_nil, or_false] at hz; subst hz; first | exact ⟨(by decide : (29 : Nat) ≠ 0), _, bL_29, bN_31_29⟩) (by decide) (by decide) bL_31 bC_31 (fun q => ?_)
      refine WP.astore (pc := 17) dL_loafOf_17 (by decide) rfl ?_
      refine WP.iconst (pc := 19) (v := 2) dL_loafOf_19 (by decide) ?_
      exact WP.iret (pc := 20) rfl dL_loafOf_20 (wO.no h0 (by decide) rfl h1 k1)
theorem qgain_le (m : mX) (k : Int32) : (q_gain m k).1 ≤ 1 := by
  unfold q_gain
  repeat' split
  all_goals exact Nat.le_of_ble_eq_true rfl
theorem CL_gain (hx : xAt σ x mm) (hw : wf T C mm.s) (k : Int32) (ho : aT σ (x + 74) = (14, 1)) : Ctr Γ (9, 152, 1, 6) ML_gain [.ref x, .int k, .ref (x + 74)] σ (wO σ x (q_gain mm k)) := by
  refine Ctr.ofH (List.cons_ne_nil _ _) (by decide) (Nat.le_of_ble_eq_true rfl) (by intro v hv; simp only [List.mem_cons, List.not_mem_nil, or_false] at hv; rcases hv with rfl | rfl | rfl <;> rfl) ?_
  refine WP.aload_n (pc := 0) dL_gain_0 rfl ?_
  refine WP.iconst (pc := 1) (v := 0) dL_gain_1 (by decide) ?_
  refine WP.aload_n (pc := 2) dL_gain_2 rfl ?_
  refine WP.iload_n (pc := 3) dL_gain_3 rfl ?_
  refine WP.cXO (pc := 4) (mc2 := 0) (ms2 := 0) kL_108 (CX8_gain Γ hx hw k) rfl hx.1.t0 rfl ⟨(Nat.le_of_ble_eq_true rfl), (Nat.le_of_ble_eq_true rfl)⟩ (Nat.le_of_ble_eq_true rfl) (Nat.le_of_ble_eq_true rfl) (Nat.le_of_ble_eq_true rfl) rfl dL_gain_4 (fun τ h0 h1 k1 => ?_) (fun τ u h0 h1 k1 => ?_)
  · skip
    refine WP.i2l (pc := 7) dL_gain_7 ?_
    refine WP.lastore (pc := 8) (a := x + 74) (n := 1) ((k1 (x + 74) (by omega) (by omega)).1.trans ho) vp01 dL_gain_8 ?_
    refine WP.goto (pc := 9) (tgt := 15) dL_gain_9 (by decide) ?_
    refine WP.iconst (pc := 15) (v := 0) dL_gain_15 (by decide) ?_
    exact WP.iret (pc := 16) rfl dL_gain_16 (wO.ok h0 h1 k1)
  · have hle := qgain_le mm k
    obtain rfl : u = 0 := by omega
    refine WX.catch (E := eIO) (name := eIO) [] ⟨0, 9, 12, 29⟩ [] rfl (fun z hz => (nomatch hz)) (by decide) (by decide) bL_29 bC_29 (fun q => ?_)
    refine WP.astore_n (pc := 12) dL_gain_12 (by decide) rfl ?_
    refine WP.iconst (pc := 13) (v := 1) dL_gain_13 (by decide) ?_
    exact WP.iret (pc := 14) rfl dL_gain_14 (wO.no h0 (by decide) rfl h1 k1)
theorem qeventType_le (m : mX) (i : Int32) : (q_eventType m i).1 ≤ 1 := by
  unfold q_eventType
  repeat' split
  all_goals exact Nat.le_of_ble_eq_true rfl
theorem CL_eventType (hx : xAt σ x mm) (i : Int32) (ho : aT σ (x + 74) = (14, 1)) : Ctr Γ (9, 153, 1, 6) ML_eventType [.ref x, .int i, .ref (x + 74)] σ (wO σ x (q_eventType mm i)) := by
  refine Ctr.ofH (List.cons_ne_nil _ _) (by decide) (Nat.le_of_ble_eq_true rfl) (by intro v hv; simp only [List.mem_cons, List.not_mem_nil, or_false] at hv; rcases hv with rfl | rfl | rfl <;> rfl) ?_
  refine WP.aload_n (pc := 0) dL_eventType_0 rfl ?_
  refine WP.iconst (pc := 1) (v := 0) dL_eventType_1 (by decide) ?_
  refine WP.aload_n (pc := 2) dL_eventType_2 rfl ?_
  refine WP.iload_n (pc := 3) dL_eventType_3 rfl ?_
  refine WP.cXO (pc := 4) (mc2 := 0) (ms2 := 0) kL_111 (CX8_eventType Γ hx i) rfl hx.1.t0 rfl ⟨(Nat.le_of_ble_eq_true rfl), (Nat.le_of_ble_eq_true rfl)⟩ (Nat.le_of_ble_eq_true rfl) (Nat.le_of_ble_eq_true rfl) (Nat.le_of_ble_eq_true rfl) rfl dL_eventType_4 (fun τ h0 h1 k1 => ?_) (fun τ u h0 h1 k1 => ?_)
  · skip
    refine WP.i2l (pc := 7) dL_eventType_7 ?_
    refine WP.lastore (pc := 8) (a := x + 74) (n := 1) ((k1 (x + 74) (by omega) (by omega)).1.trans ho) vp01 dL_eventType_8 ?_
    refine WP.goto (pc := 9) (tgt := 15) dL_eventType_9 (by decide) ?_
    refine WP.iconst (pc := 15) (v := 0) dL_eventType_15 (by decide) ?_
    exact WP.iret (pc := 16) rfl dL_eventType_16 (wO.ok h0 h1 k1)
  · have hle := qeventType_le mm i
    obtain rfl : u = 0 := by omega
    refine WX.catch (E := eIO) (name := eIO) [] ⟨0, 9, 12, 29⟩ [] rfl (fun z hz => (nomatch hz)) (by decide) (by decide) bL_29 bC_29 (fun q => ?_)
    refine WP.astore_n (pc := 12) dL_eventType_12 (by decide) rfl ?_
    refine WP.iconst (pc := 13) (v := 1) dL_eventType_13 (by decide) ?_
    exact WP.iret (pc := 14) rfl dL_eventType_14 (wO.no h0 (by decide) rfl h1 k1)
theorem qeventFirst_le (m : mX) (i : Int32) : (q_eventFirst m i).1 ≤ 1 := by
  unfold q_eventFirst
  repeat' split
  all_goals exact Nat.le_of_ble_eq_true rfl
theorem CL_eventFirst (hx : xAt σ x mm) (i : Int32) (ho : aT σ (x + 74) = (14, 1)) : Ctr Γ (9, 153, 1, 6) ML_eventFirst [.ref x, .int i, .ref (x + 74)] σ (wO σ x (q_eventFirst mm i)) := by
  refine Ctr.ofH (List.cons_ne_nil _ _) (by decide) (Nat.le_of_ble_eq_true rfl) (by intro v hv; simp only [List.mem_cons, List.not_mem_nil, or_false] at hv; rcases hv with rfl | rfl | rfl <;> rfl) ?_
  refine WP.aload_n (pc := 0) dL_eventFirst_0 rfl ?_
  refine WP.iconst (pc := 1) (v := 0) dL_eventFirst_1 (by decide) ?_
  refine WP.aload_n (pc := 2) dL_eventFirst_2 rfl ?_
  refine WP.iload_n (pc := 3) dL_eventFirst_3 rfl ?_
  refine WP.cXO (pc := 4) (mc2 := 0) (ms2 := 0) kL_114 (CX8_eventFirst Γ hx i) rfl hx.1.t0 rfl ⟨(Nat.le_of_ble_eq_true rfl), (Nat.le_of_ble_eq_true rfl)⟩ (Nat.le_of_ble_eq_true rfl) (Nat.le_of_ble_eq_true rfl) (Nat.le_of_ble_eq_true rfl) rfl dL_eventFirst_4 (fun τ h0 h1 k1 => ?_) (fun τ u h0 h1 k1 => ?_)
  · skip
    refine WP.i2l (pc := 7) dL_eventFirst_7 ?_
    refine WP.lastore (pc := 8) (a := x + 74) (n := 1) ((k1 (x + 74) (by omega) (by omega)).1.trans ho) vp01 dL_eventFirst_8 ?_
    refine WP.goto (pc := 9) (tgt := 15) dL_eventFirst_9 (by decide) ?_
    refine WP.iconst (pc := 15) (v := 0) dL_eventFirst_15 (by decide) ?_
    exact WP.iret (pc := 16) rfl dL_eventFirst_16 (wO.ok h0 h1 k1)
  · have hle := qeventFirst_le mm i
    obtain rfl : u = 0 := by omega
    refine WX.catch (E := eIO) (name := eIO) [] ⟨0, 9, 12, 29⟩ [] rfl (fun z hz => (nomatch hz)) (by decide) (by decide) bL_29 bC_29 (fun q => ?_)
    refine WP.astore_n (pc := 12) dL_eventFirst_12 (by decide) rfl ?_
    refine WP.iconst (pc := 13) (v := 1) dL_eventFirst_13 (by decide) ?_
    exact WP.iret (pc := 14) rfl dL_eventFirst_14 (wO.no h0 (by decide) rfl h1 k1)
theorem qeventSecond_le (m : mX) (i : Int32) : (q_eventSecond m i).1 ≤ 1 := by
  unfold q_eventSecond
  repeat' split
  all_goals exact Nat.le_of_ble_eq_true rfl
theorem CL_eventSecond (hx : xAt σ x mm) (i : Int32) (ho : aT σ (x + 74) = (14, 1)) : Ctr Γ (9, 153, 1, 6) ML_eventSecond [.ref x, .int i, .ref (x + 74)] σ (wO σ x (q_eventSecond mm i)) := by
  refine Ctr.ofH (List.cons_ne_nil _ _) (by decide) (Nat.le_of_ble_eq_true rfl) (by intro v hv; simp only [List.mem_cons, List.not_mem_nil, or_false] at hv; rcases hv with rfl | rfl | rfl <;> rfl) ?_
  refine WP.aload_n (pc := 0) dL_eventSecond_0 rfl ?_
  refine WP.iconst (pc := 1) (v := 0) dL_eventSecond_1 (by decide) ?_
  refine WP.aload_n (pc := 2) dL_eventSecond_2 rfl ?_
  refine WP.iload_n (pc := 3) dL_eventSecond_3 rfl ?_
  refine WP.cXO (pc := 4) (mc2 := 0) (ms2 := 0) kL_117 (CX8_eventSecond Γ hx i) rfl hx.1.t0 rfl ⟨(Nat.le_of_ble_eq_true rfl), (Nat.le_of_ble_eq_true rfl)⟩ (Nat.le_of_ble_eq_true rfl) (Nat.le_of_ble_eq_true rfl) (Nat.le_of_ble_eq_true rfl) rfl dL_eventSecond_4 (fun τ h0 h1 k1 => ?_) (fun τ u h0 h1 k1 => ?_)
  · skip
    refine WP.i2l (pc := 7) dL_eventSecond_7 ?_
    refine WP.lastore (pc := 8) (a := x + 74) (n := 1) ((k1 (x + 74) (by omega) (by omega)).1.trans ho) vp01 dL_eventSecond_8 ?_
    refine WP.goto (pc := 9) (tgt := 15) dL_eventSecond_9 (by decide) ?_
    refine WP.iconst (pc := 15) (v := 0) dL_eventSecond_15 (by decide) ?_
    exact WP.iret (pc := 16) rfl dL_eventSecond_16 (wO.ok h0 h1 k1)
  · have hle := qeventSecond_le mm i
    obtain rfl : u = 0 := by omega
    refine WX.catch (E := eIO) (name := eIO) [] ⟨0, 9, 12, 29⟩ [] rfl (fun z hz => (nomatch hz)) (by decide) (by decide) bL_29 bC_29 (fun q => ?_)
    refine WP.astore_n (pc := 12) dL_eventSecond_12 (by decide) rfl ?_
    refine WP.iconst (pc := 13) (v := 1) dL_eventSecond_13 (by decide) ?_
    exact WP.iret (pc := 14) rfl dL_eventSecond_14 (wO.no h0 (by decide) rfl h1 k1)
theorem qsparrowsAfter_le (m : mX) (h : Int32) : (q_sparrowsAfter m h).1 ≤ 1 := by
  unfold q_sparrowsAfter
  repeat' split
  all_goals exact Nat.le_of_ble_eq_true rfl
theorem CL_sparrowsAfter (hx : xAt σ x mm) (hw : wf T C mm.s) (hT : T ≤ 2147483647) (hC : C + 30000 < 2147483648) (h : Int32) (ho : aT σ (x + 74) = (14, 1)) : Ctr Γ (8, 169, 1, 6) ML_sparrowsAfter [.ref x, .int h, .ref (x + 74)] σ (wO σ x (q_sparrowsAfter mm h)) := by
  refine Ctr.ofH (List.cons_ne_nil _ _) (by decide) (Nat.le_of_ble_eq_true rfl) (by intro v hv; simp only [List.mem_cons, List.not_mem_nil, or_false] at hv; rcases hv with rfl | rfl | rfl <;> rfl) ?_
  refine WP.aload_n (pc := 0) dL_sparrowsAfter_0 rfl ?_
  refine WP.iconst (pc := 1) (v := 0) dL_sparrowsAfter_1 (by decide) ?_
  refine WP.aload_n (pc := 2) dL_sparrowsAfter_2 rfl ?_
  refine WP.iload_n (pc := 3) dL_sparrowsAfter_3 rfl ?_
  refine WP.cXO (pc := 4) (mc2 := 0) (ms2 := 0) kL_120 (CX8_sparrowsAfter Γ hx hw hT hC h) rfl hx.1.t0 rfl ⟨(Nat.le_of_ble_eq_true rfl), (Nat.le_of_ble_eq_true rfl)⟩ (Nat.le_of_ble_eq_true rfl) (Nat.le_of_ble_eq_true rfl) (Nat.le_of_ble_eq_true rfl) rfl dL_sparrowsAfter_4 (fun τ h0 h1 k1 => ?_) (fun τ u h0 h1 k1 => ?_)
  · skip
    refine WP.i2l (pc := 7) dL_sparrowsAfter_7 ?_
    refine WP.lastore (pc := 8) (a := x + 74) (n := 1) ((k1 (x + 74) (by omega) (by omega)).1.trans ho) vp01 dL_sparrowsAfter_8 ?_
    refine WP.goto (pc := 9) (tgt := 15) dL_sparrowsAfter_9 (by decide) ?_
    refine WP.iconst (pc := 15) (v := 0) dL_sparrowsAfter_15 (by decide) ?_
    exact WP.iret (pc := 16) rfl dL_sparrowsAfter_16 (wO.ok h0 h1 k1)
  · have hle := qsparrowsAfter_le mm h
    obtain rfl : u = 0 := by omega
    refine WX.catch (E := eIA) (name := eIA) [] ⟨0, 9, 12, 19⟩ [] rfl (fun z hz => (nomatch hz)) (by decide) (by decide) bL_19 bC_19 (fun q => ?_)
    refine WP.astore_n (pc := 12) dL_sparrowsAfter_12 (by decide) rfl ?_
    refine WP.iconst (pc := 13) (v := 1) dL_sparrowsAfter_13 (by decide) ?_
    exact WP.iret (pc := 14) rfl dL_sparrowsAfter_14 (wO.no h0 (by decide) rfl h1 k1)
theorem qloavesAfter_le (m : mX) (h : Int32) : (q_loavesAfter m h).1 ≤ 1 := by
  unfold q_loavesAfter
  repeat' split
  all_goals exact Nat.le_of_ble_eq_true rfl
theorem CL_loavesAfter (hx : xAt σ x mm) (hw : wf T C mm.s) (hT : T ≤ 2147483647) (hC : C + 30000 < 2147483648) (h : Int32) (ho : aT σ (x + 74) = (14, 1)) : Ctr Γ (8, 169, 1, 6) ML_loavesAfter [.ref x, .int h, .ref (x + 74)] σ (wO σ x (q_loavesAfter mm h)) := by
  refine Ctr.ofH (List.cons_ne_nil _ _) (by decide) (Nat.le_of_ble_eq_true rfl) (by intro v hv; simp only [List.mem_cons, List.not_mem_nil, or_false] at hv; rcases hv with rfl | rfl | rfl <;> rfl) ?_
  refine WP.aload_n (pc := 0) dL_loavesAfter_0 rfl ?_
  refine WP.iconst (pc := 1) (v := 0) dL_loavesAfter_1 (by decide) ?_
  refine WP.aload_n (pc := 2) dL_loavesAfter_2 rfl ?_
  refine WP.iload_n (pc := 3) dL_loavesAfter_3 rfl ?_
  refine WP.cXO (pc := 4) (mc2 := 0) (ms2 := 0) kL_123 (CX8_loavesAfter Γ hx hw hT hC h) rfl hx.1.t0 rfl ⟨(Nat.le_of_ble_eq_true rfl), (Nat.le_of_ble_eq_true rfl)⟩ (Nat.le_of_ble_eq_true rfl) (Nat.le_of_ble_eq_true rfl) (Nat.le_of_ble_eq_true rfl) rfl dL_loavesAfter_4 (fun τ h0 h1 k1 => ?_) (fun τ u h0 h1 k1 => ?_)
  · skip
    refine WP.i2l (pc := 7) dL_loavesAfter_7 ?_
    refine WP.lastore (pc := 8) (a := x + 74) (n := 1) ((k1 (x + 74) (by omega) (by omega)).1.trans ho) vp01 dL_loavesAfter_8 ?_
    refine WP.goto (pc := 9) (tgt := 15) dL_loavesAfter_9 (by decide) ?_
    refine WP.iconst (pc := 15) (v := 0) dL_loavesAfter_15 (by decide) ?_
    exact WP.iret (pc := 16) rfl dL_loavesAfter_16 (wO.ok h0 h1 k1)
  · have hle := qloavesAfter_le mm h
    obtain rfl : u = 0 := by omega
    refine WX.catch (E := eIA) (name := eIA) [] ⟨0, 9, 12, 19⟩ [] rfl (fun z hz => (nomatch hz)) (by decide) (by decide) bL_19 bC_19 (fun q => ?_)
    refine WP.astore_n (pc := 12) dL_loavesAfter_12 (by decide) rfl ?_
    refine WP.iconst (pc := 13) (v := 1) dL_loavesAfter_13 (by decide) ?_
    exact WP.iret (pc := 14) rfl dL_loavesAfter_14 (wO.no h0 (by decide) rfl h1 k1)
theorem qtradesAfter_le (m : mX) (k : Int32) (h : Int32) : (q_tradesAfter m k h).1 ≤ 2 := by
  unfold q_tradesAfter
  repeat' split
  all_goals exact Nat.le_of_ble_eq_true rfl
theorem CL_tradesAfter (hx : xAt σ x mm) (hw : wf T C mm.s) (hT : T ≤ 2147483647) (hC : C + 30000 < 2147483648) (k h : Int32) (ho : aT σ (x + 74) = (14, 1)) : Ctr Γ (9, 170, 2, 12) ML_tradesAfter [.ref x, .int k, .int h, .ref (x + 74)] σ (wO σ x (q_tradesAfter mm k h)) := by
  refine Ctr.ofH (List.cons_ne_nil _ _) (by decide) (Nat.le_of_ble_eq_true rfl) (by intro v hv; simp only [List.mem_cons, List.not_mem_nil, or_false] at hv; rcases hv with rfl | rfl | rfl | rfl <;> rfl) ?_
  refine WP.aload_n (pc := 0) dL_tradesAfter_0 rfl ?_
  refine WP.iconst (pc := 1) (v := 0) dL_tradesAfter_1 (by decide) ?_
  refine WP.aload_n (pc := 2) dL_tradesAfter_2 rfl ?_
  refine WP.iload_n (pc := 3) dL_tradesAfter_3 rfl ?_
  refine WP.iload_n (pc := 4) dL_tradesAfter_4 rfl ?_
  refine WP.cXO (pc := 5) (mc2 := 0) (ms2 := 0) kL_126 (CX8_tradesAfter Γ hx hw hT hC k h) rfl hx.1.t0 rfl ⟨(Nat.le_of_ble_eq_true rfl), (Nat.le_of_ble_eq_true rfl)⟩ (Nat.le_of_ble_eq_true rfl) (Nat.le_of_ble_eq_true rfl) (Nat.le_of_ble_eq_true rfl) rfl dL_tradesAfter_5 (fun τ h0 h1 k1 => ?_) (fun τ u h0 h1 k1 => ?_)
  · skip
    refine WP.i2l (pc := 8) dL_tradesAfter_8 ?_
    refine WP.lastore (pc := 9) (a := x + 74) (n := 1) ((k1 (x + 74) (by omega) (by omega)).1.trans ho) vp01 dL_tradesAfter_9 ?_
    refine WP.goto (pc := 10) (tgt := 21) dL_tradesAfter_10 (by decide) ?_
    refine WP.iconst (pc := 21) (v := 0) dL_tradesAfter_21 (by decide) ?_
    exact WP.iret (pc := 22) rfl dL_tradesAfter_22 (wO.ok h0 h1 k1)
  · have hle := qtradesAfter_le mm k h
    rcases (by omega : u = 0 ∨ u = 1) with rfl | rfl
    · refine WX.catch (E := eIO) (name := eIO) [] ⟨0, 10, 13, 29⟩ [⟨0, 10, 17, 19⟩] rfl (fun z hz => (nomatch hz)) (by decide) (by decide) bL_29 bC_29 (fun q => ?_)
      refine WP.astore (pc := 13) dL_tradesAfter_13 (by decide) rfl ?_
      refine WP.iconst (pc := 15) (v := 1) dL_tradesAfter_15 (by decide) ?_
      exact WP.iret (pc := 16) rfl dL_tradesAfter_16 (wO.no h0 (by decide) rfl h1 k1)
    · refine WX.catch (E := eIA) (name := eIA) [⟨0, 10, 13, 29⟩] ⟨0, 10, 17, 19⟩ [] rfl (fun z hz => by simp only [List.mem_cons, List.not_mem_nil, or_false] at hz; subst hz; first | exact ⟨(by decide : (29 : Nat) ≠ 0), _, bL_29, bN_19_29⟩) (by decide) (by decide) bL_19 bC_19 (fun q => ?_)
      refine WP.astore (pc := 17) dL_tradesAfter_17 (by decide) rfl ?_
      refine WP.iconst (pc := 19) (v := 2) dL_tradesAfter_19 (by decide) ?_
      exact WP.iret (pc := 20) rfl dL_tradesAfter_20 (wO.no h0 (by decide) rfl h1 k1)
theorem qbestHour_le (m : mX) (k : Int32) : (q_bestHour m k).1 ≤ 1 := by
  unfold q_bestHour
  repeat' split
  all_goals exact Nat.le_of_ble_eq_true rfl
theorem CL_bestHour (hx : xAt σ x mm) (hw : wf T C mm.s) (hT : T ≤ 2147483647) (hC : C + 30000 < 2147483648) (k : Int32) (ho : aT σ (x + 74) = (14, 1)) : Ctr Γ (9, 173, 1, 6) ML_bestHour [.ref x, .int k, .ref (x + 74)] σ (wO σ x (q_bestHour mm k)) := by
  refine Ctr.ofH (List.cons_ne_nil _ _) (by decide) (Nat.le_of_ble_eq_true rfl) (by intro v hv; simp only [List.mem_cons, List.not_mem_nil, or_false] at hv; rcases hv with rfl | rfl | rfl <;> rfl) ?_
  refine WP.aload_n (pc := 0) dL_bestHour_0 rfl ?_
  refine WP.iconst (pc := 1) (v := 0) dL_bestHour_1 (by decide) ?_
  refine WP.aload_n (pc := 2) dL_bestHour_2 rfl ?_
  refine WP.iload_n (pc := 3) dL_bestHour_3 rfl ?_
  refine WP.cXO (pc := 4) (mc2 := 0) (ms2 := 0) kL_129 (CX8_bestHour Γ hx hw hT hC k) rfl hx.1.t0 rfl ⟨(Nat.le_of_ble_eq_true rfl), (Nat.le_of_ble_eq_true rfl)⟩ (Nat.le_of_ble_eq_true rfl) (Nat.le_of_ble_eq_true rfl) (Nat.le_of_ble_eq_true rfl) rfl dL_bestHour_4 (fun τ h0 h1 k1 => ?_) (fun τ u h0 h1 k1 => ?_)
  · skip
    refine WP.i2l (pc := 7) dL_bestHour_7 ?_
    refine WP.lastore (pc := 8) (a := x + 74) (n := 1) ((k1 (x + 74) (by omega) (by omega)).1.trans ho) vp01 dL_bestHour_8 ?_
    refine WP.goto (pc := 9) (tgt := 15) dL_bestHour_9 (by decide) ?_
    refine WP.iconst (pc := 15) (v := 0) dL_bestHour_15 (by decide) ?_
    exact WP.iret (pc := 16) rfl dL_bestHour_16 (wO.ok h0 h1 k1)
  · have hle := qbestHour_le mm k
    obtain rfl : u = 0 := by omega
    refine WX.catch (E := eIO) (name := eIO) [] ⟨0, 9, 12, 29⟩ [] rfl (fun z hz => (nomatch hz)) (by decide) (by decide) bL_29 bC_29 (fun q => ?_)
    refine WP.astore_n (pc := 12) dL_bestHour_12 (by decide) rfl ?_
    refine WP.iconst (pc := 13) (v := 1) dL_bestHour_13 (by decide) ?_
    exact WP.iret (pc := 14) rfl dL_bestHour_14 (wO.no h0 (by decide) rfl h1 k1)
theorem qbake_le (m : mX) (i : Int32) (k : Int32) : (q_bake m i k).1 ≤ 2 := by
  unfold q_bake
  repeat' split
  all_goals exact Nat.le_of_ble_eq_true rfl
theorem CL_bake (hx : xAt σ x mm) (i k : Int32) (ho : aT σ (x + 74) = (14, 1)) : Ctr Γ (9, 154, 28, 422) ML_bake [.ref x, .int i, .int k, .ref (x + 74)] σ (wO σ x (q_bake mm i k)) := by
  refine Ctr.ofH (List.cons_ne_nil _ _) (by decide) (Nat.le_of_ble_eq_true rfl) (by intro v hv; simp only [List.mem_cons, List.not_mem_nil, or_false] at hv; rcases hv with rfl | rfl | rfl | rfl <;> rfl) ?_
  refine WP.aload_n (pc := 0) dL_bake_0 rfl ?_
  refine WP.iconst (pc := 1) (v := 0) dL_bake_1 (by decide) ?_
  refine WP.aload_n (pc := 2) dL_bake_2 rfl ?_
  refine WP.iload_n (pc := 3) dL_bake_3 rfl ?_
  refine WP.iload_n (pc := 4) dL_bake_4 rfl ?_
  refine WP.cXO (pc := 5) (mc2 := 0) (ms2 := 0) kL_132 (CX8_bake Γ hx i k) rfl hx.1.t0 rfl ⟨(Nat.le_of_ble_eq_true rfl), (Nat.le_of_ble_eq_true rfl)⟩ (Nat.le_of_ble_eq_true rfl) (Nat.le_of_ble_eq_true rfl) (Nat.le_of_ble_eq_true rfl) rfl dL_bake_5 (fun τ h0 h1 k1 => ?_) (fun τ u h0 h1 k1 => ?_)
  · skip
    refine WP.i2l (pc := 8) dL_bake_8 ?_
    refine WP.lastore (pc := 9) (a := x + 74) (n := 1) ((k1 (x + 74) (by omega) (by omega)).1.trans ho) vp01 dL_bake_9 ?_
    refine WP.goto (pc := 10) (tgt := 21) dL_bake_10 (by decide) ?_
    refine WP.iconst (pc := 21) (v := 0) dL_bake_21 (by decide) ?_
    exact WP.iret (pc := 22) rfl dL_bake_22 (wO.ok h0 h1 k1)
  · have hle := qbake_le mm i k
    rcases (by omega : u = 0 ∨ u = 1) with rfl | rfl
    · refine WX.catch (E := eIO) (name := eIO) [] ⟨0, 10, 13, 29⟩ [⟨0, 10, 17, 13⟩] rfl (fun z hz => (nomatch hz)) (by decide) (by decide) bL_29 bC_29 (fun q => ?_)
      refine WP.astore (pc := 13) dL_bake_13 (by decide) rfl ?_
      refine WP.iconst (pc := 15) (v := 1) dL_bake_15 (by decide) ?_
      exact WP.iret (pc := 16) rfl dL_bake_16 (wO.no h0 (by decide) rfl h1 k1)
    · refine WX.catch (E := eIS) (name := eIS) [⟨0, 10, 13, 29⟩] ⟨0, 10, 17, 13⟩ [] rfl (fun z hz => by simp only [List.mem_cons, List.not_mem_nil, or_false] at hz; subst hz; first | exact ⟨(by decide : (29 : Nat) ≠ 0), _, bL_29, bN_13_29⟩) (by decide) (by decide) bL_13 bC_13 (fun q => ?_)
      refine WP.astore (pc := 17) dL_bake_17 (by decide) rfl ?_
      refine WP.iconst (pc := 19) (v := 2) dL_bake_19 (by decide) ?_
      exact WP.iret (pc := 20) rfl dL_bake_20 (wO.no h0 (by decide) rfl h1 k1)
theorem qauction_le (m : mX) (k : Int32) : (q_auction m k).1 ≤ 1 := by
  unfold q_auction
  repeat' split
  all_goals exact Nat.le_of_ble_eq_true rfl
theorem CL_auction (hx : xAt σ x mm) (hw : wf T C mm.s) (k : Int32) (ho : aT σ (x + 74) = (14, 1)) : Ctr Γ (9, 152, 26, 410) ML_auction [.ref x, .int k, .ref (x + 74)] σ (wO σ x (q_auction mm k)) := by
  refine Ctr.ofH (List.cons_ne_nil _ _) (by decide) (Nat.le_of_ble_eq_true rfl) (by intro v hv; simp only [List.mem_cons, List.not_mem_nil, or_false] at hv; rcases hv with rfl | rfl | rfl <;> rfl) ?_
  refine WP.aload_n (pc := 0) dL_auction_0 rfl ?_
  refine WP.iconst (pc := 1) (v := 0) dL_auction_1 (by decide) ?_
  refine WP.aload_n (pc := 2) dL_auction_2 rfl ?_
  refine WP.iload_n (pc := 3) dL_auction_3 rfl ?_
  refine WP.cXO (pc := 4) (mc2 := 0) (ms2 := 0) kL_135 (CX8_auction Γ hx hw k) rfl hx.1.t0 rfl ⟨(Nat.le_of_ble_eq_true rfl), (Nat.le_of_ble_eq_true rfl)⟩ (Nat.le_of_ble_eq_true rfl) (Nat.le_of_ble_eq_true rfl) (Nat.le_of_ble_eq_true rfl) rfl dL_auction_4 (fun τ h0 h1 k1 => ?_) (fun τ u h0 h1 k1 => ?_)
  · skip
    refine WP.i2l (pc := 7) dL_auction_7 ?_
    refine WP.lastore (pc := 8) (a := x + 74) (n := 1) ((k1 (x + 74) (by omega) (by omega)).1.trans ho) vp01 dL_auction_8 ?_
    refine WP.goto (pc := 9) (tgt := 15) dL_auction_9 (by decide) ?_
    refine WP.iconst (pc := 15) (v := 0) dL_auction_15 (by decide) ?_
    exact WP.iret (pc := 16) rfl dL_auction_16 (wO.ok h0 h1 k1)
  · have hle := qauction_le mm k
    obtain rfl : u = 0 := by omega
    refine WX.catch (E := eIO) (name := eIO) [] ⟨0, 9, 12, 29⟩ [] rfl (fun z hz => (nomatch hz)) (by decide) (by decide) bL_29 bC_29 (fun q => ?_)
    refine WP.astore_n (pc := 12) dL_auction_12 (by decide) rfl ?_
    refine WP.iconst (pc := 13) (v := 1) dL_auction_13 (by decide) ?_
    exact WP.iret (pc := 14) rfl dL_auction_14 (wO.no h0 (by decide) rfl h1 k1)
theorem qjoinQueue_le (m : mX) (k : Int32) (w : Int32) (l : Int32) (p : Int32) (t : Int32) : (q_joinQueue m k w l p t).1 ≤ 3 := by
  unfold q_joinQueue
  repeat' split
  all_goals exact Nat.le_of_ble_eq_true rfl
theorem CL_joinQueue (hx : xAt σ x mm) (k w l p t : Int32) (ho : aT σ (x + 74) = (14, 1)) : Ctr Γ (9, 157, 32, 446) ML_joinQueue [.ref x, .int k, .int w, .int l, .int p, .int t, .ref (x + 74)] σ (wO σ x (q_joinQueue mm k w l p t)) := by
  refine Ctr.ofH (List.cons_ne_nil _ _) (by decide) (Nat.le_of_ble_eq_true rfl) (by intro v hv; simp only [List.mem_cons, List.not_mem_nil, or_false] at hv; rcases hv with rfl | rfl | rfl | rfl | rfl | rfl | rfl <;> rfl) ?_
  refine WP.aload (pc := 0) dL_joinQueue_0 rfl ?_
  refine WP.iconst (pc := 2) (v := 0) dL_joinQueue_2 (by decide) ?_
  refine WP.aload_n (pc := 3) dL_joinQueue_3 rfl ?_
  refine WP.iload_n (pc := 4) dL_joinQueue_4 rfl ?_
  refine WP.iload_n (pc := 5) dL_joinQueue_5 rfl ?_
  refine WP.iload_n (pc := 6) dL_joinQueue_6 rfl ?_
  refine WP.iload (pc := 7) dL_joinQueue_7 rfl ?_
  refine WP.iload (pc := 9) dL_joinQueue_9 rfl ?_
  refine WP.cXO (pc := 11) (mc2 := 0) (ms2 := 0) kL_138 (CX8_joinQueue Γ hx k w l p t) rfl hx.1.t0 rfl ⟨(Nat.le_of_ble_eq_true rfl), (Nat.le_of_ble_eq_true rfl)⟩ (Nat.le_of_ble_eq_true rfl) (Nat.le_of_ble_eq_true rfl) (Nat.le_of_ble_eq_true rfl) rfl dL_joinQueue_11 (fun τ h0 h1 k1 => ?_) (fun τ u h0 h1 k1 => ?_)
  · skip
    refine WP.i2l (pc := 14) dL_joinQueue_14 ?_
    refine WP.lastore (pc := 15) (a := x + 74) (n := 1) ((k1 (x + 74) (by omega) (by omega)).1.trans ho) vp01 dL_joinQueue_15 ?_
    refine WP.goto (pc := 16) (tgt := 31) dL_joinQueue_16 (by decide) ?_
    refine WP.iconst (pc := 31) (v := 0) dL_joinQueue_31 (by decide) ?_
    exact WP.iret (pc := 32) rfl dL_joinQueue_32 (wO.ok h0 h1 k1)
  · have hle := qjoinQueue_le mm k w l p t
    rcases (by omega : u = 0 ∨ u = 1 ∨ u = 2) with rfl | rfl | rfl
    · refine WX.catch (E := eIO) (name := eIO) [] ⟨0, 16, 19, 29⟩ [⟨0, 16, 23, 19⟩, ⟨0, 16, 27, 13⟩] rfl (fun z hz => (nomatch hz)) (by decide) (by decide) bL_29 bC_29 (fun q => ?_)
      refine WP.astore (pc := 19) dL_joinQueue_19 (by decide) rfl ?_
      refine WP.iconst (pc := 21) (v := 1) dL_joinQueue_21 (by decide) ?_
      exact WP.iret (pc := 22) rfl dL_joinQueue_22 (wO.no h0 (by decide) rfl h1 k1)
    · refine WX.catch (E := eIA) (name := eIA) [⟨0, 16, 19, 29⟩] ⟨0, 16, 23, 19⟩ [⟨0, 16, 27, 13⟩] rfl (fun z hz => by simp only [List.mem_cons, List.not_mem_nil, or_false] at hz; subst hz; first | exact ⟨(by decide : (29 : Nat) ≠ 0), _, bL_29, bN_19_29⟩) (by decide) (by decide) bL_19 bC_19 (fun q => ?_)
      refine WP.astore (pc := 23) dL_joinQueue_23 (by decide) rfl ?_
      refine WP.iconst (pc := 25) (v := 2) dL_joinQueue_25 (by decide) ?_
      exact WP.iret (pc := 26) rfl dL_joinQueue_26 (wO.no h0 (by decide) rfl h1 k1)
    · refine WX.catch (E := eIS) (name := eIS) [⟨0, 16, 19, 29⟩, ⟨0, 16, 23, 19⟩] ⟨0, 16, 27, 13⟩ [] rfl (fun z hz => by simp only [List.mem_cons, List.not_mem_nil, or_false] at hz; rcases hz with rfl | rfl <;> first | exact ⟨(by decide : (29 : Nat) ≠ 0), _, bL_29, bN_13_29⟩ | exact ⟨(by decide : (19 : Nat) ≠ 0), _, bL_19, bN_13_19⟩) (by decide) (by decide) bL_13 bC_13 (fun q => ?_)
      refine WP.astore (pc := 27) dL_joinQueue_27 (by decide) rfl ?_
      refine WP.iconst (pc := 29) (v := 3) dL_joinQueue_29 (by decide) ?_
      exact WP.iret (pc := 30) rfl dL_joinQueue_30 (wO.no h0 (by decide) rfl h1 k1)
theorem qsendAway_le (m : mX) (i : Int32) : (q_sendAway m i).1 ≤ 1 := by
  unfold q_sendAway
  repeat' split
  all_goals exact Nat.le_of_ble_eq_true rfl
theorem CL_sendAway (hx : xAt σ x mm) (i : Int32) (ho : aT σ (x + 74) = (14, 1)) : Ctr Γ (9, 154, 26, 410) ML_sendAway [.ref x, .int i, .ref (x + 74)] σ (wO σ x (q_sendAway mm i)) := by
  refine Ctr.ofH (List.cons_ne_nil _ _) (by decide) (Nat.le_of_ble_eq_true rfl) (by intro v hv; simp only [List.mem_cons, List.not_mem_nil, or_false] at hv; rcases hv with rfl | rfl | rfl <;> rfl) ?_
  refine WP.aload_n (pc := 0) dL_sendAway_0 rfl ?_
  refine WP.iconst (pc := 1) (v := 0) dL_sendAway_1 (by decide) ?_
  refine WP.aload_n (pc := 2) dL_sendAway_2 rfl ?_
  refine WP.iload_n (pc := 3) dL_sendAway_3 rfl ?_
  refine WP.cXO (pc := 4) (mc2 := 0) (ms2 := 0) kL_141 (CX8_sendAway Γ hx i) rfl hx.1.t0 rfl ⟨(Nat.le_of_ble_eq_true rfl), (Nat.le_of_ble_eq_true rfl)⟩ (Nat.le_of_ble_eq_true rfl) (Nat.le_of_ble_eq_true rfl) (Nat.le_of_ble_eq_true rfl) rfl dL_sendAway_4 (fun τ h0 h1 k1 => ?_) (fun τ u h0 h1 k1 => ?_)
  · skip
    refine WP.i2l (pc := 7) dL_sendAway_7 ?_
    refine WP.lastore (pc := 8) (a := x + 74) (n := 1) ((k1 (x + 74) (by omega) (by omega)).1.trans ho) vp01 dL_sendAway_8 ?_
    refine WP.goto (pc := 9) (tgt := 15) dL_sendAway_9 (by decide) ?_
    refine WP.iconst (pc := 15) (v := 0) dL_sendAway_15 (by decide) ?_
    exact WP.iret (pc := 16) rfl dL_sendAway_16 (wO.ok h0 h1 k1)
  · have hle := qsendAway_le mm i
    obtain rfl : u = 0 := by omega
    refine WX.catch (E := eIO) (name := eIO) [] ⟨0, 9, 12, 29⟩ [] rfl (fun z hz => (nomatch hz)) (by decide) (by decide) bL_29 bC_29 (fun q => ?_)
    refine WP.astore_n (pc := 12) dL_sendAway_12 (by decide) rfl ?_
    refine WP.iconst (pc := 13) (v := 1) dL_sendAway_13 (by decide) ?_
    exact WP.iret (pc := 14) rfl dL_sendAway_14 (wO.no h0 (by decide) rfl h1 k1)
theorem qsetBasePrice_le (m : mX) (k : Int32) (p : Int32) : (q_setBasePrice m k p).1 ≤ 2 := by
  unfold q_setBasePrice
  repeat' split
  all_goals exact Nat.le_of_ble_eq_true rfl
theorem CL_setBasePrice (hx : xAt σ x mm) (k p : Int32) (ho : aT σ (x + 74) = (14, 1)) : Ctr Γ (9, 154, 27, 416) ML_setBasePrice [.ref x, .int k, .int p, .ref (x + 74)] σ (wO σ x (q_setBasePrice mm k p)) := by
  refine Ctr.ofH (List.cons_ne_nil _ _) (by decide) (Nat.le_of_ble_eq_true rfl) (by intro v hv; simp only [List.mem_cons, List.not_mem_nil, or_false] at hv; rcases hv with rfl | rfl | rfl | rfl <;> rfl) ?_
  refine WP.aload_n (pc := 0) dL_setBasePrice_0 rfl ?_
  refine WP.iconst (pc := 1) (v := 0) dL_setBasePrice_1 (by decide) ?_
  refine WP.aload_n (pc := 2) dL_setBasePrice_2 rfl ?_
  refine WP.iload_n (pc := 3) dL_setBasePrice_3 rfl ?_
  refine WP.iload_n (pc := 4) dL_setBasePrice_4 rfl ?_
  refine WP.cXO (pc := 5) (mc2 := 0) (ms2 := 0) kL_144 (CX8_setBasePrice Γ hx k p) rfl hx.1.t0 rfl ⟨(Nat.le_of_ble_eq_true rfl), (Nat.le_of_ble_eq_true rfl)⟩ (Nat.le_of_ble_eq_true rfl) (Nat.le_of_ble_eq_true rfl) (Nat.le_of_ble_eq_true rfl) rfl dL_setBasePrice_5 (fun τ h0 h1 k1 => ?_) (fun τ u h0 h1 k1 => ?_)
  · skip
    refine WP.i2l (pc := 8) dL_setBasePrice_8 ?_
    refine WP.lastore (pc := 9) (a := x + 74) (n := 1) ((k1 (x + 74) (by omega) (by omega)).1.trans ho) vp01 dL_setBasePrice_9 ?_
    refine WP.goto (pc := 10) (tgt := 21) dL_setBasePrice_10 (by decide) ?_
    refine WP.iconst (pc := 21) (v := 0) dL_setBasePrice_21 (by decide) ?_
    exact WP.iret (pc := 22) rfl dL_setBasePrice_22 (wO.ok h0 h1 k1)
  · have hle := qsetBasePrice_le mm k p
    rcases (by omega : u = 0 ∨ u = 1) with rfl | rfl
    · refine WX.catch (E := eIO) (name := eIO) [] ⟨0, 10, 13, 29⟩ [⟨0, 10, 17, 19⟩] rfl (fun z hz => (nomatch hz)) (by decide) (by decide) bL_29 bC_29 (fun q => ?_)
      refine WP.astore (pc := 13) dL_setBasePrice_13 (by decide) rfl ?_
      refine WP.iconst (pc := 15) (v := 1) dL_setBasePrice_15 (by decide) ?_
      exact WP.iret (pc := 16) rfl dL_setBasePrice_16 (wO.no h0 (by decide) rfl h1 k1)
    · refine WX.catch (E := eIA) (name := eIA) [⟨0, 10, 13, 29⟩] ⟨0, 10, 17, 19⟩ [] rfl (fun z hz => by simp only [List.mem_cons, List.not_mem_nil, or_false] at hz; subst hz; first | exact ⟨(by decide : (29 : Nat) ≠ 0), _, bL_29, bN_19_29⟩) (by decide) (by decide) bL_19 bC_19 (fun q => ?_)
      refine WP.astore (pc := 17) dL_setBasePrice_17 (by decide) rfl ?_
      refine WP.iconst (pc := 19) (v := 2) dL_setBasePrice_19 (by decide) ?_
      exact WP.iret (pc := 20) rfl dL_setBasePrice_20 (wO.no h0 (by decide) rfl h1 k1)
theorem qscatter_le (m : mX) (c : Int32) : (q_scatter m c).1 ≤ 1 := by
  unfold q_scatter
  repeat' split
  all_goals exact Nat.le_of_ble_eq_true rfl
theorem CL_scatter (hx : xAt σ x mm) (c : Int32) (ho : aT σ (x + 74) = (14, 1)) : Ctr Γ (8, 146, 26, 410) ML_scatter [.ref x, .int c, .ref (x + 74)] σ (wO σ x (q_scatter mm c)) := by
  refine Ctr.ofH (List.cons_ne_nil _ _) (by decide) (Nat.le_of_ble_eq_true rfl) (by intro v hv; simp only [List.mem_cons, List.not_mem_nil, or_false] at hv; rcases hv with rfl | rfl | rfl <;> rfl) ?_
  refine WP.aload_n (pc := 0) dL_scatter_0 rfl ?_
  refine WP.iconst (pc := 1) (v := 0) dL_scatter_1 (by decide) ?_
  refine WP.aload_n (pc := 2) dL_scatter_2 rfl ?_
  refine WP.iload_n (pc := 3) dL_scatter_3 rfl ?_
  refine WP.cXO (pc := 4) (mc2 := 0) (ms2 := 0) kL_147 (CX8_scatter Γ hx c) rfl hx.1.t0 rfl ⟨(Nat.le_of_ble_eq_true rfl), (Nat.le_of_ble_eq_true rfl)⟩ (Nat.le_of_ble_eq_true rfl) (Nat.le_of_ble_eq_true rfl) (Nat.le_of_ble_eq_true rfl) rfl dL_scatter_4 (fun τ h0 h1 k1 => ?_) (fun τ u h0 h1 k1 => ?_)
  · skip
    refine WP.i2l (pc := 7) dL_scatter_7 ?_
    refine WP.lastore (pc := 8) (a := x + 74) (n := 1) ((k1 (x + 74) (by omega) (by omega)).1.trans ho) vp01 dL_scatter_8 ?_
    refine WP.goto (pc := 9) (tgt := 15) dL_scatter_9 (by decide) ?_
    refine WP.iconst (pc := 15) (v := 0) dL_scatter_15 (by decide) ?_
    exact WP.iret (pc := 16) rfl dL_scatter_16 (wO.ok h0 h1 k1)
  · have hle := qscatter_le mm c
    obtain rfl : u = 0 := by omega
    refine WX.catch (E := eIA) (name := eIA) [] ⟨0, 9, 12, 19⟩ [] rfl (fun z hz => (nomatch hz)) (by decide) (by decide) bL_19 bC_19 (fun q => ?_)
    refine WP.astore_n (pc := 12) dL_scatter_12 (by decide) rfl ?_
    refine WP.iconst (pc := 13) (v := 1) dL_scatter_13 (by decide) ?_
    exact WP.iret (pc := 14) rfl dL_scatter_14 (wO.no h0 (by decide) rfl h1 k1)
theorem qpassHours_le (m : mX) (h : Int32) : (q_passHours m h).1 ≤ 1 := by
  unfold q_passHours
  repeat' split
  all_goals exact Nat.le_of_ble_eq_true rfl
theorem CL_passHours (hx : xAt σ x mm) (hw : wf T C mm.s) (hT : T ≤ 2147483647) (hC : C + 30000 < 2147483648) (h : Int32) (ho : aT σ (x + 74) = (14, 1)) : Ctr Γ (8, 149, 26, 410) ML_passHours [.ref x, .int h, .ref (x + 74)] σ (wO σ x (q_passHours mm h)) := by
  refine Ctr.ofH (List.cons_ne_nil _ _) (by decide) (Nat.le_of_ble_eq_true rfl) (by intro v hv; simp only [List.mem_cons, List.not_mem_nil, or_false] at hv; rcases hv with rfl | rfl | rfl <;> rfl) ?_
  refine WP.aload_n (pc := 0) dL_passHours_0 rfl ?_
  refine WP.iconst (pc := 1) (v := 0) dL_passHours_1 (by decide) ?_
  refine WP.aload_n (pc := 2) dL_passHours_2 rfl ?_
  refine WP.iload_n (pc := 3) dL_passHours_3 rfl ?_
  refine WP.cXO (pc := 4) (mc2 := 0) (ms2 := 0) kL_150 (CX8_passHours Γ hx hw hT hC h) rfl hx.1.t0 rfl ⟨(Nat.le_of_ble_eq_true rfl), (Nat.le_of_ble_eq_true rfl)⟩ (Nat.le_of_ble_eq_true rfl) (Nat.le_of_ble_eq_true rfl) (Nat.le_of_ble_eq_true rfl) rfl dL_passHours_4 (fun τ h0 h1 k1 => ?_) (fun τ u h0 h1 k1 => ?_)
  · skip
    refine WP.i2l (pc := 7) dL_passHours_7 ?_
    refine WP.lastore (pc := 8) (a := x + 74) (n := 1) ((k1 (x + 74) (by omega) (by omega)).1.trans ho) vp01 dL_passHours_8 ?_
    refine WP.goto (pc := 9) (tgt := 15) dL_passHours_9 (by decide) ?_
    refine WP.iconst (pc := 15) (v := 0) dL_passHours_15 (by decide) ?_
    exact WP.iret (pc := 16) rfl dL_passHours_16 (wO.ok h0 h1 k1)
  · have hle := qpassHours_le mm h
    obtain rfl : u = 0 := by omega
    refine WX.catch (E := eIA) (name := eIA) [] ⟨0, 9, 12, 19⟩ [] rfl (fun z hz => (nomatch hz)) (by decide) (by decide) bL_19 bC_19 (fun q => ?_)
    refine WP.astore_n (pc := 12) dL_passHours_12 (by decide) rfl ?_
    refine WP.iconst (pc := 13) (v := 1) dL_passHours_13 (by decide) ?_
    exact WP.iret (pc := 14) rfl dL_passHours_14 (wO.no h0 (by decide) rfl h1 k1)
theorem qoutputByte_le (m : mX) (i : Int32) : (q_outputByte m i).1 ≤ 1 := by
  unfold q_outputByte
  repeat' split
  all_goals exact Nat.le_of_ble_eq_true rfl
theorem CL_outputByte (hx : xAt σ x mm) (i : Int32) (ho : aT σ (x + 74) = (14, 1)) : Ctr Γ (7, 111, 1, 6) ML_outputByte [.ref x, .int i, .ref (x + 74)] σ (wO σ x (q_outputByte mm i)) := by
  refine Ctr.ofH (List.cons_ne_nil _ _) (by decide) (Nat.le_of_ble_eq_true rfl) (by intro v hv; simp only [List.mem_cons, List.not_mem_nil, or_false] at hv; rcases hv with rfl | rfl | rfl <;> rfl) ?_
  refine WP.aload_n (pc := 0) dL_outputByte_0 rfl ?_
  refine WP.iconst (pc := 1) (v := 0) dL_outputByte_1 (by decide) ?_
  refine WP.aload_n (pc := 2) dL_outputByte_2 rfl ?_
  refine WP.iload_n (pc := 3) dL_outputByte_3 rfl ?_
  refine WP.cXO (pc := 4) (mc2 := 0) (ms2 := 0) kL_153 (CX8_outputByte Γ hx i) rfl hx.1.t0 rfl ⟨(Nat.le_of_ble_eq_true rfl), (Nat.le_of_ble_eq_true rfl)⟩ (Nat.le_of_ble_eq_true rfl) (Nat.le_of_ble_eq_true rfl) (Nat.le_of_ble_eq_true rfl) rfl dL_outputByte_4 (fun τ h0 h1 k1 => ?_) (fun τ u h0 h1 k1 => ?_)
  · skip
    refine WP.i2l (pc := 7) dL_outputByte_7 ?_
    refine WP.lastore (pc := 8) (a := x + 74) (n := 1) ((k1 (x + 74) (by omega) (by omega)).1.trans ho) vp01 dL_outputByte_8 ?_
    refine WP.goto (pc := 9) (tgt := 15) dL_outputByte_9 (by decide) ?_
    refine WP.iconst (pc := 15) (v := 0) dL_outputByte_15 (by decide) ?_
    exact WP.iret (pc := 16) rfl dL_outputByte_16 (wO.ok h0 h1 k1)
  · have hle := qoutputByte_le mm i
    obtain rfl : u = 0 := by omega
    refine WX.catch (E := nE) (name := nE) [] ⟨0, 9, 12, 31⟩ [] rfl (fun z hz => (nomatch hz)) (by decide) (by decide) bL_31 bC_31 (fun q => ?_)
    refine WP.astore_n (pc := 12) dL_outputByte_12 (by decide) rfl ?_
    refine WP.iconst (pc := 13) (v := 1) dL_outputByte_13 (by decide) ?_
    exact WP.iret (pc := 14) rfl dL_outputByte_14 (wO.no h0 (by decide) rfl h1 k1)
theorem qsave_le (m : mX) (i : Int32) : (q_save m i).1 ≤ 1 := by
  unfold q_save
  repeat' split
  all_goals exact Nat.le_of_ble_eq_true rfl
theorem CL_save (hx : xAt σ x mm) (i : Int32) (ho : aT σ (x + 74) = (14, 1)) : Ctr Γ (9, 153, 26, 410) ML_save [.ref x, .int i, .ref (x + 74)] σ (wO σ x (q_save mm i)) := by
  refine Ctr.ofH (List.cons_ne_nil _ _) (by decide) (Nat.le_of_ble_eq_true rfl) (by intro v hv; simp only [List.mem_cons, List.not_mem_nil, or_false] at hv; rcases hv with rfl | rfl | rfl <;> rfl) ?_
  refine WP.aload_n (pc := 0) dL_save_0 rfl ?_
  refine WP.iconst (pc := 1) (v := 0) dL_save_1 (by decide) ?_
  refine WP.aload_n (pc := 2) dL_save_2 rfl ?_
  refine WP.iload_n (pc := 3) dL_save_3 rfl ?_
  refine WP.cXO (pc := 4) (mc2 := 0) (ms2 := 0) kL_156 (CX8_save Γ hx i) rfl hx.1.t0 rfl ⟨(Nat.le_of_ble_eq_true rfl), (Nat.le_of_ble_eq_true rfl)⟩ (Nat.le_of_ble_eq_true rfl) (Nat.le_of_ble_eq_true rfl) (Nat.le_of_ble_eq_true rfl) rfl dL_save_4 (fun τ h0 h1 k1 => ?_) (fun τ u h0 h1 k1 => ?_)
  · skip
    refine WP.i2l (pc := 7) dL_save_7 ?_
    refine WP.lastore (pc := 8) (a := x + 74) (n := 1) ((k1 (x + 74) (by omega) (by omega)).1.trans ho) vp01 dL_save_8 ?_
    refine WP.goto (pc := 9) (tgt := 15) dL_save_9 (by decide) ?_
    refine WP.iconst (pc := 15) (v := 0) dL_save_15 (by decide) ?_
    exact WP.iret (pc := 16) rfl dL_save_16 (wO.ok h0 h1 k1)
  · have hle := qsave_le mm i
    obtain rfl : u = 0 := by omega
    refine WX.catch (E := eIO) (name := eIO) [] ⟨0, 9, 12, 29⟩ [] rfl (fun z hz => (nomatch hz)) (by decide) (by decide) bL_29 bC_29 (fun q => ?_)
    refine WP.astore_n (pc := 12) dL_save_12 (by decide) rfl ?_
    refine WP.iconst (pc := 13) (v := 1) dL_save_13 (by decide) ?_
    exact WP.iret (pc := 14) rfl dL_save_14 (wO.no h0 (by decide) rfl h1 k1)
theorem qrestore_le (m : mX) (i : Int32) : (q_restore m i).1 ≤ 2 := by
  unfold q_restore
  repeat' split
  all_goals exact Nat.le_of_ble_eq_true rfl
theorem CL_restore (hx : xAt σ x mm) (i : Int32) (ho : aT σ (x + 74) = (14, 1)) : Ctr Γ (9, 153, 27, 416) ML_restore [.ref x, .int i, .ref (x + 74)] σ (wO σ x (q_restore mm i)) := by
  refine Ctr.ofH (List.cons_ne_nil _ _) (by decide) (Nat.le_of_ble_eq_true rfl) (by intro v hv; simp only [List.mem_cons, List.not_mem_nil, or_false] at hv; rcases hv with rfl | rfl | rfl <;> rfl) ?_
  refine WP.aload_n (pc := 0) dL_restore_0 rfl ?_
  refine WP.iconst (pc := 1) (v := 0) dL_restore_1 (by decide) ?_
  refine WP.aload_n (pc := 2) dL_restore_2 rfl ?_
  refine WP.iload_n (pc := 3) dL_restore_3 rfl ?_
  refine WP.cXO (pc := 4) (mc2 := 0) (ms2 := 0) kL_159 (CX8_restore Γ hx i) rfl hx.1.t0 rfl ⟨(Nat.le_of_ble_eq_true rfl), (Nat.le_of_ble_eq_true rfl)⟩ (Nat.le_of_ble_eq_true rfl) (Nat.le_of_ble_eq_true rfl) (Nat.le_of_ble_eq_true rfl) rfl dL_restore_4 (fun τ h0 h1 k1 => ?_) (fun τ u h0 h1 k1 => ?_)
  · skip
    refine WP.i2l (pc := 7) dL_restore_7 ?_
    refine WP.lastore (pc := 8) (a := x + 74) (n := 1) ((k1 (x + 74) (by omega) (by omega)).1.trans ho) vp01 dL_restore_8 ?_
    refine WP.goto (pc := 9) (tgt := 18) dL_restore_9 (by decide) ?_
    refine WP.iconst (pc := 18) (v := 0) dL_restore_18 (by decide) ?_
    exact WP.iret (pc := 19) rfl dL_restore_19 (wO.ok h0 h1 k1)
  · have hle := qrestore_le mm i
    rcases (by omega : u = 0 ∨ u = 1) with rfl | rfl
    · refine WX.catch (E := eIO) (name := eIO) [] ⟨0, 9, 12, 29⟩ [⟨0, 9, 15, 13⟩] rfl (fun z hz => (nomatch hz)) (by decide) (by decide) bL_29 bC_29 (fun q => ?_)
      refine WP.astore_n (pc := 12) dL_restore_12 (by decide) rfl ?_
      refine WP.iconst (pc := 13) (v := 1) dL_restore_13 (by decide) ?_
      exact WP.iret (pc := 14) rfl dL_restore_14 (wO.no h0 (by decide) rfl h1 k1)
    · refine WX.catch (E := eIS) (name := eIS) [⟨0, 9, 12, 29⟩] ⟨0, 9, 15, 13⟩ [] rfl (fun z hz => by simp only [List.mem_cons, List.not_mem_nil, or_false] at hz; subst hz; first | exact ⟨(by decide : (29 : Nat) ≠ 0), _, bL_29, bN_13_29⟩) (by decide) (by decide) bL_13 bC_13 (fun q => ?_)
      refine WP.astore_n (pc := 15) dL_restore_15 (by decide) rfl ?_
      refine WP.iconst (pc := 16) (v := 2) dL_restore_16 (by decide) ?_
      exact WP.iret (pc := 17) rfl dL_restore_17 (wO.no h0 (by decide) rfl h1 k1)
theorem qundo_le (m : mX) : (q_undo m).1 ≤ 1 := by
  unfold q_undo
  repeat' split
  all_goals exact Nat.le_of_ble_eq_true rfl
theorem CL_undo (hx : xAt σ x mm) (ho : aT σ (x + 74) = (14, 1)) : Ctr Γ (7, 125, 1, 6) ML_undo [.ref x, .ref (x + 74)] σ (wO σ x (q_undo mm)) := by
  refine Ctr.ofH (List.cons_ne_nil _ _) (by decide) (Nat.le_of_ble_eq_true rfl) (by intro v hv; simp only [List.mem_cons, List.not_mem_nil, or_false] at hv; rcases hv with rfl | rfl <;> rfl) ?_
  refine WP.aload_n (pc := 0) dL_undo_0 rfl ?_
  refine WP.iconst (pc := 1) (v := 0) dL_undo_1 (by decide) ?_
  refine WP.aload_n (pc := 2) dL_undo_2 rfl ?_
  refine WP.cXO (pc := 3) (mc2 := 0) (ms2 := 0) kL_162 (CX8_undo Γ hx) rfl hx.1.t0 rfl ⟨(Nat.le_of_ble_eq_true rfl), (Nat.le_of_ble_eq_true rfl)⟩ (Nat.le_of_ble_eq_true rfl) (Nat.le_of_ble_eq_true rfl) (Nat.le_of_ble_eq_true rfl) rfl dL_undo_3 (fun τ h0 h1 k1 => ?_) (fun τ u h0 h1 k1 => ?_)
  · skip
    refine WP.i2l (pc := 6) dL_undo_6 ?_
    refine WP.lastore (pc := 7) (a := x + 74) (n := 1) ((k1 (x + 74) (by omega) (by omega)).1.trans ho) vp01 dL_undo_7 ?_
    refine WP.goto (pc := 8) (tgt := 14) dL_undo_8 (by decide) ?_
    refine WP.iconst (pc := 14) (v := 0) dL_undo_14 (by decide) ?_
    exact WP.iret (pc := 15) rfl dL_undo_15 (wO.ok h0 h1 k1)
  · have hle := qundo_le mm
    obtain rfl : u = 0 := by omega
    refine WX.catch (E := eIS) (name := eIS) [] ⟨0, 8, 11, 13⟩ [] rfl (fun z hz => (nomatch hz)) (by decide) (by decide) bL_13 bC_13 (fun q => ?_)
    refine WP.astore_n (pc := 11) dL_undo_11 (by decide) rfl ?_
    refine WP.iconst (pc := 12) (v := 1) dL_undo_12 (by decide) ?_
    exact WP.iret (pc := 13) rfl dL_undo_13 (wO.no h0 (by decide) rfl h1 k1)
end T
