section CSTRG
variable {Γ : cG} {r : cRm} {M : cM} {Φ : cRes → cAS → Prop} {pc : Nat} {L : List (Option Value)} {st : List Value} {σ : cAS}
theorem cKp {p : Program} {s : State} {m : MethodId} {args : Array Value} {meth : Method} {c : Code} (hO : cOk Γ M p s m args meth c) : ∀ a : Nat, a < (gH Γ).size → ¬ gF Γ a → s.heap[a]? = (gH Γ)[a]? := fun a ha _ => hO.2.2.2.2.2.2.2.2.2.2.2 a ha
theorem cSS {p : Program} {R : Room} {s : State} {m : MethodId} {args : Array Value} {meth : Method} {c : Code} {H : Heap} {locs : List Loc} {cells slots nL : Nat} {ls : Array Slot} (hO : cOk Γ M p s m args meth c) (hS : cSt Γ r nL L σ R s H locs cells slots ls) : va_S (gF Γ) s.heap H locs := cVaS hS.2.1 hS.2.2.1 hO.2.2.2.2.2.2.2.2.2.2.2 hS.2.2.2.2
theorem WP.ldcS {index j : Nat} {tx : String} (hq : ((mY M).cls, index, tx, j) ∈ cSTR) (d : decode (mC M) pc = .ok (.ldc index, 2)) (k : WP Γ r M Φ (pc + 2) L (.ref (gK Γ j) :: st) σ) : WP Γ r M Φ pc L st σ := by
  intro p e R s m args below meth c H locs cells slots ls hO hS
  exact va_ldcS hO.1 hO.2.1 hO.2.2.2.1 (hO.w.2.2.2.2.2.1 _ hq) d (k p e R s m args below meth c H locs cells slots ls hO hS)
theorem WP.strC {index j : Nat} (hj : j < 30) (lk : Cond.fieldLink (mY M).cls index "java/lang/String" "coder" "B" ∈ cALL) (d : decode (mC M) pc = .ok (.getfield index, 3)) (k : WP Γ r M Φ (pc + 3) L (.int 0 :: st) σ) : WP Γ r M Φ pc L (.ref (gK Γ j) :: st) σ := by
  intro p e R s m args below meth c H locs cells slots ls hO hS
  exact vk_getf hO.1 hO.2.1 ((hO.w.2.2.2.2.2.2.1 j hj).2.1.kept (cKp hO)) (cSS hO hS) hO.2.2.2.1 (cHts hO _ lk) (fun x h => h) d (k p e R s m args below meth c H locs cells slots ls hO hS)
theorem WP.strV {index j : Nat} (hj : j < 30) (lk : Cond.fieldLink (mY M).cls index "java/lang/String" "value" "[B" ∈ cALL) (d : decode (mC M) pc = .ok (.getfield index, 3)) (k : WP Γ r M Φ (pc + 3) L (.ref (gW Γ j) :: st) σ) : WP Γ r M Φ pc L (.ref (gK Γ j) :: st) σ := by
  intro p e R s m args below meth c H locs cells slots ls hO hS
  exact vk_getf hO.1 hO.2.1 ((hO.w.2.2.2.2.2.2.1 j hj).2.2.1.kept (cKp hO)) (cSS hO hS) hO.2.2.2.1 (cHts hO _ lk) (fun x h => h) d (k p e R s m args below meth c H locs cells slots ls hO hS)
theorem WP.strN {j : Nat} (hj : j < 30) (d : decode (mC M) pc = .ok (.arraylength, 1)) (k : WP Γ r M Φ (pc + 1) L (.int (nI (cTL j)) :: st) σ) : WP Γ r M Φ pc L (.ref (gW Γ j) :: st) σ := by
  intro p e R s m args below meth c H locs cells slots ls hO hS
  exact va_tlen hO.1 hO.2.1 ((hO.w.2.2.2.2.2.2.1 j hj).2.2.2.kept (cKp hO)) (cSS hO hS) rfl d (k p e R s m args below meth c H locs cells slots ls hO hS)
theorem WP.strB {j i : Nat} (hj : j < 30) (hi : i < cTL j) (hb : cTL j ≤ 1000) (d : decode (mC M) pc = .ok (.baload, 1)) (k : WP Γ r M Φ (pc + 1) L (.int (cTB j i) :: st) σ) : WP Γ r M Φ pc L (.int (nI i) :: .ref (gW Γ j) :: st) σ := by
  intro p e R s m args below meth c H locs cells slots ls hO hS
  exact va_tb hO.1 hO.2.1 ((hO.w.2.2.2.2.2.2.1 j hj).2.2.2.kept (cKp hO)) (cSS hO hS) (cVin hi (by omega)) (by rw [cClamp hi (by omega)]) d (k p e R s m args below meth c H locs cells slots ls hO hS)
theorem WP.xN (d : decode (mC M) pc = .ok (.arraylength, 1)) (k : WP Γ r M Φ (pc + 1) L (.int (nI (gX Γ).2.1) :: st) σ) : WP Γ r M Φ pc L (.ref (gX Γ).1 :: st) σ := by
  intro p e R s m args below meth c H locs cells slots ls hO hS
  exact va_tlen hO.1 hO.2.1 (hO.w.2.2.2.2.2.2.2.1.2.2.1.kept (cKp hO)) (cSS hO hS) rfl d (k p e R s m args below meth c H locs cells slots ls hO hS)
theorem WP.xA {i : Nat} (hi : i < (gX Γ).2.1) (hb : (gX Γ).2.1 ≤ 2147483647) (d : decode (mC M) pc = .ok (.iaload, 1)) (k : WP Γ r M Φ (pc + 1) L (.int ((gX Γ).2.2 i) :: st) σ) : WP Γ r M Φ pc L (.int (nI i) :: .ref (gX Γ).1 :: st) σ := by
  intro p e R s m args below meth c H locs cells slots ls hO hS
  exact va_ti hO.1 hO.2.1 (hO.w.2.2.2.2.2.2.2.1.2.2.1.kept (cKp hO)) (cSS hO hS) (cVin hi (by omega)) (by rw [cClamp hi (by omega)]) d (k p e R s m args below meth c H locs cells slots ls hO hS)
theorem WP.gstC {index : Nat} (lk : Cond.fieldLink (mY M).cls index "java/lang/String" "COMPACT_STRINGS" "Z" ∈ cALL) (d : decode (mC M) pc = .ok (.getstatic index, 3)) (k : WP Γ r M Φ (pc + 3) L (.int 1 :: st) σ) : WP Γ r M Φ pc L st σ := by
  intro p e R s m args below meth c H locs cells slots ls hO hS
  exact va_gets hO.1 hO.2.1 (hO.w.2.2.2.2.2.2.2.1.1.kept (cKp hO)) (cSS hO hS) hO.2.2.2.1 (cHts hO _ lk) (fun x h => h) d (k p e R s m args below meth c H locs cells slots ls hO hS)
theorem WP.gstS {index : Nat} (lk : Cond.fieldLink (mY M).cls index "jdk/internal/util/Preconditions" "SIOOBE_FORMATTER" "Ljava/util/function/BiFunction;" ∈ cALL) (d : decode (mC M) pc = .ok (.getstatic index, 3)) (k : ∀ v : Value, v.category = 1 → WP Γ r M Φ (pc + 3) L (v :: st) σ) : WP Γ r M Φ pc L st σ := by
  intro p e R s m args below meth c H locs cells slots ls hO hS
  rcases hO.w.2.2.2.2.2.2.2.1.2.1 with h | ⟨t, h⟩
  · exact va_gets hO.1 hO.2.1 (h.kept (cKp hO)) (cSS hO hS) hO.2.2.2.1 (cHts hO _ lk) (fun x h => h) d (k _ rfl p e R s m args below meth c H locs cells slots ls hO hS)
  · exact va_gets hO.1 hO.2.1 (h.kept (cKp hO)) (cSS hO hS) hO.2.2.2.1 (cHts hO _ lk) (fun x h => h) d (k _ rfl p e R s m args below meth c H locs cells slots ls hO hS)
section CALL
variable {f lo mc ms mc2 ms2 f' lo' mc' ms' n index : Nat} {M' : cM} {av rest stk : List Value} {x : Value} {σ1 : cAS}
theorem WP.cVS {j : Nat} (hj : j < 30) (lk : cKV (mY M).cls index M' n) (hC : Ctr Γ (f', lo', mc', ms') M' (.ref (gK Γ j) :: av) σ (rV (some x) σ1)) (hcl : (mY M').cls = "java/lang/String") (hn : av.length = n) (hr : f' + 1 ≤ f ∧ 8 + (mL M' + 11) + lo' ≤ lo) (hmc : mc2 + mc' ≤ mc) (hms : ms2 + ms' ≤ ms) (hst : (rest.map fun v => v.category).sum ≤ 8) (hstk : stk = av.reverse ++ .ref (gK Γ j) :: rest) (d : decode (mC M) pc = .ok (.invokevirtual index, 3))
    (k : WP Γ (f, lo, mc2, ms2) M Φ (pc + 3) L (x :: rest) σ1) : WP Γ (f, lo, mc, ms) M Φ pc L stk σ := by
  have kr : ∀ v σ', rV (some x) σ1 (.inl v) σ' → WP Γ (f, lo, mc2, ms2) M Φ (pc + 3) L (v.toList ++ rest) σ' := fun v σ' h => by obtain ⟨h1, rfl⟩ := h; cases h1; exact k
  have kx : ∀ E σ', rV (some x) σ1 (.inr E) σ' → WX Γ (f, lo, mc2, ms2) M Φ pc L E σ' := fun E σ' h => rV_out E σ' h
  intro p e R s m args below meth c H locs cells slots ls hO hS
  obtain ⟨h0, h1, h2, h3, h4, h5, h6⟩ := lk
  have hw : cWd M' :: cALL = .code (mY M') (mC M') (mL M') (mR M') :: cALL := by rw [cWd_code h0]
  have ha := hS.1
  dsimp only at ha
  have cb := callB_of (R := R) (s := s) (args := args) (own := (mY M).cls) (index := index) (rm := cRo (f', lo', mc', ms')) n (cHts hO) (cGood h1) hw rfl rfl (cHts hO _ h5) (cHts hO _ h2) h6 ⟨by show f' + 1 ≤ R.frames; omega, by show 8 + (mL M' + 11) + lo' ≤ R.locals; omega⟩
  obtain ⟨cell, g1, g2, g3, -⟩ := (hO.w.2.2.2.2.2.2.1 j hj).1
  have g1' : H[gK Γ j]? = some cell := by rw [hS.2.1.2.1 _ (Array.getElem?_eq_some_iff.mp g1).1]; exact g1
  have hp : PreV s H (mY M').cls (gK Γ j) (cPc Γ σ (.ref (gK Γ j) :: av)) av := ⟨cBlind, by rw [hcl]; exact ⟨cell, g1', g2, g3⟩, (cPre hO.w hS.2.1).2⟩
  exact cRun hO hS hmc hms (vx_runV (As := av) (rest := rest) (cFix hO) hC ⟨cb, cHts hO _ h3, cHts hO _ h4⟩ hp rfl hn (hS.2.2.2.1.1) hstk (by show 2 * 0 + _ ≤ 8; omega) d ⟨by omega, by omega⟩) kr kx
end CALL
end CSTRG
theorem cTL_le : ∀ j, j < 30 → cTL j ≤ 200 := by decide +kernel
theorem cTB_ok : ∀ j, j < 30 → ∀ i, i < cTL j → ((cTB j i &&& 255).toUInt32 % 65536).toInt32 = cTB j i ∧ narrow .char (.int (cTB j i)) = .int (cTB j i) := by
  have h : ∀ j, j < 30 → ∀ i, i < cTL j → ((cTB j i &&& 255).toUInt32 % 65536).toInt32 = cTB j i ∧ ((cTB j i).toUInt32 % 65536).toInt32 = cTB j i := by decide +kernel
  intro j hj i hi
  obtain ⟨h1, h2⟩ := h j hj i hi
  refine ⟨h1, ?_⟩
  unfold narrow
  simp [h2]
section
variable (Γ : cG) (σ : cAS) {j : Nat}
theorem CJ_coder (hj : j < 30) : Ctr Γ (0, 0, 0, 0) MJ0_coder_7d493 [.ref (gK Γ j)] σ (rV (some (.int 0)) σ) := by
  refine Ctr.go rfl (by decide) rfl rfl ?_
  refine WP.gstC (pc := 0) sJ0_38 dJ0_coder_7d493_0 ?_
  refine WP.if_eq (pc := 3) (tgt := 13) dJ0_coder_7d493_3 (by decide) (fun h => absurd h (by decide)) (fun _ => ?_)
  refine WP.aload_n (pc := 6) dJ0_coder_7d493_6 rfl ?_
  refine WP.strC (pc := 7) hj sJ0_15 dJ0_coder_7d493_7 ?_
  refine WP.goto (pc := 10) (tgt := 14) dJ0_coder_7d493_10 (by decide) ?_
  exact WP.zret (pc := 14) rfl (by decide) dJ0_coder_7d493_14 ⟨rfl, rfl⟩
theorem CJ_length (hj : j < 30) : Ctr Γ (1, 20, 0, 0) MJ0_length_8abf5 [.ref (gK Γ j)] σ (rV (some (.int (nI (cTL j)))) σ) := by
  refine Ctr.go rfl (by decide) rfl rfl ?_
  refine WP.aload_n (pc := 0) dJ0_length_8abf5_0 rfl ?_
  refine WP.strV (pc := 1) hj sJ0_9 dJ0_length_8abf5_1 ?_
  refine WP.strN (pc := 4) hj dJ0_length_8abf5_4 ?_
  refine WP.aload_n (pc := 5) dJ0_length_8abf5_5 rfl ?_
  refine WP.cVS (pc := 6) (mc2 := 0) (ms2 := 0) hj kJ0_335 (CJ_coder Γ σ hj) rfl rfl ⟨Nat.le_of_ble_eq_true rfl, Nat.le_of_ble_eq_true rfl⟩ (Nat.le_of_ble_eq_true rfl) (Nat.le_of_ble_eq_true rfl) (Nat.le_of_ble_eq_true rfl) rfl dJ0_length_8abf5_6 ?_
  refine WP.ishr (pc := 9) dJ0_length_8abf5_9 ?_
  have e : nI (cTL j) >>> ((0 : Int32) &&& 31) = nI (cTL j) := by simp
  rw [e]
  exact WP.iret (pc := 10) rfl dJ0_length_8abf5_10 ⟨rfl, rfl⟩
theorem CJ_isLatin1 (hj : j < 30) : Ctr Γ (0, 0, 0, 0) MJ0_isLatin1_aae02 [.ref (gK Γ j)] σ (rV (some (.int 1)) σ) := by
  refine Ctr.go rfl (by decide) rfl rfl ?_
  refine WP.gstC (pc := 0) sJ0_38 dJ0_isLatin1_aae02_0 ?_
  refine WP.if_eq (pc := 3) (tgt := 17) dJ0_isLatin1_aae02_3 (by decide) (fun h => absurd h (by decide)) (fun _ => ?_)
  refine WP.aload_n (pc := 6) dJ0_isLatin1_aae02_6 rfl ?_
  refine WP.strC (pc := 7) hj sJ0_15 dJ0_isLatin1_aae02_7 ?_
  refine WP.if_ne (pc := 10) (tgt := 17) dJ0_isLatin1_aae02_10 (by decide) (fun h => absurd rfl h) (fun _ => ?_)
  refine WP.iconst (pc := 13) (v := 1) dJ0_isLatin1_aae02_13 (by decide) ?_
  refine WP.goto (pc := 14) (tgt := 18) dJ0_isLatin1_aae02_14 (by decide) ?_
  exact WP.zret (pc := 18) rfl (by decide) dJ0_isLatin1_aae02_18 ⟨rfl, rfl⟩
theorem CJ_check3 {i n : Nat} (hi : i < n) (hn : n ≤ 1000) (v : Value) (hv : v.category = 1) : Ctr Γ (0, 0, 0, 0) MJ3_checkIndex_8e157 [.int (nI i), .int (nI n), v] σ (rV (some (.int (nI i))) σ) := by
  refine Ctr.go rfl (by decide) rfl (by simp [cLc, hv]; exact ⟨rfl, rfl⟩) ?_
  refine WP.iload_n (pc := 0) dJ3_checkIndex_8e157_0 rfl ?_
  refine WP.if_lt (pc := 1) (tgt := 9) dJ3_checkIndex_8e157_1 (by decide) (fun h => absurd h (nI_pos (by omega))) (fun _ => ?_)
  refine WP.iload_n (pc := 4) dJ3_checkIndex_8e157_4 rfl ?_
  refine WP.iload_n (pc := 5) dJ3_checkIndex_8e157_5 rfl ?_
  refine WP.icmp_lt (pc := 6) (tgt := 16) dJ3_checkIndex_8e157_6 (by decide) (fun _ => ?_) (fun h => absurd (nI_lt hi (by omega)) h)
  refine WP.iload_n (pc := 16) dJ3_checkIndex_8e157_16 rfl ?_
  exact WP.iret (pc := 17) rfl dJ3_checkIndex_8e157_17 ⟨rfl, rfl⟩
theorem CJ_check0 {i n : Nat} (hi : i < n) (hn : n ≤ 1000) : Ctr Γ (1, 22, 0, 0) MJ0_checkIndex_df160 [.int (nI i), .int (nI n)] σ (rV none σ) := by
  refine Ctr.go rfl (by decide) rfl rfl ?_
  refine WP.iload_n (pc := 0) dJ0_checkIndex_df160_0 rfl ?_
  refine WP.iload_n (pc := 1) dJ0_checkIndex_df160_1 rfl ?_
  refine WP.gstS (pc := 2) sJ0_1053 dJ0_checkIndex_df160_2 (fun v hv => ?_)
  refine WP.cS1 (pc := 5) (mc2 := 0) (ms2 := 0) kJ0_1059 (CJ_check3 Γ σ hi hn v hv) rfl ⟨Nat.le_of_ble_eq_true rfl, Nat.le_of_ble_eq_true rfl⟩ (Nat.le_of_ble_eq_true rfl) (Nat.le_of_ble_eq_true rfl) (Nat.le_of_ble_eq_true rfl) rfl dJ0_checkIndex_df160_5 ?_
  refine WP.pop (pc := 8) dJ0_checkIndex_df160_8 rfl ?_
  exact WP.vret (pc := 9) rfl dJ0_checkIndex_df160_9 ⟨rfl, rfl⟩
theorem CJ_charAt1 (hj : j < 30) {i : Nat} (hi : i < cTL j) : Ctr Γ (2, 43, 0, 0) MJ1_charAt_3b067 [.ref (gW Γ j), .int (nI i)] σ (rV (some (.int (cTB j i))) σ) := by
  have hl := cTL_le j hj
  obtain ⟨e1, e2⟩ := cTB_ok j hj i hi
  refine Ctr.go rfl (by decide) rfl rfl ?_
  refine WP.iload_n (pc := 0) dJ1_charAt_3b067_0 rfl ?_
  refine WP.aload_n (pc := 1) dJ1_charAt_3b067_1 rfl ?_
  refine WP.strN (pc := 2) hj dJ1_charAt_3b067_2 ?_
  refine WP.cS0 (pc := 3) (mc2 := 0) (ms2 := 0) kJ1_9 (CJ_check0 Γ σ hi (by omega)) rfl ⟨Nat.le_of_ble_eq_true rfl, Nat.le_of_ble_eq_true rfl⟩ (Nat.le_of_ble_eq_true rfl) (Nat.le_of_ble_eq_true rfl) (Nat.le_of_ble_eq_true rfl) rfl dJ1_charAt_3b067_3 ?_
  refine WP.aload_n (pc := 6) dJ1_charAt_3b067_6 rfl ?_
  refine WP.iload_n (pc := 7) dJ1_charAt_3b067_7 rfl ?_
  refine WP.strB (pc := 8) hj hi (by omega) dJ1_charAt_3b067_8 ?_
  refine WP.sipush (pc := 9) (v := 255) dJ1_charAt_3b067_9 (by decide) ?_
  refine WP.iand (pc := 12) dJ1_charAt_3b067_12 ?_
  refine WP.i2c (pc := 13) dJ1_charAt_3b067_13 ?_
  rw [e1]
  exact WP.zret (pc := 14) rfl e2 dJ1_charAt_3b067_14 ⟨rfl, rfl⟩
theorem CJ_charAt (hj : j < 30) {i : Nat} (hi : i < cTL j) : Ctr Γ (4, 85, 0, 0) MJ0_charAt_5068e [.ref (gK Γ j), .int (nI i)] σ (rV (some (.int (cTB j i))) σ) := by
  have hl := cTL_le j hj
  obtain ⟨e1, e2⟩ := cTB_ok j hj i hi
  refine Ctr.go rfl (by decide) rfl rfl ?_
  refine WP.aload_n (pc := 0) dJ0_charAt_5068e_0 rfl ?_
  refine WP.cVS (pc := 1) (mc2 := 0) (ms2 := 0) hj kJ0_492 (CJ_isLatin1 Γ σ hj) rfl rfl ⟨Nat.le_of_ble_eq_true rfl, Nat.le_of_ble_eq_true rfl⟩ (Nat.le_of_ble_eq_true rfl) (Nat.le_of_ble_eq_true rfl) (Nat.le_of_ble_eq_true rfl) rfl dJ0_charAt_5068e_1 ?_
  refine WP.if_eq (pc := 4) (tgt := 16) dJ0_charAt_5068e_4 (by decide) (fun h => absurd h (by decide)) (fun _ => ?_)
  refine WP.aload_n (pc := 7) dJ0_charAt_5068e_7 rfl ?_
  refine WP.strV (pc := 8) hj sJ0_9 dJ0_charAt_5068e_8 ?_
  refine WP.iload_n (pc := 11) dJ0_charAt_5068e_11 rfl ?_
  refine WP.cS1 (pc := 12) (mc2 := 0) (ms2 := 0) kJ0_495 (CJ_charAt1 Γ σ hj hi) rfl ⟨Nat.le_of_ble_eq_true rfl, Nat.le_of_ble_eq_true rfl⟩ (Nat.le_of_ble_eq_true rfl) (Nat.le_of_ble_eq_true rfl) (Nat.le_of_ble_eq_true rfl) rfl dJ0_charAt_5068e_12 ?_
  exact WP.zret (pc := 15) rfl e2 dJ0_charAt_5068e_15 ⟨rfl, rfl⟩
end
