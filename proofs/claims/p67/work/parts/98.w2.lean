theorem k2_sel_sup {C : String} {y z : MethodName} {s : State} {args : Array Value} (hy : y.cls ≠ "java/lang/invoke/MethodHandle" ∧ y.cls ≠ "java/lang/invoke/VarHandle") (hsel : (Cond.selects C z z).before args s = true) (hcls : z.cls = y.cls) (hpriv : (Cond.privateMethod y).before args s = true) (hinst : (Cond.instanceMethod y).before args s = true) : (Cond.selects C y y).before args s = true := by
  obtain ⟨c, r, m, q1, q2, q3, q4, kP, hkP, hkPi⟩ := Cond.selects_spec hsel
  obtain ⟨mk, methM, hnamed, hmethM, -, -⟩ := Cond.instanceMethod_spec hinst
  have hfound : s.methodFound? y.cls y.name y.desc = some mk := State.methodFound?_of_named hnamed hy
  have e : mk.cls = m.cls := Option.some.inj ((findClass_of_methodNamed hnamed).symm.trans (by rw [← hcls]; exact findClass_of_methodNamed q3))
  have hsel2 : selectMethod {} s.vm c mk = .method mk := selectMethod_private hmethM (Cond.privateMethod_at hpriv mk methM hnamed hmethM)
  simp only [Cond.before, Cond.holds, Cond.value, q1, hfound, hnamed, hsel2, e, hkP]
  simp; exact hkPi
theorem w_tab {s : State} {b : Nat} (h : ∀ w ∈ lw_tbl, w.before #[Value.ref b] s = true) {w : Cond} (hw : w ∈ tables_1) : w.before #[Value.ref b] s = true := h w (List.mem_append_right _ hw)
theorem w_ti {w : Cond} (i : Nat) (h : tables_1[i]? = some w) : w ∈ tables_1 := List.mem_of_getElem? h
theorem w_su {s : State} {b : Nat} (h : ∀ w ∈ lw_tbl, w.before #[Value.ref b] s = true) : ∀ w ∈ cSU, w.before #[Value.ref b] s = true := by
  have hs := w_tab h (w_ti (w := Cond.selects RJ4 yJ5_isLatin1_aae02 yJ5_isLatin1_aae02) 1140 (by decide +kernel))
  intro w hw
  simp only [cSU, List.mem_cons, List.not_mem_nil, or_false] at hw
  rcases hw with rfl | rfl | rfl | rfl | rfl | rfl
  · exact k2_sel_sup ⟨by decide, by decide⟩ hs rfl (w_tab h (w_ti (w := Cond.privateMethod yJ5_ensureCapacityInternal_d00df) 1110 (by decide +kernel))) (w_tab h (w_ti (w := Cond.instanceMethod yJ5_ensureCapacityInternal_d00df) 1111 (by decide +kernel)))
  · exact k2_sel_sup ⟨by decide, by decide⟩ hs rfl (w_tab h (w_ti (w := Cond.privateMethod yJ5_newCapacity_0f7a4) 1114 (by decide +kernel))) (w_tab h (w_ti (w := Cond.instanceMethod yJ5_newCapacity_0f7a4) 1115 (by decide +kernel)))
  · exact k2_sel_sup ⟨by decide, by decide⟩ hs rfl (w_tab h (w_ti (w := Cond.privateMethod yJ5_inflate_da8c8) 1167 (by decide +kernel))) (w_tab h (w_ti (w := Cond.instanceMethod yJ5_inflate_da8c8) 1168 (by decide +kernel)))
  · exact k2_sel_sup ⟨by decide, by decide⟩ hs rfl (w_tab h (w_ti (w := Cond.privateMethod yJ5_appendNull_278bc) 1106 (by decide +kernel))) (w_tab h (w_ti (w := Cond.instanceMethod yJ5_appendNull_278bc) 1107 (by decide +kernel)))
  · exact k2_sel_sup ⟨by decide, by decide⟩ hs rfl (w_tab h (w_ti (w := Cond.privateMethod yJ5_putStringAt_47b60) 1159 (by decide +kernel))) (w_tab h (w_ti (w := Cond.instanceMethod yJ5_putStringAt_47b60) 1160 (by decide +kernel)))
  · exact k2_sel_sup ⟨by decide, by decide⟩ hs rfl (w_tab h (w_ti (w := Cond.privateMethod yJ5_inflateIfNeededFor_a7421) 1163 (by decide +kernel))) (w_tab h (w_ti (w := Cond.instanceMethod yJ5_inflateIfNeededFor_a7421) 1164 (by decide +kernel)))
theorem w_all {s : State} {b : Nat} (h : ∀ w ∈ lw_tbl, w.before #[Value.ref b] s = true) : ∀ w ∈ cALL, w.before #[Value.ref b] s = true := fun w hw => by
  rcases List.mem_append.mp (List.mem_filter.mp hw).1 with q | q
  · exact w_su h w q
  · exact h w q
theorem w_fl {s : State} {b : Nat} (h : (Jvm.Cond.and given_1 narrow_1).before #[Value.ref b] s = true) {i : Nat} {c : Cond} (hc : fl0[i]? = some c) : c.before #[Value.ref b] s = true := flat_of_before _ h c (List.mem_of_getElem? hc)
/-- the classes -/
theorem w_cls {s : State} {b : Nat} (h : ∀ w ∈ lw_tbl, w.before #[Value.ref b] s = true) : ∃ D : va_G, ∀ (ci : Nat) (q : vw_C), vwCl[ci]? = some q → u_Kn s q.1 q.2.1 q.2.2 (D.1 ci) (D.2 ci) := by
  have ha := w_all h
  have h0 : ∀ ci : Nat, ∃ p : ClassId × (Nat → Nat), ∀ q : vw_C, vwCl[ci]? = some q → u_Kn s q.1 q.2.1 q.2.2 p.1 p.2 := by
    have key : ∀ q : vw_C, (∀ w ∈ u_ws q.1 q.2.1 q.2.2, w ∈ cALL) → Cond.instantiable q.1 q.2.2 ∈ cALL → ∃ p : ClassId × (Nat → Nat), ∀ q' : vw_C, some q = some q' → u_Kn s q'.1 q'.2.1 q'.2.2 p.1 p.2 := fun q h1 h2 => by
      obtain ⟨cC, iS, h3⟩ := u_known (n := q.2.2) ha h1 (ha _ h2)
      exact ⟨(cC, iS), fun q' e => by cases e; exact h3⟩
    intro ci
    match ci with
    | 0 => exact key (RX0, TX0, 8) uX0 nI0
    | 1 => exact key (RX1, TX1, 7) uX1 nI1
    | 2 => exact key (RX2, TX2, 9) uX2 nI2
    | 3 => exact key (RX3, TX3, 4) uX3 nI3
    | 4 => exact key (RX4, TX4, 4) uX4 nI4
    | 5 => exact key (RX5, TX5, 13) uX5 nI5
    | 6 => exact key (RX6, TX6, 4) uX6 nI6
    | 7 => exact key (RX7, TX7, 5) uX7 nI7
    | 8 => exact key (RX8, TX8, 13) uX8 nI8
    | 9 => exact key (RX9, TX9, 12) uX9 nI9
    | 10 => exact key (RX0, TX0, 8) uX0 nI0
    | 11 => exact key (RX0, TX0, 8) uX0 nI0
    | 12 => exact key (RX0, TX0, 8) uX0 nI0
    | 13 => exact key (RX0, TX0, 8) uX0 nI0
    | 14 => exact key (RX0, TX0, 8) uX0 nI0
    | 15 => exact key (RJ4, TJ4, 4) uX15 nI15
    | 16 => exact key (RJ0, TJ0, 4) uX16 nI16
    | n + 17 => exact ⟨(default, fun _ => 0), fun q e => by cases e⟩
  exact ⟨(fun ci => (Classical.choose (h0 ci)).1, fun ci => (Classical.choose (h0 ci)).2), fun ci => Classical.choose_spec (h0 ci)⟩
theorem w_ao : Cond.arrayOver (.object RX5) ∈ tables_1 := w_ti 330 (by decide +kernel)
theorem w_a2 : Cond.arrayOver (.array .int) ∈ tables_1 := w_ti 684 (by decide +kernel)
/-- the array classes -/
theorem w_arr {s : State} {b : Nat} (h : ∀ w ∈ lw_tbl, w.before #[Value.ref b] s = true) : ∃ A : Nat → ClassId, ∀ kd : Nat, 11 ≤ kd → kd ≤ 15 → ArrOfT s (A kd) (cTyA kd) ∧ va_RA s (A kd) (cTyA kd) := by
  have ha := w_all h
  have h0 : ∀ kd : Nat, ∃ cA : ClassId, 11 ≤ kd → kd ≤ 15 → ArrOfT s cA (cTyA kd) ∧ va_RA s cA (cTyA kd) := by
    have key : ∀ kd ty, cTyA kd = ty → (∀ C, ty ≠ .object C) → Cond.arrayClass (cTyA kd) ∈ cALL → ∃ cA : ClassId, 11 ≤ kd → kd ≤ 15 → ArrOfT s cA (cTyA kd) ∧ va_RA s cA (cTyA kd) := fun kd ty e hne hw => by
      obtain ⟨c, k, comp, h1, h2, h3⟩ := Cond.arrayClass_spec (ha _ hw)
      refine ⟨c, fun _ _ => ⟨fun n z => ⟨(fun k h => by cases h), k, h2, comp, h3⟩, ?_⟩⟩
      rw [e] at h1 ⊢
      cases ty <;> first | exact h1 | exact absurd rfl (hne _)
    intro kd
    match kd with
    | 11 => exact key 11 .int rfl (fun _ => by intro q; cases q) nA11
    | 12 => exact key 12 .byte rfl (fun _ => by intro q; cases q) nA12
    | 13 => exact key 13 .boolean rfl (fun _ => by intro q; cases q) nA13
    | 14 =>
      obtain ⟨comp, c, k, f1, -, f2, f3, f4⟩ := arrayOverA_spec (args := #[]) (over_use (A := #[]) (w_tab h w_a2))
      exact ⟨c, fun _ _ => ⟨fun N z => ⟨(fun k h => by cases h), k, f2, comp, f3⟩, f4⟩⟩
    | 15 =>
      obtain ⟨comp, c, k, f1, -, f2, f3, f4⟩ := Cond.arrayOver_spec (w_tab h w_ao)
      exact ⟨c, fun _ _ => ⟨fun N z => ⟨(fun k h => by cases h), k, f2, comp, f3⟩, k, comp, f2, f3, f1, f4⟩⟩
    | 0 | 1 | 2 | 3 | 4 | 5 | 6 | 7 | 8 | 9 | 10 => exact ⟨default, fun h => absurd h (by decide)⟩
    | n + 16 => exact ⟨default, fun _ h => absurd h (by omega)⟩
  exact ⟨fun kd => Classical.choose (h0 kd), fun kd => Classical.choose_spec (h0 kd)⟩
/-- the String constants -/
theorem w_str {s : State} {b : Nat} (h : (Jvm.Cond.and given_1 narrow_1).before #[Value.ref b] s = true) {A : Nat → Prop} (hA : ∀ a : Nat, a < s.heap.size → ¬ A a) : ∃ K V : Nat → Nat, ∀ j, j < 30 → (sTm j).eval #[Value.ref b] s none [] s = some (.ref (K j)) ∧ va_O "java/lang/String" (K j) A s s.heap ∧ va_OF "java/lang/String" "coder" "B" (.int 0) (K j) A s s.heap ∧ va_OF "java/lang/String" "value" "[B" (.ref (V j)) (K j) A s s.heap ∧ va_T .byte (V j) (cTL j) (fun i => .int (cTB j i)) A s s.heap := by
  have h0 : ∀ j : Nat, ∃ q : Nat × Nat, j < 30 → (sTm j).eval #[Value.ref b] s none [] s = some (.ref q.1) ∧ va_O "java/lang/String" q.1 A s s.heap ∧ va_OF "java/lang/String" "coder" "B" (.int 0) q.1 A s s.heap ∧ va_OF "java/lang/String" "value" "[B" (.ref q.2) q.1 A s s.heap ∧ va_T .byte q.2 (cTL j) (fun i => .int (cTB j i)) A s s.heap := by
    intro j
    by_cases hj : j < 30
    · obtain ⟨a, c, cA, kA, q1, q2, q3, q4, q5, q6, -⟩ := Cond.exactly_spec (args := #[Value.ref b]) (first := s) (o := none) (s := s) (idx := []) (t := sTm j) (cls := "java/lang/String") (w_fl h (st_ex j hj))
      obtain ⟨t, ht, hT⟩ := va_Tof (f := fun i => .int (cTB j i)) (A := A) (N := cTL j) (by have := cTL_le j hj; omega) (w_fl h (st_ar j hj)) (va_eqt (w_fl h (st_le j hj))) (fun i hi => va_eqt (w_fl h (st_el j hj i hi))) hA
      exact ⟨(a, t), fun _ => ⟨q1, ⟨cA, q3, q5, by rw [q6]; exact q2, hA a (Array.getElem?_eq_some_iff.mp q3).1⟩, vk_OFof q1 (va_eqt (w_fl h (st_co j hj))) hA, vk_OFof q1 ht hA, hT⟩⟩
    · exact ⟨(0, 0), fun h => absurd h hj⟩
  exact ⟨fun i => (Classical.choose (h0 i)).1, fun i => (Classical.choose (h0 i)).2, fun i => Classical.choose_spec (h0 i)⟩
theorem w_nat {s : State} {b : Nat} (h : ∀ w ∈ lw_tbl, w.before #[Value.ref b] s = true) : ∀ w ∈ cNW, va_Nw w s := fun w hw => by
  obtain ⟨h1, h2⟩ := List.mem_filter.mp hw
  have h3 := h w h1
  cases w <;> first | exact va_Nw.of rfl h3 | cases h2
theorem sTm_of : ∀ q ∈ cSTR, sTm q.2.2.2 = .string q.1 q.2.1 ∧ q.2.2.2 < 30 := by decide +kernel
theorem w_z1 : Cond.laysStatic "java/lang/Throwable" "UNASSIGNED_STACK" "[Ljava/lang/StackTraceElement;" ∈ tables_1 := by decide +kernel
theorem w_z2 : Cond.laysStatic "java/lang/Throwable" "SUPPRESSED_SENTINEL" "Ljava/util/List;" ∈ tables_1 := by decide +kernel
theorem w_z3 : Cond.laysStatic "java/lang/String" "COMPACT_STRINGS" "Z" ∈ tables_1 := by decide +kernel
theorem w_z4 : Cond.laysStatic "jdk/internal/util/Preconditions" "SIOOBE_FORMATTER" "Ljava/util/function/BiFunction;" ∈ tables_1 := by decide +kernel
theorem w_z5 : Cond.laysStatic "java/lang/Integer" "DigitOnes" "[B" ∈ tables_1 := by decide +kernel
theorem w_z6 : Cond.laysStatic "java/lang/Integer" "DigitTens" "[B" ∈ tables_1 := by decide +kernel
theorem w_i5 : Cond.initialized "java/lang/Integer" ∈ tables_1 := by decide +kernel
theorem w_i1 : Cond.initialized "java/lang/Throwable" ∈ tables_1 := by decide +kernel
theorem w_i3 : Cond.initialized "java/lang/String" ∈ tables_1 := by decide +kernel
theorem w_i4 : Cond.initialized "jdk/internal/util/Preconditions" ∈ tables_1 := by decide +kernel
theorem w_f1 : Cond.isRef (.static "java/lang/Throwable" "UNASSIGNED_STACK" "[Ljava/lang/StackTraceElement;") ∈ fl0 := by decide +kernel
theorem w_f2 : Cond.isRef (.static "java/lang/Throwable" "SUPPRESSED_SENTINEL" "Ljava/util/List;") ∈ fl0 := by decide +kernel
theorem w_f3 : Cond.eq (.static "java/lang/String" "COMPACT_STRINGS" "Z") (.int 1) ∈ fl0 := by decide +kernel
theorem w_f4 : Cond.isRef (.static "jdk/internal/util/Preconditions" "SIOOBE_FORMATTER" "Ljava/util/function/BiFunction;") ∈ fl0 := by decide +kernel
theorem w_flags (l : Launch) (h : l.flags = flags0) : l.stackTraces = false := by
  unfold Launch.stackTraces
  rw [h]
  decide +kernel
/-- all of it -/
theorem w_world (l : Launch) (hflags : l.flags = flags0) {s : State} {b L : Nat} {xs : Nat → Int32} (hL : L ≤ 260) (hb : b < s.heap.size) (hX : va_X b L xs s s.heap) (hts : ∀ w ∈ lw_tbl, w.before #[Value.ref b] s = true) (hgv : (Jvm.Cond.and given_1 narrow_1).before #[Value.ref b] s = true) : ∃ Γ : cG, gl Γ = l ∧ gH Γ = s.heap ∧ gX Γ = (b, L, xs) ∧ cW Γ s := by
  obtain ⟨D, hD⟩ := w_cls hts
  obtain ⟨A, hAr⟩ := w_arr hts
  have hA : ∀ a : Nat, a < s.heap.size → ¬ (s.heap.size ≤ a) := fun a ha => by omega
  obtain ⟨K, V, hS⟩ := w_str hgv (A := fun q => s.heap.size ≤ q) hA
  have fl {c : Cond} (hc : c ∈ fl0) : c.before #[Value.ref b] s = true := flat_of_before _ hgv c hc
  obtain ⟨tO, hO, hTO⟩ := va_Tof (f := fun i => .int (nI (48 + i % 10))) (A := fun q => s.heap.size ≤ q) (N := 100) (by decide) (w_fl hgv dO_ar) (va_eqt (w_fl hgv dO_le)) (fun i hi => va_eqt (w_fl hgv (dO_el i hi))) hA
  obtain ⟨tT, hT, hTT⟩ := va_Tof (f := fun i => .int (nI (48 + i / 10))) (A := fun q => s.heap.size ≤ q) (N := 100) (by decide) (w_fl hgv dT_ar) (va_eqt (w_fl hgv dT_le)) (fun i hi => va_eqt (w_fl hgv (dT_el i hi))) hA
  refine ⟨(l, D, A, s.heap, K, V, ((b, L, xs), (tO, tT))), rfl, rfl, rfl, hD, hAr, w_nat hts, ⟨va_AO.of (w_tab hts w_ao), w_tab hts w_a2⟩, ⟨vx_Zqof (w_tab hts w_z1) (w_tab hts w_i1) (fl w_f1) hA, vx_Zqof (w_tab hts w_z2) (w_tab hts w_i1) (fl w_f2) hA⟩, fun q hq => ?_, fun j hj => (hS j hj).2, ⟨va_Zof (w_tab hts w_z3) (w_tab hts w_i3) (va_eqt (fl w_f3)) hA, va_Zqof (w_tab hts w_z4) (w_tab hts w_i4) (fl w_f4) hA, ?_, ⟨va_Zof (w_tab hts w_z5) (w_tab hts w_i5) hO hA, hTO⟩, ⟨va_Zof (w_tab hts w_z6) (w_tab hts w_i5) hT hA, hTT⟩⟩, fun q hq => va_Nc.of (fl (st_nc q hq)), w_flags l hflags⟩
  · obtain ⟨h1, h2⟩ := sTm_of q hq
    have h3 := (hS _ h2).1
    rw [h1] at h3
    exact vk_R.of (w_tab hts (st_rf q hq)) h3
  · obtain ⟨scr, x1, x2, x3, x4, x5⟩ := hX
    exact ⟨scr, x1, x2, x3, by rw [x4]; exact Nat.le_refl _, by rw [x4]; rfl, x5, hA b hb⟩
