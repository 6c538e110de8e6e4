theorem dgs_l3 : ∀ v, v < 1000 → (dgs v).length ≤ 3 := by decide +kernel
theorem knd_5 : ∀ q, q < 3 → (cTx (19 + q)).length ≤ 5 := by decide +kernel
theorem txt_le (Γ : cG) : (txt Γ).length ≤ 200 := by
  have x1 : (cTx 1).length = 6 := by decide +kernel
  have x2 : (cTx 2).length = 5 := by decide +kernel
  have x3 : (cTx 3).length = 4 := by decide +kernel
  have x7 : (cTx 7).length = 8 := by decide +kernel
  have x9 : (cTx 9).length = 8 := by decide +kernel
  have hS : ∀ x r, (oS x r).length ≤ 17 + r.length := fun x r => by
    have d1 := dgs_l3 (x / 131072 % 10) (by omega)
    have d2 := dgs_l3 (x / 2097152 % 60) (by omega)
    unfold oS
    simp only [List.length_append, List.length_cons, x9]
    omega
  have hC : ∀ k y r, (oQ k y r).length ≤ 34 + r.length := fun k y r => by
    have d1 := dgs_l3 (1 + y / 4 % 5) (by omega)
    have d2 := dgs_l3 (1 + y / 32 % 40) (by omega)
    have d3 := dgs_l3 (y / 2048 % 200) (by omega)
    have d4 := dgs_l3 (3 + y / 65536 % 20) (by omega)
    have d5 := knd_5 (y % 3) (Nat.mod_lt _ (by decide))
    unfold oQ
    simp only [List.length_append, List.length_cons, List.length_nil, x7]
    omega
  have hK : ∀ k y r, (oK k y r).length ≤ 14 + r.length := fun k y r => by
    have d5 := knd_5 (y / 256 % 3) (Nat.mod_lt _ (by decide))
    unfold oK
    split
    · omega
    · simp only [List.length_append, List.length_cons, List.length_nil, x3]
      omega
  have hB : ∀ k y r, (oB k y r).length ≤ 17 + r.length := fun k y r => by
    have d1 := dgs_l3 (1 + y % 6) (by omega)
    have d2 := dgs_l3 (1 + y / 8 % 4) (by omega)
    unfold oB
    simp only [List.length_append, List.length_cons, List.length_nil, x2]
    omega
  have hH : ∀ x r, (oH x r).length ≤ 19 + r.length := fun x r => by
    have d1 := dgs_l3 (1 + x % 40) (by omega)
    have d2 := dgs_l3 (1 + x / 64 % 30) (by omega)
    have d3 := dgs_l3 (1 + x / 4096 % 30) (by omega)
    unfold oH
    simp only [List.length_append, List.length_cons, x1]
    omega
  rw [txt_o]
  have a1 := hS (clN Γ 0) []
  have a2 := hC 1 (yC Γ 1) (oS (clN Γ 0) [])
  have a3 := hC 0 (yC Γ 0) (oQ 1 (yC Γ 1) (oS (clN Γ 0) []))
  generalize oQ 0 (yC Γ 0) (oQ 1 (yC Γ 1) (oS (clN Γ 0) [])) = r3 at a3 ⊢
  have a4 := hK 2 (yB Γ 2) r3
  have a5 := hB 2 (yB Γ 2) (oK 2 (yB Γ 2) r3)
  have a6 := hK 1 (yB Γ 1) (oB 2 (yB Γ 2) (oK 2 (yB Γ 2) r3))
  have a7 := hB 1 (yB Γ 1) (oK 1 (yB Γ 1) (oB 2 (yB Γ 2) (oK 2 (yB Γ 2) r3)))
  have a8 := hK 0 (yB Γ 0) (oB 1 (yB Γ 1) (oK 1 (yB Γ 1) (oB 2 (yB Γ 2) (oK 2 (yB Γ 2) r3))))
  have a9 := hB 0 (yB Γ 0) (oK 0 (yB Γ 0) (oB 1 (yB Γ 1) (oK 1 (yB Γ 1) (oB 2 (yB Γ 2) (oK 2 (yB Γ 2) r3)))))
  have a10 := hH (clN Γ 0) (oB 0 (yB Γ 0) (oK 0 (yB Γ 0) (oB 1 (yB Γ 1) (oK 1 (yB Γ 1) (oB 2 (yB Γ 2) (oK 2 (yB Γ 2) r3))))))
  simp only [List.length_nil] at a1
  show (oH (clN Γ 0) (oB 0 (yB Γ 0) (oK 0 (yB Γ 0) (oB 1 (yB Γ 1) (oK 1 (yB Γ 1) (oB 2 (yB Γ 2) (oK 2 (yB Γ 2) r3))))))).length ≤ 200
  omega
theorem bnN_le (l : List mBk) : bnN l ≤ l.length := by
  induction l with
  | nil => exact Nat.le_refl _
  | cons e t ih =>
    have : bnE e ≤ 1 := by unfold bnE; split <;> omega
    show bnE e + bnN t ≤ t.length + 1
    omega
theorem x0_at {σ τ : cAS} {x : Nat} (h : xiP σ x (.inl none) τ) : xAt τ x m00 := by
  obtain ⟨-, b1, n1, x1, r1, s1, f1⟩ := h
  have hp : ∀ k, k < 10 → plc τ x k = none := fun k hk => by
    unfold plc
    split
    · exact r1 61 k (by decide) (by decide)
    · exact r1 60 (k - 8) (by decide) (by decide)
  have ho : ∀ k, occ m00 k = none := fun k => by
    unfold occ m00 mkm
    split <;> rfl
  refine ⟨x1, Nat.le_of_eq n1.symm, s1, f1, ⟨fun k hk q hq => ?_, fun k k' hk hk' hn q q' hq hq' => ?_⟩, fun k hk s hs => ?_, fun k h1 h2 _ => hp k h2⟩
  · rw [hp k hk] at hq
    cases hq
  · rw [hp k hk] at hq
    cases hq
  · rw [ho k] at hs
    cases hs
theorem q_load_ok {s0 s2 : mS} {f : Nat → Int32} {n : Nat} {r : Nat × Int32 × List Int32 × (Nat → Option mS) × List mS} {p : mLd} (h : sdRead f n s00 = (s2, p)) (h0 : p.1 = 0) (h2 : s2.2.2.2.1.length = 2) : q_load (s0, f, n, r) = (0, nI 2, mX.w_ep (mX.w_e (mX.w_n (psh (s0, f, n, r) s2) 0) 0) p.2.1) := by
  have e : sdRead (mX.f (s0, f, n, r)) (mX.n (s0, f, n, r)) s00 = (s2, p) := h
  unfold q_load
  rw [e, if_pos h0, h2]
theorem q_load_s {s0 s2 : mS} {f : Nat → Int32} {n : Nat} {r : Nat × Int32 × List Int32 × (Nat → Option mS) × List mS} {v : Int32} : (mX.w_ep (mX.w_e (mX.w_n (psh (s0, f, n, r) s2) 0) 0) v).s = s2 ∧ (mX.w_ep (mX.w_e (mX.w_n (psh (s0, f, n, r) s2) 0) 0) v).n = 0 ∧ (mX.w_ep (mX.w_e (mX.w_n (psh (s0, f, n, r) s2) 0) 0) v).e = 0 := ⟨rfl, rfl, rfl⟩
theorem inv_fn {s0 : mS} {f : Nat → Int32} {n T C Z : Nat} (h : inv T C Z (mkm s0)) : inv T C Z (s0, f, n, (mkm s0).2.2.2) := h
section T
variable (Γ : cG) {nm : String × List (Nat × Nat × Nat × Nat)} {x : Nat}
theorem CL_loaded {σ : cAS} {m m' : mX} {v : Int32} (hx : xAt σ x m) (hq : q_load m = (0, v, m')) : Ctr Γ (10, 240, 27, 416) ML_loaded [.ref x] σ (rS (fun w τ => w = some (.int v) ∧ xAt τ x m' ∧ kpM σ τ x)) := by
  refine Ctr.ofH (List.cons_ne_nil _ _) (by decide) (Nat.le_of_ble_eq_true rfl) (by intro v hv; simp only [List.mem_cons, List.not_mem_nil, or_false] at hv; rcases hv with rfl <;> rfl) ?_
  refine WP.aload_n (pc := 0) dL_loaded_0 rfl ?_
  refine WP.cVs (pc := 1) (mc2 := 0) (ms2 := 0) (ci := 8) kL_28 (xOk Γ (CX8_load Γ hx) hq) (by decide) rfl hx.1.t0 rfl ⟨Nat.le_of_ble_eq_true rfl, Nat.le_of_ble_eq_true rfl⟩ (Nat.le_of_ble_eq_true rfl) (Nat.le_of_ble_eq_true rfl) (Nat.le_of_ble_eq_true rfl) rfl dL_loaded_1 (fun w τ ⟨hw, h2, h3⟩ => ?_)
  subst hw
  exact WP.iret (pc := 4) rfl dL_loaded_4 ⟨_, rfl, rfl, h2, h3⟩
theorem law_0 (hN : (gX Γ).2.1 ≤ 260) {σ : cAS} : WP Γ (21, 640, 21852, 186821) (ML_law nm) lwO 0 [some (.ref (gX Γ).1), none, none, none, none, none] [] σ := by
  refine WP.new (pc := 0) (mc := 21851) (ms := 186808) (ci := 8) uX8 (by decide) nL_19 nI8 nJ8 nD8 dL_law_0 ?_
  refine (?_ : WP Γ (21, 640, 21851, 186808) (ML_law nm) lwO 3 _ [.ref (aN σ)] (sA σ 9 13))
  refine WP.dup (pc := 3) dL_law_3 rfl ?_
  have h0 : mkX (sA σ 9 13) (sA σ 9 13) (aN σ) 1 := by
    refine ⟨rfl, fun d _ => ⟨rfl, rfl, rfl, rfl⟩, fun d c1 c2 => ?_, fun k hk c => ?_, shXR_of (fun q hq c1 c2 => ?_), fun c => absurd c (by decide), fun c => absurd c (by decide), fun k i c1 c2 => by omega⟩
    · have c2 : d < aN σ + 1 := c2
      obtain rfl : d = aN σ := by omega
      exact funext fun j => if_pos rfl
    · obtain rfl : k = 0 := by omega
      exact saTs rfl
    · rcases hq with rfl | rfl | rfl | rfl | rfl | rfl | rfl | rfl | rfl | rfl | rfl | rfl | rfl | rfl | rfl <;> exact absurd c1 (by decide)
  refine WP.callI (pc := 4) (mc2 := 21790) (ms2 := 184953) kL_119 (CX8_init Γ h0 sA_new) rfl ⟨Nat.le_of_ble_eq_true rfl, Nat.le_of_ble_eq_true rfl⟩ (Nat.le_of_ble_eq_true rfl) (Nat.le_of_ble_eq_true rfl) (Nat.le_of_ble_eq_true rfl) rfl dL_law_4 (fun v τ h => ?_) (fun E τ h => nomatch h.1)
  have h1 := h.1
  cases h1
  obtain ⟨s0, hs0⟩ : ∃ s0, m00 = mkm s0 := ⟨_, rfl⟩
  have hx := x0_at h
  have hi0 := m00_inv
  rw [hs0] at hx hi0
  clear h
  clear hs0
  generalize hxx : aN σ = x at *
  refine WP.astore_n (pc := 7) dL_law_7 (Nat.le_of_ble_eq_true rfl) rfl ?_
  refine WP.aload_n (pc := 8) dL_law_8 rfl ?_
  refine WP.aload_n (pc := 9) dL_law_9 rfl ?_
  refine WP.cSs (pc := 10) (mc2 := 21710) (ms2 := 152953) kL_120 (CL_text Γ hN) rfl ⟨Nat.le_of_ble_eq_true rfl, Nat.le_of_ble_eq_true rfl⟩ (Nat.le_of_ble_eq_true rfl) (Nat.le_of_ble_eq_true rfl) (Nat.le_of_ble_eq_true rfl) rfl dL_law_10 (fun w τ2 ⟨a, hw, hs, hkB⟩ => ?_)
  subst hw
  have hsF := strF.new hx hkB hs
  have hx2 : xAt τ2 x (s0, (fun i => cTB 0 i), 0, (mkm s0).2.2.2) := hx.oth (kpB.X (m := mkm s0) hkB)
  have hle := txt_le Γ
  refine WP.cSs (pc := 13) (mc2 := 21689) (ms2 := 152837) kL_92 (CL_says Γ hle hx2 hsF) rfl ⟨Nat.le_of_ble_eq_true rfl, Nat.le_of_ble_eq_true rfl⟩ (Nat.le_of_ble_eq_true rfl) (Nat.le_of_ble_eq_true rfl) (Nat.le_of_ble_eq_true rfl) rfl dL_law_13 (fun w τ3 ⟨hw, ⟨f', hx3, hf'⟩, hk3⟩ => ?_)
  subst hw
  obtain ⟨r1, r2⟩ := read_P (Γ := Γ) (f := f') (n := (txt Γ).length) ⟨Nat.zero_add _, fun i c hc => by rw [Nat.zero_add]; exact hf' i c hc⟩
  generalize (txt Γ).length = len at hx3 r1 r2 hle
  generalize hR0 : (mkm s0).2.2.2 = R0 at hx3
  obtain ⟨s2, p, hsd⟩ : ∃ s2 p, sdRead f' len s00 = (s2, p) := ⟨_, _, rfl⟩
  rw [hsd] at r1 r2
  have hlen2 : s2.2.2.2.1.length = 2 := r2.2.2.2.2.2.1
  have hq := q_load_ok (s0 := s0) (r := R0) hsd r1 hlen2
  have hv2 := q_load_inv (T := 600) (C := 10800000) (Z := 1728000) (m := (s0, f', len, R0)) (Nat.le_refl _) (Nat.le_refl _) (Nat.le_refl _) (Nat.le_trans hle (by decide)) (by rw [← hR0]; exact inv_fn hi0)
  rw [hq] at hv2
  obtain ⟨hs2, hn2, he2⟩ := q_load_s (s0 := s0) (s2 := s2) (f := f') (n := len) (r := R0) (v := p.2.1)
  have hv2 : inv 601 10818000 1730880 (mX.w_ep (mX.w_e (mX.w_n (psh (s0, f', len, R0) s2) 0) 0) p.2.1) := hv2
  generalize mX.w_ep (mX.w_e (mX.w_n (psh (s0, f', len, R0) s2) 0) 0) p.2.1 = m2 at hq hv2 hs2 hn2 he2
  rw [← hs2] at r2
  clear hsd hR0 hi0
  refine WP.aload_n (pc := 16) dL_law_16 rfl ?_
  refine WP.callSH (pc := 17) (mc2 := 21662) (ms2 := 152421) (show mH ML_loaded ≠ [] from List.cons_ne_nil _ _) kL_124 (CL_loaded Γ hx3 hq) rfl ⟨Nat.le_of_ble_eq_true rfl, Nat.le_of_ble_eq_true rfl⟩ (Nat.le_of_ble_eq_true rfl) (Nat.le_of_ble_eq_true rfl) (Nat.le_of_ble_eq_true rfl) rfl dL_law_17 (fun v τ4 hh => ?_) (fun E τ4 hh => by
    obtain ⟨v, q, -⟩ := hh
    cases q)
  obtain ⟨v', q, q2, hx4, hk4⟩ := hh
  cases q
  subst q2
  refine WP.iconst (pc := 20) (v := 2) dL_law_20 (by decide) ?_
  refine WP.icmp_ne (pc := 21) (tgt := 38) dL_law_21 (by decide) (fun c => absurd rfl c) (fun c => ?_)
  refine WP.aload_n (pc := 24) dL_law_24 rfl ?_
  refine WP.cVs (pc := 25) (mc2 := 21662) (ms2 := 152421) (ci := 8) kL_128 (xOk Γ (CX8_errorCode Γ hx4) rfl) (by decide) rfl hx4.1.t0 rfl ⟨Nat.le_of_ble_eq_true rfl, Nat.le_of_ble_eq_true rfl⟩ (Nat.le_of_ble_eq_true rfl) (Nat.le_of_ble_eq_true rfl) (Nat.le_of_ble_eq_true rfl) rfl dL_law_25 (fun w τ5 ⟨hw, hx5, hk5⟩ => ?_)
  subst hw
  rw [he2]
  refine WP.if_ne (pc := 28) (tgt := 38) dL_law_28 (by decide) (fun c => absurd rfl c) (fun c => ?_)
  refine WP.aload_n (pc := 31) dL_law_31 rfl ?_
  refine WP.cVs (pc := 32) (mc2 := 21662) (ms2 := 152421) (ci := 8) kL_131 (xOk Γ (CX8_eventCount Γ hx5) rfl) (by decide) rfl hx5.1.t0 rfl ⟨Nat.le_of_ble_eq_true rfl, Nat.le_of_ble_eq_true rfl⟩ (Nat.le_of_ble_eq_true rfl) (Nat.le_of_ble_eq_true rfl) (Nat.le_of_ble_eq_true rfl) rfl dL_law_32 (fun w τ6 ⟨hw, hx6, hk6⟩ => ?_)
  subst hw
  rw [show m2.s.2.2.2.2 = [] from r2.2.2.1]
  refine WP.if_eq (pc := 35) (tgt := 40) dL_law_35 (by decide) (fun c => ?_) (fun c => absurd rfl c)
  refine WP.new (pc := 40) (mc := 21661) (ms := 152409) (ci := 9) uX9 (by decide) nL_134 nI9 nJ9 nD9 dL_law_40 ?_
  refine (?_ : WP Γ (21, 640, 21661, 152409) (ML_law nm) lwO 43 _ [.ref (aN τ6)] (sA τ6 10 12))
  refine WP.dup (pc := 43) dL_law_43 rfl ?_
  refine WP.aload_n (pc := 44) dL_law_44 rfl ?_
  have hw2 : wf 601 10818000 m2.s := hv2.1.1
  have hx7 := hx6.oth (kpX.sA (x := x) (σ := τ6) (kd := 10) (n := 12))
  have hPt : hPt 100 m2.s.2.1 m2.s.2.2.1 m2.s.2.2.2.1 [] := by
    have c1 := hw2.2.2.1
    have c2 := bnN_le m2.s.2.1
    have c3 : m2.s.2.1.length = 3 := r2.2.2.2.1
    have c4 : m2.s.2.2.2.1.length = 2 := r2.2.2.2.2.2.1
    refine ⟨c1, ?_⟩
    show 0 + _ + _ + _ + _ ≤ 100
    omega
  refine WP.cIs (pc := 45) (mc2 := 21624) (ms2 := 150144) kL_136 (CH_init Γ (h := aN τ6) (P := 100) hx7 rfl (by rw [aT_sA, if_pos rfl]) (funext fun j => by rw [aI_sA, if_pos rfl]) (hx6.new kpX.sA (Nat.le_refl _) (by rw [aN_sA]; omega)) r2 hw2.2.1.2 hPt) rfl ⟨Nat.le_of_ble_eq_true rfl, Nat.le_of_ble_eq_true rfl⟩ (Nat.le_of_ble_eq_true rfl) (Nat.le_of_ble_eq_true rfl) (Nat.le_of_ble_eq_true rfl) rfl dL_law_45 (fun w τ8 ⟨hw8, N, S, hj, hR⟩ => ?_)
  subst hw8
  refine WP.astore_n (pc := 48) dL_law_48 (Nat.le_of_ble_eq_true rfl) rfl ?_
  refine WP.iconst (pc := 49) (v := 3) dL_law_49 (by decide) ?_
  refine WP.istore_n (pc := 50) dL_law_50 (Nat.le_of_ble_eq_true rfl) rfl ?_
  exact LL_loop Γ hN 24 3 τ8 m2 N S 100 0 0 rfl (Nat.le_refl _) (by decide) hj hR (PI.IV r2) hn2 hv2
end T
