-- behind: 74.lc0 74.lc1 74.lc2 74.lc3 74.lc4 74.lc5 74.lc6 74.lc7
-- the law's loop, and its entry
theorem gtN {N i : Nat} (hN : N ≤ 4000) (hi : i ≤ 8000) : nI N - 6 < nI i ↔ N < i + 6 := by
  rw [show (6 : Int32) = nI 6 from rfl]
  by_cases h : 6 ≤ N
  · rw [pk_sub h]
    constructor
    · intro q
      have := (nI_ltI (by omega) (by omega)).mp q
      omega
    · intro q
      exact nI_lt (by omega) (by omega)
  · constructor
    · intro _
      omega
    · intro _
      have a : nI N - nI 6 < 0 := pk_sneg (by omega) (by omega)
      have b : (0 : Int32) ≤ nI i := nI_le (a := 0) (Nat.zero_le _) (by omega)
      exact Int32.lt_of_lt_of_le a b
section T
variable (Γ : cG) {nm : String × List (Nat × Nat × Nat × Nat)} {x : Nat}
set_option maxRecDepth 4000 in
theorem law_sw {σ : cAS} {i k T C Z : Nat} {mm : mX} (hi : i + 6 ≤ (gX Γ).2.1) (hN : (gX Γ).2.1 ≤ 4000) (hb : bd T C Z) (hs : SI σ x mm) (hv : inv T C Z mm) (hk : nxK Γ nm x i k T C Z) : ∀ n, n < 64 → WP Γ (12, 260, 40 * (k + 1), 512 * (k + 1)) (ML_law nm) lwO 40 (lwL Γ x i none none none none) [.int (nI n)] σ
  | 0, _ => WP.tableIn (pc := 40) (off := 272) (tgt := 312) dL_law_40 (by decide) (by decide) (by decide) (by decide) (law_c0 Γ hi hN hb hs hv hk)
  | 1, _ => WP.tableIn (pc := 40) (off := 376) (tgt := 416) dL_law_40 (by decide) (by decide) (by decide) (by decide) (law_c1 Γ hi hN hb hs hv hk)
  | 2, _ => WP.tableIn (pc := 40) (off := 432) (tgt := 472) dL_law_40 (by decide) (by decide) (by decide) (by decide) (law_c2 Γ hi hN hb hs hv hk)
  | 3, _ => WP.tableIn (pc := 40) (off := 476) (tgt := 516) dL_law_40 (by decide) (by decide) (by decide) (by decide) (law_c3 Γ hi hN hb hs hv hk)
  | 4, _ => WP.tableIn (pc := 40) (off := 489) (tgt := 529) dL_law_40 (by decide) (by decide) (by decide) (by decide) (law_c4 Γ hi hN hb hs hv hk)
  | 5, _ => WP.tableIn (pc := 40) (off := 502) (tgt := 542) dL_law_40 (by decide) (by decide) (by decide) (by decide) (law_c5 Γ hi hN hb hs hv hk)
  | 6, _ => WP.tableIn (pc := 40) (off := 515) (tgt := 555) dL_law_40 (by decide) (by decide) (by decide) (by decide) (law_c6 Γ hi hN hb hs hv hk)
  | 7, _ => WP.tableIn (pc := 40) (off := 528) (tgt := 568) dL_law_40 (by decide) (by decide) (by decide) (by decide) (law_c7 Γ hi hN hb hs hv hk)
  | 8, _ => WP.tableIn (pc := 40) (off := 541) (tgt := 581) dL_law_40 (by decide) (by decide) (by decide) (by decide) (law_c8 Γ hi hN hb hs hv hk)
  | 9, _ => WP.tableIn (pc := 40) (off := 554) (tgt := 594) dL_law_40 (by decide) (by decide) (by decide) (by decide) (law_c9 Γ hi hN hb hs hv hk)
  | 10, _ => WP.tableIn (pc := 40) (off := 567) (tgt := 607) dL_law_40 (by decide) (by decide) (by decide) (by decide) (law_c10 Γ hi hN hb hs hv hk)
  | 11, _ => WP.tableIn (pc := 40) (off := 580) (tgt := 620) dL_law_40 (by decide) (by decide) (by decide) (by decide) (law_c11 Γ hi hN hb hs hv hk)
  | 12, _ => WP.tableIn (pc := 40) (off := 648) (tgt := 688) dL_law_40 (by decide) (by decide) (by decide) (by decide) (law_c12 Γ hi hN hb hs hv hk)
  | 13, _ => WP.tableIn (pc := 40) (off := 704) (tgt := 744) dL_law_40 (by decide) (by decide) (by decide) (by decide) (law_c13 Γ hi hN hb hs hv hk)
  | 14, _ => WP.tableIn (pc := 40) (off := 760) (tgt := 800) dL_law_40 (by decide) (by decide) (by decide) (by decide) (law_c14 Γ hi hN hb hs hv hk)
  | 15, _ => WP.tableIn (pc := 40) (off := 816) (tgt := 856) dL_law_40 (by decide) (by decide) (by decide) (by decide) (law_c15 Γ hi hN hb hs hv hk)
  | 16, _ => WP.tableIn (pc := 40) (off := 872) (tgt := 912) dL_law_40 (by decide) (by decide) (by decide) (by decide) (law_c16 Γ hi hN hb hs hv hk)
  | 17, _ => WP.tableIn (pc := 40) (off := 940) (tgt := 980) dL_law_40 (by decide) (by decide) (by decide) (by decide) (law_c17 Γ hi hN hb hs hv hk)
  | 18, _ => WP.tableIn (pc := 40) (off := 1008) (tgt := 1048) dL_law_40 (by decide) (by decide) (by decide) (by decide) (law_c18 Γ hi hN hb hs hv hk)
  | 19, _ => WP.tableIn (pc := 40) (off := 1064) (tgt := 1104) dL_law_40 (by decide) (by decide) (by decide) (by decide) (law_c19 Γ hi hN hb hs hv hk)
  | 20, _ => WP.tableIn (pc := 40) (off := 1120) (tgt := 1160) dL_law_40 (by decide) (by decide) (by decide) (by decide) (law_c20 Γ hi hN hb hs hv hk)
  | 21, _ => WP.tableIn (pc := 40) (off := 1176) (tgt := 1216) dL_law_40 (by decide) (by decide) (by decide) (by decide) (law_c21 Γ hi hN hb hs hv hk)
  | 22, _ => WP.tableIn (pc := 40) (off := 1232) (tgt := 1272) dL_law_40 (by decide) (by decide) (by decide) (by decide) (law_c22 Γ hi hN hb hs hv hk)
  | 23, _ => WP.tableIn (pc := 40) (off := 1288) (tgt := 1328) dL_law_40 (by decide) (by decide) (by decide) (by decide) (law_c23 Γ hi hN hb hs hv hk)
  | 24, _ => WP.tableIn (pc := 40) (off := 1344) (tgt := 1384) dL_law_40 (by decide) (by decide) (by decide) (by decide) (law_c24 Γ hi hN hb hs hv hk)
  | 25, _ => WP.tableIn (pc := 40) (off := 1369) (tgt := 1409) dL_law_40 (by decide) (by decide) (by decide) (by decide) (law_c25 Γ hi hN hb hs hv hk)
  | 26, _ => WP.tableIn (pc := 40) (off := 1425) (tgt := 1465) dL_law_40 (by decide) (by decide) (by decide) (by decide) (law_c26 Γ hi hN hb hs hv hk)
  | 27, _ => WP.tableIn (pc := 40) (off := 1481) (tgt := 1521) dL_law_40 (by decide) (by decide) (by decide) (by decide) (law_c27 Γ hi hN hb hs hv hk)
  | 28, _ => WP.tableIn (pc := 40) (off := 1537) (tgt := 1577) dL_law_40 (by decide) (by decide) (by decide) (by decide) (law_c28 Γ hi hN hb hs hv hk)
  | 29, _ => WP.tableIn (pc := 40) (off := 1593) (tgt := 1633) dL_law_40 (by decide) (by decide) (by decide) (by decide) (law_c29 Γ hi hN hb hs hv hk)
  | 30, _ => WP.tableIn (pc := 40) (off := 1649) (tgt := 1689) dL_law_40 (by decide) (by decide) (by decide) (by decide) (law_c30 Γ hi hN hb hs hv hk)
  | 31, _ => WP.tableIn (pc := 40) (off := 1705) (tgt := 1745) dL_law_40 (by decide) (by decide) (by decide) (by decide) (law_c31 Γ hi hN hb hs hv hk)
  | 32, _ => WP.tableIn (pc := 40) (off := 1773) (tgt := 1813) dL_law_40 (by decide) (by decide) (by decide) (by decide) (law_c32 Γ hi hN hb hs hv hk)
  | 33, _ => WP.tableIn (pc := 40) (off := 1829) (tgt := 1869) dL_law_40 (by decide) (by decide) (by decide) (by decide) (law_c33 Γ hi hN hb hs hv hk)
  | 34, _ => WP.tableIn (pc := 40) (off := 1885) (tgt := 1925) dL_law_40 (by decide) (by decide) (by decide) (by decide) (law_c34 Γ hi hN hb hs hv hk)
  | 35, _ => WP.tableIn (pc := 40) (off := 1941) (tgt := 1981) dL_law_40 (by decide) (by decide) (by decide) (by decide) (law_c35 Γ hi hN hb hs hv hk)
  | 36, _ => WP.tableIn (pc := 40) (off := 1997) (tgt := 2037) dL_law_40 (by decide) (by decide) (by decide) (by decide) (law_c36 Γ hi hN hb hs hv hk)
  | 37, _ => WP.tableIn (pc := 40) (off := 2065) (tgt := 2105) dL_law_40 (by decide) (by decide) (by decide) (by decide) (law_c37 Γ hi hN hb hs hv hk)
  | 38, _ => WP.tableIn (pc := 40) (off := 2133) (tgt := 2173) dL_law_40 (by decide) (by decide) (by decide) (by decide) (law_c38 Γ hi hN hb hs hv hk)
  | 39, _ => WP.tableIn (pc := 40) (off := 2189) (tgt := 2229) dL_law_40 (by decide) (by decide) (by decide) (by decide) (law_c39 Γ hi hN hb hs hv hk)
  | 40, _ => WP.tableIn (pc := 40) (off := 2202) (tgt := 2242) dL_law_40 (by decide) (by decide) (by decide) (by decide) (law_c40 Γ hi hN hb hs hv hk)
  | 41, _ => WP.tableIn (pc := 40) (off := 2258) (tgt := 2298) dL_law_40 (by decide) (by decide) (by decide) (by decide) (law_c41 Γ hi hN hb hs hv hk)
  | 42, _ => WP.tableIn (pc := 40) (off := 2314) (tgt := 2354) dL_law_40 (by decide) (by decide) (by decide) (by decide) (law_c42 Γ hi hN hb hs hv hk)
  | 43, _ => WP.tableIn (pc := 40) (off := 2370) (tgt := 2410) dL_law_40 (by decide) (by decide) (by decide) (by decide) (law_c43 Γ hi hN hb hs hv hk)
  | 44, _ => WP.tableIn (pc := 40) (off := 2383) (tgt := 2423) dL_law_40 (by decide) (by decide) (by decide) (by decide) (law_c44 Γ hi hN hb hs hv hk)
  | 45, _ => WP.tableIn (pc := 40) (off := 2396) (tgt := 2436) dL_law_40 (by decide) (by decide) (by decide) (by decide) (law_c45 Γ hi hN hb hs hv hk)
  | 46, _ => WP.tableIn (pc := 40) (off := 2452) (tgt := 2492) dL_law_40 (by decide) (by decide) (by decide) (by decide) (law_c46 Γ hi hN hb hs hv hk)
  | 47, _ => WP.tableIn (pc := 40) (off := 2508) (tgt := 2548) dL_law_40 (by decide) (by decide) (by decide) (by decide) (law_c47 Γ hi hN hb hs hv hk)
  | 48, _ => WP.tableIn (pc := 40) (off := 2576) (tgt := 2616) dL_law_40 (by decide) (by decide) (by decide) (by decide) (law_c48 Γ hi hN hb hs hv hk)
  | 49, _ => WP.tableIn (pc := 40) (off := 2632) (tgt := 2672) dL_law_40 (by decide) (by decide) (by decide) (by decide) (law_c49 Γ hi hN hb hs hv hk)
  | 50, _ => WP.tableIn (pc := 40) (off := 2673) (tgt := 2713) dL_law_40 (by decide) (by decide) (by decide) (by decide) (law_c50 Γ hi hN hb hs hv hk)
  | 51, _ => WP.tableIn (pc := 40) (off := 2716) (tgt := 2756) dL_law_40 (by decide) (by decide) (by decide) (by decide) (law_c51 Γ hi hN hb hs hv hk)
  | 52, _ => WP.tableIn (pc := 40) (off := 2784) (tgt := 2824) dL_law_40 (by decide) (by decide) (by decide) (by decide) (law_c52 Γ hi hN hb hs hv hk)
  | 53, _ => WP.tableIn (pc := 40) (off := 2840) (tgt := 2880) dL_law_40 (by decide) (by decide) (by decide) (by decide) (law_c53 Γ hi hN hb hs hv hk)
  | 54, _ => WP.tableIn (pc := 40) (off := 2944) (tgt := 2984) dL_law_40 (by decide) (by decide) (by decide) (by decide) (law_c54 Γ hi hN hb hs hv hk)
  | 55, _ => WP.tableIn (pc := 40) (off := 3000) (tgt := 3040) dL_law_40 (by decide) (by decide) (by decide) (by decide) (law_c55 Γ hi hN hb hs hv hk)
  | 56, _ => WP.tableIn (pc := 40) (off := 3068) (tgt := 3108) dL_law_40 (by decide) (by decide) (by decide) (by decide) (law_c56 Γ hi hN hb hs hv hk)
  | 57, _ => WP.tableIn (pc := 40) (off := 3124) (tgt := 3164) dL_law_40 (by decide) (by decide) (by decide) (by decide) (law_c57 Γ hi hN hb hs hv hk)
  | 58, _ => WP.tableIn (pc := 40) (off := 3180) (tgt := 3220) dL_law_40 (by decide) (by decide) (by decide) (by decide) (law_c58 Γ hi hN hb hs hv hk)
  | 59, _ => WP.tableIn (pc := 40) (off := 3193) (tgt := 3233) dL_law_40 (by decide) (by decide) (by decide) (by decide) (law_c59 Γ hi hN hb hs hv hk)
  | 60, _ => WP.tableIn (pc := 40) (off := 3249) (tgt := 3289) dL_law_40 (by decide) (by decide) (by decide) (by decide) (law_c60 Γ hi hN hb hs hv hk)
  | 61, _ => WP.tableIn (pc := 40) (off := 3305) (tgt := 3345) dL_law_40 (by decide) (by decide) (by decide) (by decide) (law_c61 Γ hi hN hb hs hv hk)
  | 62, _ => WP.tableIn (pc := 40) (off := 3361) (tgt := 3401) dL_law_40 (by decide) (by decide) (by decide) (by decide) (law_c62 Γ hi hN hb hs hv hk)
  | 63, _ => WP.tableIn (pc := 40) (off := 3405) (tgt := 3445) dL_law_40 (by decide) (by decide) (by decide) (by decide) (law_c63 Γ hi hN hb hs hv hk)
  | n + 64, h => absurd h (by omega)
theorem law_23 (hN : (gX Γ).2.1 ≤ 3072) : ∀ k i T C Z (σ : cAS) (mm : mX) (a b c d : Option Value), i ≤ 4000 → (gX Γ).2.1 < i + 6 * k + 6 → (600 ≤ T ∧ T + k ≤ 2000 ∧ 10800000 ≤ C ∧ C + 18000 * k ≤ 21000000 ∧ 1728000 ≤ Z ∧ Z + 2880 * k ≤ 4000000) → SI σ x mm → inv T C Z mm → WP Γ (12, 260, 40 * k, 512 * k) (ML_law nm) lwO 23 (lwL Γ x i a b c d) [] σ := by
  intro k
  induction k with
  | zero =>
    intro i T C Z σ mm a b c d hi hk hb hs hv
    refine WP.iload (pc := 23) dL_law_23 rfl ?_
    refine WP.aload_n (pc := 25) dL_law_25 rfl ?_
    refine WP.xN (pc := 26) dL_law_26 ?_
    refine WP.bipush (pc := 27) (v := 6) dL_law_27 (by decide) ?_
    refine WP.isub (pc := 29) dL_law_29 ?_
    refine WP.icmp_gt (pc := 30) (tgt := 3464) dL_law_30 (by decide) (fun _ => ?_) (fun h => absurd ((gtN (by omega) (by omega)).mpr (by omega)) h)
    refine WP.iconst (pc := 3464) (v := 1) dL_law_3464 (by decide) ?_
    exact WP.zret (pc := 3465) (ty := .boolean) rfl rfl dL_law_3465 rfl
  | succ k ih =>
    intro i T C Z σ mm a b c d hi hk hb hs hv
    refine WP.drop 5 (WP.drop 6 (WP.drop 7 (WP.drop 8 ?_)))
    refine (?_ : WP Γ (12, 260, 40 * (k + 1), 512 * (k + 1)) (ML_law nm) lwO 23 (lwL Γ x i none none none none) [] σ)
    refine WP.iload (pc := 23) dL_law_23 rfl ?_
    refine WP.aload_n (pc := 25) dL_law_25 rfl ?_
    refine WP.xN (pc := 26) dL_law_26 ?_
    refine WP.bipush (pc := 27) (v := 6) dL_law_27 (by decide) ?_
    refine WP.isub (pc := 29) dL_law_29 ?_
    refine WP.icmp_gt (pc := 30) (tgt := 3464) dL_law_30 (by decide) (fun _ => ?_) (fun h => ?_)
    · refine WP.iconst (pc := 3464) (v := 1) dL_law_3464 (by decide) ?_
      exact WP.zret (pc := 3465) (ty := .boolean) rfl rfl dL_law_3465 rfl
    · have hi6 : i + 6 ≤ (gX Γ).2.1 := Nat.not_lt.mp fun q => h ((gtN (by omega) (by omega)).mpr q)
      refine WP.aload_n (pc := 33) dL_law_33 rfl ?_
      refine WP.iload (pc := 34) dL_law_34 rfl ?_
      refine WP.xA (pc := 36) (i := i) (by omega) (by omega) dL_law_36 ?_
      refine WP.bipush (pc := 37) (v := 63) dL_law_37 (by decide) ?_
      refine WP.iand (pc := 39) dL_law_39 ?_
      obtain ⟨n, hn, e⟩ := and63 ((gX Γ).2.2 i)
      rw [e]
      refine law_sw Γ hi6 (by omega) (by unfold bd; omega) hs hv ?_ n hn
      intro τ mm' a b c d hs' hv'
      refine WP.drop 5 (WP.drop 6 (WP.drop 7 (WP.drop 8 ?_)))
      refine (?_ : WP Γ (12, 260, 40 * k, 512 * k) (ML_law nm) lwO 3458 (lwL Γ x i none none none none) [] τ)
      refine WP.iinc (pc := 3458) (v := nI (i + 6)) dL_law_3458 rfl (by rw [← nI_add]; rfl) (Nat.le_of_ble_eq_true rfl) rfl ?_
      refine WP.goto (pc := 3461) (tgt := 23) dL_law_3461 (by decide) ?_
      exact ih (i + 6) (T + 1) (C + 18000) (Z + 2880) τ mm' none none none none (by omega) (by omega) (by omega) hs' hv'
theorem law_0 (hN : (gX Γ).2.1 ≤ 3072) {σ : cAS} : WP Γ (12, 260, 20555, 270092) (ML_law nm) lwO 0 [some (.ref (gX Γ).1), none, none, none, none, none, none, none, none] [] σ := by
  refine WP.new (pc := 0) (mc := 20554) (ms := 270079) (ci := 8) uX8 (by decide) nL_8 nI8 nJ8 nD8 dL_law_0 ?_
  refine (?_ : WP Γ (12, 260, 20554, 270079) (ML_law nm) lwO 3 _ [.ref (aN σ)] (sA σ 9 13))
  refine WP.dup (pc := 3) dL_law_3 rfl ?_
  have h0 : mkX (sA σ 9 13) (sA σ 9 13) (aN σ) 1 := by
    refine ⟨rfl, fun d _ => ⟨rfl, rfl, rfl, rfl⟩, fun d c1 c2 => ?_, fun k hk c => ?_, shXR_of (fun q hq c1 c2 => ?_), fun c => absurd c (by decide), fun c => absurd c (by decide), fun k i c1 c2 => by omega⟩
    · have c2 : d < aN σ + 1 := c2
      obtain rfl : d = aN σ := by omega
      exact funext fun j => if_pos rfl
    · obtain rfl : k = 0 := by omega
      exact saTs rfl
    · rcases hq with rfl | rfl | rfl | rfl | rfl | rfl | rfl | rfl | rfl | rfl | rfl | rfl | rfl | rfl | rfl <;> exact absurd c1 (by decide)
  refine WP.callI (pc := 4) (mc2 := 20493) (ms2 := 268224) kL_165 (CX8_init Γ h0 sA_new) rfl ⟨Nat.le_of_ble_eq_true rfl, Nat.le_of_ble_eq_true rfl⟩ (Nat.le_of_ble_eq_true rfl) (Nat.le_of_ble_eq_true rfl) (Nat.le_of_ble_eq_true rfl) rfl dL_law_4 (fun v τ h => ?_) (fun E τ h => nomatch h.1)
  obtain ⟨h1, b1, n1, x1, r1, s1, f1⟩ := h
  cases h1
  generalize hxx : aN σ = x at *
  refine WP.astore_n (pc := 7) dL_law_7 (Nat.le_of_ble_eq_true rfl) rfl ?_
  refine WP.new (pc := 8) (mc := 20492) (ms := 268197) (ci := 9) uX9 (by decide) nL_166 nI9 nJ9 nD9 dL_law_8 ?_
  refine (?_ : WP Γ (12, 260, 20492, 268197) (ML_law nm) lwO 11 [some (.ref (gX Γ).1), some (.ref x), none, none, none, none, none, none, none] [.ref (aN τ)] (sA τ 10 27))
  refine WP.dup (pc := 11) dL_law_11 rfl ?_
  have h2 : mkM (sA τ 10 27) (sA τ 10 27) (aN τ) 1 (fun _ => 0) := by
    refine ⟨rfl, fun d _ => ⟨rfl, rfl, rfl, rfl⟩, fun d c1 c2 => ?_, funext fun j => if_pos rfl, fun k c1 c2 => ?_, shMR_of (fun q hq c => ?_)⟩
    · have c2 : d < aN τ + 1 := c2
      omega
    · obtain rfl : k = 0 := by omega
      exact saTs rfl
    · rcases hq with rfl | rfl | rfl | rfl | rfl | rfl | rfl | rfl | rfl | rfl | rfl <;> exact absurd c (by decide)
  refine WP.callI (pc := 12) (mc2 := 20481) (ms2 := 262145) kL_168 (CX9_init Γ h2) rfl ⟨Nat.le_of_ble_eq_true rfl, Nat.le_of_ble_eq_true rfl⟩ (Nat.le_of_ble_eq_true rfl) (Nat.le_of_ble_eq_true rfl) (Nat.le_of_ble_eq_true rfl) rfl dL_law_12 (fun v υ h => ?_) (fun E υ h => nomatch h.1)
  obtain ⟨h3, b2, n2, m2, d2⟩ := h
  cases h3
  rw [n1] at b2 n2 m2 d2 ⊢
  have K : ∀ d, d < x + 62 → aT υ d = aT τ d ∧ aI υ d = aI τ d ∧ aR υ d = aR τ d := fun d hd => by
    obtain ⟨c1, c2, c3, -⟩ := b2 d hd
    exact ⟨c1.trans (saTo (by omega)), c2.trans (saIo (by omega)), c3.trans (funext fun j => saRo (by omega))⟩
  refine WP.astore_n (pc := 15) dL_law_15 (Nat.le_of_ble_eq_true rfl) rfl ?_
  refine WP.iconst (pc := 16) (v := 1) dL_law_16 (by decide) ?_
  refine WP.newarr (pc := 17) (mc := 20480) (ms := 262144) (kd := 14) (n := 1) (by decide) (by decide) rfl nA14 (by decide) (by decide) (by decide) dL_law_17 ?_
  rw [n2]
  refine WP.astore_n (pc := 19) dL_law_19 (Nat.le_of_ble_eq_true rfl) rfl ?_
  refine WP.iconst (pc := 20) (v := 0) dL_law_20 (by decide) ?_
  refine WP.istore (pc := 21) dL_law_21 (Nat.le_of_ble_eq_true rfl) rfl ?_
  have hN2 : aN υ = x + 74 := n2
  have K2 : ∀ d, d < x + 74 → aT (sA υ 14 1) d = aT υ d ∧ aI (sA υ 14 1) d = aI υ d ∧ aR (sA υ 14 1) d = aR υ d := fun d hd =>
    ⟨saTo (by omega), saIo (by omega), funext fun j => saRo (by omega)⟩
  have K3 : ∀ d, d < x + 62 → aT (sA υ 14 1) d = aT τ d ∧ aI (sA υ 14 1) d = aI τ d ∧ aR (sA υ 14 1) d = aR τ d := fun d hd => by
    obtain ⟨a1, a2, a3⟩ := K2 d (by omega)
    obtain ⟨c1, c2, c3⟩ := K d hd
    exact ⟨a1.trans c1, a2.trans c2, a3.trans c3⟩
  have hX : xAt (sA υ 14 1) x m00 := by
    have hp : ∀ k, k < 10 → plc (sA υ 14 1) x k = none := fun k hk => by
      unfold plc
      split
      · rw [(K3 (x + 61) (by omega)).2.2]
        exact r1 61 k (by decide) (by decide)
      · rw [(K3 (x + 60) (by omega)).2.2]
        exact r1 60 (k - 8) (by decide) (by decide)
    have ho : ∀ k, occ m00 k = none := fun k => by
      unfold occ m00 mkm
      split <;> rfl
    refine ⟨x1.ofs (fun a c1 c2 => (K3 a (by omega)).1) (fun a c1 c2 => (K3 a (by omega)).2.2), by show x + 75 ≤ aN υ + 1; omega, s1.ext (fun a c1 c2 => (K3 a (by omega)).2.1), ?_, ⟨fun k hk q hq => ?_, fun k k' hk hk' hn q q' hq hq' => ?_⟩, fun k hk s hs => ?_, fun k h1 h2 _ => hp k h2⟩
    · unfold flAt at f1 ⊢
      rw [(K3 (x + 27) (by omega)).2.1, (K3 (x + 56) (by omega)).2.1, (K3 x (by omega)).2.1, (K3 (x + 59) (by omega)).2.1]
      exact f1
    · rw [hp k hk] at hq
      cases hq
    · rw [hp k hk] at hq
      cases hq
    · rw [ho k] at hs
      cases hs
  have hS : SI (sA υ 14 1) x m00 := by
    refine ⟨hX, ⟨fun k hk => ?_, fun q hq => ?_⟩, d2.fr (fun b hb => (K2 b (by omega)).2.1) (fun j _ => congrFun (K2 (x + 62) (by omega)).2.1 j), saTs hN2.symm⟩
    · have : k < 12 := by
        have : ∀ k ∈ [0, 1, 2, 3, 4, 5, 6, 7, 8, 9, 10, 11], k < 12 := by decide
        exact this k hk
      rw [(K2 _ (by omega)).1]
      exact m2.1 k hk
    · have : q.1 < 12 := by
        have : ∀ q ∈ shMR, q.1 < 12 := by decide
        exact this q hq
      rw [(K2 _ (by omega)).2.2]
      exact m2.2 q hq
  exact law_23 Γ hN 512 0 600 10800000 1728000 _ m00 none none none none (by decide) (by omega) (by omega) hS m00_inv
end T
