-- behind: 73.law0 71.dl1 71.dl2 71.dl3 71.dl4 71.dl5 71.dl6 71.dl7 71.dl8
-- what one call of the script does, on both sides
section T
variable (Γ : cG) {nm : String × List (Nat × Nat × Nat × Nat)} {σ : cAS} {x i k T C Z : Nat} {mm : mX}
set_option maxRecDepth 4000 in
theorem law_c40 (hi : i + 6 ≤ (gX Γ).2.1) (hN : (gX Γ).2.1 ≤ 4000) (hb : bd T C Z) (hs : SI σ x mm) (hv : inv T C Z mm) (hk : nxK Γ nm x i k T C Z) : WP Γ (12, 260, 40 * (k + 1), 512 * (k + 1)) (ML_law nm) lwO 2242 (lwL Γ x i none none none none) [] σ := by
  obtain ⟨hx, hm, hd, ho⟩ := id hs
  have hI : inv (T + 1) (C + 18000) (Z + 2880) (q_eventType mm ((gX Γ).2.2 (i + 1))).2.2 := by
    unfold q_eventType
    repeat' split
    all_goals exact hv.up
  have hle := qeventType_le mm ((gX Γ).2.2 (i + 1))
  refine WP.aload_n (pc := 2242) dL_law_2242 rfl ?_
  refine WP.aload_n (pc := 2243) dL_law_2243 rfl ?_
  refine WP.iload (pc := 2244) dL_law_2244 rfl ?_
  refine WP.iconst (pc := 2246) (v := 1) dL_law_2246 (by decide) ?_
  refine WP.iaN (pc := 2247) (a := i) (b := 1) dL_law_2247 ?_
  refine WP.xA (pc := 2248) (i := i + 1) (by omega) (by omega) dL_law_2248 ?_
  refine WP.aload_n (pc := 2249) dL_law_2249 rfl ?_
  refine WP.callSH (pc := 2250) (mc2 := 40 * k) (ms2 := 512 * k) (M' := ML_eventType) (List.cons_ne_nil _ _) kL_308 (CL_eventType Γ hx ((gX Γ).2.2 (i + 1)) ho) rfl ⟨(Nat.le_of_ble_eq_true rfl), (Nat.le_of_ble_eq_true rfl)⟩ (by omega) (by omega) (Nat.le_of_ble_eq_true rfl) rfl dL_law_2250 (fun v τ hw => ?_) (fun E τ hw => nomatch hw.1)
  obtain ⟨h1, h2, h3, h4⟩ := hw
  cases h1
  obtain ⟨hx2, hm2, hd2, ho2⟩ := hs.x h2 h3
  refine WP.istore (pc := 2253) dL_law_2253 (Nat.le_of_ble_eq_true rfl) rfl ?_
  refine WP.self ?_
  refine WP.aload_n (pc := 2255) dL_law_2255 rfl ?_
  refine WP.aload_n (pc := 2256) dL_law_2256 rfl ?_
  refine WP.iload (pc := 2257) dL_law_2257 rfl ?_
  refine WP.iconst (pc := 2259) (v := 1) dL_law_2259 (by decide) ?_
  refine WP.iaN (pc := 2260) (a := i) (b := 1) dL_law_2260 ?_
  refine WP.xA (pc := 2261) (i := i + 1) (by omega) (by omega) dL_law_2261 ?_
  refine WP.cVp (pc := 2262) (mc2 := 40 * k) (ms2 := 512 * k) (ci := 9) kL_310 (CX9_eventType Γ hm2 hd2 ((gX Γ).2.2 (i + 1))) (by decide) rfl hm2.t0 rfl ⟨(Nat.le_of_ble_eq_true rfl), (Nat.le_of_ble_eq_true rfl)⟩ (by omega) (by omega) (Nat.le_of_ble_eq_true rfl) rfl dL_law_2262 (fun v I1 ⟨g1, g2, g3, g4⟩ => ?_)
  have h5 := SI.m hx2 hm2 ho2 g3 g4
  generalize q_eventType mm ((gX Γ).2.2 (i + 1)) = q at *
  refine WP.istore (pc := 2265) dL_law_2265 (Nat.le_of_ble_eq_true rfl) rfl ?_
  refine WP.aload_n (pc := 2267) dL_law_2267 rfl ?_
  refine WP.cV1 (pc := 2268) (mc2 := 40 * k) (ms2 := 512 * k) (ci := 9) kL_175 (CX9_thrown Γ hm2) (by decide) rfl hm2.t0 rfl ⟨(Nat.le_of_ble_eq_true rfl), (Nat.le_of_ble_eq_true rfl)⟩ (by omega) (by omega) (Nat.le_of_ble_eq_true rfl) rfl dL_law_2268 ?_
  rw [g1]
  refine WP.iload (pc := 2271) dL_law_2271 rfl ?_
  refine WP.icmp_eq (pc := 2273) (tgt := 2278) dL_law_2273 (by decide) (fun _ => ?_) (fun c => absurd rfl c)
  refine WP.iload (pc := 2278) dL_law_2278 rfl ?_
  have fin : ∀ L5 L6, WP Γ (12, 260, 40 * k, 512 * k) (ML_law nm) lwO 2295 (lwL Γ x i L5 L6 none none) [] (wI τ I1) := fun L5 L6 => WP.goto (pc := 2295) (tgt := 3458) dL_law_2295 (by decide) (hk _ _ L5 L6 none none h5 hI)
  refine WP.if_ne (pc := 2280) (tgt := 2295) dL_law_2280 (by decide) (fun _ => fin _ _) (fun c => ?_)
  have c0 : q.1 = 0 := (nI_eq (b := 0) (by omega) (by omega)).mp c
  refine WP.aload_n (pc := 2283) dL_law_2283 rfl ?_
  refine WP.iconst (pc := 2284) (v := 0) dL_law_2284 (by decide) ?_
  refine WP.laload (pc := 2285) (a := x + 74) (n := 1) ho2 vp01 dL_law_2285 ?_
  rw [show aL (wI τ I1) (x + 74) (Int32.toNatClampNeg 0) = q.2.1.toInt64 from h4 c0]
  refine WP.iload (pc := 2286) dL_law_2286 rfl ?_
  refine WP.i2l (pc := 2288) dL_law_2288 ?_
  rw [g2 c0]
  refine WP.lcmp (pc := 2289) dL_law_2289 ?_
  exact WP.if_eq (pc := 2290) (tgt := 2295) dL_law_2290 (by decide) (fun _ => fin _ _) (fun c => absurd (lg_self _) c)
set_option maxRecDepth 4000 in
theorem law_c41 (hi : i + 6 ≤ (gX Γ).2.1) (hN : (gX Γ).2.1 ≤ 4000) (hb : bd T C Z) (hs : SI σ x mm) (hv : inv T C Z mm) (hk : nxK Γ nm x i k T C Z) : WP Γ (12, 260, 40 * (k + 1), 512 * (k + 1)) (ML_law nm) lwO 2298 (lwL Γ x i none none none none) [] σ := by
  obtain ⟨hx, hm, hd, ho⟩ := id hs
  have hI : inv (T + 1) (C + 18000) (Z + 2880) (q_eventFirst mm ((gX Γ).2.2 (i + 1))).2.2 := by
    unfold q_eventFirst
    repeat' split
    all_goals exact hv.up
  have hle := qeventFirst_le mm ((gX Γ).2.2 (i + 1))
  refine WP.aload_n (pc := 2298) dL_law_2298 rfl ?_
  refine WP.aload_n (pc := 2299) dL_law_2299 rfl ?_
  refine WP.iload (pc := 2300) dL_law_2300 rfl ?_
  refine WP.iconst (pc := 2302) (v := 1) dL_law_2302 (by decide) ?_
  refine WP.iaN (pc := 2303) (a := i) (b := 1) dL_law_2303 ?_
  refine WP.xA (pc := 2304) (i := i + 1) (by omega) (by omega) dL_law_2304 ?_
  refine WP.aload_n (pc := 2305) dL_law_2305 rfl ?_
  refine WP.callSH (pc := 2306) (mc2 := 40 * k) (ms2 := 512 * k) (M' := ML_eventFirst) (List.cons_ne_nil _ _) kL_311 (CL_eventFirst Γ hx ((gX Γ).2.2 (i + 1)) ho) rfl ⟨(Nat.le_of_ble_eq_true rfl), (Nat.le_of_ble_eq_true rfl)⟩ (by omega) (by omega) (Nat.le_of_ble_eq_true rfl) rfl dL_law_2306 (fun v τ hw => ?_) (fun E τ hw => nomatch hw.1)
  obtain ⟨h1, h2, h3, h4⟩ := hw
  cases h1
  obtain ⟨hx2, hm2, hd2, ho2⟩ := hs.x h2 h3
  refine WP.istore (pc := 2309) dL_law_2309 (Nat.le_of_ble_eq_true rfl) rfl ?_
  refine WP.self ?_
  refine WP.aload_n (pc := 2311) dL_law_2311 rfl ?_
  refine WP.aload_n (pc := 2312) dL_law_2312 rfl ?_
  refine WP.iload (pc := 2313) dL_law_2313 rfl ?_
  refine WP.iconst (pc := 2315) (v := 1) dL_law_2315 (by decide) ?_
  refine WP.iaN (pc := 2316) (a := i) (b := 1) dL_law_2316 ?_
  refine WP.xA (pc := 2317) (i := i + 1) (by omega) (by omega) dL_law_2317 ?_
  refine WP.cVp (pc := 2318) (mc2 := 40 * k) (ms2 := 512 * k) (ci := 9) kL_313 (CX9_eventFirst Γ hm2 hd2 ((gX Γ).2.2 (i + 1))) (by decide) rfl hm2.t0 rfl ⟨(Nat.le_of_ble_eq_true rfl), (Nat.le_of_ble_eq_true rfl)⟩ (by omega) (by omega) (Nat.le_of_ble_eq_true rfl) rfl dL_law_2318 (fun v I1 ⟨g1, g2, g3, g4⟩ => ?_)
  have h5 := SI.m hx2 hm2 ho2 g3 g4
  generalize q_eventFirst mm ((gX Γ).2.2 (i + 1)) = q at *
  refine WP.istore (pc := 2321) dL_law_2321 (Nat.le_of_ble_eq_true rfl) rfl ?_
  refine WP.aload_n (pc := 2323) dL_law_2323 rfl ?_
  refine WP.cV1 (pc := 2324) (mc2 := 40 * k) (ms2 := 512 * k) (ci := 9) kL_175 (CX9_thrown Γ hm2) (by decide) rfl hm2.t0 rfl ⟨(Nat.le_of_ble_eq_true rfl), (Nat.le_of_ble_eq_true rfl)⟩ (by omega) (by omega) (Nat.le_of_ble_eq_true rfl) rfl dL_law_2324 ?_
  rw [g1]
  refine WP.iload (pc := 2327) dL_law_2327 rfl ?_
  refine WP.icmp_eq (pc := 2329) (tgt := 2334) dL_law_2329 (by decide) (fun _ => ?_) (fun c => absurd rfl c)
  refine WP.iload (pc := 2334) dL_law_2334 rfl ?_
  have fin : ∀ L5 L6, WP Γ (12, 260, 40 * k, 512 * k) (ML_law nm) lwO 2351 (lwL Γ x i L5 L6 none none) [] (wI τ I1) := fun L5 L6 => WP.goto (pc := 2351) (tgt := 3458) dL_law_2351 (by decide) (hk _ _ L5 L6 none none h5 hI)
  refine WP.if_ne (pc := 2336) (tgt := 2351) dL_law_2336 (by decide) (fun _ => fin _ _) (fun c => ?_)
  have c0 : q.1 = 0 := (nI_eq (b := 0) (by omega) (by omega)).mp c
  refine WP.aload_n (pc := 2339) dL_law_2339 rfl ?_
  refine WP.iconst (pc := 2340) (v := 0) dL_law_2340 (by decide) ?_
  refine WP.laload (pc := 2341) (a := x + 74) (n := 1) ho2 vp01 dL_law_2341 ?_
  rw [show aL (wI τ I1) (x + 74) (Int32.toNatClampNeg 0) = q.2.1.toInt64 from h4 c0]
  refine WP.iload (pc := 2342) dL_law_2342 rfl ?_
  refine WP.i2l (pc := 2344) dL_law_2344 ?_
  rw [g2 c0]
  refine WP.lcmp (pc := 2345) dL_law_2345 ?_
  exact WP.if_eq (pc := 2346) (tgt := 2351) dL_law_2346 (by decide) (fun _ => fin _ _) (fun c => absurd (lg_self _) c)
set_option maxRecDepth 4000 in
theorem law_c42 (hi : i + 6 ≤ (gX Γ).2.1) (hN : (gX Γ).2.1 ≤ 4000) (hb : bd T C Z) (hs : SI σ x mm) (hv : inv T C Z mm) (hk : nxK Γ nm x i k T C Z) : WP Γ (12, 260, 40 * (k + 1), 512 * (k + 1)) (ML_law nm) lwO 2354 (lwL Γ x i none none none none) [] σ := by
  obtain ⟨hx, hm, hd, ho⟩ := id hs
  have hI : inv (T + 1) (C + 18000) (Z + 2880) (q_eventSecond mm ((gX Γ).2.2 (i + 1))).2.2 := by
    unfold q_eventSecond
    repeat' split
    all_goals exact hv.up
  have hle := qeventSecond_le mm ((gX Γ).2.2 (i + 1))
  refine WP.aload_n (pc := 2354) dL_law_2354 rfl ?_
  refine WP.aload_n (pc := 2355) dL_law_2355 rfl ?_
  refine WP.iload (pc := 2356) dL_law_2356 rfl ?_
  refine WP.iconst (pc := 2358) (v := 1) dL_law_2358 (by decide) ?_
  refine WP.iaN (pc := 2359) (a := i) (b := 1) dL_law_2359 ?_
  refine WP.xA (pc := 2360) (i := i + 1) (by omega) (by omega) dL_law_2360 ?_
  refine WP.aload_n (pc := 2361) dL_law_2361 rfl ?_
  refine WP.callSH (pc := 2362) (mc2 := 40 * k) (ms2 := 512 * k) (M' := ML_eventSecond) (List.cons_ne_nil _ _) kL_314 (CL_eventSecond Γ hx ((gX Γ).2.2 (i + 1)) ho) rfl ⟨(Nat.le_of_ble_eq_true rfl), (Nat.le_of_ble_eq_true rfl)⟩ (by omega) (by omega) (Nat.le_of_ble_eq_true rfl) rfl dL_law_2362 (fun v τ hw => ?_) (fun E τ hw => nomatch hw.1)
  obtain ⟨h1, h2, h3, h4⟩ := hw
  cases h1
  obtain ⟨hx2, hm2, hd2, ho2⟩ := hs.x h2 h3
  refine WP.istore (pc := 2365) dL_law_2365 (Nat.le_of_ble_eq_true rfl) rfl ?_
  refine WP.self ?_
  refine WP.aload_n (pc := 2367) dL_law_2367 rfl ?_
  refine WP.aload_n (pc := 2368) dL_law_2368 rfl ?_
  refine WP.iload (pc := 2369) dL_law_2369 rfl ?_
  refine WP.iconst (pc := 2371) (v := 1) dL_law_2371 (by decide) ?_
  refine WP.iaN (pc := 2372) (a := i) (b := 1) dL_law_2372 ?_
  refine WP.xA (pc := 2373) (i := i + 1) (by omega) (by omega) dL_law_2373 ?_
  refine WP.cVp (pc := 2374) (mc2 := 40 * k) (ms2 := 512 * k) (ci := 9) kL_316 (CX9_eventSecond Γ hm2 hd2 ((gX Γ).2.2 (i + 1))) (by decide) rfl hm2.t0 rfl ⟨(Nat.le_of_ble_eq_true rfl), (Nat.le_of_ble_eq_true rfl)⟩ (by omega) (by omega) (Nat.le_of_ble_eq_true rfl) rfl dL_law_2374 (fun v I1 ⟨g1, g2, g3, g4⟩ => ?_)
  have h5 := SI.m hx2 hm2 ho2 g3 g4
  generalize q_eventSecond mm ((gX Γ).2.2 (i + 1)) = q at *
  refine WP.istore (pc := 2377) dL_law_2377 (Nat.le_of_ble_eq_true rfl) rfl ?_
  refine WP.aload_n (pc := 2379) dL_law_2379 rfl ?_
  refine WP.cV1 (pc := 2380) (mc2 := 40 * k) (ms2 := 512 * k) (ci := 9) kL_175 (CX9_thrown Γ hm2) (by decide) rfl hm2.t0 rfl ⟨(Nat.le_of_ble_eq_true rfl), (Nat.le_of_ble_eq_true rfl)⟩ (by omega) (by omega) (Nat.le_of_ble_eq_true rfl) rfl dL_law_2380 ?_
  rw [g1]
  refine WP.iload (pc := 2383) dL_law_2383 rfl ?_
  refine WP.icmp_eq (pc := 2385) (tgt := 2390) dL_law_2385 (by decide) (fun _ => ?_) (fun c => absurd rfl c)
  refine WP.iload (pc := 2390) dL_law_2390 rfl ?_
  have fin : ∀ L5 L6, WP Γ (12, 260, 40 * k, 512 * k) (ML_law nm) lwO 2407 (lwL Γ x i L5 L6 none none) [] (wI τ I1) := fun L5 L6 => WP.goto (pc := 2407) (tgt := 3458) dL_law_2407 (by decide) (hk _ _ L5 L6 none none h5 hI)
  refine WP.if_ne (pc := 2392) (tgt := 2407) dL_law_2392 (by decide) (fun _ => fin _ _) (fun c => ?_)
  have c0 : q.1 = 0 := (nI_eq (b := 0) (by omega) (by omega)).mp c
  refine WP.aload_n (pc := 2395) dL_law_2395 rfl ?_
  refine WP.iconst (pc := 2396) (v := 0) dL_law_2396 (by decide) ?_
  refine WP.laload (pc := 2397) (a := x + 74) (n := 1) ho2 vp01 dL_law_2397 ?_
  rw [show aL (wI τ I1) (x + 74) (Int32.toNatClampNeg 0) = q.2.1.toInt64 from h4 c0]
  refine WP.iload (pc := 2398) dL_law_2398 rfl ?_
  refine WP.i2l (pc := 2400) dL_law_2400 ?_
  rw [g2 c0]
  refine WP.lcmp (pc := 2401) dL_law_2401 ?_
  exact WP.if_eq (pc := 2402) (tgt := 2407) dL_law_2402 (by decide) (fun _ => fin _ _) (fun c => absurd (lg_self _) c)
set_option maxRecDepth 4000 in
theorem law_c43 (hi : i + 6 ≤ (gX Γ).2.1) (hN : (gX Γ).2.1 ≤ 4000) (hb : bd T C Z) (hs : SI σ x mm) (hv : inv T C Z mm) (hk : nxK Γ nm x i k T C Z) : WP Γ (12, 260, 40 * (k + 1), 512 * (k + 1)) (ML_law nm) lwO 2410 (lwL Γ x i none none none none) [] σ := by
  obtain ⟨hx, hm, hd, ho⟩ := id hs
  have hI : inv (T + 1) (C + 18000) (Z + 2880) (q_moneyDifference mm).2.2 := hv.up
  refine WP.aload_n (pc := 2410) dL_law_2410 rfl ?_
  refine WP.cXO (pc := 2411) (mc2 := 40 * k) (ms2 := 512 * k) kL_317 (CX8_moneyDifference Γ hx) rfl hx.1.t0 rfl ⟨(Nat.le_of_ble_eq_true rfl), (Nat.le_of_ble_eq_true rfl)⟩ (by omega) (by omega) (Nat.le_of_ble_eq_true rfl) rfl dL_law_2411 (fun τ h0 h2 h3 => ?_) (fun τ t h0 _ _ => absurd (show (0 : Nat) = t + 1 from h0) (by omega))
  obtain ⟨hx2, hm2, hd2, ho2⟩ := hs.x h2 (fun a c1 c2 => ⟨(h3 a c1 c2).1, (h3 a c1 c2).2.1, (h3 a c1 c2).2.2.1⟩)
  refine WP.self ?_
  refine WP.aload_n (pc := 2414) dL_law_2414 rfl ?_
  refine WP.cVp (pc := 2415) (mc2 := 40 * k) (ms2 := 512 * k) (ci := 9) kL_320 (CX9_moneyDifference Γ hm2 hd2) (by decide) rfl hm2.t0 rfl ⟨(Nat.le_of_ble_eq_true rfl), (Nat.le_of_ble_eq_true rfl)⟩ (by omega) (by omega) (Nat.le_of_ble_eq_true rfl) rfl dL_law_2415 (fun v I1 ⟨g1, g2, g3, g4⟩ => ?_)
  have h5 := SI.m hx2 hm2 ho2 g3 g4
  exact WP.icmp_eq (pc := 2418) (tgt := 3458) dL_law_2418 (by decide) (fun _ => hk _ _ none none none none h5 hI) (fun c => absurd (g2 h0).symm c)
set_option maxRecDepth 4000 in
theorem law_c44 (hi : i + 6 ≤ (gX Γ).2.1) (hN : (gX Γ).2.1 ≤ 4000) (hb : bd T C Z) (hs : SI σ x mm) (hv : inv T C Z mm) (hk : nxK Γ nm x i k T C Z) : WP Γ (12, 260, 40 * (k + 1), 512 * (k + 1)) (ML_law nm) lwO 2423 (lwL Γ x i none none none none) [] σ := by
  obtain ⟨hx, hm, hd, ho⟩ := id hs
  have hI : inv (T + 1) (C + 18000) (Z + 2880) (q_loafDifference mm).2.2 := hv.up
  refine WP.aload_n (pc := 2423) dL_law_2423 rfl ?_
  refine WP.cXO (pc := 2424) (mc2 := 40 * k) (ms2 := 512 * k) kL_321 (CX8_loafDifference Γ hx) rfl hx.1.t0 rfl ⟨(Nat.le_of_ble_eq_true rfl), (Nat.le_of_ble_eq_true rfl)⟩ (by omega) (by omega) (Nat.le_of_ble_eq_true rfl) rfl dL_law_2424 (fun τ h0 h2 h3 => ?_) (fun τ t h0 _ _ => absurd (show (0 : Nat) = t + 1 from h0) (by omega))
  obtain ⟨hx2, hm2, hd2, ho2⟩ := hs.x h2 (fun a c1 c2 => ⟨(h3 a c1 c2).1, (h3 a c1 c2).2.1, (h3 a c1 c2).2.2.1⟩)
  refine WP.self ?_
  refine WP.aload_n (pc := 2427) dL_law_2427 rfl ?_
  refine WP.cVp (pc := 2428) (mc2 := 40 * k) (ms2 := 512 * k) (ci := 9) kL_324 (CX9_loafDifference Γ hm2 hd2) (by decide) rfl hm2.t0 rfl ⟨(Nat.le_of_ble_eq_true rfl), (Nat.le_of_ble_eq_true rfl)⟩ (by omega) (by omega) (Nat.le_of_ble_eq_true rfl) rfl dL_law_2428 (fun v I1 ⟨g1, g2, g3, g4⟩ => ?_)
  have h5 := SI.m hx2 hm2 ho2 g3 g4
  exact WP.icmp_eq (pc := 2431) (tgt := 3458) dL_law_2431 (by decide) (fun _ => hk _ _ none none none none h5 hI) (fun c => absurd (g2 h0).symm c)
set_option maxRecDepth 4000 in
theorem law_c45 (hi : i + 6 ≤ (gX Γ).2.1) (hN : (gX Γ).2.1 ≤ 4000) (hb : bd T C Z) (hs : SI σ x mm) (hv : inv T C Z mm) (hk : nxK Γ nm x i k T C Z) : WP Γ (12, 260, 40 * (k + 1), 512 * (k + 1)) (ML_law nm) lwO 2436 (lwL Γ x i none none none none) [] σ := by
  obtain ⟨hx, hm, hd, ho⟩ := id hs
  have hI : inv (T + 1) (C + 18000) (Z + 2880) (q_sparrowsAfter mm ((gX Γ).2.2 (i + 1))).2.2 := by
    unfold q_sparrowsAfter
    repeat' split
    all_goals exact hv.up
  have hle := qsparrowsAfter_le mm ((gX Γ).2.2 (i + 1))
  refine WP.aload_n (pc := 2436) dL_law_2436 rfl ?_
  refine WP.aload_n (pc := 2437) dL_law_2437 rfl ?_
  refine WP.iload (pc := 2438) dL_law_2438 rfl ?_
  refine WP.iconst (pc := 2440) (v := 1) dL_law_2440 (by decide) ?_
  refine WP.iaN (pc := 2441) (a := i) (b := 1) dL_law_2441 ?_
  refine WP.xA (pc := 2442) (i := i + 1) (by omega) (by omega) dL_law_2442 ?_
  refine WP.aload_n (pc := 2443) dL_law_2443 rfl ?_
  refine WP.callSH (pc := 2444) (mc2 := 40 * k) (ms2 := 512 * k) (M' := ML_sparrowsAfter) (List.cons_ne_nil _ _) kL_325 (CL_sparrowsAfter Γ hx hv.1.1 hb.T hb.C ((gX Γ).2.2 (i + 1)) ho) rfl ⟨(Nat.le_of_ble_eq_true rfl), (Nat.le_of_ble_eq_true rfl)⟩ (by omega) (by omega) (Nat.le_of_ble_eq_true rfl) rfl dL_law_2444 (fun v τ hw => ?_) (fun E τ hw => nomatch hw.1)
  obtain ⟨h1, h2, h3, h4⟩ := hw
  cases h1
  obtain ⟨hx2, hm2, hd2, ho2⟩ := hs.x h2 h3
  refine WP.istore (pc := 2447) dL_law_2447 (Nat.le_of_ble_eq_true rfl) rfl ?_
  refine WP.self ?_
  refine WP.aload_n (pc := 2449) dL_law_2449 rfl ?_
  refine WP.aload_n (pc := 2450) dL_law_2450 rfl ?_
  refine WP.iload (pc := 2451) dL_law_2451 rfl ?_
  refine WP.iconst (pc := 2453) (v := 1) dL_law_2453 (by decide) ?_
  refine WP.iaN (pc := 2454) (a := i) (b := 1) dL_law_2454 ?_
  refine WP.xA (pc := 2455) (i := i + 1) (by omega) (by omega) dL_law_2455 ?_
  refine WP.cVp (pc := 2456) (mc2 := 40 * k) (ms2 := 512 * k) (ci := 9) kL_327 (CX9_sparrowsAfter Γ hm2 hd2 hv.1.1 hb.T hb.C ((gX Γ).2.2 (i + 1))) (by decide) rfl hm2.t0 rfl ⟨(Nat.le_of_ble_eq_true rfl), (Nat.le_of_ble_eq_true rfl)⟩ (by omega) (by omega) (Nat.le_of_ble_eq_true rfl) rfl dL_law_2456 (fun v I1 ⟨g1, g2, g3, g4⟩ => ?_)
  have h5 := SI.m hx2 hm2 ho2 g3 g4
  generalize q_sparrowsAfter mm ((gX Γ).2.2 (i + 1)) = q at *
  refine WP.istore (pc := 2459) dL_law_2459 (Nat.le_of_ble_eq_true rfl) rfl ?_
  refine WP.aload_n (pc := 2461) dL_law_2461 rfl ?_
  refine WP.cV1 (pc := 2462) (mc2 := 40 * k) (ms2 := 512 * k) (ci := 9) kL_175 (CX9_thrown Γ hm2) (by decide) rfl hm2.t0 rfl ⟨(Nat.le_of_ble_eq_true rfl), (Nat.le_of_ble_eq_true rfl)⟩ (by omega) (by omega) (Nat.le_of_ble_eq_true rfl) rfl dL_law_2462 ?_
  rw [g1]
  refine WP.iload (pc := 2465) dL_law_2465 rfl ?_
  refine WP.icmp_eq (pc := 2467) (tgt := 2472) dL_law_2467 (by decide) (fun _ => ?_) (fun c => absurd rfl c)
  refine WP.iload (pc := 2472) dL_law_2472 rfl ?_
  have fin : ∀ L5 L6, WP Γ (12, 260, 40 * k, 512 * k) (ML_law nm) lwO 2489 (lwL Γ x i L5 L6 none none) [] (wI τ I1) := fun L5 L6 => WP.goto (pc := 2489) (tgt := 3458) dL_law_2489 (by decide) (hk _ _ L5 L6 none none h5 hI)
  refine WP.if_ne (pc := 2474) (tgt := 2489) dL_law_2474 (by decide) (fun _ => fin _ _) (fun c => ?_)
  have c0 : q.1 = 0 := (nI_eq (b := 0) (by omega) (by omega)).mp c
  refine WP.aload_n (pc := 2477) dL_law_2477 rfl ?_
  refine WP.iconst (pc := 2478) (v := 0) dL_law_2478 (by decide) ?_
  refine WP.laload (pc := 2479) (a := x + 74) (n := 1) ho2 vp01 dL_law_2479 ?_
  rw [show aL (wI τ I1) (x + 74) (Int32.toNatClampNeg 0) = q.2.1.toInt64 from h4 c0]
  refine WP.iload (pc := 2480) dL_law_2480 rfl ?_
  refine WP.i2l (pc := 2482) dL_law_2482 ?_
  rw [g2 c0]
  refine WP.lcmp (pc := 2483) dL_law_2483 ?_
  exact WP.if_eq (pc := 2484) (tgt := 2489) dL_law_2484 (by decide) (fun _ => fin _ _) (fun c => absurd (lg_self _) c)
set_option maxRecDepth 4000 in
theorem law_c46 (hi : i + 6 ≤ (gX Γ).2.1) (hN : (gX Γ).2.1 ≤ 4000) (hb : bd T C Z) (hs : SI σ x mm) (hv : inv T C Z mm) (hk : nxK Γ nm x i k T C Z) : WP Γ (12, 260, 40 * (k + 1), 512 * (k + 1)) (ML_law nm) lwO 2492 (lwL Γ x i none none none none) [] σ := by
  obtain ⟨hx, hm, hd, ho⟩ := id hs
  have hI : inv (T + 1) (C + 18000) (Z + 2880) (q_loavesAfter mm ((gX Γ).2.2 (i + 1))).2.2 := by
    unfold q_loavesAfter
    repeat' split
    all_goals exact hv.up
  have hle := qloavesAfter_le mm ((gX Γ).2.2 (i + 1))
  refine WP.aload_n (pc := 2492) dL_law_2492 rfl ?_
  refine WP.aload_n (pc := 2493) dL_law_2493 rfl ?_
  refine WP.iload (pc := 2494) dL_law_2494 rfl ?_
  refine WP.iconst (pc := 2496) (v := 1) dL_law_2496 (by decide) ?_
  refine WP.iaN (pc := 2497) (a := i) (b := 1) dL_law_2497 ?_
  refine WP.xA (pc := 2498) (i := i + 1) (by omega) (by omega) dL_law_2498 ?_
  refine WP.aload_n (pc := 2499) dL_law_2499 rfl ?_
  refine WP.callSH (pc := 2500) (mc2 := 40 * k) (ms2 := 512 * k) (M' := ML_loavesAfter) (List.cons_ne_nil _ _) kL_328 (CL_loavesAfter Γ hx hv.1.1 hb.T hb.C ((gX Γ).2.2 (i + 1)) ho) rfl ⟨(Nat.le_of_ble_eq_true rfl), (Nat.le_of_ble_eq_true rfl)⟩ (by omega) (by omega) (Nat.le_of_ble_eq_true rfl) rfl dL_law_2500 (fun v τ hw => ?_) (fun E τ hw => nomatch hw.1)
  obtain ⟨h1, h2, h3, h4⟩ := hw
  cases h1
  obtain ⟨hx2, hm2, hd2, ho2⟩ := hs.x h2 h3
  refine WP.istore (pc := 2503) dL_law_2503 (Nat.le_of_ble_eq_true rfl) rfl ?_
  refine WP.self ?_
  refine WP.aload_n (pc := 2505) dL_law_2505 rfl ?_
  refine WP.aload_n (pc := 2506) dL_law_2506 rfl ?_
  refine WP.iload (pc := 2507) dL_law_2507 rfl ?_
  refine WP.iconst (pc := 2509) (v := 1) dL_law_2509 (by decide) ?_
  refine WP.iaN (pc := 2510) (a := i) (b := 1) dL_law_2510 ?_
  refine WP.xA (pc := 2511) (i := i + 1) (by omega) (by omega) dL_law_2511 ?_
  refine WP.cVp (pc := 2512) (mc2 := 40 * k) (ms2 := 512 * k) (ci := 9) kL_330 (CX9_loavesAfter Γ hm2 hd2 hv.1.1 hb.T hb.C ((gX Γ).2.2 (i + 1))) (by decide) rfl hm2.t0 rfl ⟨(Nat.le_of_ble_eq_true rfl), (Nat.le_of_ble_eq_true rfl)⟩ (by omega) (by omega) (Nat.le_of_ble_eq_true rfl) rfl dL_law_2512 (fun v I1 ⟨g1, g2, g3, g4⟩ => ?_)
  have h5 := SI.m hx2 hm2 ho2 g3 g4
  generalize q_loavesAfter mm ((gX Γ).2.2 (i + 1)) = q at *
  refine WP.istore (pc := 2515) dL_law_2515 (Nat.le_of_ble_eq_true rfl) rfl ?_
  refine WP.aload_n (pc := 2517) dL_law_2517 rfl ?_
  refine WP.cV1 (pc := 2518) (mc2 := 40 * k) (ms2 := 512 * k) (ci := 9) kL_175 (CX9_thrown Γ hm2) (by decide) rfl hm2.t0 rfl ⟨(Nat.le_of_ble_eq_true rfl), (Nat.le_of_ble_eq_true rfl)⟩ (by omega) (by omega) (Nat.le_of_ble_eq_true rfl) rfl dL_law_2518 ?_
  rw [g1]
  refine WP.iload (pc := 2521) dL_law_2521 rfl ?_
  refine WP.icmp_eq (pc := 2523) (tgt := 2528) dL_law_2523 (by decide) (fun _ => ?_) (fun c => absurd rfl c)
  refine WP.iload (pc := 2528) dL_law_2528 rfl ?_
  have fin : ∀ L5 L6, WP Γ (12, 260, 40 * k, 512 * k) (ML_law nm) lwO 2545 (lwL Γ x i L5 L6 none none) [] (wI τ I1) := fun L5 L6 => WP.goto (pc := 2545) (tgt := 3458) dL_law_2545 (by decide) (hk _ _ L5 L6 none none h5 hI)
  refine WP.if_ne (pc := 2530) (tgt := 2545) dL_law_2530 (by decide) (fun _ => fin _ _) (fun c => ?_)
  have c0 : q.1 = 0 := (nI_eq (b := 0) (by omega) (by omega)).mp c
  refine WP.aload_n (pc := 2533) dL_law_2533 rfl ?_
  refine WP.iconst (pc := 2534) (v := 0) dL_law_2534 (by decide) ?_
  refine WP.laload (pc := 2535) (a := x + 74) (n := 1) ho2 vp01 dL_law_2535 ?_
  rw [show aL (wI τ I1) (x + 74) (Int32.toNatClampNeg 0) = q.2.1.toInt64 from h4 c0]
  refine WP.iload (pc := 2536) dL_law_2536 rfl ?_
  refine WP.i2l (pc := 2538) dL_law_2538 ?_
  rw [g2 c0]
  refine WP.lcmp (pc := 2539) dL_law_2539 ?_
  exact WP.if_eq (pc := 2540) (tgt := 2545) dL_law_2540 (by decide) (fun _ => fin _ _) (fun c => absurd (lg_self _) c)
set_option maxRecDepth 4000 in
theorem law_c47 (hi : i + 6 ≤ (gX Γ).2.1) (hN : (gX Γ).2.1 ≤ 4000) (hb : bd T C Z) (hs : SI σ x mm) (hv : inv T C Z mm) (hk : nxK Γ nm x i k T C Z) : WP Γ (12, 260, 40 * (k + 1), 512 * (k + 1)) (ML_law nm) lwO 2548 (lwL Γ x i none none none none) [] σ := by
  obtain ⟨hx, hm, hd, ho⟩ := id hs
  have hI : inv (T + 1) (C + 18000) (Z + 2880) (q_tradesAfter mm ((gX Γ).2.2 (i + 1)) ((gX Γ).2.2 (i + 2))).2.2 := by
    unfold q_tradesAfter
    repeat' split
    all_goals exact hv.up
  have hle := qtradesAfter_le mm ((gX Γ).2.2 (i + 1)) ((gX Γ).2.2 (i + 2))
  refine WP.aload_n (pc := 2548) dL_law_2548 rfl ?_
  refine WP.aload_n (pc := 2549) dL_law_2549 rfl ?_
  refine WP.iload (pc := 2550) dL_law_2550 rfl ?_
  refine WP.iconst (pc := 2552) (v := 1) dL_law_2552 (by decide) ?_
  refine WP.iaN (pc := 2553) (a := i) (b := 1) dL_law_2553 ?_
  refine WP.xA (pc := 2554) (i := i + 1) (by omega) (by omega) dL_law_2554 ?_
  refine WP.aload_n (pc := 2555) dL_law_2555 rfl ?_
  refine WP.iload (pc := 2556) dL_law_2556 rfl ?_
  refine WP.iconst (pc := 2558) (v := 2) dL_law_2558 (by decide) ?_
  refine WP.iaN (pc := 2559) (a := i) (b := 2) dL_law_2559 ?_
  refine WP.xA (pc := 2560) (i := i + 2) (by omega) (by omega) dL_law_2560 ?_
  refine WP.aload_n (pc := 2561) dL_law_2561 rfl ?_
  refine WP.callSH (pc := 2562) (mc2 := 40 * k) (ms2 := 512 * k) (M' := ML_tradesAfter) (List.cons_ne_nil _ _) kL_331 (CL_tradesAfter Γ hx hv.1.1 hb.T hb.C ((gX Γ).2.2 (i + 1)) ((gX Γ).2.2 (i + 2)) ho) rfl ⟨(Nat.le_of_ble_eq_true rfl), (Nat.le_of_ble_eq_true rfl)⟩ (by omega) (by omega) (Nat.le_of_ble_eq_true rfl) rfl dL_law_2562 (fun v τ hw => ?_) (fun E τ hw => nomatch hw.1)
  obtain ⟨h1, h2, h3, h4⟩ := hw
  cases h1
  obtain ⟨hx2, hm2, hd2, ho2⟩ := hs.x h2 h3
  refine WP.istore (pc := 2565) dL_law_2565 (Nat.le_of_ble_eq_true rfl) rfl ?_
  refine WP.self ?_
  refine WP.aload_n (pc := 2567) dL_law_2567 rfl ?_
  refine WP.aload_n (pc := 2568) dL_law_2568 rfl ?_
  refine WP.iload (pc := 2569) dL_law_2569 rfl ?_
  refine WP.iconst (pc := 2571) (v := 1) dL_law_2571 (by decide) ?_
  refine WP.iaN (pc := 2572) (a := i) (b := 1) dL_law_2572 ?_
  refine WP.xA (pc := 2573) (i := i + 1) (by omega) (by omega) dL_law_2573 ?_
  refine WP.aload_n (pc := 2574) dL_law_2574 rfl ?_
  refine WP.iload (pc := 2575) dL_law_2575 rfl ?_
  refine WP.iconst (pc := 2577) (v := 2) dL_law_2577 (by decide) ?_
  refine WP.iaN (pc := 2578) (a := i) (b := 2) dL_law_2578 ?_
  refine WP.xA (pc := 2579) (i := i + 2) (by omega) (by omega) dL_law_2579 ?_
  refine WP.cVp (pc := 2580) (mc2 := 40 * k) (ms2 := 512 * k) (ci := 9) kL_333 (CX9_tradesAfter Γ hm2 hd2 hv.1.1 hb.T hb.C ((gX Γ).2.2 (i + 1)) ((gX Γ).2.2 (i + 2))) (by decide) rfl hm2.t0 rfl ⟨(Nat.le_of_ble_eq_true rfl), (Nat.le_of_ble_eq_true rfl)⟩ (by omega) (by omega) (Nat.le_of_ble_eq_true rfl) rfl dL_law_2580 (fun v I1 ⟨g1, g2, g3, g4⟩ => ?_)
  have h5 := SI.m hx2 hm2 ho2 g3 g4
  generalize q_tradesAfter mm ((gX Γ).2.2 (i + 1)) ((gX Γ).2.2 (i + 2)) = q at *
  refine WP.istore (pc := 2583) dL_law_2583 (Nat.le_of_ble_eq_true rfl) rfl ?_
  refine WP.aload_n (pc := 2585) dL_law_2585 rfl ?_
  refine WP.cV1 (pc := 2586) (mc2 := 40 * k) (ms2 := 512 * k) (ci := 9) kL_175 (CX9_thrown Γ hm2) (by decide) rfl hm2.t0 rfl ⟨(Nat.le_of_ble_eq_true rfl), (Nat.le_of_ble_eq_true rfl)⟩ (by omega) (by omega) (Nat.le_of_ble_eq_true rfl) rfl dL_law_2586 ?_
  rw [g1]
  refine WP.iload (pc := 2589) dL_law_2589 rfl ?_
  refine WP.icmp_eq (pc := 2591) (tgt := 2596) dL_law_2591 (by decide) (fun _ => ?_) (fun c => absurd rfl c)
  refine WP.iload (pc := 2596) dL_law_2596 rfl ?_
  have fin : ∀ L5 L6, WP Γ (12, 260, 40 * k, 512 * k) (ML_law nm) lwO 2613 (lwL Γ x i L5 L6 none none) [] (wI τ I1) := fun L5 L6 => WP.goto (pc := 2613) (tgt := 3458) dL_law_2613 (by decide) (hk _ _ L5 L6 none none h5 hI)
  refine WP.if_ne (pc := 2598) (tgt := 2613) dL_law_2598 (by decide) (fun _ => fin _ _) (fun c => ?_)
  have c0 : q.1 = 0 := (nI_eq (b := 0) (by omega) (by omega)).mp c
  refine WP.aload_n (pc := 2601) dL_law_2601 rfl ?_
  refine WP.iconst (pc := 2602) (v := 0) dL_law_2602 (by decide) ?_
  refine WP.laload (pc := 2603) (a := x + 74) (n := 1) ho2 vp01 dL_law_2603 ?_
  rw [show aL (wI τ I1) (x + 74) (Int32.toNatClampNeg 0) = q.2.1.toInt64 from h4 c0]
  refine WP.iload (pc := 2604) dL_law_2604 rfl ?_
  refine WP.i2l (pc := 2606) dL_law_2606 ?_
  rw [g2 c0]
  refine WP.lcmp (pc := 2607) dL_law_2607 ?_
  exact WP.if_eq (pc := 2608) (tgt := 2613) dL_law_2608 (by decide) (fun _ => fin _ _) (fun c => absurd (lg_self _) c)
end T
