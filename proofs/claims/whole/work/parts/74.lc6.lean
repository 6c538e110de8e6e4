-- behind: 73.law0 71.dl1 71.dl2 71.dl3 71.dl4 71.dl5 71.dl6 71.dl7 71.dl8
-- what one call of the script does, on both sides
section T
variable (Γ : cG) {nm : String × List (Nat × Nat × Nat × Nat)} {σ : cAS} {x i k T C Z : Nat} {mm : mX}
set_option maxRecDepth 4000 in
theorem law_c48 (hi : i + 6 ≤ (gX Γ).2.1) (hN : (gX Γ).2.1 ≤ 4000) (hb : bd T C Z) (hs : SI σ x mm) (hv : inv T C Z mm) (hk : nxK Γ nm x i k T C Z) : WP Γ (12, 260, 40 * (k + 1), 512 * (k + 1)) (ML_law nm) lwO 2616 (lwL Γ x i none none none none) [] σ := by
  obtain ⟨hx, hm, hd, ho⟩ := id hs
  have hI : inv (T + 1) (C + 18000) (Z + 2880) (q_bestHour mm ((gX Γ).2.2 (i + 1))).2.2 := by
    unfold q_bestHour
    repeat' split
    all_goals exact hv.up
  have hle := qbestHour_le mm ((gX Γ).2.2 (i + 1))
  refine WP.aload_n (pc := 2616) dL_law_2616 rfl ?_
  refine WP.aload_n (pc := 2617) dL_law_2617 rfl ?_
  refine WP.iload (pc := 2618) dL_law_2618 rfl ?_
  refine WP.iconst (pc := 2620) (v := 1) dL_law_2620 (by decide) ?_
  refine WP.iaN (pc := 2621) (a := i) (b := 1) dL_law_2621 ?_
  refine WP.xA (pc := 2622) (i := i + 1) (by omega) (by omega) dL_law_2622 ?_
  refine WP.aload_n (pc := 2623) dL_law_2623 rfl ?_
  refine WP.callSH (pc := 2624) (mc2 := 40 * k) (ms2 := 512 * k) (M' := ML_bestHour) (List.cons_ne_nil _ _) kL_334 (CL_bestHour Γ hx hv.1.1 hb.T hb.C ((gX Γ).2.2 (i + 1)) ho) rfl ⟨(Nat.le_of_ble_eq_true rfl), (Nat.le_of_ble_eq_true rfl)⟩ (by omega) (by omega) (Nat.le_of_ble_eq_true rfl) rfl dL_law_2624 (fun v τ hw => ?_) (fun E τ hw => nomatch hw.1)
  obtain ⟨h1, h2, h3, h4⟩ := hw
  cases h1
  obtain ⟨hx2, hm2, hd2, ho2⟩ := hs.x h2 h3
  refine WP.istore (pc := 2627) dL_law_2627 (Nat.le_of_ble_eq_true rfl) rfl ?_
  refine WP.self ?_
  refine WP.aload_n (pc := 2629) dL_law_2629 rfl ?_
  refine WP.aload_n (pc := 2630) dL_law_2630 rfl ?_
  refine WP.iload (pc := 2631) dL_law_2631 rfl ?_
  refine WP.iconst (pc := 2633) (v := 1) dL_law_2633 (by decide) ?_
  refine WP.iaN (pc := 2634) (a := i) (b := 1) dL_law_2634 ?_
  refine WP.xA (pc := 2635) (i := i + 1) (by omega) (by omega) dL_law_2635 ?_
  refine WP.cVp (pc := 2636) (mc2 := 40 * k) (ms2 := 512 * k) (ci := 9) kL_336 (CX9_bestHour Γ hm2 hd2 hv.1.1 hb.T hb.C ((gX Γ).2.2 (i + 1))) (by decide) rfl hm2.t0 rfl ⟨(Nat.le_of_ble_eq_true rfl), (Nat.le_of_ble_eq_true rfl)⟩ (by omega) (by omega) (Nat.le_of_ble_eq_true rfl) rfl dL_law_2636 (fun v I1 ⟨g1, g2, g3, g4⟩ => ?_)
  have h5 := SI.m hx2 hm2 ho2 g3 g4
  generalize q_bestHour mm ((gX Γ).2.2 (i + 1)) = q at *
  refine WP.istore (pc := 2639) dL_law_2639 (Nat.le_of_ble_eq_true rfl) rfl ?_
  refine WP.aload_n (pc := 2641) dL_law_2641 rfl ?_
  refine WP.cV1 (pc := 2642) (mc2 := 40 * k) (ms2 := 512 * k) (ci := 9) kL_175 (CX9_thrown Γ hm2) (by decide) rfl hm2.t0 rfl ⟨(Nat.le_of_ble_eq_true rfl), (Nat.le_of_ble_eq_true rfl)⟩ (by omega) (by omega) (Nat.le_of_ble_eq_true rfl) rfl dL_law_2642 ?_
  rw [g1]
  refine WP.iload (pc := 2645) dL_law_2645 rfl ?_
  refine WP.icmp_eq (pc := 2647) (tgt := 2652) dL_law_2647 (by decide) (fun _ => ?_) (fun c => absurd rfl c)
  refine WP.iload (pc := 2652) dL_law_2652 rfl ?_
  have fin : ∀ L5 L6, WP Γ (12, 260, 40 * k, 512 * k) (ML_law nm) lwO 2669 (lwL Γ x i L5 L6 none none) [] (wI τ I1) := fun L5 L6 => WP.goto (pc := 2669) (tgt := 3458) dL_law_2669 (by decide) (hk _ _ L5 L6 none none h5 hI)
  refine WP.if_ne (pc := 2654) (tgt := 2669) dL_law_2654 (by decide) (fun _ => fin _ _) (fun c => ?_)
  have c0 : q.1 = 0 := (nI_eq (b := 0) (by omega) (by omega)).mp c
  refine WP.aload_n (pc := 2657) dL_law_2657 rfl ?_
  refine WP.iconst (pc := 2658) (v := 0) dL_law_2658 (by decide) ?_
  refine WP.laload (pc := 2659) (a := x + 74) (n := 1) ho2 vp01 dL_law_2659 ?_
  rw [show aL (wI τ I1) (x + 74) (Int32.toNatClampNeg 0) = q.2.1.toInt64 from h4 c0]
  refine WP.iload (pc := 2660) dL_law_2660 rfl ?_
  refine WP.i2l (pc := 2662) dL_law_2662 ?_
  rw [g2 c0]
  refine WP.lcmp (pc := 2663) dL_law_2663 ?_
  exact WP.if_eq (pc := 2664) (tgt := 2669) dL_law_2664 (by decide) (fun _ => fin _ _) (fun c => absurd (lg_self _) c)
set_option maxRecDepth 4000 in
theorem law_c49 (hi : i + 6 ≤ (gX Γ).2.1) (hN : (gX Γ).2.1 ≤ 4000) (hb : bd T C Z) (hs : SI σ x mm) (hv : inv T C Z mm) (hk : nxK Γ nm x i k T C Z) : WP Γ (12, 260, 40 * (k + 1), 512 * (k + 1)) (ML_law nm) lwO 2672 (lwL Γ x i none none none none) [] σ := by
  obtain ⟨hx, hm, hd, ho⟩ := id hs
  refine WP.aload_n (pc := 2672) dL_law_2672 rfl ?_
  have hnn := mean_num mm (by have := hv.1.1.2.2.1; omega)
  refine WP.cV1 (pc := 2673) (mc2 := 40 * k) (ms2 := 512 * k) (ci := 8) kL_337 (CX8_meanAge Γ hx) (by decide) rfl hx.1.t0 rfl ⟨(Nat.le_of_ble_eq_true rfl), (Nat.le_of_ble_eq_true rfl)⟩ (by omega) (by omega) (Nat.le_of_ble_eq_true rfl) rfl dL_law_2673 ?_
  refine WP.dstore (pc := 2676) dL_law_2676 (Nat.le_of_ble_eq_true rfl) (fun j w hj hw => ?_) ?_
  · obtain rfl : j = 4 := by omega
    cases hw
    rfl
  refine WP.self ?_
  refine WP.aload_n (pc := 2678) dL_law_2678 rfl ?_
  refine WP.callV (pc := 2679) (mc2 := 40 * k) (ms2 := 512 * k) (ci := 9) kL_341 (CX9_meanAge Γ hm hd) (by decide) rfl hm.t0 rfl ⟨(Nat.le_of_ble_eq_true rfl), (Nat.le_of_ble_eq_true rfl)⟩ (by omega) (by omega) (Nat.le_of_ble_eq_true rfl) rfl dL_law_2679 (fun v τ h => ?_) (fun E τ h => nomatch h.1)
  obtain ⟨h1, I1, rfl, g3, g4⟩ := h
  cases h1
  have h5 := SI.m hx hm ho g3 g4
  refine WP.dstore (pc := 2682) dL_law_2682 (Nat.le_of_ble_eq_true rfl) (fun j w hj hw => ?_) ?_
  · obtain rfl : j = 6 := by omega
    cases hw
  refine WP.dload (pc := 2684) dL_law_2684 rfl ?_
  refine WP.dload (pc := 2686) dL_law_2686 rfl ?_
  refine WP.dcmp (pc := 2688) dL_law_2688 ?_
  rw [dcmp0 hnn]
  exact WP.if_eq (pc := 2689) (tgt := 2710) dL_law_2689 (by decide) (fun _ => WP.goto (pc := 2710) (tgt := 3458) dL_law_2710 (by decide) (hk _ _ _ _ _ _ h5 hv.up)) (fun c => absurd rfl c)
set_option maxRecDepth 4000 in
theorem law_c50 (hi : i + 6 ≤ (gX Γ).2.1) (hN : (gX Γ).2.1 ≤ 4000) (hb : bd T C Z) (hs : SI σ x mm) (hv : inv T C Z mm) (hk : nxK Γ nm x i k T C Z) : WP Γ (12, 260, 40 * (k + 1), 512 * (k + 1)) (ML_law nm) lwO 2713 (lwL Γ x i none none none none) [] σ := by
  obtain ⟨hx, hm, hd, ho⟩ := id hs
  refine WP.aload_n (pc := 2713) dL_law_2713 rfl ?_
  have hnn := f2d_num (share_num mm (hb.z6 hv))
  refine WP.cV1 (pc := 2714) (mc2 := 40 * k) (ms2 := 512 * k) (ci := 8) kL_342 (CX8_soldShare Γ hx (hb.z6 hv)) (by decide) rfl hx.1.t0 rfl ⟨(Nat.le_of_ble_eq_true rfl), (Nat.le_of_ble_eq_true rfl)⟩ (by omega) (by omega) (Nat.le_of_ble_eq_true rfl) rfl dL_law_2714 ?_
  refine WP.f2d (pc := 2717) dL_law_2717 hnn ?_
  refine WP.dstore (pc := 2718) dL_law_2718 (Nat.le_of_ble_eq_true rfl) (fun j w hj hw => ?_) ?_
  · obtain rfl : j = 4 := by omega
    cases hw
    rfl
  refine WP.self ?_
  refine WP.aload_n (pc := 2720) dL_law_2720 rfl ?_
  refine WP.callV (pc := 2721) (mc2 := 40 * k) (ms2 := 512 * k) (ci := 9) kL_346 (CX9_soldShare Γ hm hd (hb.z6 hv)) (by decide) rfl hm.t0 rfl ⟨(Nat.le_of_ble_eq_true rfl), (Nat.le_of_ble_eq_true rfl)⟩ (by omega) (by omega) (Nat.le_of_ble_eq_true rfl) rfl dL_law_2721 (fun v τ h => ?_) (fun E τ h => nomatch h.1)
  obtain ⟨h1, I1, rfl, g3, g4⟩ := h
  cases h1
  have h5 := SI.m hx hm ho g3 g4
  refine WP.f2d (pc := 2724) dL_law_2724 hnn ?_
  refine WP.dstore (pc := 2725) dL_law_2725 (Nat.le_of_ble_eq_true rfl) (fun j w hj hw => ?_) ?_
  · obtain rfl : j = 6 := by omega
    cases hw
  refine WP.dload (pc := 2727) dL_law_2727 rfl ?_
  refine WP.dload (pc := 2729) dL_law_2729 rfl ?_
  refine WP.dcmp (pc := 2731) dL_law_2731 ?_
  rw [dcmp0 hnn]
  exact WP.if_eq (pc := 2732) (tgt := 2753) dL_law_2732 (by decide) (fun _ => WP.goto (pc := 2753) (tgt := 3458) dL_law_2753 (by decide) (hk _ _ _ _ _ _ h5 hv.up)) (fun c => absurd rfl c)
set_option maxRecDepth 4000 in
theorem law_c51 (hi : i + 6 ≤ (gX Γ).2.1) (hN : (gX Γ).2.1 ≤ 4000) (hb : bd T C Z) (hs : SI σ x mm) (hv : inv T C Z mm) (hk : nxK Γ nm x i k T C Z) : WP Γ (12, 260, 40 * (k + 1), 512 * (k + 1)) (ML_law nm) lwO 2756 (lwL Γ x i none none none none) [] σ := by
  obtain ⟨hx, hm, hd, ho⟩ := id hs
  have hI : inv (T + 1) (C + 18000) (Z + 2880) (q_bake mm ((gX Γ).2.2 (i + 1)) ((gX Γ).2.2 (i + 2))).2.2 := q_bake_inv hv ((gX Γ).2.2 (i + 1)) ((gX Γ).2.2 (i + 2))
  have hle := qbake_le mm ((gX Γ).2.2 (i + 1)) ((gX Γ).2.2 (i + 2))
  refine WP.aload_n (pc := 2756) dL_law_2756 rfl ?_
  refine WP.aload_n (pc := 2757) dL_law_2757 rfl ?_
  refine WP.iload (pc := 2758) dL_law_2758 rfl ?_
  refine WP.iconst (pc := 2760) (v := 1) dL_law_2760 (by decide) ?_
  refine WP.iaN (pc := 2761) (a := i) (b := 1) dL_law_2761 ?_
  refine WP.xA (pc := 2762) (i := i + 1) (by omega) (by omega) dL_law_2762 ?_
  refine WP.aload_n (pc := 2763) dL_law_2763 rfl ?_
  refine WP.iload (pc := 2764) dL_law_2764 rfl ?_
  refine WP.iconst (pc := 2766) (v := 2) dL_law_2766 (by decide) ?_
  refine WP.iaN (pc := 2767) (a := i) (b := 2) dL_law_2767 ?_
  refine WP.xA (pc := 2768) (i := i + 2) (by omega) (by omega) dL_law_2768 ?_
  refine WP.aload_n (pc := 2769) dL_law_2769 rfl ?_
  refine WP.callSH (pc := 2770) (mc2 := 40 * k) (ms2 := 512 * k) (M' := ML_bake) (List.cons_ne_nil _ _) kL_347 (CL_bake Γ hx ((gX Γ).2.2 (i + 1)) ((gX Γ).2.2 (i + 2)) ho) rfl ⟨(Nat.le_of_ble_eq_true rfl), (Nat.le_of_ble_eq_true rfl)⟩ (by omega) (by omega) (Nat.le_of_ble_eq_true rfl) rfl dL_law_2770 (fun v τ hw => ?_) (fun E τ hw => nomatch hw.1)
  obtain ⟨h1, h2, h3, h4⟩ := hw
  cases h1
  obtain ⟨hx2, hm2, hd2, ho2⟩ := hs.x h2 h3
  refine WP.istore (pc := 2773) dL_law_2773 (Nat.le_of_ble_eq_true rfl) rfl ?_
  refine WP.self ?_
  refine WP.aload_n (pc := 2775) dL_law_2775 rfl ?_
  refine WP.aload_n (pc := 2776) dL_law_2776 rfl ?_
  refine WP.iload (pc := 2777) dL_law_2777 rfl ?_
  refine WP.iconst (pc := 2779) (v := 1) dL_law_2779 (by decide) ?_
  refine WP.iaN (pc := 2780) (a := i) (b := 1) dL_law_2780 ?_
  refine WP.xA (pc := 2781) (i := i + 1) (by omega) (by omega) dL_law_2781 ?_
  refine WP.aload_n (pc := 2782) dL_law_2782 rfl ?_
  refine WP.iload (pc := 2783) dL_law_2783 rfl ?_
  refine WP.iconst (pc := 2785) (v := 2) dL_law_2785 (by decide) ?_
  refine WP.iaN (pc := 2786) (a := i) (b := 2) dL_law_2786 ?_
  refine WP.xA (pc := 2787) (i := i + 2) (by omega) (by omega) dL_law_2787 ?_
  refine WP.cVp (pc := 2788) (mc2 := 40 * k) (ms2 := 512 * k) (ci := 9) kL_349 (CX9_bake Γ hm2 hd2 hv.1.1 ((gX Γ).2.2 (i + 1)) ((gX Γ).2.2 (i + 2))) (by decide) rfl hm2.t0 rfl ⟨(Nat.le_of_ble_eq_true rfl), (Nat.le_of_ble_eq_true rfl)⟩ (by omega) (by omega) (Nat.le_of_ble_eq_true rfl) rfl dL_law_2788 (fun v I1 ⟨g1, g2, g3, g4⟩ => ?_)
  have h5 := SI.m hx2 hm2 ho2 g3 g4
  generalize q_bake mm ((gX Γ).2.2 (i + 1)) ((gX Γ).2.2 (i + 2)) = q at *
  refine WP.istore (pc := 2791) dL_law_2791 (Nat.le_of_ble_eq_true rfl) rfl ?_
  refine WP.aload_n (pc := 2793) dL_law_2793 rfl ?_
  refine WP.cV1 (pc := 2794) (mc2 := 40 * k) (ms2 := 512 * k) (ci := 9) kL_175 (CX9_thrown Γ hm2) (by decide) rfl hm2.t0 rfl ⟨(Nat.le_of_ble_eq_true rfl), (Nat.le_of_ble_eq_true rfl)⟩ (by omega) (by omega) (Nat.le_of_ble_eq_true rfl) rfl dL_law_2794 ?_
  rw [g1]
  refine WP.iload (pc := 2797) dL_law_2797 rfl ?_
  refine WP.icmp_eq (pc := 2799) (tgt := 2804) dL_law_2799 (by decide) (fun _ => ?_) (fun c => absurd rfl c)
  refine WP.iload (pc := 2804) dL_law_2804 rfl ?_
  have fin : ∀ L5 L6, WP Γ (12, 260, 40 * k, 512 * k) (ML_law nm) lwO 2821 (lwL Γ x i L5 L6 none none) [] (wI τ I1) := fun L5 L6 => WP.goto (pc := 2821) (tgt := 3458) dL_law_2821 (by decide) (hk _ _ L5 L6 none none h5 hI)
  refine WP.if_ne (pc := 2806) (tgt := 2821) dL_law_2806 (by decide) (fun _ => fin _ _) (fun c => ?_)
  have c0 : q.1 = 0 := (nI_eq (b := 0) (by omega) (by omega)).mp c
  refine WP.aload_n (pc := 2809) dL_law_2809 rfl ?_
  refine WP.iconst (pc := 2810) (v := 0) dL_law_2810 (by decide) ?_
  refine WP.laload (pc := 2811) (a := x + 74) (n := 1) ho2 vp01 dL_law_2811 ?_
  rw [show aL (wI τ I1) (x + 74) (Int32.toNatClampNeg 0) = q.2.1.toInt64 from h4 c0]
  refine WP.iload (pc := 2812) dL_law_2812 rfl ?_
  refine WP.i2l (pc := 2814) dL_law_2814 ?_
  rw [g2 c0]
  refine WP.lcmp (pc := 2815) dL_law_2815 ?_
  exact WP.if_eq (pc := 2816) (tgt := 2821) dL_law_2816 (by decide) (fun _ => fin _ _) (fun c => absurd (lg_self _) c)
set_option maxRecDepth 4000 in
theorem law_c52 (hi : i + 6 ≤ (gX Γ).2.1) (hN : (gX Γ).2.1 ≤ 4000) (hb : bd T C Z) (hs : SI σ x mm) (hv : inv T C Z mm) (hk : nxK Γ nm x i k T C Z) : WP Γ (12, 260, 40 * (k + 1), 512 * (k + 1)) (ML_law nm) lwO 2824 (lwL Γ x i none none none none) [] σ := by
  obtain ⟨hx, hm, hd, ho⟩ := id hs
  have hI : inv (T + 1) (C + 18000) (Z + 2880) (q_auction mm ((gX Γ).2.2 (i + 1))).2.2 := q_auction_inv hb.T hv ((gX Γ).2.2 (i + 1))
  have hle := qauction_le mm ((gX Γ).2.2 (i + 1))
  refine WP.aload_n (pc := 2824) dL_law_2824 rfl ?_
  refine WP.aload_n (pc := 2825) dL_law_2825 rfl ?_
  refine WP.iload (pc := 2826) dL_law_2826 rfl ?_
  refine WP.iconst (pc := 2828) (v := 1) dL_law_2828 (by decide) ?_
  refine WP.iaN (pc := 2829) (a := i) (b := 1) dL_law_2829 ?_
  refine WP.xA (pc := 2830) (i := i + 1) (by omega) (by omega) dL_law_2830 ?_
  refine WP.aload_n (pc := 2831) dL_law_2831 rfl ?_
  refine WP.callSH (pc := 2832) (mc2 := 40 * k) (ms2 := 512 * k) (M' := ML_auction) (List.cons_ne_nil _ _) kL_350 (CL_auction Γ hx hv.1.1 ((gX Γ).2.2 (i + 1)) ho) rfl ⟨(Nat.le_of_ble_eq_true rfl), (Nat.le_of_ble_eq_true rfl)⟩ (by omega) (by omega) (Nat.le_of_ble_eq_true rfl) rfl dL_law_2832 (fun v τ hw => ?_) (fun E τ hw => nomatch hw.1)
  obtain ⟨h1, h2, h3, h4⟩ := hw
  cases h1
  obtain ⟨hx2, hm2, hd2, ho2⟩ := hs.x h2 h3
  refine WP.istore (pc := 2835) dL_law_2835 (Nat.le_of_ble_eq_true rfl) rfl ?_
  refine WP.self ?_
  refine WP.aload_n (pc := 2837) dL_law_2837 rfl ?_
  refine WP.aload_n (pc := 2838) dL_law_2838 rfl ?_
  refine WP.iload (pc := 2839) dL_law_2839 rfl ?_
  refine WP.iconst (pc := 2841) (v := 1) dL_law_2841 (by decide) ?_
  refine WP.iaN (pc := 2842) (a := i) (b := 1) dL_law_2842 ?_
  refine WP.xA (pc := 2843) (i := i + 1) (by omega) (by omega) dL_law_2843 ?_
  refine WP.cVp (pc := 2844) (mc2 := 40 * k) (ms2 := 512 * k) (ci := 9) kL_352 (CX9_auction Γ hm2 hd2 hv.1.1 hb.T ((gX Γ).2.2 (i + 1))) (by decide) rfl hm2.t0 rfl ⟨(Nat.le_of_ble_eq_true rfl), (Nat.le_of_ble_eq_true rfl)⟩ (by omega) (by omega) (Nat.le_of_ble_eq_true rfl) rfl dL_law_2844 (fun v I1 ⟨g1, g2, g3, g4⟩ => ?_)
  have h5 := SI.m hx2 hm2 ho2 g3 g4
  generalize q_auction mm ((gX Γ).2.2 (i + 1)) = q at *
  refine WP.istore (pc := 2847) dL_law_2847 (Nat.le_of_ble_eq_true rfl) rfl ?_
  refine WP.aload_n (pc := 2849) dL_law_2849 rfl ?_
  refine WP.cV1 (pc := 2850) (mc2 := 40 * k) (ms2 := 512 * k) (ci := 9) kL_175 (CX9_thrown Γ hm2) (by decide) rfl hm2.t0 rfl ⟨(Nat.le_of_ble_eq_true rfl), (Nat.le_of_ble_eq_true rfl)⟩ (by omega) (by omega) (Nat.le_of_ble_eq_true rfl) rfl dL_law_2850 ?_
  rw [g1]
  refine WP.iload (pc := 2853) dL_law_2853 rfl ?_
  refine WP.icmp_eq (pc := 2855) (tgt := 2860) dL_law_2855 (by decide) (fun _ => ?_) (fun c => absurd rfl c)
  refine WP.iload (pc := 2860) dL_law_2860 rfl ?_
  have fin : ∀ L5 L6, WP Γ (12, 260, 40 * k, 512 * k) (ML_law nm) lwO 2877 (lwL Γ x i L5 L6 none none) [] (wI τ I1) := fun L5 L6 => WP.goto (pc := 2877) (tgt := 3458) dL_law_2877 (by decide) (hk _ _ L5 L6 none none h5 hI)
  refine WP.if_ne (pc := 2862) (tgt := 2877) dL_law_2862 (by decide) (fun _ => fin _ _) (fun c => ?_)
  have c0 : q.1 = 0 := (nI_eq (b := 0) (by omega) (by omega)).mp c
  refine WP.aload_n (pc := 2865) dL_law_2865 rfl ?_
  refine WP.iconst (pc := 2866) (v := 0) dL_law_2866 (by decide) ?_
  refine WP.laload (pc := 2867) (a := x + 74) (n := 1) ho2 vp01 dL_law_2867 ?_
  rw [show aL (wI τ I1) (x + 74) (Int32.toNatClampNeg 0) = q.2.1.toInt64 from h4 c0]
  refine WP.iload (pc := 2868) dL_law_2868 rfl ?_
  refine WP.i2l (pc := 2870) dL_law_2870 ?_
  rw [g2 c0]
  refine WP.lcmp (pc := 2871) dL_law_2871 ?_
  exact WP.if_eq (pc := 2872) (tgt := 2877) dL_law_2872 (by decide) (fun _ => fin _ _) (fun c => absurd (lg_self _) c)
set_option maxRecDepth 4000 in
theorem law_c53 (hi : i + 6 ≤ (gX Γ).2.1) (hN : (gX Γ).2.1 ≤ 4000) (hb : bd T C Z) (hs : SI σ x mm) (hv : inv T C Z mm) (hk : nxK Γ nm x i k T C Z) : WP Γ (12, 260, 40 * (k + 1), 512 * (k + 1)) (ML_law nm) lwO 2880 (lwL Γ x i none none none none) [] σ := by
  obtain ⟨hx, hm, hd, ho⟩ := id hs
  have hI : inv (T + 1) (C + 18000) (Z + 2880) (q_joinQueue mm ((gX Γ).2.2 (i + 1)) ((gX Γ).2.2 (i + 2)) ((gX Γ).2.2 (i + 3)) ((gX Γ).2.2 (i + 4)) ((gX Γ).2.2 (i + 5))).2.2 := q_joinQueue_inv hv ((gX Γ).2.2 (i + 1)) ((gX Γ).2.2 (i + 2)) ((gX Γ).2.2 (i + 3)) ((gX Γ).2.2 (i + 4)) ((gX Γ).2.2 (i + 5))
  have hle := qjoinQueue_le mm ((gX Γ).2.2 (i + 1)) ((gX Γ).2.2 (i + 2)) ((gX Γ).2.2 (i + 3)) ((gX Γ).2.2 (i + 4)) ((gX Γ).2.2 (i + 5))
  refine WP.aload_n (pc := 2880) dL_law_2880 rfl ?_
  refine WP.aload_n (pc := 2881) dL_law_2881 rfl ?_
  refine WP.iload (pc := 2882) dL_law_2882 rfl ?_
  refine WP.iconst (pc := 2884) (v := 1) dL_law_2884 (by decide) ?_
  refine WP.iaN (pc := 2885) (a := i) (b := 1) dL_law_2885 ?_
  refine WP.xA (pc := 2886) (i := i + 1) (by omega) (by omega) dL_law_2886 ?_
  refine WP.aload_n (pc := 2887) dL_law_2887 rfl ?_
  refine WP.iload (pc := 2888) dL_law_2888 rfl ?_
  refine WP.iconst (pc := 2890) (v := 2) dL_law_2890 (by decide) ?_
  refine WP.iaN (pc := 2891) (a := i) (b := 2) dL_law_2891 ?_
  refine WP.xA (pc := 2892) (i := i + 2) (by omega) (by omega) dL_law_2892 ?_
  refine WP.aload_n (pc := 2893) dL_law_2893 rfl ?_
  refine WP.iload (pc := 2894) dL_law_2894 rfl ?_
  refine WP.iconst (pc := 2896) (v := 3) dL_law_2896 (by decide) ?_
  refine WP.iaN (pc := 2897) (a := i) (b := 3) dL_law_2897 ?_
  refine WP.xA (pc := 2898) (i := i + 3) (by omega) (by omega) dL_law_2898 ?_
  refine WP.aload_n (pc := 2899) dL_law_2899 rfl ?_
  refine WP.iload (pc := 2900) dL_law_2900 rfl ?_
  refine WP.iconst (pc := 2902) (v := 4) dL_law_2902 (by decide) ?_
  refine WP.iaN (pc := 2903) (a := i) (b := 4) dL_law_2903 ?_
  refine WP.xA (pc := 2904) (i := i + 4) (by omega) (by omega) dL_law_2904 ?_
  refine WP.aload_n (pc := 2905) dL_law_2905 rfl ?_
  refine WP.iload (pc := 2906) dL_law_2906 rfl ?_
  refine WP.iconst (pc := 2908) (v := 5) dL_law_2908 (by decide) ?_
  refine WP.iaN (pc := 2909) (a := i) (b := 5) dL_law_2909 ?_
  refine WP.xA (pc := 2910) (i := i + 5) (by omega) (by omega) dL_law_2910 ?_
  refine WP.aload_n (pc := 2911) dL_law_2911 rfl ?_
  refine WP.callSH (pc := 2912) (mc2 := 40 * k) (ms2 := 512 * k) (M' := ML_joinQueue) (List.cons_ne_nil _ _) kL_353 (CL_joinQueue Γ hx ((gX Γ).2.2 (i + 1)) ((gX Γ).2.2 (i + 2)) ((gX Γ).2.2 (i + 3)) ((gX Γ).2.2 (i + 4)) ((gX Γ).2.2 (i + 5)) ho) rfl ⟨(Nat.le_of_ble_eq_true rfl), (Nat.le_of_ble_eq_true rfl)⟩ (by omega) (by omega) (Nat.le_of_ble_eq_true rfl) rfl dL_law_2912 (fun v τ hw => ?_) (fun E τ hw => nomatch hw.1)
  obtain ⟨h1, h2, h3, h4⟩ := hw
  cases h1
  obtain ⟨hx2, hm2, hd2, ho2⟩ := hs.x h2 h3
  refine WP.istore (pc := 2915) dL_law_2915 (Nat.le_of_ble_eq_true rfl) rfl ?_
  refine WP.self ?_
  refine WP.aload_n (pc := 2917) dL_law_2917 rfl ?_
  refine WP.aload_n (pc := 2918) dL_law_2918 rfl ?_
  refine WP.iload (pc := 2919) dL_law_2919 rfl ?_
  refine WP.iconst (pc := 2921) (v := 1) dL_law_2921 (by decide) ?_
  refine WP.iaN (pc := 2922) (a := i) (b := 1) dL_law_2922 ?_
  refine WP.xA (pc := 2923) (i := i + 1) (by omega) (by omega) dL_law_2923 ?_
  refine WP.aload_n (pc := 2924) dL_law_2924 rfl ?_
  refine WP.iload (pc := 2925) dL_law_2925 rfl ?_
  refine WP.iconst (pc := 2927) (v := 2) dL_law_2927 (by decide) ?_
  refine WP.iaN (pc := 2928) (a := i) (b := 2) dL_law_2928 ?_
  refine WP.xA (pc := 2929) (i := i + 2) (by omega) (by omega) dL_law_2929 ?_
  refine WP.aload_n (pc := 2930) dL_law_2930 rfl ?_
  refine WP.iload (pc := 2931) dL_law_2931 rfl ?_
  refine WP.iconst (pc := 2933) (v := 3) dL_law_2933 (by decide) ?_
  refine WP.iaN (pc := 2934) (a := i) (b := 3) dL_law_2934 ?_
  refine WP.xA (pc := 2935) (i := i + 3) (by omega) (by omega) dL_law_2935 ?_
  refine WP.aload_n (pc := 2936) dL_law_2936 rfl ?_
  refine WP.iload (pc := 2937) dL_law_2937 rfl ?_
  refine WP.iconst (pc := 2939) (v := 4) dL_law_2939 (by decide) ?_
  refine WP.iaN (pc := 2940) (a := i) (b := 4) dL_law_2940 ?_
  refine WP.xA (pc := 2941) (i := i + 4) (by omega) (by omega) dL_law_2941 ?_
  refine WP.aload_n (pc := 2942) dL_law_2942 rfl ?_
  refine WP.iload (pc := 2943) dL_law_2943 rfl ?_
  refine WP.iconst (pc := 2945) (v := 5) dL_law_2945 (by decide) ?_
  refine WP.iaN (pc := 2946) (a := i) (b := 5) dL_law_2946 ?_
  refine WP.xA (pc := 2947) (i := i + 5) (by omega) (by omega) dL_law_2947 ?_
  refine WP.cVp (pc := 2948) (mc2 := 40 * k) (ms2 := 512 * k) (ci := 9) kL_355 (CX9_joinQueue Γ hm2 hd2 hv.1.1 ((gX Γ).2.2 (i + 1)) ((gX Γ).2.2 (i + 2)) ((gX Γ).2.2 (i + 3)) ((gX Γ).2.2 (i + 4)) ((gX Γ).2.2 (i + 5))) (by decide) rfl hm2.t0 rfl ⟨(Nat.le_of_ble_eq_true rfl), (Nat.le_of_ble_eq_true rfl)⟩ (by omega) (by omega) (Nat.le_of_ble_eq_true rfl) rfl dL_law_2948 (fun v I1 ⟨g1, g2, g3, g4⟩ => ?_)
  have h5 := SI.m hx2 hm2 ho2 g3 g4
  generalize q_joinQueue mm ((gX Γ).2.2 (i + 1)) ((gX Γ).2.2 (i + 2)) ((gX Γ).2.2 (i + 3)) ((gX Γ).2.2 (i + 4)) ((gX Γ).2.2 (i + 5)) = q at *
  refine WP.istore (pc := 2951) dL_law_2951 (Nat.le_of_ble_eq_true rfl) rfl ?_
  refine WP.aload_n (pc := 2953) dL_law_2953 rfl ?_
  refine WP.cV1 (pc := 2954) (mc2 := 40 * k) (ms2 := 512 * k) (ci := 9) kL_175 (CX9_thrown Γ hm2) (by decide) rfl hm2.t0 rfl ⟨(Nat.le_of_ble_eq_true rfl), (Nat.le_of_ble_eq_true rfl)⟩ (by omega) (by omega) (Nat.le_of_ble_eq_true rfl) rfl dL_law_2954 ?_
  rw [g1]
  refine WP.iload (pc := 2957) dL_law_2957 rfl ?_
  refine WP.icmp_eq (pc := 2959) (tgt := 2964) dL_law_2959 (by decide) (fun _ => ?_) (fun c => absurd rfl c)
  refine WP.iload (pc := 2964) dL_law_2964 rfl ?_
  have fin : ∀ L5 L6, WP Γ (12, 260, 40 * k, 512 * k) (ML_law nm) lwO 2981 (lwL Γ x i L5 L6 none none) [] (wI τ I1) := fun L5 L6 => WP.goto (pc := 2981) (tgt := 3458) dL_law_2981 (by decide) (hk _ _ L5 L6 none none h5 hI)
  refine WP.if_ne (pc := 2966) (tgt := 2981) dL_law_2966 (by decide) (fun _ => fin _ _) (fun c => ?_)
  have c0 : q.1 = 0 := (nI_eq (b := 0) (by omega) (by omega)).mp c
  refine WP.aload_n (pc := 2969) dL_law_2969 rfl ?_
  refine WP.iconst (pc := 2970) (v := 0) dL_law_2970 (by decide) ?_
  refine WP.laload (pc := 2971) (a := x + 74) (n := 1) ho2 vp01 dL_law_2971 ?_
  rw [show aL (wI τ I1) (x + 74) (Int32.toNatClampNeg 0) = q.2.1.toInt64 from h4 c0]
  refine WP.iload (pc := 2972) dL_law_2972 rfl ?_
  refine WP.i2l (pc := 2974) dL_law_2974 ?_
  rw [g2 c0]
  refine WP.lcmp (pc := 2975) dL_law_2975 ?_
  exact WP.if_eq (pc := 2976) (tgt := 2981) dL_law_2976 (by decide) (fun _ => fin _ _) (fun c => absurd (lg_self _) c)
set_option maxRecDepth 4000 in
theorem law_c54 (hi : i + 6 ≤ (gX Γ).2.1) (hN : (gX Γ).2.1 ≤ 4000) (hb : bd T C Z) (hs : SI σ x mm) (hv : inv T C Z mm) (hk : nxK Γ nm x i k T C Z) : WP Γ (12, 260, 40 * (k + 1), 512 * (k + 1)) (ML_law nm) lwO 2984 (lwL Γ x i none none none none) [] σ := by
  obtain ⟨hx, hm, hd, ho⟩ := id hs
  have hI : inv (T + 1) (C + 18000) (Z + 2880) (q_sendAway mm ((gX Γ).2.2 (i + 1))).2.2 := q_sendAway_inv hb.T hv ((gX Γ).2.2 (i + 1))
  have hle := qsendAway_le mm ((gX Γ).2.2 (i + 1))
  refine WP.aload_n (pc := 2984) dL_law_2984 rfl ?_
  refine WP.aload_n (pc := 2985) dL_law_2985 rfl ?_
  refine WP.iload (pc := 2986) dL_law_2986 rfl ?_
  refine WP.iconst (pc := 2988) (v := 1) dL_law_2988 (by decide) ?_
  refine WP.iaN (pc := 2989) (a := i) (b := 1) dL_law_2989 ?_
  refine WP.xA (pc := 2990) (i := i + 1) (by omega) (by omega) dL_law_2990 ?_
  refine WP.aload_n (pc := 2991) dL_law_2991 rfl ?_
  refine WP.callSH (pc := 2992) (mc2 := 40 * k) (ms2 := 512 * k) (M' := ML_sendAway) (List.cons_ne_nil _ _) kL_356 (CL_sendAway Γ hx ((gX Γ).2.2 (i + 1)) ho) rfl ⟨(Nat.le_of_ble_eq_true rfl), (Nat.le_of_ble_eq_true rfl)⟩ (by omega) (by omega) (Nat.le_of_ble_eq_true rfl) rfl dL_law_2992 (fun v τ hw => ?_) (fun E τ hw => nomatch hw.1)
  obtain ⟨h1, h2, h3, h4⟩ := hw
  cases h1
  obtain ⟨hx2, hm2, hd2, ho2⟩ := hs.x h2 h3
  refine WP.istore (pc := 2995) dL_law_2995 (Nat.le_of_ble_eq_true rfl) rfl ?_
  refine WP.self ?_
  refine WP.aload_n (pc := 2997) dL_law_2997 rfl ?_
  refine WP.aload_n (pc := 2998) dL_law_2998 rfl ?_
  refine WP.iload (pc := 2999) dL_law_2999 rfl ?_
  refine WP.iconst (pc := 3001) (v := 1) dL_law_3001 (by decide) ?_
  refine WP.iaN (pc := 3002) (a := i) (b := 1) dL_law_3002 ?_
  refine WP.xA (pc := 3003) (i := i + 1) (by omega) (by omega) dL_law_3003 ?_
  refine WP.cVp (pc := 3004) (mc2 := 40 * k) (ms2 := 512 * k) (ci := 9) kL_358 (CX9_sendAway Γ hm2 hd2 hv.1.1 hb.T ((gX Γ).2.2 (i + 1))) (by decide) rfl hm2.t0 rfl ⟨(Nat.le_of_ble_eq_true rfl), (Nat.le_of_ble_eq_true rfl)⟩ (by omega) (by omega) (Nat.le_of_ble_eq_true rfl) rfl dL_law_3004 (fun v I1 ⟨g1, g2, g3, g4⟩ => ?_)
  have h5 := SI.m hx2 hm2 ho2 g3 g4
  generalize q_sendAway mm ((gX Γ).2.2 (i + 1)) = q at *
  refine WP.istore (pc := 3007) dL_law_3007 (Nat.le_of_ble_eq_true rfl) rfl ?_
  refine WP.aload_n (pc := 3009) dL_law_3009 rfl ?_
  refine WP.cV1 (pc := 3010) (mc2 := 40 * k) (ms2 := 512 * k) (ci := 9) kL_175 (CX9_thrown Γ hm2) (by decide) rfl hm2.t0 rfl ⟨(Nat.le_of_ble_eq_true rfl), (Nat.le_of_ble_eq_true rfl)⟩ (by omega) (by omega) (Nat.le_of_ble_eq_true rfl) rfl dL_law_3010 ?_
  rw [g1]
  refine WP.iload (pc := 3013) dL_law_3013 rfl ?_
  refine WP.icmp_eq (pc := 3015) (tgt := 3020) dL_law_3015 (by decide) (fun _ => ?_) (fun c => absurd rfl c)
  refine WP.iload (pc := 3020) dL_law_3020 rfl ?_
  have fin : ∀ L5 L6, WP Γ (12, 260, 40 * k, 512 * k) (ML_law nm) lwO 3037 (lwL Γ x i L5 L6 none none) [] (wI τ I1) := fun L5 L6 => WP.goto (pc := 3037) (tgt := 3458) dL_law_3037 (by decide) (hk _ _ L5 L6 none none h5 hI)
  refine WP.if_ne (pc := 3022) (tgt := 3037) dL_law_3022 (by decide) (fun _ => fin _ _) (fun c => ?_)
  have c0 : q.1 = 0 := (nI_eq (b := 0) (by omega) (by omega)).mp c
  refine WP.aload_n (pc := 3025) dL_law_3025 rfl ?_
  refine WP.iconst (pc := 3026) (v := 0) dL_law_3026 (by decide) ?_
  refine WP.laload (pc := 3027) (a := x + 74) (n := 1) ho2 vp01 dL_law_3027 ?_
  rw [show aL (wI τ I1) (x + 74) (Int32.toNatClampNeg 0) = q.2.1.toInt64 from h4 c0]
  refine WP.iload (pc := 3028) dL_law_3028 rfl ?_
  refine WP.i2l (pc := 3030) dL_law_3030 ?_
  rw [g2 c0]
  refine WP.lcmp (pc := 3031) dL_law_3031 ?_
  exact WP.if_eq (pc := 3032) (tgt := 3037) dL_law_3032 (by decide) (fun _ => fin _ _) (fun c => absurd (lg_self _) c)
set_option maxRecDepth 4000 in
theorem law_c55 (hi : i + 6 ≤ (gX Γ).2.1) (hN : (gX Γ).2.1 ≤ 4000) (hb : bd T C Z) (hs : SI σ x mm) (hv : inv T C Z mm) (hk : nxK Γ nm x i k T C Z) : WP Γ (12, 260, 40 * (k + 1), 512 * (k + 1)) (ML_law nm) lwO 3040 (lwL Γ x i none none none none) [] σ := by
  obtain ⟨hx, hm, hd, ho⟩ := id hs
  have hI : inv (T + 1) (C + 18000) (Z + 2880) (q_setBasePrice mm ((gX Γ).2.2 (i + 1)) ((gX Γ).2.2 (i + 2))).2.2 := q_setBasePrice_inv hv ((gX Γ).2.2 (i + 1)) ((gX Γ).2.2 (i + 2))
  have hle := qsetBasePrice_le mm ((gX Γ).2.2 (i + 1)) ((gX Γ).2.2 (i + 2))
  refine WP.aload_n (pc := 3040) dL_law_3040 rfl ?_
  refine WP.aload_n (pc := 3041) dL_law_3041 rfl ?_
  refine WP.iload (pc := 3042) dL_law_3042 rfl ?_
  refine WP.iconst (pc := 3044) (v := 1) dL_law_3044 (by decide) ?_
  refine WP.iaN (pc := 3045) (a := i) (b := 1) dL_law_3045 ?_
  refine WP.xA (pc := 3046) (i := i + 1) (by omega) (by omega) dL_law_3046 ?_
  refine WP.aload_n (pc := 3047) dL_law_3047 rfl ?_
  refine WP.iload (pc := 3048) dL_law_3048 rfl ?_
  refine WP.iconst (pc := 3050) (v := 2) dL_law_3050 (by decide) ?_
  refine WP.iaN (pc := 3051) (a := i) (b := 2) dL_law_3051 ?_
  refine WP.xA (pc := 3052) (i := i + 2) (by omega) (by omega) dL_law_3052 ?_
  refine WP.aload_n (pc := 3053) dL_law_3053 rfl ?_
  refine WP.callSH (pc := 3054) (mc2 := 40 * k) (ms2 := 512 * k) (M' := ML_setBasePrice) (List.cons_ne_nil _ _) kL_359 (CL_setBasePrice Γ hx ((gX Γ).2.2 (i + 1)) ((gX Γ).2.2 (i + 2)) ho) rfl ⟨(Nat.le_of_ble_eq_true rfl), (Nat.le_of_ble_eq_true rfl)⟩ (by omega) (by omega) (Nat.le_of_ble_eq_true rfl) rfl dL_law_3054 (fun v τ hw => ?_) (fun E τ hw => nomatch hw.1)
  obtain ⟨h1, h2, h3, h4⟩ := hw
  cases h1
  obtain ⟨hx2, hm2, hd2, ho2⟩ := hs.x h2 h3
  refine WP.istore (pc := 3057) dL_law_3057 (Nat.le_of_ble_eq_true rfl) rfl ?_
  refine WP.self ?_
  refine WP.aload_n (pc := 3059) dL_law_3059 rfl ?_
  refine WP.aload_n (pc := 3060) dL_law_3060 rfl ?_
  refine WP.iload (pc := 3061) dL_law_3061 rfl ?_
  refine WP.iconst (pc := 3063) (v := 1) dL_law_3063 (by decide) ?_
  refine WP.iaN (pc := 3064) (a := i) (b := 1) dL_law_3064 ?_
  refine WP.xA (pc := 3065) (i := i + 1) (by omega) (by omega) dL_law_3065 ?_
  refine WP.aload_n (pc := 3066) dL_law_3066 rfl ?_
  refine WP.iload (pc := 3067) dL_law_3067 rfl ?_
  refine WP.iconst (pc := 3069) (v := 2) dL_law_3069 (by decide) ?_
  refine WP.iaN (pc := 3070) (a := i) (b := 2) dL_law_3070 ?_
  refine WP.xA (pc := 3071) (i := i + 2) (by omega) (by omega) dL_law_3071 ?_
  refine WP.cVp (pc := 3072) (mc2 := 40 * k) (ms2 := 512 * k) (ci := 9) kL_361 (CX9_setBasePrice Γ hm2 hd2 ((gX Γ).2.2 (i + 1)) ((gX Γ).2.2 (i + 2))) (by decide) rfl hm2.t0 rfl ⟨(Nat.le_of_ble_eq_true rfl), (Nat.le_of_ble_eq_true rfl)⟩ (by omega) (by omega) (Nat.le_of_ble_eq_true rfl) rfl dL_law_3072 (fun v I1 ⟨g1, g2, g3, g4⟩ => ?_)
  have h5 := SI.m hx2 hm2 ho2 g3 g4
  generalize q_setBasePrice mm ((gX Γ).2.2 (i + 1)) ((gX Γ).2.2 (i + 2)) = q at *
  refine WP.istore (pc := 3075) dL_law_3075 (Nat.le_of_ble_eq_true rfl) rfl ?_
  refine WP.aload_n (pc := 3077) dL_law_3077 rfl ?_
  refine WP.cV1 (pc := 3078) (mc2 := 40 * k) (ms2 := 512 * k) (ci := 9) kL_175 (CX9_thrown Γ hm2) (by decide) rfl hm2.t0 rfl ⟨(Nat.le_of_ble_eq_true rfl), (Nat.le_of_ble_eq_true rfl)⟩ (by omega) (by omega) (Nat.le_of_ble_eq_true rfl) rfl dL_law_3078 ?_
  rw [g1]
  refine WP.iload (pc := 3081) dL_law_3081 rfl ?_
  refine WP.icmp_eq (pc := 3083) (tgt := 3088) dL_law_3083 (by decide) (fun _ => ?_) (fun c => absurd rfl c)
  refine WP.iload (pc := 3088) dL_law_3088 rfl ?_
  have fin : ∀ L5 L6, WP Γ (12, 260, 40 * k, 512 * k) (ML_law nm) lwO 3105 (lwL Γ x i L5 L6 none none) [] (wI τ I1) := fun L5 L6 => WP.goto (pc := 3105) (tgt := 3458) dL_law_3105 (by decide) (hk _ _ L5 L6 none none h5 hI)
  refine WP.if_ne (pc := 3090) (tgt := 3105) dL_law_3090 (by decide) (fun _ => fin _ _) (fun c => ?_)
  have c0 : q.1 = 0 := (nI_eq (b := 0) (by omega) (by omega)).mp c
  refine WP.aload_n (pc := 3093) dL_law_3093 rfl ?_
  refine WP.iconst (pc := 3094) (v := 0) dL_law_3094 (by decide) ?_
  refine WP.laload (pc := 3095) (a := x + 74) (n := 1) ho2 vp01 dL_law_3095 ?_
  rw [show aL (wI τ I1) (x + 74) (Int32.toNatClampNeg 0) = q.2.1.toInt64 from h4 c0]
  refine WP.iload (pc := 3096) dL_law_3096 rfl ?_
  refine WP.i2l (pc := 3098) dL_law_3098 ?_
  rw [g2 c0]
  refine WP.lcmp (pc := 3099) dL_law_3099 ?_
  exact WP.if_eq (pc := 3100) (tgt := 3105) dL_law_3100 (by decide) (fun _ => fin _ _) (fun c => absurd (lg_self _) c)
end T
