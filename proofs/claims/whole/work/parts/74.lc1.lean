-- behind: 73.law0 71.dl1 71.dl2 71.dl3 71.dl4 71.dl5 71.dl6 71.dl7 71.dl8
-- what one call of the script does, on both sides
section T
variable (Γ : cG) {nm : String × List (Nat × Nat × Nat × Nat)} {σ : cAS} {x i k T C Z : Nat} {mm : mX}
set_option maxRecDepth 4000 in
theorem law_c8 (hi : i + 6 ≤ (gX Γ).2.1) (hN : (gX Γ).2.1 ≤ 4000) (hb : bd T C Z) (hs : SI σ x mm) (hv : inv T C Z mm) (hk : nxK Γ nm x i k T C Z) : WP Γ (12, 260, 40 * (k + 1), 512 * (k + 1)) (ML_law nm) lwO 581 (lwL Γ x i none none none none) [] σ := by
  obtain ⟨hx, hm, hd, ho⟩ := id hs
  have hI : inv (T + 1) (C + 18000) (Z + 2880) (q_loafCount mm).2.2 := hv.up
  refine WP.aload_n (pc := 581) dL_law_581 rfl ?_
  refine WP.cXO (pc := 582) (mc2 := 40 * k) (ms2 := 512 * k) kL_206 (CX8_loafCount Γ hx) rfl hx.1.t0 rfl ⟨(Nat.le_of_ble_eq_true rfl), (Nat.le_of_ble_eq_true rfl)⟩ (by omega) (by omega) (Nat.le_of_ble_eq_true rfl) rfl dL_law_582 (fun τ h0 h2 h3 => ?_) (fun τ t h0 _ _ => absurd (show (0 : Nat) = t + 1 from h0) (by omega))
  obtain ⟨hx2, hm2, hd2, ho2⟩ := hs.x h2 (fun a c1 c2 => ⟨(h3 a c1 c2).1, (h3 a c1 c2).2.1, (h3 a c1 c2).2.2.1⟩)
  refine WP.self ?_
  refine WP.aload_n (pc := 585) dL_law_585 rfl ?_
  refine WP.cVp (pc := 586) (mc2 := 40 * k) (ms2 := 512 * k) (ci := 9) kL_209 (CX9_loafCount Γ hm2 hd2) (by decide) rfl hm2.t0 rfl ⟨(Nat.le_of_ble_eq_true rfl), (Nat.le_of_ble_eq_true rfl)⟩ (by omega) (by omega) (Nat.le_of_ble_eq_true rfl) rfl dL_law_586 (fun v I1 ⟨g1, g2, g3, g4⟩ => ?_)
  have h5 := SI.m hx2 hm2 ho2 g3 g4
  exact WP.icmp_eq (pc := 589) (tgt := 3458) dL_law_589 (by decide) (fun _ => hk _ _ none none none none h5 hI) (fun c => absurd (g2 h0).symm c)
set_option maxRecDepth 4000 in
theorem law_c9 (hi : i + 6 ≤ (gX Γ).2.1) (hN : (gX Γ).2.1 ≤ 4000) (hb : bd T C Z) (hs : SI σ x mm) (hv : inv T C Z mm) (hk : nxK Γ nm x i k T C Z) : WP Γ (12, 260, 40 * (k + 1), 512 * (k + 1)) (ML_law nm) lwO 594 (lwL Γ x i none none none none) [] σ := by
  obtain ⟨hx, hm, hd, ho⟩ := id hs
  have hI : inv (T + 1) (C + 18000) (Z + 2880) (q_crumbs mm).2.2 := hv.up
  refine WP.aload_n (pc := 594) dL_law_594 rfl ?_
  refine WP.cXO (pc := 595) (mc2 := 40 * k) (ms2 := 512 * k) kL_210 (CX8_crumbs Γ hx) rfl hx.1.t0 rfl ⟨(Nat.le_of_ble_eq_true rfl), (Nat.le_of_ble_eq_true rfl)⟩ (by omega) (by omega) (Nat.le_of_ble_eq_true rfl) rfl dL_law_595 (fun τ h0 h2 h3 => ?_) (fun τ t h0 _ _ => absurd (show (0 : Nat) = t + 1 from h0) (by omega))
  obtain ⟨hx2, hm2, hd2, ho2⟩ := hs.x h2 (fun a c1 c2 => ⟨(h3 a c1 c2).1, (h3 a c1 c2).2.1, (h3 a c1 c2).2.2.1⟩)
  refine WP.self ?_
  refine WP.aload_n (pc := 598) dL_law_598 rfl ?_
  refine WP.cVp (pc := 599) (mc2 := 40 * k) (ms2 := 512 * k) (ci := 9) kL_213 (CX9_crumbs Γ hm2 hd2) (by decide) rfl hm2.t0 rfl ⟨(Nat.le_of_ble_eq_true rfl), (Nat.le_of_ble_eq_true rfl)⟩ (by omega) (by omega) (Nat.le_of_ble_eq_true rfl) rfl dL_law_599 (fun v I1 ⟨g1, g2, g3, g4⟩ => ?_)
  have h5 := SI.m hx2 hm2 ho2 g3 g4
  exact WP.icmp_eq (pc := 602) (tgt := 3458) dL_law_602 (by decide) (fun _ => hk _ _ none none none none h5 hI) (fun c => absurd (g2 h0).symm c)
set_option maxRecDepth 4000 in
theorem law_c10 (hi : i + 6 ≤ (gX Γ).2.1) (hN : (gX Γ).2.1 ≤ 4000) (hb : bd T C Z) (hs : SI σ x mm) (hv : inv T C Z mm) (hk : nxK Γ nm x i k T C Z) : WP Γ (12, 260, 40 * (k + 1), 512 * (k + 1)) (ML_law nm) lwO 607 (lwL Γ x i none none none none) [] σ := by
  obtain ⟨hx, hm, hd, ho⟩ := id hs
  have hI : inv (T + 1) (C + 18000) (Z + 2880) (q_sparrows mm).2.2 := hv.up
  refine WP.aload_n (pc := 607) dL_law_607 rfl ?_
  refine WP.cXO (pc := 608) (mc2 := 40 * k) (ms2 := 512 * k) kL_214 (CX8_sparrows Γ hx) rfl hx.1.t0 rfl ⟨(Nat.le_of_ble_eq_true rfl), (Nat.le_of_ble_eq_true rfl)⟩ (by omega) (by omega) (Nat.le_of_ble_eq_true rfl) rfl dL_law_608 (fun τ h0 h2 h3 => ?_) (fun τ t h0 _ _ => absurd (show (0 : Nat) = t + 1 from h0) (by omega))
  obtain ⟨hx2, hm2, hd2, ho2⟩ := hs.x h2 (fun a c1 c2 => ⟨(h3 a c1 c2).1, (h3 a c1 c2).2.1, (h3 a c1 c2).2.2.1⟩)
  refine WP.self ?_
  refine WP.aload_n (pc := 611) dL_law_611 rfl ?_
  refine WP.cVp (pc := 612) (mc2 := 40 * k) (ms2 := 512 * k) (ci := 9) kL_217 (CX9_sparrows Γ hm2 hd2) (by decide) rfl hm2.t0 rfl ⟨(Nat.le_of_ble_eq_true rfl), (Nat.le_of_ble_eq_true rfl)⟩ (by omega) (by omega) (Nat.le_of_ble_eq_true rfl) rfl dL_law_612 (fun v I1 ⟨g1, g2, g3, g4⟩ => ?_)
  have h5 := SI.m hx2 hm2 ho2 g3 g4
  exact WP.icmp_eq (pc := 615) (tgt := 3458) dL_law_615 (by decide) (fun _ => hk _ _ none none none none h5 hI) (fun c => absurd (g2 h0).symm c)
set_option maxRecDepth 4000 in
theorem law_c11 (hi : i + 6 ≤ (gX Γ).2.1) (hN : (gX Γ).2.1 ≤ 4000) (hb : bd T C Z) (hs : SI σ x mm) (hv : inv T C Z mm) (hk : nxK Γ nm x i k T C Z) : WP Γ (12, 260, 40 * (k + 1), 512 * (k + 1)) (ML_law nm) lwO 620 (lwL Γ x i none none none none) [] σ := by
  obtain ⟨hx, hm, hd, ho⟩ := id hs
  have hI : inv (T + 1) (C + 18000) (Z + 2880) (q_bakerNameByte mm ((gX Γ).2.2 (i + 1)) ((gX Γ).2.2 (i + 2))).2.2 := by
    unfold q_bakerNameByte
    repeat' split
    all_goals exact hv.up
  have hle := qbakerNameByte_le mm ((gX Γ).2.2 (i + 1)) ((gX Γ).2.2 (i + 2))
  refine WP.aload_n (pc := 620) dL_law_620 rfl ?_
  refine WP.aload_n (pc := 621) dL_law_621 rfl ?_
  refine WP.iload (pc := 622) dL_law_622 rfl ?_
  refine WP.iconst (pc := 624) (v := 1) dL_law_624 (by decide) ?_
  refine WP.iaN (pc := 625) (a := i) (b := 1) dL_law_625 ?_
  refine WP.xA (pc := 626) (i := i + 1) (by omega) (by omega) dL_law_626 ?_
  refine WP.aload_n (pc := 627) dL_law_627 rfl ?_
  refine WP.iload (pc := 628) dL_law_628 rfl ?_
  refine WP.iconst (pc := 630) (v := 2) dL_law_630 (by decide) ?_
  refine WP.iaN (pc := 631) (a := i) (b := 2) dL_law_631 ?_
  refine WP.xA (pc := 632) (i := i + 2) (by omega) (by omega) dL_law_632 ?_
  refine WP.aload_n (pc := 633) dL_law_633 rfl ?_
  refine WP.callSH (pc := 634) (mc2 := 40 * k) (ms2 := 512 * k) (M' := ML_bakerNameByte) (List.cons_ne_nil _ _) kL_218 (CL_bakerNameByte Γ hx ((gX Γ).2.2 (i + 1)) ((gX Γ).2.2 (i + 2)) ho) rfl ⟨(Nat.le_of_ble_eq_true rfl), (Nat.le_of_ble_eq_true rfl)⟩ (by omega) (by omega) (Nat.le_of_ble_eq_true rfl) rfl dL_law_634 (fun v τ hw => ?_) (fun E τ hw => nomatch hw.1)
  obtain ⟨h1, h2, h3, h4⟩ := hw
  cases h1
  obtain ⟨hx2, hm2, hd2, ho2⟩ := hs.x h2 h3
  refine WP.istore (pc := 637) dL_law_637 (Nat.le_of_ble_eq_true rfl) rfl ?_
  refine WP.self ?_
  refine WP.aload_n (pc := 639) dL_law_639 rfl ?_
  refine WP.aload_n (pc := 640) dL_law_640 rfl ?_
  refine WP.iload (pc := 641) dL_law_641 rfl ?_
  refine WP.iconst (pc := 643) (v := 1) dL_law_643 (by decide) ?_
  refine WP.iaN (pc := 644) (a := i) (b := 1) dL_law_644 ?_
  refine WP.xA (pc := 645) (i := i + 1) (by omega) (by omega) dL_law_645 ?_
  refine WP.aload_n (pc := 646) dL_law_646 rfl ?_
  refine WP.iload (pc := 647) dL_law_647 rfl ?_
  refine WP.iconst (pc := 649) (v := 2) dL_law_649 (by decide) ?_
  refine WP.iaN (pc := 650) (a := i) (b := 2) dL_law_650 ?_
  refine WP.xA (pc := 651) (i := i + 2) (by omega) (by omega) dL_law_651 ?_
  refine WP.cVp (pc := 652) (mc2 := 40 * k) (ms2 := 512 * k) (ci := 9) kL_221 (CX9_bakerNameByte Γ hm2 hd2 hv.1.1 ((gX Γ).2.2 (i + 1)) ((gX Γ).2.2 (i + 2))) (by decide) rfl hm2.t0 rfl ⟨(Nat.le_of_ble_eq_true rfl), (Nat.le_of_ble_eq_true rfl)⟩ (by omega) (by omega) (Nat.le_of_ble_eq_true rfl) rfl dL_law_652 (fun v I1 ⟨g1, g2, g3, g4⟩ => ?_)
  have h5 := SI.m hx2 hm2 ho2 g3 g4
  generalize q_bakerNameByte mm ((gX Γ).2.2 (i + 1)) ((gX Γ).2.2 (i + 2)) = q at *
  refine WP.istore (pc := 655) dL_law_655 (Nat.le_of_ble_eq_true rfl) rfl ?_
  refine WP.aload_n (pc := 657) dL_law_657 rfl ?_
  refine WP.cV1 (pc := 658) (mc2 := 40 * k) (ms2 := 512 * k) (ci := 9) kL_175 (CX9_thrown Γ hm2) (by decide) rfl hm2.t0 rfl ⟨(Nat.le_of_ble_eq_true rfl), (Nat.le_of_ble_eq_true rfl)⟩ (by omega) (by omega) (Nat.le_of_ble_eq_true rfl) rfl dL_law_658 ?_
  rw [g1]
  refine WP.iload (pc := 661) dL_law_661 rfl ?_
  refine WP.icmp_eq (pc := 663) (tgt := 668) dL_law_663 (by decide) (fun _ => ?_) (fun c => absurd rfl c)
  refine WP.iload (pc := 668) dL_law_668 rfl ?_
  have fin : ∀ L5 L6, WP Γ (12, 260, 40 * k, 512 * k) (ML_law nm) lwO 685 (lwL Γ x i L5 L6 none none) [] (wI τ I1) := fun L5 L6 => WP.goto (pc := 685) (tgt := 3458) dL_law_685 (by decide) (hk _ _ L5 L6 none none h5 hI)
  refine WP.if_ne (pc := 670) (tgt := 685) dL_law_670 (by decide) (fun _ => fin _ _) (fun c => ?_)
  have c0 : q.1 = 0 := (nI_eq (b := 0) (by omega) (by omega)).mp c
  refine WP.aload_n (pc := 673) dL_law_673 rfl ?_
  refine WP.iconst (pc := 674) (v := 0) dL_law_674 (by decide) ?_
  refine WP.laload (pc := 675) (a := x + 74) (n := 1) ho2 vp01 dL_law_675 ?_
  rw [show aL (wI τ I1) (x + 74) (Int32.toNatClampNeg 0) = q.2.1.toInt64 from h4 c0]
  refine WP.iload (pc := 676) dL_law_676 rfl ?_
  refine WP.i2l (pc := 678) dL_law_678 ?_
  rw [g2 c0]
  refine WP.lcmp (pc := 679) dL_law_679 ?_
  exact WP.if_eq (pc := 680) (tgt := 685) dL_law_680 (by decide) (fun _ => fin _ _) (fun c => absurd (lg_self _) c)
set_option maxRecDepth 4000 in
theorem law_c12 (hi : i + 6 ≤ (gX Γ).2.1) (hN : (gX Γ).2.1 ≤ 4000) (hb : bd T C Z) (hs : SI σ x mm) (hv : inv T C Z mm) (hk : nxK Γ nm x i k T C Z) : WP Γ (12, 260, 40 * (k + 1), 512 * (k + 1)) (ML_law nm) lwO 688 (lwL Γ x i none none none none) [] σ := by
  obtain ⟨hx, hm, hd, ho⟩ := id hs
  have hI : inv (T + 1) (C + 18000) (Z + 2880) (q_ovenSize mm ((gX Γ).2.2 (i + 1))).2.2 := by
    unfold q_ovenSize
    repeat' split
    all_goals exact hv.up
  have hle := qovenSize_le mm ((gX Γ).2.2 (i + 1))
  refine WP.aload_n (pc := 688) dL_law_688 rfl ?_
  refine WP.aload_n (pc := 689) dL_law_689 rfl ?_
  refine WP.iload (pc := 690) dL_law_690 rfl ?_
  refine WP.iconst (pc := 692) (v := 1) dL_law_692 (by decide) ?_
  refine WP.iaN (pc := 693) (a := i) (b := 1) dL_law_693 ?_
  refine WP.xA (pc := 694) (i := i + 1) (by omega) (by omega) dL_law_694 ?_
  refine WP.aload_n (pc := 695) dL_law_695 rfl ?_
  refine WP.callSH (pc := 696) (mc2 := 40 * k) (ms2 := 512 * k) (M' := ML_ovenSize) (List.cons_ne_nil _ _) kL_222 (CL_ovenSize Γ hx ((gX Γ).2.2 (i + 1)) ho) rfl ⟨(Nat.le_of_ble_eq_true rfl), (Nat.le_of_ble_eq_true rfl)⟩ (by omega) (by omega) (Nat.le_of_ble_eq_true rfl) rfl dL_law_696 (fun v τ hw => ?_) (fun E τ hw => nomatch hw.1)
  obtain ⟨h1, h2, h3, h4⟩ := hw
  cases h1
  obtain ⟨hx2, hm2, hd2, ho2⟩ := hs.x h2 h3
  refine WP.istore (pc := 699) dL_law_699 (Nat.le_of_ble_eq_true rfl) rfl ?_
  refine WP.self ?_
  refine WP.aload_n (pc := 701) dL_law_701 rfl ?_
  refine WP.aload_n (pc := 702) dL_law_702 rfl ?_
  refine WP.iload (pc := 703) dL_law_703 rfl ?_
  refine WP.iconst (pc := 705) (v := 1) dL_law_705 (by decide) ?_
  refine WP.iaN (pc := 706) (a := i) (b := 1) dL_law_706 ?_
  refine WP.xA (pc := 707) (i := i + 1) (by omega) (by omega) dL_law_707 ?_
  refine WP.cVp (pc := 708) (mc2 := 40 * k) (ms2 := 512 * k) (ci := 9) kL_224 (CX9_ovenSize Γ hm2 hd2 ((gX Γ).2.2 (i + 1))) (by decide) rfl hm2.t0 rfl ⟨(Nat.le_of_ble_eq_true rfl), (Nat.le_of_ble_eq_true rfl)⟩ (by omega) (by omega) (Nat.le_of_ble_eq_true rfl) rfl dL_law_708 (fun v I1 ⟨g1, g2, g3, g4⟩ => ?_)
  have h5 := SI.m hx2 hm2 ho2 g3 g4
  generalize q_ovenSize mm ((gX Γ).2.2 (i + 1)) = q at *
  refine WP.istore (pc := 711) dL_law_711 (Nat.le_of_ble_eq_true rfl) rfl ?_
  refine WP.aload_n (pc := 713) dL_law_713 rfl ?_
  refine WP.cV1 (pc := 714) (mc2 := 40 * k) (ms2 := 512 * k) (ci := 9) kL_175 (CX9_thrown Γ hm2) (by decide) rfl hm2.t0 rfl ⟨(Nat.le_of_ble_eq_true rfl), (Nat.le_of_ble_eq_true rfl)⟩ (by omega) (by omega) (Nat.le_of_ble_eq_true rfl) rfl dL_law_714 ?_
  rw [g1]
  refine WP.iload (pc := 717) dL_law_717 rfl ?_
  refine WP.icmp_eq (pc := 719) (tgt := 724) dL_law_719 (by decide) (fun _ => ?_) (fun c => absurd rfl c)
  refine WP.iload (pc := 724) dL_law_724 rfl ?_
  have fin : ∀ L5 L6, WP Γ (12, 260, 40 * k, 512 * k) (ML_law nm) lwO 741 (lwL Γ x i L5 L6 none none) [] (wI τ I1) := fun L5 L6 => WP.goto (pc := 741) (tgt := 3458) dL_law_741 (by decide) (hk _ _ L5 L6 none none h5 hI)
  refine WP.if_ne (pc := 726) (tgt := 741) dL_law_726 (by decide) (fun _ => fin _ _) (fun c => ?_)
  have c0 : q.1 = 0 := (nI_eq (b := 0) (by omega) (by omega)).mp c
  refine WP.aload_n (pc := 729) dL_law_729 rfl ?_
  refine WP.iconst (pc := 730) (v := 0) dL_law_730 (by decide) ?_
  refine WP.laload (pc := 731) (a := x + 74) (n := 1) ho2 vp01 dL_law_731 ?_
  rw [show aL (wI τ I1) (x + 74) (Int32.toNatClampNeg 0) = q.2.1.toInt64 from h4 c0]
  refine WP.iload (pc := 732) dL_law_732 rfl ?_
  refine WP.i2l (pc := 734) dL_law_734 ?_
  rw [g2 c0]
  refine WP.lcmp (pc := 735) dL_law_735 ?_
  exact WP.if_eq (pc := 736) (tgt := 741) dL_law_736 (by decide) (fun _ => fin _ _) (fun c => absurd (lg_self _) c)
set_option maxRecDepth 4000 in
theorem law_c13 (hi : i + 6 ≤ (gX Γ).2.1) (hN : (gX Γ).2.1 ≤ 4000) (hb : bd T C Z) (hs : SI σ x mm) (hv : inv T C Z mm) (hk : nxK Γ nm x i k T C Z) : WP Γ (12, 260, 40 * (k + 1), 512 * (k + 1)) (ML_law nm) lwO 744 (lwL Γ x i none none none none) [] σ := by
  obtain ⟨hx, hm, hd, ho⟩ := id hs
  have hI : inv (T + 1) (C + 18000) (Z + 2880) (q_bakingKind mm ((gX Γ).2.2 (i + 1))).2.2 := by
    unfold q_bakingKind
    repeat' split
    all_goals exact hv.up
  have hle := qbakingKind_le mm ((gX Γ).2.2 (i + 1))
  refine WP.aload_n (pc := 744) dL_law_744 rfl ?_
  refine WP.aload_n (pc := 745) dL_law_745 rfl ?_
  refine WP.iload (pc := 746) dL_law_746 rfl ?_
  refine WP.iconst (pc := 748) (v := 1) dL_law_748 (by decide) ?_
  refine WP.iaN (pc := 749) (a := i) (b := 1) dL_law_749 ?_
  refine WP.xA (pc := 750) (i := i + 1) (by omega) (by omega) dL_law_750 ?_
  refine WP.aload_n (pc := 751) dL_law_751 rfl ?_
  refine WP.callSH (pc := 752) (mc2 := 40 * k) (ms2 := 512 * k) (M' := ML_bakingKind) (List.cons_ne_nil _ _) kL_225 (CL_bakingKind Γ hx ((gX Γ).2.2 (i + 1)) ho) rfl ⟨(Nat.le_of_ble_eq_true rfl), (Nat.le_of_ble_eq_true rfl)⟩ (by omega) (by omega) (Nat.le_of_ble_eq_true rfl) rfl dL_law_752 (fun v τ hw => ?_) (fun E τ hw => nomatch hw.1)
  obtain ⟨h1, h2, h3, h4⟩ := hw
  cases h1
  obtain ⟨hx2, hm2, hd2, ho2⟩ := hs.x h2 h3
  refine WP.istore (pc := 755) dL_law_755 (Nat.le_of_ble_eq_true rfl) rfl ?_
  refine WP.self ?_
  refine WP.aload_n (pc := 757) dL_law_757 rfl ?_
  refine WP.aload_n (pc := 758) dL_law_758 rfl ?_
  refine WP.iload (pc := 759) dL_law_759 rfl ?_
  refine WP.iconst (pc := 761) (v := 1) dL_law_761 (by decide) ?_
  refine WP.iaN (pc := 762) (a := i) (b := 1) dL_law_762 ?_
  refine WP.xA (pc := 763) (i := i + 1) (by omega) (by omega) dL_law_763 ?_
  refine WP.cVp (pc := 764) (mc2 := 40 * k) (ms2 := 512 * k) (ci := 9) kL_227 (CX9_bakingKind Γ hm2 hd2 hv.1.1 ((gX Γ).2.2 (i + 1))) (by decide) rfl hm2.t0 rfl ⟨(Nat.le_of_ble_eq_true rfl), (Nat.le_of_ble_eq_true rfl)⟩ (by omega) (by omega) (Nat.le_of_ble_eq_true rfl) rfl dL_law_764 (fun v I1 ⟨g1, g2, g3, g4⟩ => ?_)
  have h5 := SI.m hx2 hm2 ho2 g3 g4
  generalize q_bakingKind mm ((gX Γ).2.2 (i + 1)) = q at *
  refine WP.istore (pc := 767) dL_law_767 (Nat.le_of_ble_eq_true rfl) rfl ?_
  refine WP.aload_n (pc := 769) dL_law_769 rfl ?_
  refine WP.cV1 (pc := 770) (mc2 := 40 * k) (ms2 := 512 * k) (ci := 9) kL_175 (CX9_thrown Γ hm2) (by decide) rfl hm2.t0 rfl ⟨(Nat.le_of_ble_eq_true rfl), (Nat.le_of_ble_eq_true rfl)⟩ (by omega) (by omega) (Nat.le_of_ble_eq_true rfl) rfl dL_law_770 ?_
  rw [g1]
  refine WP.iload (pc := 773) dL_law_773 rfl ?_
  refine WP.icmp_eq (pc := 775) (tgt := 780) dL_law_775 (by decide) (fun _ => ?_) (fun c => absurd rfl c)
  refine WP.iload (pc := 780) dL_law_780 rfl ?_
  have fin : ∀ L5 L6, WP Γ (12, 260, 40 * k, 512 * k) (ML_law nm) lwO 797 (lwL Γ x i L5 L6 none none) [] (wI τ I1) := fun L5 L6 => WP.goto (pc := 797) (tgt := 3458) dL_law_797 (by decide) (hk _ _ L5 L6 none none h5 hI)
  refine WP.if_ne (pc := 782) (tgt := 797) dL_law_782 (by decide) (fun _ => fin _ _) (fun c => ?_)
  have c0 : q.1 = 0 := (nI_eq (b := 0) (by omega) (by omega)).mp c
  refine WP.aload_n (pc := 785) dL_law_785 rfl ?_
  refine WP.iconst (pc := 786) (v := 0) dL_law_786 (by decide) ?_
  refine WP.laload (pc := 787) (a := x + 74) (n := 1) ho2 vp01 dL_law_787 ?_
  rw [show aL (wI τ I1) (x + 74) (Int32.toNatClampNeg 0) = q.2.1.toInt64 from h4 c0]
  refine WP.iload (pc := 788) dL_law_788 rfl ?_
  refine WP.i2l (pc := 790) dL_law_790 ?_
  rw [g2 c0]
  refine WP.lcmp (pc := 791) dL_law_791 ?_
  exact WP.if_eq (pc := 792) (tgt := 797) dL_law_792 (by decide) (fun _ => fin _ _) (fun c => absurd (lg_self _) c)
set_option maxRecDepth 4000 in
theorem law_c14 (hi : i + 6 ≤ (gX Γ).2.1) (hN : (gX Γ).2.1 ≤ 4000) (hb : bd T C Z) (hs : SI σ x mm) (hv : inv T C Z mm) (hk : nxK Γ nm x i k T C Z) : WP Γ (12, 260, 40 * (k + 1), 512 * (k + 1)) (ML_law nm) lwO 800 (lwL Γ x i none none none none) [] σ := by
  obtain ⟨hx, hm, hd, ho⟩ := id hs
  have hI : inv (T + 1) (C + 18000) (Z + 2880) (q_hoursLeft mm ((gX Γ).2.2 (i + 1))).2.2 := by
    unfold q_hoursLeft
    repeat' split
    all_goals exact hv.up
  have hle := qhoursLeft_le mm ((gX Γ).2.2 (i + 1))
  refine WP.aload_n (pc := 800) dL_law_800 rfl ?_
  refine WP.aload_n (pc := 801) dL_law_801 rfl ?_
  refine WP.iload (pc := 802) dL_law_802 rfl ?_
  refine WP.iconst (pc := 804) (v := 1) dL_law_804 (by decide) ?_
  refine WP.iaN (pc := 805) (a := i) (b := 1) dL_law_805 ?_
  refine WP.xA (pc := 806) (i := i + 1) (by omega) (by omega) dL_law_806 ?_
  refine WP.aload_n (pc := 807) dL_law_807 rfl ?_
  refine WP.callSH (pc := 808) (mc2 := 40 * k) (ms2 := 512 * k) (M' := ML_hoursLeft) (List.cons_ne_nil _ _) kL_228 (CL_hoursLeft Γ hx ((gX Γ).2.2 (i + 1)) ho) rfl ⟨(Nat.le_of_ble_eq_true rfl), (Nat.le_of_ble_eq_true rfl)⟩ (by omega) (by omega) (Nat.le_of_ble_eq_true rfl) rfl dL_law_808 (fun v τ hw => ?_) (fun E τ hw => nomatch hw.1)
  obtain ⟨h1, h2, h3, h4⟩ := hw
  cases h1
  obtain ⟨hx2, hm2, hd2, ho2⟩ := hs.x h2 h3
  refine WP.istore (pc := 811) dL_law_811 (Nat.le_of_ble_eq_true rfl) rfl ?_
  refine WP.self ?_
  refine WP.aload_n (pc := 813) dL_law_813 rfl ?_
  refine WP.aload_n (pc := 814) dL_law_814 rfl ?_
  refine WP.iload (pc := 815) dL_law_815 rfl ?_
  refine WP.iconst (pc := 817) (v := 1) dL_law_817 (by decide) ?_
  refine WP.iaN (pc := 818) (a := i) (b := 1) dL_law_818 ?_
  refine WP.xA (pc := 819) (i := i + 1) (by omega) (by omega) dL_law_819 ?_
  refine WP.cVp (pc := 820) (mc2 := 40 * k) (ms2 := 512 * k) (ci := 9) kL_230 (CX9_hoursLeft Γ hm2 hd2 ((gX Γ).2.2 (i + 1))) (by decide) rfl hm2.t0 rfl ⟨(Nat.le_of_ble_eq_true rfl), (Nat.le_of_ble_eq_true rfl)⟩ (by omega) (by omega) (Nat.le_of_ble_eq_true rfl) rfl dL_law_820 (fun v I1 ⟨g1, g2, g3, g4⟩ => ?_)
  have h5 := SI.m hx2 hm2 ho2 g3 g4
  generalize q_hoursLeft mm ((gX Γ).2.2 (i + 1)) = q at *
  refine WP.istore (pc := 823) dL_law_823 (Nat.le_of_ble_eq_true rfl) rfl ?_
  refine WP.aload_n (pc := 825) dL_law_825 rfl ?_
  refine WP.cV1 (pc := 826) (mc2 := 40 * k) (ms2 := 512 * k) (ci := 9) kL_175 (CX9_thrown Γ hm2) (by decide) rfl hm2.t0 rfl ⟨(Nat.le_of_ble_eq_true rfl), (Nat.le_of_ble_eq_true rfl)⟩ (by omega) (by omega) (Nat.le_of_ble_eq_true rfl) rfl dL_law_826 ?_
  rw [g1]
  refine WP.iload (pc := 829) dL_law_829 rfl ?_
  refine WP.icmp_eq (pc := 831) (tgt := 836) dL_law_831 (by decide) (fun _ => ?_) (fun c => absurd rfl c)
  refine WP.iload (pc := 836) dL_law_836 rfl ?_
  have fin : ∀ L5 L6, WP Γ (12, 260, 40 * k, 512 * k) (ML_law nm) lwO 853 (lwL Γ x i L5 L6 none none) [] (wI τ I1) := fun L5 L6 => WP.goto (pc := 853) (tgt := 3458) dL_law_853 (by decide) (hk _ _ L5 L6 none none h5 hI)
  refine WP.if_ne (pc := 838) (tgt := 853) dL_law_838 (by decide) (fun _ => fin _ _) (fun c => ?_)
  have c0 : q.1 = 0 := (nI_eq (b := 0) (by omega) (by omega)).mp c
  refine WP.aload_n (pc := 841) dL_law_841 rfl ?_
  refine WP.iconst (pc := 842) (v := 0) dL_law_842 (by decide) ?_
  refine WP.laload (pc := 843) (a := x + 74) (n := 1) ho2 vp01 dL_law_843 ?_
  rw [show aL (wI τ I1) (x + 74) (Int32.toNatClampNeg 0) = q.2.1.toInt64 from h4 c0]
  refine WP.iload (pc := 844) dL_law_844 rfl ?_
  refine WP.i2l (pc := 846) dL_law_846 ?_
  rw [g2 c0]
  refine WP.lcmp (pc := 847) dL_law_847 ?_
  exact WP.if_eq (pc := 848) (tgt := 853) dL_law_848 (by decide) (fun _ => fin _ _) (fun c => absurd (lg_self _) c)
set_option maxRecDepth 4000 in
theorem law_c15 (hi : i + 6 ≤ (gX Γ).2.1) (hN : (gX Γ).2.1 ≤ 4000) (hb : bd T C Z) (hs : SI σ x mm) (hv : inv T C Z mm) (hk : nxK Γ nm x i k T C Z) : WP Γ (12, 260, 40 * (k + 1), 512 * (k + 1)) (ML_law nm) lwO 856 (lwL Γ x i none none none none) [] σ := by
  obtain ⟨hx, hm, hd, ho⟩ := id hs
  have hI : inv (T + 1) (C + 18000) (Z + 2880) (q_income mm ((gX Γ).2.2 (i + 1))).2.2 := by
    unfold q_income
    repeat' split
    all_goals exact hv.up
  have hle := qincome_le mm ((gX Γ).2.2 (i + 1))
  refine WP.aload_n (pc := 856) dL_law_856 rfl ?_
  refine WP.aload_n (pc := 857) dL_law_857 rfl ?_
  refine WP.iload (pc := 858) dL_law_858 rfl ?_
  refine WP.iconst (pc := 860) (v := 1) dL_law_860 (by decide) ?_
  refine WP.iaN (pc := 861) (a := i) (b := 1) dL_law_861 ?_
  refine WP.xA (pc := 862) (i := i + 1) (by omega) (by omega) dL_law_862 ?_
  refine WP.aload_n (pc := 863) dL_law_863 rfl ?_
  refine WP.callSH (pc := 864) (mc2 := 40 * k) (ms2 := 512 * k) (M' := ML_income) (List.cons_ne_nil _ _) kL_231 (CL_income Γ hx ((gX Γ).2.2 (i + 1)) ho) rfl ⟨(Nat.le_of_ble_eq_true rfl), (Nat.le_of_ble_eq_true rfl)⟩ (by omega) (by omega) (Nat.le_of_ble_eq_true rfl) rfl dL_law_864 (fun v τ hw => ?_) (fun E τ hw => nomatch hw.1)
  obtain ⟨h1, h2, h3, h4⟩ := hw
  cases h1
  obtain ⟨hx2, hm2, hd2, ho2⟩ := hs.x h2 h3
  refine WP.istore (pc := 867) dL_law_867 (Nat.le_of_ble_eq_true rfl) rfl ?_
  refine WP.self ?_
  refine WP.aload_n (pc := 869) dL_law_869 rfl ?_
  refine WP.aload_n (pc := 870) dL_law_870 rfl ?_
  refine WP.iload (pc := 871) dL_law_871 rfl ?_
  refine WP.iconst (pc := 873) (v := 1) dL_law_873 (by decide) ?_
  refine WP.iaN (pc := 874) (a := i) (b := 1) dL_law_874 ?_
  refine WP.xA (pc := 875) (i := i + 1) (by omega) (by omega) dL_law_875 ?_
  refine WP.cVp (pc := 876) (mc2 := 40 * k) (ms2 := 512 * k) (ci := 9) kL_233 (CX9_income Γ hm2 hd2 ((gX Γ).2.2 (i + 1))) (by decide) rfl hm2.t0 rfl ⟨(Nat.le_of_ble_eq_true rfl), (Nat.le_of_ble_eq_true rfl)⟩ (by omega) (by omega) (Nat.le_of_ble_eq_true rfl) rfl dL_law_876 (fun v I1 ⟨g1, g2, g3, g4⟩ => ?_)
  have h5 := SI.m hx2 hm2 ho2 g3 g4
  generalize q_income mm ((gX Γ).2.2 (i + 1)) = q at *
  refine WP.istore (pc := 879) dL_law_879 (Nat.le_of_ble_eq_true rfl) rfl ?_
  refine WP.aload_n (pc := 881) dL_law_881 rfl ?_
  refine WP.cV1 (pc := 882) (mc2 := 40 * k) (ms2 := 512 * k) (ci := 9) kL_175 (CX9_thrown Γ hm2) (by decide) rfl hm2.t0 rfl ⟨(Nat.le_of_ble_eq_true rfl), (Nat.le_of_ble_eq_true rfl)⟩ (by omega) (by omega) (Nat.le_of_ble_eq_true rfl) rfl dL_law_882 ?_
  rw [g1]
  refine WP.iload (pc := 885) dL_law_885 rfl ?_
  refine WP.icmp_eq (pc := 887) (tgt := 892) dL_law_887 (by decide) (fun _ => ?_) (fun c => absurd rfl c)
  refine WP.iload (pc := 892) dL_law_892 rfl ?_
  have fin : ∀ L5 L6, WP Γ (12, 260, 40 * k, 512 * k) (ML_law nm) lwO 909 (lwL Γ x i L5 L6 none none) [] (wI τ I1) := fun L5 L6 => WP.goto (pc := 909) (tgt := 3458) dL_law_909 (by decide) (hk _ _ L5 L6 none none h5 hI)
  refine WP.if_ne (pc := 894) (tgt := 909) dL_law_894 (by decide) (fun _ => fin _ _) (fun c => ?_)
  have c0 : q.1 = 0 := (nI_eq (b := 0) (by omega) (by omega)).mp c
  refine WP.aload_n (pc := 897) dL_law_897 rfl ?_
  refine WP.iconst (pc := 898) (v := 0) dL_law_898 (by decide) ?_
  refine WP.laload (pc := 899) (a := x + 74) (n := 1) ho2 vp01 dL_law_899 ?_
  rw [show aL (wI τ I1) (x + 74) (Int32.toNatClampNeg 0) = q.2.1.toInt64 from h4 c0]
  refine WP.iload (pc := 900) dL_law_900 rfl ?_
  refine WP.i2l (pc := 902) dL_law_902 ?_
  rw [g2 c0]
  refine WP.lcmp (pc := 903) dL_law_903 ?_
  exact WP.if_eq (pc := 904) (tgt := 909) dL_law_904 (by decide) (fun _ => fin _ _) (fun c => absurd (lg_self _) c)
end T
