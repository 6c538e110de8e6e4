-- behind: 73.law0 71.dl1 71.dl2 71.dl3 71.dl4 71.dl5 71.dl6 71.dl7 71.dl8
-- what one call of the script does, on both sides
section T
variable (Γ : cG) {nm : String × List (Nat × Nat × Nat × Nat)} {σ : cAS} {x i k T C Z : Nat} {mm : mX}
set_option maxRecDepth 4000 in
theorem law_c16 (hi : i + 6 ≤ (gX Γ).2.1) (hN : (gX Γ).2.1 ≤ 4000) (hb : bd T C Z) (hs : SI σ x mm) (hv : inv T C Z mm) (hk : nxK Γ nm x i k T C Z) : WP Γ (12, 260, 40 * (k + 1), 512 * (k + 1)) (ML_law nm) lwO 912 (lwL Γ x i none none none none) [] σ := by
  obtain ⟨hx, hm, hd, ho⟩ := id hs
  have hI : inv (T + 1) (C + 18000) (Z + 2880) (q_bakeRefusal mm ((gX Γ).2.2 (i + 1)) ((gX Γ).2.2 (i + 2))).2.2 := by
    unfold q_bakeRefusal
    repeat' split
    all_goals exact hv.up
  have hle := qbakeRefusal_le mm ((gX Γ).2.2 (i + 1)) ((gX Γ).2.2 (i + 2))
  refine WP.aload_n (pc := 912) dL_law_912 rfl ?_
  refine WP.aload_n (pc := 913) dL_law_913 rfl ?_
  refine WP.iload (pc := 914) dL_law_914 rfl ?_
  refine WP.iconst (pc := 916) (v := 1) dL_law_916 (by decide) ?_
  refine WP.iaN (pc := 917) (a := i) (b := 1) dL_law_917 ?_
  refine WP.xA (pc := 918) (i := i + 1) (by omega) (by omega) dL_law_918 ?_
  refine WP.aload_n (pc := 919) dL_law_919 rfl ?_
  refine WP.iload (pc := 920) dL_law_920 rfl ?_
  refine WP.iconst (pc := 922) (v := 2) dL_law_922 (by decide) ?_
  refine WP.iaN (pc := 923) (a := i) (b := 2) dL_law_923 ?_
  refine WP.xA (pc := 924) (i := i + 2) (by omega) (by omega) dL_law_924 ?_
  refine WP.aload_n (pc := 925) dL_law_925 rfl ?_
  refine WP.callSH (pc := 926) (mc2 := 40 * k) (ms2 := 512 * k) (M' := ML_bakeRefusal) (List.cons_ne_nil _ _) kL_234 (CL_bakeRefusal Γ hx ((gX Γ).2.2 (i + 1)) ((gX Γ).2.2 (i + 2)) ho) rfl ⟨(Nat.le_of_ble_eq_true rfl), (Nat.le_of_ble_eq_true rfl)⟩ (by omega) (by omega) (Nat.le_of_ble_eq_true rfl) rfl dL_law_926 (fun v τ hw => ?_) (fun E τ hw => nomatch hw.1)
  obtain ⟨h1, h2, h3, h4⟩ := hw
  cases h1
  obtain ⟨hx2, hm2, hd2, ho2⟩ := hs.x h2 h3
  refine WP.istore (pc := 929) dL_law_929 (Nat.le_of_ble_eq_true rfl) rfl ?_
  refine WP.self ?_
  refine WP.aload_n (pc := 931) dL_law_931 rfl ?_
  refine WP.aload_n (pc := 932) dL_law_932 rfl ?_
  refine WP.iload (pc := 933) dL_law_933 rfl ?_
  refine WP.iconst (pc := 935) (v := 1) dL_law_935 (by decide) ?_
  refine WP.iaN (pc := 936) (a := i) (b := 1) dL_law_936 ?_
  refine WP.xA (pc := 937) (i := i + 1) (by omega) (by omega) dL_law_937 ?_
  refine WP.aload_n (pc := 938) dL_law_938 rfl ?_
  refine WP.iload (pc := 939) dL_law_939 rfl ?_
  refine WP.iconst (pc := 941) (v := 2) dL_law_941 (by decide) ?_
  refine WP.iaN (pc := 942) (a := i) (b := 2) dL_law_942 ?_
  refine WP.xA (pc := 943) (i := i + 2) (by omega) (by omega) dL_law_943 ?_
  refine WP.cVp (pc := 944) (mc2 := 40 * k) (ms2 := 512 * k) (ci := 9) kL_236 (CX9_bakeRefusal Γ hm2 hd2 hv.1.1 ((gX Γ).2.2 (i + 1)) ((gX Γ).2.2 (i + 2))) (by decide) rfl hm2.t0 rfl ⟨(Nat.le_of_ble_eq_true rfl), (Nat.le_of_ble_eq_true rfl)⟩ (by omega) (by omega) (Nat.le_of_ble_eq_true rfl) rfl dL_law_944 (fun v I1 ⟨g1, g2, g3, g4⟩ => ?_)
  have h5 := SI.m hx2 hm2 ho2 g3 g4
  generalize q_bakeRefusal mm ((gX Γ).2.2 (i + 1)) ((gX Γ).2.2 (i + 2)) = q at *
  refine WP.istore (pc := 947) dL_law_947 (Nat.le_of_ble_eq_true rfl) rfl ?_
  refine WP.aload_n (pc := 949) dL_law_949 rfl ?_
  refine WP.cV1 (pc := 950) (mc2 := 40 * k) (ms2 := 512 * k) (ci := 9) kL_175 (CX9_thrown Γ hm2) (by decide) rfl hm2.t0 rfl ⟨(Nat.le_of_ble_eq_true rfl), (Nat.le_of_ble_eq_true rfl)⟩ (by omega) (by omega) (Nat.le_of_ble_eq_true rfl) rfl dL_law_950 ?_
  rw [g1]
  refine WP.iload (pc := 953) dL_law_953 rfl ?_
  refine WP.icmp_eq (pc := 955) (tgt := 960) dL_law_955 (by decide) (fun _ => ?_) (fun c => absurd rfl c)
  refine WP.iload (pc := 960) dL_law_960 rfl ?_
  have fin : ∀ L5 L6, WP Γ (12, 260, 40 * k, 512 * k) (ML_law nm) lwO 977 (lwL Γ x i L5 L6 none none) [] (wI τ I1) := fun L5 L6 => WP.goto (pc := 977) (tgt := 3458) dL_law_977 (by decide) (hk _ _ L5 L6 none none h5 hI)
  refine WP.if_ne (pc := 962) (tgt := 977) dL_law_962 (by decide) (fun _ => fin _ _) (fun c => ?_)
  have c0 : q.1 = 0 := (nI_eq (b := 0) (by omega) (by omega)).mp c
  refine WP.aload_n (pc := 965) dL_law_965 rfl ?_
  refine WP.iconst (pc := 966) (v := 0) dL_law_966 (by decide) ?_
  refine WP.laload (pc := 967) (a := x + 74) (n := 1) ho2 vp01 dL_law_967 ?_
  rw [show aL (wI τ I1) (x + 74) (Int32.toNatClampNeg 0) = q.2.1.toInt64 from h4 c0]
  refine WP.iload (pc := 968) dL_law_968 rfl ?_
  refine WP.i2l (pc := 970) dL_law_970 ?_
  rw [g2 c0]
  refine WP.lcmp (pc := 971) dL_law_971 ?_
  exact WP.if_eq (pc := 972) (tgt := 977) dL_law_972 (by decide) (fun _ => fin _ _) (fun c => absurd (lg_self _) c)
set_option maxRecDepth 4000 in
theorem law_c17 (hi : i + 6 ≤ (gX Γ).2.1) (hN : (gX Γ).2.1 ≤ 4000) (hb : bd T C Z) (hs : SI σ x mm) (hv : inv T C Z mm) (hk : nxK Γ nm x i k T C Z) : WP Γ (12, 260, 40 * (k + 1), 512 * (k + 1)) (ML_law nm) lwO 980 (lwL Γ x i none none none none) [] σ := by
  obtain ⟨hx, hm, hd, ho⟩ := id hs
  have hI : inv (T + 1) (C + 18000) (Z + 2880) (q_customerNameByte mm ((gX Γ).2.2 (i + 1)) ((gX Γ).2.2 (i + 2))).2.2 := by
    unfold q_customerNameByte
    repeat' split
    all_goals exact hv.up
  have hle := qcustomerNameByte_le mm ((gX Γ).2.2 (i + 1)) ((gX Γ).2.2 (i + 2))
  refine WP.aload_n (pc := 980) dL_law_980 rfl ?_
  refine WP.aload_n (pc := 981) dL_law_981 rfl ?_
  refine WP.iload (pc := 982) dL_law_982 rfl ?_
  refine WP.iconst (pc := 984) (v := 1) dL_law_984 (by decide) ?_
  refine WP.iaN (pc := 985) (a := i) (b := 1) dL_law_985 ?_
  refine WP.xA (pc := 986) (i := i + 1) (by omega) (by omega) dL_law_986 ?_
  refine WP.aload_n (pc := 987) dL_law_987 rfl ?_
  refine WP.iload (pc := 988) dL_law_988 rfl ?_
  refine WP.iconst (pc := 990) (v := 2) dL_law_990 (by decide) ?_
  refine WP.iaN (pc := 991) (a := i) (b := 2) dL_law_991 ?_
  refine WP.xA (pc := 992) (i := i + 2) (by omega) (by omega) dL_law_992 ?_
  refine WP.aload_n (pc := 993) dL_law_993 rfl ?_
  refine WP.callSH (pc := 994) (mc2 := 40 * k) (ms2 := 512 * k) (M' := ML_customerNameByte) (List.cons_ne_nil _ _) kL_237 (CL_customerNameByte Γ hx ((gX Γ).2.2 (i + 1)) ((gX Γ).2.2 (i + 2)) ho) rfl ⟨(Nat.le_of_ble_eq_true rfl), (Nat.le_of_ble_eq_true rfl)⟩ (by omega) (by omega) (Nat.le_of_ble_eq_true rfl) rfl dL_law_994 (fun v τ hw => ?_) (fun E τ hw => nomatch hw.1)
  obtain ⟨h1, h2, h3, h4⟩ := hw
  cases h1
  obtain ⟨hx2, hm2, hd2, ho2⟩ := hs.x h2 h3
  refine WP.istore (pc := 997) dL_law_997 (Nat.le_of_ble_eq_true rfl) rfl ?_
  refine WP.self ?_
  refine WP.aload_n (pc := 999) dL_law_999 rfl ?_
  refine WP.aload_n (pc := 1000) dL_law_1000 rfl ?_
  refine WP.iload (pc := 1001) dL_law_1001 rfl ?_
  refine WP.iconst (pc := 1003) (v := 1) dL_law_1003 (by decide) ?_
  refine WP.iaN (pc := 1004) (a := i) (b := 1) dL_law_1004 ?_
  refine WP.xA (pc := 1005) (i := i + 1) (by omega) (by omega) dL_law_1005 ?_
  refine WP.aload_n (pc := 1006) dL_law_1006 rfl ?_
  refine WP.iload (pc := 1007) dL_law_1007 rfl ?_
  refine WP.iconst (pc := 1009) (v := 2) dL_law_1009 (by decide) ?_
  refine WP.iaN (pc := 1010) (a := i) (b := 2) dL_law_1010 ?_
  refine WP.xA (pc := 1011) (i := i + 2) (by omega) (by omega) dL_law_1011 ?_
  refine WP.cVp (pc := 1012) (mc2 := 40 * k) (ms2 := 512 * k) (ci := 9) kL_239 (CX9_customerNameByte Γ hm2 hd2 hv.1.1 ((gX Γ).2.2 (i + 1)) ((gX Γ).2.2 (i + 2))) (by decide) rfl hm2.t0 rfl ⟨(Nat.le_of_ble_eq_true rfl), (Nat.le_of_ble_eq_true rfl)⟩ (by omega) (by omega) (Nat.le_of_ble_eq_true rfl) rfl dL_law_1012 (fun v I1 ⟨g1, g2, g3, g4⟩ => ?_)
  have h5 := SI.m hx2 hm2 ho2 g3 g4
  generalize q_customerNameByte mm ((gX Γ).2.2 (i + 1)) ((gX Γ).2.2 (i + 2)) = q at *
  refine WP.istore (pc := 1015) dL_law_1015 (Nat.le_of_ble_eq_true rfl) rfl ?_
  refine WP.aload_n (pc := 1017) dL_law_1017 rfl ?_
  refine WP.cV1 (pc := 1018) (mc2 := 40 * k) (ms2 := 512 * k) (ci := 9) kL_175 (CX9_thrown Γ hm2) (by decide) rfl hm2.t0 rfl ⟨(Nat.le_of_ble_eq_true rfl), (Nat.le_of_ble_eq_true rfl)⟩ (by omega) (by omega) (Nat.le_of_ble_eq_true rfl) rfl dL_law_1018 ?_
  rw [g1]
  refine WP.iload (pc := 1021) dL_law_1021 rfl ?_
  refine WP.icmp_eq (pc := 1023) (tgt := 1028) dL_law_1023 (by decide) (fun _ => ?_) (fun c => absurd rfl c)
  refine WP.iload (pc := 1028) dL_law_1028 rfl ?_
  have fin : ∀ L5 L6, WP Γ (12, 260, 40 * k, 512 * k) (ML_law nm) lwO 1045 (lwL Γ x i L5 L6 none none) [] (wI τ I1) := fun L5 L6 => WP.goto (pc := 1045) (tgt := 3458) dL_law_1045 (by decide) (hk _ _ L5 L6 none none h5 hI)
  refine WP.if_ne (pc := 1030) (tgt := 1045) dL_law_1030 (by decide) (fun _ => fin _ _) (fun c => ?_)
  have c0 : q.1 = 0 := (nI_eq (b := 0) (by omega) (by omega)).mp c
  refine WP.aload_n (pc := 1033) dL_law_1033 rfl ?_
  refine WP.iconst (pc := 1034) (v := 0) dL_law_1034 (by decide) ?_
  refine WP.laload (pc := 1035) (a := x + 74) (n := 1) ho2 vp01 dL_law_1035 ?_
  rw [show aL (wI τ I1) (x + 74) (Int32.toNatClampNeg 0) = q.2.1.toInt64 from h4 c0]
  refine WP.iload (pc := 1036) dL_law_1036 rfl ?_
  refine WP.i2l (pc := 1038) dL_law_1038 ?_
  rw [g2 c0]
  refine WP.lcmp (pc := 1039) dL_law_1039 ?_
  exact WP.if_eq (pc := 1040) (tgt := 1045) dL_law_1040 (by decide) (fun _ => fin _ _) (fun c => absurd (lg_self _) c)
set_option maxRecDepth 4000 in
theorem law_c18 (hi : i + 6 ≤ (gX Γ).2.1) (hN : (gX Γ).2.1 ≤ 4000) (hb : bd T C Z) (hs : SI σ x mm) (hv : inv T C Z mm) (hk : nxK Γ nm x i k T C Z) : WP Γ (12, 260, 40 * (k + 1), 512 * (k + 1)) (ML_law nm) lwO 1048 (lwL Γ x i none none none none) [] σ := by
  obtain ⟨hx, hm, hd, ho⟩ := id hs
  have hI : inv (T + 1) (C + 18000) (Z + 2880) (q_ticketOf mm ((gX Γ).2.2 (i + 1))).2.2 := by
    unfold q_ticketOf
    repeat' split
    all_goals exact hv.up
  have hle := qticketOf_le mm ((gX Γ).2.2 (i + 1))
  refine WP.aload_n (pc := 1048) dL_law_1048 rfl ?_
  refine WP.aload_n (pc := 1049) dL_law_1049 rfl ?_
  refine WP.iload (pc := 1050) dL_law_1050 rfl ?_
  refine WP.iconst (pc := 1052) (v := 1) dL_law_1052 (by decide) ?_
  refine WP.iaN (pc := 1053) (a := i) (b := 1) dL_law_1053 ?_
  refine WP.xA (pc := 1054) (i := i + 1) (by omega) (by omega) dL_law_1054 ?_
  refine WP.aload_n (pc := 1055) dL_law_1055 rfl ?_
  refine WP.callSH (pc := 1056) (mc2 := 40 * k) (ms2 := 512 * k) (M' := ML_ticketOf) (List.cons_ne_nil _ _) kL_240 (CL_ticketOf Γ hx ((gX Γ).2.2 (i + 1)) ho) rfl ⟨(Nat.le_of_ble_eq_true rfl), (Nat.le_of_ble_eq_true rfl)⟩ (by omega) (by omega) (Nat.le_of_ble_eq_true rfl) rfl dL_law_1056 (fun v τ hw => ?_) (fun E τ hw => nomatch hw.1)
  obtain ⟨h1, h2, h3, h4⟩ := hw
  cases h1
  obtain ⟨hx2, hm2, hd2, ho2⟩ := hs.x h2 h3
  refine WP.istore (pc := 1059) dL_law_1059 (Nat.le_of_ble_eq_true rfl) rfl ?_
  refine WP.self ?_
  refine WP.aload_n (pc := 1061) dL_law_1061 rfl ?_
  refine WP.aload_n (pc := 1062) dL_law_1062 rfl ?_
  refine WP.iload (pc := 1063) dL_law_1063 rfl ?_
  refine WP.iconst (pc := 1065) (v := 1) dL_law_1065 (by decide) ?_
  refine WP.iaN (pc := 1066) (a := i) (b := 1) dL_law_1066 ?_
  refine WP.xA (pc := 1067) (i := i + 1) (by omega) (by omega) dL_law_1067 ?_
  refine WP.cVp (pc := 1068) (mc2 := 40 * k) (ms2 := 512 * k) (ci := 9) kL_242 (CX9_ticketOf Γ hm2 hd2 ((gX Γ).2.2 (i + 1))) (by decide) rfl hm2.t0 rfl ⟨(Nat.le_of_ble_eq_true rfl), (Nat.le_of_ble_eq_true rfl)⟩ (by omega) (by omega) (Nat.le_of_ble_eq_true rfl) rfl dL_law_1068 (fun v I1 ⟨g1, g2, g3, g4⟩ => ?_)
  have h5 := SI.m hx2 hm2 ho2 g3 g4
  generalize q_ticketOf mm ((gX Γ).2.2 (i + 1)) = q at *
  refine WP.istore (pc := 1071) dL_law_1071 (Nat.le_of_ble_eq_true rfl) rfl ?_
  refine WP.aload_n (pc := 1073) dL_law_1073 rfl ?_
  refine WP.cV1 (pc := 1074) (mc2 := 40 * k) (ms2 := 512 * k) (ci := 9) kL_175 (CX9_thrown Γ hm2) (by decide) rfl hm2.t0 rfl ⟨(Nat.le_of_ble_eq_true rfl), (Nat.le_of_ble_eq_true rfl)⟩ (by omega) (by omega) (Nat.le_of_ble_eq_true rfl) rfl dL_law_1074 ?_
  rw [g1]
  refine WP.iload (pc := 1077) dL_law_1077 rfl ?_
  refine WP.icmp_eq (pc := 1079) (tgt := 1084) dL_law_1079 (by decide) (fun _ => ?_) (fun c => absurd rfl c)
  refine WP.iload (pc := 1084) dL_law_1084 rfl ?_
  have fin : ∀ L5 L6, WP Γ (12, 260, 40 * k, 512 * k) (ML_law nm) lwO 1101 (lwL Γ x i L5 L6 none none) [] (wI τ I1) := fun L5 L6 => WP.goto (pc := 1101) (tgt := 3458) dL_law_1101 (by decide) (hk _ _ L5 L6 none none h5 hI)
  refine WP.if_ne (pc := 1086) (tgt := 1101) dL_law_1086 (by decide) (fun _ => fin _ _) (fun c => ?_)
  have c0 : q.1 = 0 := (nI_eq (b := 0) (by omega) (by omega)).mp c
  refine WP.aload_n (pc := 1089) dL_law_1089 rfl ?_
  refine WP.iconst (pc := 1090) (v := 0) dL_law_1090 (by decide) ?_
  refine WP.laload (pc := 1091) (a := x + 74) (n := 1) ho2 vp01 dL_law_1091 ?_
  rw [show aL (wI τ I1) (x + 74) (Int32.toNatClampNeg 0) = q.2.1.toInt64 from h4 c0]
  refine WP.iload (pc := 1092) dL_law_1092 rfl ?_
  refine WP.i2l (pc := 1094) dL_law_1094 ?_
  rw [g2 c0]
  refine WP.lcmp (pc := 1095) dL_law_1095 ?_
  exact WP.if_eq (pc := 1096) (tgt := 1101) dL_law_1096 (by decide) (fun _ => fin _ _) (fun c => absurd (lg_self _) c)
set_option maxRecDepth 4000 in
theorem law_c19 (hi : i + 6 ≤ (gX Γ).2.1) (hN : (gX Γ).2.1 ≤ 4000) (hb : bd T C Z) (hs : SI σ x mm) (hv : inv T C Z mm) (hk : nxK Γ nm x i k T C Z) : WP Γ (12, 260, 40 * (k + 1), 512 * (k + 1)) (ML_law nm) lwO 1104 (lwL Γ x i none none none none) [] σ := by
  obtain ⟨hx, hm, hd, ho⟩ := id hs
  have hI : inv (T + 1) (C + 18000) (Z + 2880) (q_kindWanted mm ((gX Γ).2.2 (i + 1))).2.2 := by
    unfold q_kindWanted
    repeat' split
    all_goals exact hv.up
  have hle := qkindWanted_le mm ((gX Γ).2.2 (i + 1))
  refine WP.aload_n (pc := 1104) dL_law_1104 rfl ?_
  refine WP.aload_n (pc := 1105) dL_law_1105 rfl ?_
  refine WP.iload (pc := 1106) dL_law_1106 rfl ?_
  refine WP.iconst (pc := 1108) (v := 1) dL_law_1108 (by decide) ?_
  refine WP.iaN (pc := 1109) (a := i) (b := 1) dL_law_1109 ?_
  refine WP.xA (pc := 1110) (i := i + 1) (by omega) (by omega) dL_law_1110 ?_
  refine WP.aload_n (pc := 1111) dL_law_1111 rfl ?_
  refine WP.callSH (pc := 1112) (mc2 := 40 * k) (ms2 := 512 * k) (M' := ML_kindWanted) (List.cons_ne_nil _ _) kL_243 (CL_kindWanted Γ hx ((gX Γ).2.2 (i + 1)) ho) rfl ⟨(Nat.le_of_ble_eq_true rfl), (Nat.le_of_ble_eq_true rfl)⟩ (by omega) (by omega) (Nat.le_of_ble_eq_true rfl) rfl dL_law_1112 (fun v τ hw => ?_) (fun E τ hw => nomatch hw.1)
  obtain ⟨h1, h2, h3, h4⟩ := hw
  cases h1
  obtain ⟨hx2, hm2, hd2, ho2⟩ := hs.x h2 h3
  refine WP.istore (pc := 1115) dL_law_1115 (Nat.le_of_ble_eq_true rfl) rfl ?_
  refine WP.self ?_
  refine WP.aload_n (pc := 1117) dL_law_1117 rfl ?_
  refine WP.aload_n (pc := 1118) dL_law_1118 rfl ?_
  refine WP.iload (pc := 1119) dL_law_1119 rfl ?_
  refine WP.iconst (pc := 1121) (v := 1) dL_law_1121 (by decide) ?_
  refine WP.iaN (pc := 1122) (a := i) (b := 1) dL_law_1122 ?_
  refine WP.xA (pc := 1123) (i := i + 1) (by omega) (by omega) dL_law_1123 ?_
  refine WP.cVp (pc := 1124) (mc2 := 40 * k) (ms2 := 512 * k) (ci := 9) kL_245 (CX9_kindWanted Γ hm2 hd2 ((gX Γ).2.2 (i + 1))) (by decide) rfl hm2.t0 rfl ⟨(Nat.le_of_ble_eq_true rfl), (Nat.le_of_ble_eq_true rfl)⟩ (by omega) (by omega) (Nat.le_of_ble_eq_true rfl) rfl dL_law_1124 (fun v I1 ⟨g1, g2, g3, g4⟩ => ?_)
  have h5 := SI.m hx2 hm2 ho2 g3 g4
  generalize q_kindWanted mm ((gX Γ).2.2 (i + 1)) = q at *
  refine WP.istore (pc := 1127) dL_law_1127 (Nat.le_of_ble_eq_true rfl) rfl ?_
  refine WP.aload_n (pc := 1129) dL_law_1129 rfl ?_
  refine WP.cV1 (pc := 1130) (mc2 := 40 * k) (ms2 := 512 * k) (ci := 9) kL_175 (CX9_thrown Γ hm2) (by decide) rfl hm2.t0 rfl ⟨(Nat.le_of_ble_eq_true rfl), (Nat.le_of_ble_eq_true rfl)⟩ (by omega) (by omega) (Nat.le_of_ble_eq_true rfl) rfl dL_law_1130 ?_
  rw [g1]
  refine WP.iload (pc := 1133) dL_law_1133 rfl ?_
  refine WP.icmp_eq (pc := 1135) (tgt := 1140) dL_law_1135 (by decide) (fun _ => ?_) (fun c => absurd rfl c)
  refine WP.iload (pc := 1140) dL_law_1140 rfl ?_
  have fin : ∀ L5 L6, WP Γ (12, 260, 40 * k, 512 * k) (ML_law nm) lwO 1157 (lwL Γ x i L5 L6 none none) [] (wI τ I1) := fun L5 L6 => WP.goto (pc := 1157) (tgt := 3458) dL_law_1157 (by decide) (hk _ _ L5 L6 none none h5 hI)
  refine WP.if_ne (pc := 1142) (tgt := 1157) dL_law_1142 (by decide) (fun _ => fin _ _) (fun c => ?_)
  have c0 : q.1 = 0 := (nI_eq (b := 0) (by omega) (by omega)).mp c
  refine WP.aload_n (pc := 1145) dL_law_1145 rfl ?_
  refine WP.iconst (pc := 1146) (v := 0) dL_law_1146 (by decide) ?_
  refine WP.laload (pc := 1147) (a := x + 74) (n := 1) ho2 vp01 dL_law_1147 ?_
  rw [show aL (wI τ I1) (x + 74) (Int32.toNatClampNeg 0) = q.2.1.toInt64 from h4 c0]
  refine WP.iload (pc := 1148) dL_law_1148 rfl ?_
  refine WP.i2l (pc := 1150) dL_law_1150 ?_
  rw [g2 c0]
  refine WP.lcmp (pc := 1151) dL_law_1151 ?_
  exact WP.if_eq (pc := 1152) (tgt := 1157) dL_law_1152 (by decide) (fun _ => fin _ _) (fun c => absurd (lg_self _) c)
set_option maxRecDepth 4000 in
theorem law_c20 (hi : i + 6 ≤ (gX Γ).2.1) (hN : (gX Γ).2.1 ≤ 4000) (hb : bd T C Z) (hs : SI σ x mm) (hv : inv T C Z mm) (hk : nxK Γ nm x i k T C Z) : WP Γ (12, 260, 40 * (k + 1), 512 * (k + 1)) (ML_law nm) lwO 1160 (lwL Γ x i none none none none) [] σ := by
  obtain ⟨hx, hm, hd, ho⟩ := id hs
  have hI : inv (T + 1) (C + 18000) (Z + 2880) (q_wanted mm ((gX Γ).2.2 (i + 1))).2.2 := by
    unfold q_wanted
    repeat' split
    all_goals exact hv.up
  have hle := qwanted_le mm ((gX Γ).2.2 (i + 1))
  refine WP.aload_n (pc := 1160) dL_law_1160 rfl ?_
  refine WP.aload_n (pc := 1161) dL_law_1161 rfl ?_
  refine WP.iload (pc := 1162) dL_law_1162 rfl ?_
  refine WP.iconst (pc := 1164) (v := 1) dL_law_1164 (by decide) ?_
  refine WP.iaN (pc := 1165) (a := i) (b := 1) dL_law_1165 ?_
  refine WP.xA (pc := 1166) (i := i + 1) (by omega) (by omega) dL_law_1166 ?_
  refine WP.aload_n (pc := 1167) dL_law_1167 rfl ?_
  refine WP.callSH (pc := 1168) (mc2 := 40 * k) (ms2 := 512 * k) (M' := ML_wanted) (List.cons_ne_nil _ _) kL_246 (CL_wanted Γ hx ((gX Γ).2.2 (i + 1)) ho) rfl ⟨(Nat.le_of_ble_eq_true rfl), (Nat.le_of_ble_eq_true rfl)⟩ (by omega) (by omega) (Nat.le_of_ble_eq_true rfl) rfl dL_law_1168 (fun v τ hw => ?_) (fun E τ hw => nomatch hw.1)
  obtain ⟨h1, h2, h3, h4⟩ := hw
  cases h1
  obtain ⟨hx2, hm2, hd2, ho2⟩ := hs.x h2 h3
  refine WP.istore (pc := 1171) dL_law_1171 (Nat.le_of_ble_eq_true rfl) rfl ?_
  refine WP.self ?_
  refine WP.aload_n (pc := 1173) dL_law_1173 rfl ?_
  refine WP.aload_n (pc := 1174) dL_law_1174 rfl ?_
  refine WP.iload (pc := 1175) dL_law_1175 rfl ?_
  refine WP.iconst (pc := 1177) (v := 1) dL_law_1177 (by decide) ?_
  refine WP.iaN (pc := 1178) (a := i) (b := 1) dL_law_1178 ?_
  refine WP.xA (pc := 1179) (i := i + 1) (by omega) (by omega) dL_law_1179 ?_
  refine WP.cVp (pc := 1180) (mc2 := 40 * k) (ms2 := 512 * k) (ci := 9) kL_248 (CX9_wanted Γ hm2 hd2 ((gX Γ).2.2 (i + 1))) (by decide) rfl hm2.t0 rfl ⟨(Nat.le_of_ble_eq_true rfl), (Nat.le_of_ble_eq_true rfl)⟩ (by omega) (by omega) (Nat.le_of_ble_eq_true rfl) rfl dL_law_1180 (fun v I1 ⟨g1, g2, g3, g4⟩ => ?_)
  have h5 := SI.m hx2 hm2 ho2 g3 g4
  generalize q_wanted mm ((gX Γ).2.2 (i + 1)) = q at *
  refine WP.istore (pc := 1183) dL_law_1183 (Nat.le_of_ble_eq_true rfl) rfl ?_
  refine WP.aload_n (pc := 1185) dL_law_1185 rfl ?_
  refine WP.cV1 (pc := 1186) (mc2 := 40 * k) (ms2 := 512 * k) (ci := 9) kL_175 (CX9_thrown Γ hm2) (by decide) rfl hm2.t0 rfl ⟨(Nat.le_of_ble_eq_true rfl), (Nat.le_of_ble_eq_true rfl)⟩ (by omega) (by omega) (Nat.le_of_ble_eq_true rfl) rfl dL_law_1186 ?_
  rw [g1]
  refine WP.iload (pc := 1189) dL_law_1189 rfl ?_
  refine WP.icmp_eq (pc := 1191) (tgt := 1196) dL_law_1191 (by decide) (fun _ => ?_) (fun c => absurd rfl c)
  refine WP.iload (pc := 1196) dL_law_1196 rfl ?_
  have fin : ∀ L5 L6, WP Γ (12, 260, 40 * k, 512 * k) (ML_law nm) lwO 1213 (lwL Γ x i L5 L6 none none) [] (wI τ I1) := fun L5 L6 => WP.goto (pc := 1213) (tgt := 3458) dL_law_1213 (by decide) (hk _ _ L5 L6 none none h5 hI)
  refine WP.if_ne (pc := 1198) (tgt := 1213) dL_law_1198 (by decide) (fun _ => fin _ _) (fun c => ?_)
  have c0 : q.1 = 0 := (nI_eq (b := 0) (by omega) (by omega)).mp c
  refine WP.aload_n (pc := 1201) dL_law_1201 rfl ?_
  refine WP.iconst (pc := 1202) (v := 0) dL_law_1202 (by decide) ?_
  refine WP.laload (pc := 1203) (a := x + 74) (n := 1) ho2 vp01 dL_law_1203 ?_
  rw [show aL (wI τ I1) (x + 74) (Int32.toNatClampNeg 0) = q.2.1.toInt64 from h4 c0]
  refine WP.iload (pc := 1204) dL_law_1204 rfl ?_
  refine WP.i2l (pc := 1206) dL_law_1206 ?_
  rw [g2 c0]
  refine WP.lcmp (pc := 1207) dL_law_1207 ?_
  exact WP.if_eq (pc := 1208) (tgt := 1213) dL_law_1208 (by decide) (fun _ => fin _ _) (fun c => absurd (lg_self _) c)
set_option maxRecDepth 4000 in
theorem law_c21 (hi : i + 6 ≤ (gX Γ).2.1) (hN : (gX Γ).2.1 ≤ 4000) (hb : bd T C Z) (hs : SI σ x mm) (hv : inv T C Z mm) (hk : nxK Γ nm x i k T C Z) : WP Γ (12, 260, 40 * (k + 1), 512 * (k + 1)) (ML_law nm) lwO 1216 (lwL Γ x i none none none none) [] σ := by
  obtain ⟨hx, hm, hd, ho⟩ := id hs
  have hI : inv (T + 1) (C + 18000) (Z + 2880) (q_limitPrice mm ((gX Γ).2.2 (i + 1))).2.2 := by
    unfold q_limitPrice
    repeat' split
    all_goals exact hv.up
  have hle := qlimitPrice_le mm ((gX Γ).2.2 (i + 1))
  refine WP.aload_n (pc := 1216) dL_law_1216 rfl ?_
  refine WP.aload_n (pc := 1217) dL_law_1217 rfl ?_
  refine WP.iload (pc := 1218) dL_law_1218 rfl ?_
  refine WP.iconst (pc := 1220) (v := 1) dL_law_1220 (by decide) ?_
  refine WP.iaN (pc := 1221) (a := i) (b := 1) dL_law_1221 ?_
  refine WP.xA (pc := 1222) (i := i + 1) (by omega) (by omega) dL_law_1222 ?_
  refine WP.aload_n (pc := 1223) dL_law_1223 rfl ?_
  refine WP.callSH (pc := 1224) (mc2 := 40 * k) (ms2 := 512 * k) (M' := ML_limitPrice) (List.cons_ne_nil _ _) kL_249 (CL_limitPrice Γ hx ((gX Γ).2.2 (i + 1)) ho) rfl ⟨(Nat.le_of_ble_eq_true rfl), (Nat.le_of_ble_eq_true rfl)⟩ (by omega) (by omega) (Nat.le_of_ble_eq_true rfl) rfl dL_law_1224 (fun v τ hw => ?_) (fun E τ hw => nomatch hw.1)
  obtain ⟨h1, h2, h3, h4⟩ := hw
  cases h1
  obtain ⟨hx2, hm2, hd2, ho2⟩ := hs.x h2 h3
  refine WP.istore (pc := 1227) dL_law_1227 (Nat.le_of_ble_eq_true rfl) rfl ?_
  refine WP.self ?_
  refine WP.aload_n (pc := 1229) dL_law_1229 rfl ?_
  refine WP.aload_n (pc := 1230) dL_law_1230 rfl ?_
  refine WP.iload (pc := 1231) dL_law_1231 rfl ?_
  refine WP.iconst (pc := 1233) (v := 1) dL_law_1233 (by decide) ?_
  refine WP.iaN (pc := 1234) (a := i) (b := 1) dL_law_1234 ?_
  refine WP.xA (pc := 1235) (i := i + 1) (by omega) (by omega) dL_law_1235 ?_
  refine WP.cVp (pc := 1236) (mc2 := 40 * k) (ms2 := 512 * k) (ci := 9) kL_251 (CX9_limitPrice Γ hm2 hd2 ((gX Γ).2.2 (i + 1))) (by decide) rfl hm2.t0 rfl ⟨(Nat.le_of_ble_eq_true rfl), (Nat.le_of_ble_eq_true rfl)⟩ (by omega) (by omega) (Nat.le_of_ble_eq_true rfl) rfl dL_law_1236 (fun v I1 ⟨g1, g2, g3, g4⟩ => ?_)
  have h5 := SI.m hx2 hm2 ho2 g3 g4
  generalize q_limitPrice mm ((gX Γ).2.2 (i + 1)) = q at *
  refine WP.istore (pc := 1239) dL_law_1239 (Nat.le_of_ble_eq_true rfl) rfl ?_
  refine WP.aload_n (pc := 1241) dL_law_1241 rfl ?_
  refine WP.cV1 (pc := 1242) (mc2 := 40 * k) (ms2 := 512 * k) (ci := 9) kL_175 (CX9_thrown Γ hm2) (by decide) rfl hm2.t0 rfl ⟨(Nat.le_of_ble_eq_true rfl), (Nat.le_of_ble_eq_true rfl)⟩ (by omega) (by omega) (Nat.le_of_ble_eq_true rfl) rfl dL_law_1242 ?_
  rw [g1]
  refine WP.iload (pc := 1245) dL_law_1245 rfl ?_
  refine WP.icmp_eq (pc := 1247) (tgt := 1252) dL_law_1247 (by decide) (fun _ => ?_) (fun c => absurd rfl c)
  refine WP.iload (pc := 1252) dL_law_1252 rfl ?_
  have fin : ∀ L5 L6, WP Γ (12, 260, 40 * k, 512 * k) (ML_law nm) lwO 1269 (lwL Γ x i L5 L6 none none) [] (wI τ I1) := fun L5 L6 => WP.goto (pc := 1269) (tgt := 3458) dL_law_1269 (by decide) (hk _ _ L5 L6 none none h5 hI)
  refine WP.if_ne (pc := 1254) (tgt := 1269) dL_law_1254 (by decide) (fun _ => fin _ _) (fun c => ?_)
  have c0 : q.1 = 0 := (nI_eq (b := 0) (by omega) (by omega)).mp c
  refine WP.aload_n (pc := 1257) dL_law_1257 rfl ?_
  refine WP.iconst (pc := 1258) (v := 0) dL_law_1258 (by decide) ?_
  refine WP.laload (pc := 1259) (a := x + 74) (n := 1) ho2 vp01 dL_law_1259 ?_
  rw [show aL (wI τ I1) (x + 74) (Int32.toNatClampNeg 0) = q.2.1.toInt64 from h4 c0]
  refine WP.iload (pc := 1260) dL_law_1260 rfl ?_
  refine WP.i2l (pc := 1262) dL_law_1262 ?_
  rw [g2 c0]
  refine WP.lcmp (pc := 1263) dL_law_1263 ?_
  exact WP.if_eq (pc := 1264) (tgt := 1269) dL_law_1264 (by decide) (fun _ => fin _ _) (fun c => absurd (lg_self _) c)
set_option maxRecDepth 4000 in
theorem law_c22 (hi : i + 6 ≤ (gX Γ).2.1) (hN : (gX Γ).2.1 ≤ 4000) (hb : bd T C Z) (hs : SI σ x mm) (hv : inv T C Z mm) (hk : nxK Γ nm x i k T C Z) : WP Γ (12, 260, 40 * (k + 1), 512 * (k + 1)) (ML_law nm) lwO 1272 (lwL Γ x i none none none none) [] σ := by
  obtain ⟨hx, hm, hd, ho⟩ := id hs
  have hI : inv (T + 1) (C + 18000) (Z + 2880) (q_purse mm ((gX Γ).2.2 (i + 1))).2.2 := by
    unfold q_purse
    repeat' split
    all_goals exact hv.up
  have hle := qpurse_le mm ((gX Γ).2.2 (i + 1))
  refine WP.aload_n (pc := 1272) dL_law_1272 rfl ?_
  refine WP.aload_n (pc := 1273) dL_law_1273 rfl ?_
  refine WP.iload (pc := 1274) dL_law_1274 rfl ?_
  refine WP.iconst (pc := 1276) (v := 1) dL_law_1276 (by decide) ?_
  refine WP.iaN (pc := 1277) (a := i) (b := 1) dL_law_1277 ?_
  refine WP.xA (pc := 1278) (i := i + 1) (by omega) (by omega) dL_law_1278 ?_
  refine WP.aload_n (pc := 1279) dL_law_1279 rfl ?_
  refine WP.callSH (pc := 1280) (mc2 := 40 * k) (ms2 := 512 * k) (M' := ML_purse) (List.cons_ne_nil _ _) kL_252 (CL_purse Γ hx ((gX Γ).2.2 (i + 1)) ho) rfl ⟨(Nat.le_of_ble_eq_true rfl), (Nat.le_of_ble_eq_true rfl)⟩ (by omega) (by omega) (Nat.le_of_ble_eq_true rfl) rfl dL_law_1280 (fun v τ hw => ?_) (fun E τ hw => nomatch hw.1)
  obtain ⟨h1, h2, h3, h4⟩ := hw
  cases h1
  obtain ⟨hx2, hm2, hd2, ho2⟩ := hs.x h2 h3
  refine WP.istore (pc := 1283) dL_law_1283 (Nat.le_of_ble_eq_true rfl) rfl ?_
  refine WP.self ?_
  refine WP.aload_n (pc := 1285) dL_law_1285 rfl ?_
  refine WP.aload_n (pc := 1286) dL_law_1286 rfl ?_
  refine WP.iload (pc := 1287) dL_law_1287 rfl ?_
  refine WP.iconst (pc := 1289) (v := 1) dL_law_1289 (by decide) ?_
  refine WP.iaN (pc := 1290) (a := i) (b := 1) dL_law_1290 ?_
  refine WP.xA (pc := 1291) (i := i + 1) (by omega) (by omega) dL_law_1291 ?_
  refine WP.cVp (pc := 1292) (mc2 := 40 * k) (ms2 := 512 * k) (ci := 9) kL_254 (CX9_purse Γ hm2 hd2 ((gX Γ).2.2 (i + 1))) (by decide) rfl hm2.t0 rfl ⟨(Nat.le_of_ble_eq_true rfl), (Nat.le_of_ble_eq_true rfl)⟩ (by omega) (by omega) (Nat.le_of_ble_eq_true rfl) rfl dL_law_1292 (fun v I1 ⟨g1, g2, g3, g4⟩ => ?_)
  have h5 := SI.m hx2 hm2 ho2 g3 g4
  generalize q_purse mm ((gX Γ).2.2 (i + 1)) = q at *
  refine WP.istore (pc := 1295) dL_law_1295 (Nat.le_of_ble_eq_true rfl) rfl ?_
  refine WP.aload_n (pc := 1297) dL_law_1297 rfl ?_
  refine WP.cV1 (pc := 1298) (mc2 := 40 * k) (ms2 := 512 * k) (ci := 9) kL_175 (CX9_thrown Γ hm2) (by decide) rfl hm2.t0 rfl ⟨(Nat.le_of_ble_eq_true rfl), (Nat.le_of_ble_eq_true rfl)⟩ (by omega) (by omega) (Nat.le_of_ble_eq_true rfl) rfl dL_law_1298 ?_
  rw [g1]
  refine WP.iload (pc := 1301) dL_law_1301 rfl ?_
  refine WP.icmp_eq (pc := 1303) (tgt := 1308) dL_law_1303 (by decide) (fun _ => ?_) (fun c => absurd rfl c)
  refine WP.iload (pc := 1308) dL_law_1308 rfl ?_
  have fin : ∀ L5 L6, WP Γ (12, 260, 40 * k, 512 * k) (ML_law nm) lwO 1325 (lwL Γ x i L5 L6 none none) [] (wI τ I1) := fun L5 L6 => WP.goto (pc := 1325) (tgt := 3458) dL_law_1325 (by decide) (hk _ _ L5 L6 none none h5 hI)
  refine WP.if_ne (pc := 1310) (tgt := 1325) dL_law_1310 (by decide) (fun _ => fin _ _) (fun c => ?_)
  have c0 : q.1 = 0 := (nI_eq (b := 0) (by omega) (by omega)).mp c
  refine WP.aload_n (pc := 1313) dL_law_1313 rfl ?_
  refine WP.iconst (pc := 1314) (v := 0) dL_law_1314 (by decide) ?_
  refine WP.laload (pc := 1315) (a := x + 74) (n := 1) ho2 vp01 dL_law_1315 ?_
  rw [show aL (wI τ I1) (x + 74) (Int32.toNatClampNeg 0) = q.2.1.toInt64 from h4 c0]
  refine WP.iload (pc := 1316) dL_law_1316 rfl ?_
  refine WP.i2l (pc := 1318) dL_law_1318 ?_
  rw [g2 c0]
  refine WP.lcmp (pc := 1319) dL_law_1319 ?_
  exact WP.if_eq (pc := 1320) (tgt := 1325) dL_law_1320 (by decide) (fun _ => fin _ _) (fun c => absurd (lg_self _) c)
set_option maxRecDepth 4000 in
theorem law_c23 (hi : i + 6 ≤ (gX Γ).2.1) (hN : (gX Γ).2.1 ≤ 4000) (hb : bd T C Z) (hs : SI σ x mm) (hv : inv T C Z mm) (hk : nxK Γ nm x i k T C Z) : WP Γ (12, 260, 40 * (k + 1), 512 * (k + 1)) (ML_law nm) lwO 1328 (lwL Γ x i none none none none) [] σ := by
  obtain ⟨hx, hm, hd, ho⟩ := id hs
  have hI : inv (T + 1) (C + 18000) (Z + 2880) (q_patience mm ((gX Γ).2.2 (i + 1))).2.2 := by
    unfold q_patience
    repeat' split
    all_goals exact hv.up
  have hle := qpatience_le mm ((gX Γ).2.2 (i + 1))
  refine WP.aload_n (pc := 1328) dL_law_1328 rfl ?_
  refine WP.aload_n (pc := 1329) dL_law_1329 rfl ?_
  refine WP.iload (pc := 1330) dL_law_1330 rfl ?_
  refine WP.iconst (pc := 1332) (v := 1) dL_law_1332 (by decide) ?_
  refine WP.iaN (pc := 1333) (a := i) (b := 1) dL_law_1333 ?_
  refine WP.xA (pc := 1334) (i := i + 1) (by omega) (by omega) dL_law_1334 ?_
  refine WP.aload_n (pc := 1335) dL_law_1335 rfl ?_
  refine WP.callSH (pc := 1336) (mc2 := 40 * k) (ms2 := 512 * k) (M' := ML_patience) (List.cons_ne_nil _ _) kL_255 (CL_patience Γ hx ((gX Γ).2.2 (i + 1)) ho) rfl ⟨(Nat.le_of_ble_eq_true rfl), (Nat.le_of_ble_eq_true rfl)⟩ (by omega) (by omega) (Nat.le_of_ble_eq_true rfl) rfl dL_law_1336 (fun v τ hw => ?_) (fun E τ hw => nomatch hw.1)
  obtain ⟨h1, h2, h3, h4⟩ := hw
  cases h1
  obtain ⟨hx2, hm2, hd2, ho2⟩ := hs.x h2 h3
  refine WP.istore (pc := 1339) dL_law_1339 (Nat.le_of_ble_eq_true rfl) rfl ?_
  refine WP.self ?_
  refine WP.aload_n (pc := 1341) dL_law_1341 rfl ?_
  refine WP.aload_n (pc := 1342) dL_law_1342 rfl ?_
  refine WP.iload (pc := 1343) dL_law_1343 rfl ?_
  refine WP.iconst (pc := 1345) (v := 1) dL_law_1345 (by decide) ?_
  refine WP.iaN (pc := 1346) (a := i) (b := 1) dL_law_1346 ?_
  refine WP.xA (pc := 1347) (i := i + 1) (by omega) (by omega) dL_law_1347 ?_
  refine WP.cVp (pc := 1348) (mc2 := 40 * k) (ms2 := 512 * k) (ci := 9) kL_257 (CX9_patience Γ hm2 hd2 ((gX Γ).2.2 (i + 1))) (by decide) rfl hm2.t0 rfl ⟨(Nat.le_of_ble_eq_true rfl), (Nat.le_of_ble_eq_true rfl)⟩ (by omega) (by omega) (Nat.le_of_ble_eq_true rfl) rfl dL_law_1348 (fun v I1 ⟨g1, g2, g3, g4⟩ => ?_)
  have h5 := SI.m hx2 hm2 ho2 g3 g4
  generalize q_patience mm ((gX Γ).2.2 (i + 1)) = q at *
  refine WP.istore (pc := 1351) dL_law_1351 (Nat.le_of_ble_eq_true rfl) rfl ?_
  refine WP.aload_n (pc := 1353) dL_law_1353 rfl ?_
  refine WP.cV1 (pc := 1354) (mc2 := 40 * k) (ms2 := 512 * k) (ci := 9) kL_175 (CX9_thrown Γ hm2) (by decide) rfl hm2.t0 rfl ⟨(Nat.le_of_ble_eq_true rfl), (Nat.le_of_ble_eq_true rfl)⟩ (by omega) (by omega) (Nat.le_of_ble_eq_true rfl) rfl dL_law_1354 ?_
  rw [g1]
  refine WP.iload (pc := 1357) dL_law_1357 rfl ?_
  refine WP.icmp_eq (pc := 1359) (tgt := 1364) dL_law_1359 (by decide) (fun _ => ?_) (fun c => absurd rfl c)
  refine WP.iload (pc := 1364) dL_law_1364 rfl ?_
  have fin : ∀ L5 L6, WP Γ (12, 260, 40 * k, 512 * k) (ML_law nm) lwO 1381 (lwL Γ x i L5 L6 none none) [] (wI τ I1) := fun L5 L6 => WP.goto (pc := 1381) (tgt := 3458) dL_law_1381 (by decide) (hk _ _ L5 L6 none none h5 hI)
  refine WP.if_ne (pc := 1366) (tgt := 1381) dL_law_1366 (by decide) (fun _ => fin _ _) (fun c => ?_)
  have c0 : q.1 = 0 := (nI_eq (b := 0) (by omega) (by omega)).mp c
  refine WP.aload_n (pc := 1369) dL_law_1369 rfl ?_
  refine WP.iconst (pc := 1370) (v := 0) dL_law_1370 (by decide) ?_
  refine WP.laload (pc := 1371) (a := x + 74) (n := 1) ho2 vp01 dL_law_1371 ?_
  rw [show aL (wI τ I1) (x + 74) (Int32.toNatClampNeg 0) = q.2.1.toInt64 from h4 c0]
  refine WP.iload (pc := 1372) dL_law_1372 rfl ?_
  refine WP.i2l (pc := 1374) dL_law_1374 ?_
  rw [g2 c0]
  refine WP.lcmp (pc := 1375) dL_law_1375 ?_
  exact WP.if_eq (pc := 1376) (tgt := 1381) dL_law_1376 (by decide) (fun _ => fin _ _) (fun c => absurd (lg_self _) c)
end T
