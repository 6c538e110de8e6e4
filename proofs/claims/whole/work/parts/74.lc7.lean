-- behind: 73.law0 71.dl1 71.dl2 71.dl3 71.dl4 71.dl5 71.dl6 71.dl7 71.dl8
-- what one call of the script does, on both sides
section T
variable (Γ : cG) {nm : String × List (Nat × Nat × Nat × Nat)} {σ : cAS} {x i k T C Z : Nat} {mm : mX}
set_option maxRecDepth 4000 in
theorem law_c56 (hi : i + 6 ≤ (gX Γ).2.1) (hN : (gX Γ).2.1 ≤ 4000) (hb : bd T C Z) (hs : SI σ x mm) (hv : inv T C Z mm) (hk : nxK Γ nm x i k T C Z) : WP Γ (12, 260, 40 * (k + 1), 512 * (k + 1)) (ML_law nm) lwO 3108 (lwL Γ x i none none none none) [] σ := by
  obtain ⟨hx, hm, hd, ho⟩ := id hs
  have hI : inv (T + 1) (C + 18000) (Z + 2880) (q_scatter mm ((gX Γ).2.2 (i + 1))).2.2 := q_scatter_inv hv ((gX Γ).2.2 (i + 1))
  have hle := qscatter_le mm ((gX Γ).2.2 (i + 1))
  refine WP.aload_n (pc := 3108) dL_law_3108 rfl ?_
  refine WP.aload_n (pc := 3109) dL_law_3109 rfl ?_
  refine WP.iload (pc := 3110) dL_law_3110 rfl ?_
  refine WP.iconst (pc := 3112) (v := 1) dL_law_3112 (by decide) ?_
  refine WP.iaN (pc := 3113) (a := i) (b := 1) dL_law_3113 ?_
  refine WP.xA (pc := 3114) (i := i + 1) (by omega) (by omega) dL_law_3114 ?_
  refine WP.aload_n (pc := 3115) dL_law_3115 rfl ?_
  refine WP.callSH (pc := 3116) (mc2 := 40 * k) (ms2 := 512 * k) (M' := ML_scatter) (List.cons_ne_nil _ _) kL_362 (CL_scatter Γ hx ((gX Γ).2.2 (i + 1)) ho) rfl ⟨(Nat.le_of_ble_eq_true rfl), (Nat.le_of_ble_eq_true rfl)⟩ (by omega) (by omega) (Nat.le_of_ble_eq_true rfl) rfl dL_law_3116 (fun v τ hw => ?_) (fun E τ hw => nomatch hw.1)
  obtain ⟨h1, h2, h3, h4⟩ := hw
  cases h1
  obtain ⟨hx2, hm2, hd2, ho2⟩ := hs.x h2 h3
  refine WP.istore (pc := 3119) dL_law_3119 (Nat.le_of_ble_eq_true rfl) rfl ?_
  refine WP.self ?_
  refine WP.aload_n (pc := 3121) dL_law_3121 rfl ?_
  refine WP.aload_n (pc := 3122) dL_law_3122 rfl ?_
  refine WP.iload (pc := 3123) dL_law_3123 rfl ?_
  refine WP.iconst (pc := 3125) (v := 1) dL_law_3125 (by decide) ?_
  refine WP.iaN (pc := 3126) (a := i) (b := 1) dL_law_3126 ?_
  refine WP.xA (pc := 3127) (i := i + 1) (by omega) (by omega) dL_law_3127 ?_
  refine WP.cVp (pc := 3128) (mc2 := 40 * k) (ms2 := 512 * k) (ci := 9) kL_364 (CX9_scatter Γ hm2 hd2 ((gX Γ).2.2 (i + 1))) (by decide) rfl hm2.t0 rfl ⟨(Nat.le_of_ble_eq_true rfl), (Nat.le_of_ble_eq_true rfl)⟩ (by omega) (by omega) (Nat.le_of_ble_eq_true rfl) rfl dL_law_3128 (fun v I1 ⟨g1, g2, g3, g4⟩ => ?_)
  have h5 := SI.m hx2 hm2 ho2 g3 g4
  generalize q_scatter mm ((gX Γ).2.2 (i + 1)) = q at *
  refine WP.istore (pc := 3131) dL_law_3131 (Nat.le_of_ble_eq_true rfl) rfl ?_
  refine WP.aload_n (pc := 3133) dL_law_3133 rfl ?_
  refine WP.cV1 (pc := 3134) (mc2 := 40 * k) (ms2 := 512 * k) (ci := 9) kL_175 (CX9_thrown Γ hm2) (by decide) rfl hm2.t0 rfl ⟨(Nat.le_of_ble_eq_true rfl), (Nat.le_of_ble_eq_true rfl)⟩ (by omega) (by omega) (Nat.le_of_ble_eq_true rfl) rfl dL_law_3134 ?_
  rw [g1]
  refine WP.iload (pc := 3137) dL_law_3137 rfl ?_
  refine WP.icmp_eq (pc := 3139) (tgt := 3144) dL_law_3139 (by decide) (fun _ => ?_) (fun c => absurd rfl c)
  refine WP.iload (pc := 3144) dL_law_3144 rfl ?_
  have fin : ∀ L5 L6, WP Γ (12, 260, 40 * k, 512 * k) (ML_law nm) lwO 3161 (lwL Γ x i L5 L6 none none) [] (wI τ I1) := fun L5 L6 => WP.goto (pc := 3161) (tgt := 3458) dL_law_3161 (by decide) (hk _ _ L5 L6 none none h5 hI)
  refine WP.if_ne (pc := 3146) (tgt := 3161) dL_law_3146 (by decide) (fun _ => fin _ _) (fun c => ?_)
  have c0 : q.1 = 0 := (nI_eq (b := 0) (by omega) (by omega)).mp c
  refine WP.aload_n (pc := 3149) dL_law_3149 rfl ?_
  refine WP.iconst (pc := 3150) (v := 0) dL_law_3150 (by decide) ?_
  refine WP.laload (pc := 3151) (a := x + 74) (n := 1) ho2 vp01 dL_law_3151 ?_
  rw [show aL (wI τ I1) (x + 74) (Int32.toNatClampNeg 0) = q.2.1.toInt64 from h4 c0]
  refine WP.iload (pc := 3152) dL_law_3152 rfl ?_
  refine WP.i2l (pc := 3154) dL_law_3154 ?_
  rw [g2 c0]
  refine WP.lcmp (pc := 3155) dL_law_3155 ?_
  exact WP.if_eq (pc := 3156) (tgt := 3161) dL_law_3156 (by decide) (fun _ => fin _ _) (fun c => absurd (lg_self _) c)
set_option maxRecDepth 4000 in
theorem law_c57 (hi : i + 6 ≤ (gX Γ).2.1) (hN : (gX Γ).2.1 ≤ 4000) (hb : bd T C Z) (hs : SI σ x mm) (hv : inv T C Z mm) (hk : nxK Γ nm x i k T C Z) : WP Γ (12, 260, 40 * (k + 1), 512 * (k + 1)) (ML_law nm) lwO 3164 (lwL Γ x i none none none none) [] σ := by
  obtain ⟨hx, hm, hd, ho⟩ := id hs
  have hI : inv (T + 1) (C + 18000) (Z + 2880) (q_passHours mm ((gX Γ).2.2 (i + 1))).2.2 := q_passHours_inv hb.T hb.C2 hv ((gX Γ).2.2 (i + 1))
  have hle := qpassHours_le mm ((gX Γ).2.2 (i + 1))
  refine WP.aload_n (pc := 3164) dL_law_3164 rfl ?_
  refine WP.aload_n (pc := 3165) dL_law_3165 rfl ?_
  refine WP.iload (pc := 3166) dL_law_3166 rfl ?_
  refine WP.iconst (pc := 3168) (v := 1) dL_law_3168 (by decide) ?_
  refine WP.iaN (pc := 3169) (a := i) (b := 1) dL_law_3169 ?_
  refine WP.xA (pc := 3170) (i := i + 1) (by omega) (by omega) dL_law_3170 ?_
  refine WP.aload_n (pc := 3171) dL_law_3171 rfl ?_
  refine WP.callSH (pc := 3172) (mc2 := 40 * k) (ms2 := 512 * k) (M' := ML_passHours) (List.cons_ne_nil _ _) kL_365 (CL_passHours Γ hx hv.1.1 hb.T hb.C ((gX Γ).2.2 (i + 1)) ho) rfl ⟨(Nat.le_of_ble_eq_true rfl), (Nat.le_of_ble_eq_true rfl)⟩ (by omega) (by omega) (Nat.le_of_ble_eq_true rfl) rfl dL_law_3172 (fun v τ hw => ?_) (fun E τ hw => nomatch hw.1)
  obtain ⟨h1, h2, h3, h4⟩ := hw
  cases h1
  obtain ⟨hx2, hm2, hd2, ho2⟩ := hs.x h2 h3
  refine WP.istore (pc := 3175) dL_law_3175 (Nat.le_of_ble_eq_true rfl) rfl ?_
  refine WP.self ?_
  refine WP.aload_n (pc := 3177) dL_law_3177 rfl ?_
  refine WP.aload_n (pc := 3178) dL_law_3178 rfl ?_
  refine WP.iload (pc := 3179) dL_law_3179 rfl ?_
  refine WP.iconst (pc := 3181) (v := 1) dL_law_3181 (by decide) ?_
  refine WP.iaN (pc := 3182) (a := i) (b := 1) dL_law_3182 ?_
  refine WP.xA (pc := 3183) (i := i + 1) (by omega) (by omega) dL_law_3183 ?_
  refine WP.cVp (pc := 3184) (mc2 := 40 * k) (ms2 := 512 * k) (ci := 9) kL_367 (CX9_passHours Γ hm2 hd2 hv.1.1 hb.T hb.C ((gX Γ).2.2 (i + 1))) (by decide) rfl hm2.t0 rfl ⟨(Nat.le_of_ble_eq_true rfl), (Nat.le_of_ble_eq_true rfl)⟩ (by omega) (by omega) (Nat.le_of_ble_eq_true rfl) rfl dL_law_3184 (fun v I1 ⟨g1, g2, g3, g4⟩ => ?_)
  have h5 := SI.m hx2 hm2 ho2 g3 g4
  generalize q_passHours mm ((gX Γ).2.2 (i + 1)) = q at *
  refine WP.istore (pc := 3187) dL_law_3187 (Nat.le_of_ble_eq_true rfl) rfl ?_
  refine WP.aload_n (pc := 3189) dL_law_3189 rfl ?_
  refine WP.cV1 (pc := 3190) (mc2 := 40 * k) (ms2 := 512 * k) (ci := 9) kL_175 (CX9_thrown Γ hm2) (by decide) rfl hm2.t0 rfl ⟨(Nat.le_of_ble_eq_true rfl), (Nat.le_of_ble_eq_true rfl)⟩ (by omega) (by omega) (Nat.le_of_ble_eq_true rfl) rfl dL_law_3190 ?_
  rw [g1]
  refine WP.iload (pc := 3193) dL_law_3193 rfl ?_
  refine WP.icmp_eq (pc := 3195) (tgt := 3200) dL_law_3195 (by decide) (fun _ => ?_) (fun c => absurd rfl c)
  refine WP.iload (pc := 3200) dL_law_3200 rfl ?_
  have fin : ∀ L5 L6, WP Γ (12, 260, 40 * k, 512 * k) (ML_law nm) lwO 3217 (lwL Γ x i L5 L6 none none) [] (wI τ I1) := fun L5 L6 => WP.goto (pc := 3217) (tgt := 3458) dL_law_3217 (by decide) (hk _ _ L5 L6 none none h5 hI)
  refine WP.if_ne (pc := 3202) (tgt := 3217) dL_law_3202 (by decide) (fun _ => fin _ _) (fun c => ?_)
  have c0 : q.1 = 0 := (nI_eq (b := 0) (by omega) (by omega)).mp c
  refine WP.aload_n (pc := 3205) dL_law_3205 rfl ?_
  refine WP.iconst (pc := 3206) (v := 0) dL_law_3206 (by decide) ?_
  refine WP.laload (pc := 3207) (a := x + 74) (n := 1) ho2 vp01 dL_law_3207 ?_
  rw [show aL (wI τ I1) (x + 74) (Int32.toNatClampNeg 0) = q.2.1.toInt64 from h4 c0]
  refine WP.iload (pc := 3208) dL_law_3208 rfl ?_
  refine WP.i2l (pc := 3210) dL_law_3210 ?_
  rw [g2 c0]
  refine WP.lcmp (pc := 3211) dL_law_3211 ?_
  exact WP.if_eq (pc := 3212) (tgt := 3217) dL_law_3212 (by decide) (fun _ => fin _ _) (fun c => absurd (lg_self _) c)
set_option maxRecDepth 4000 in
theorem law_c58 (hi : i + 6 ≤ (gX Γ).2.1) (hN : (gX Γ).2.1 ≤ 4000) (hb : bd T C Z) (hs : SI σ x mm) (hv : inv T C Z mm) (hk : nxK Γ nm x i k T C Z) : WP Γ (12, 260, 40 * (k + 1), 512 * (k + 1)) (ML_law nm) lwO 3220 (lwL Γ x i none none none none) [] σ := by
  obtain ⟨hx, hm, hd, ho⟩ := id hs
  have hI : inv (T + 1) (C + 18000) (Z + 2880) (q_writeQueue mm).2.2 := q_writeQueue_inv hv
  refine WP.aload_n (pc := 3220) dL_law_3220 rfl ?_
  refine WP.cXO (pc := 3221) (mc2 := 40 * k) (ms2 := 512 * k) kL_368 (CX8_writeQueue Γ hx hv.1.1) rfl hx.1.t0 rfl ⟨(Nat.le_of_ble_eq_true rfl), (Nat.le_of_ble_eq_true rfl)⟩ (by omega) (by omega) (Nat.le_of_ble_eq_true rfl) rfl dL_law_3221 (fun τ h0 h2 h3 => ?_) (fun τ t h0 _ _ => absurd (show (0 : Nat) = t + 1 from h0) (by omega))
  obtain ⟨hx2, hm2, hd2, ho2⟩ := hs.x h2 (fun a c1 c2 => ⟨(h3 a c1 c2).1, (h3 a c1 c2).2.1, (h3 a c1 c2).2.2.1⟩)
  refine WP.self ?_
  refine WP.aload_n (pc := 3224) dL_law_3224 rfl ?_
  refine WP.cVp (pc := 3225) (mc2 := 40 * k) (ms2 := 512 * k) (ci := 9) kL_371 (CX9_writeQueue Γ hm2 hd2 hv.1.1) (by decide) rfl hm2.t0 rfl ⟨(Nat.le_of_ble_eq_true rfl), (Nat.le_of_ble_eq_true rfl)⟩ (by omega) (by omega) (Nat.le_of_ble_eq_true rfl) rfl dL_law_3225 (fun v I1 ⟨g1, g2, g3, g4⟩ => ?_)
  have h5 := SI.m hx2 hm2 ho2 g3 g4
  exact WP.icmp_eq (pc := 3228) (tgt := 3458) dL_law_3228 (by decide) (fun _ => hk _ _ none none none none h5 hI) (fun c => absurd (g2 h0).symm c)
set_option maxRecDepth 4000 in
theorem law_c59 (hi : i + 6 ≤ (gX Γ).2.1) (hN : (gX Γ).2.1 ≤ 4000) (hb : bd T C Z) (hs : SI σ x mm) (hv : inv T C Z mm) (hk : nxK Γ nm x i k T C Z) : WP Γ (12, 260, 40 * (k + 1), 512 * (k + 1)) (ML_law nm) lwO 3233 (lwL Γ x i none none none none) [] σ := by
  obtain ⟨hx, hm, hd, ho⟩ := id hs
  have hI : inv (T + 1) (C + 18000) (Z + 2880) (q_outputByte mm ((gX Γ).2.2 (i + 1))).2.2 := by
    unfold q_outputByte
    repeat' split
    all_goals exact hv.up
  have hle := qoutputByte_le mm ((gX Γ).2.2 (i + 1))
  refine WP.aload_n (pc := 3233) dL_law_3233 rfl ?_
  refine WP.aload_n (pc := 3234) dL_law_3234 rfl ?_
  refine WP.iload (pc := 3235) dL_law_3235 rfl ?_
  refine WP.iconst (pc := 3237) (v := 1) dL_law_3237 (by decide) ?_
  refine WP.iaN (pc := 3238) (a := i) (b := 1) dL_law_3238 ?_
  refine WP.xA (pc := 3239) (i := i + 1) (by omega) (by omega) dL_law_3239 ?_
  refine WP.aload_n (pc := 3240) dL_law_3240 rfl ?_
  refine WP.callSH (pc := 3241) (mc2 := 40 * k) (ms2 := 512 * k) (M' := ML_outputByte) (List.cons_ne_nil _ _) kL_372 (CL_outputByte Γ hx ((gX Γ).2.2 (i + 1)) ho) rfl ⟨(Nat.le_of_ble_eq_true rfl), (Nat.le_of_ble_eq_true rfl)⟩ (by omega) (by omega) (Nat.le_of_ble_eq_true rfl) rfl dL_law_3241 (fun v τ hw => ?_) (fun E τ hw => nomatch hw.1)
  obtain ⟨h1, h2, h3, h4⟩ := hw
  cases h1
  obtain ⟨hx2, hm2, hd2, ho2⟩ := hs.x h2 h3
  refine WP.istore (pc := 3244) dL_law_3244 (Nat.le_of_ble_eq_true rfl) rfl ?_
  refine WP.self ?_
  refine WP.aload_n (pc := 3246) dL_law_3246 rfl ?_
  refine WP.aload_n (pc := 3247) dL_law_3247 rfl ?_
  refine WP.iload (pc := 3248) dL_law_3248 rfl ?_
  refine WP.iconst (pc := 3250) (v := 1) dL_law_3250 (by decide) ?_
  refine WP.iaN (pc := 3251) (a := i) (b := 1) dL_law_3251 ?_
  refine WP.xA (pc := 3252) (i := i + 1) (by omega) (by omega) dL_law_3252 ?_
  refine WP.cVp (pc := 3253) (mc2 := 40 * k) (ms2 := 512 * k) (ci := 9) kL_374 (CX9_outputByte Γ hm2 hd2 ((gX Γ).2.2 (i + 1))) (by decide) rfl hm2.t0 rfl ⟨(Nat.le_of_ble_eq_true rfl), (Nat.le_of_ble_eq_true rfl)⟩ (by omega) (by omega) (Nat.le_of_ble_eq_true rfl) rfl dL_law_3253 (fun v I1 ⟨g1, g2, g3, g4⟩ => ?_)
  have h5 := SI.m hx2 hm2 ho2 g3 g4
  generalize q_outputByte mm ((gX Γ).2.2 (i + 1)) = q at *
  refine WP.istore (pc := 3256) dL_law_3256 (Nat.le_of_ble_eq_true rfl) rfl ?_
  refine WP.aload_n (pc := 3258) dL_law_3258 rfl ?_
  refine WP.cV1 (pc := 3259) (mc2 := 40 * k) (ms2 := 512 * k) (ci := 9) kL_175 (CX9_thrown Γ hm2) (by decide) rfl hm2.t0 rfl ⟨(Nat.le_of_ble_eq_true rfl), (Nat.le_of_ble_eq_true rfl)⟩ (by omega) (by omega) (Nat.le_of_ble_eq_true rfl) rfl dL_law_3259 ?_
  rw [g1]
  refine WP.iload (pc := 3262) dL_law_3262 rfl ?_
  refine WP.icmp_eq (pc := 3264) (tgt := 3269) dL_law_3264 (by decide) (fun _ => ?_) (fun c => absurd rfl c)
  refine WP.iload (pc := 3269) dL_law_3269 rfl ?_
  have fin : ∀ L5 L6, WP Γ (12, 260, 40 * k, 512 * k) (ML_law nm) lwO 3286 (lwL Γ x i L5 L6 none none) [] (wI τ I1) := fun L5 L6 => WP.goto (pc := 3286) (tgt := 3458) dL_law_3286 (by decide) (hk _ _ L5 L6 none none h5 hI)
  refine WP.if_ne (pc := 3271) (tgt := 3286) dL_law_3271 (by decide) (fun _ => fin _ _) (fun c => ?_)
  have c0 : q.1 = 0 := (nI_eq (b := 0) (by omega) (by omega)).mp c
  refine WP.aload_n (pc := 3274) dL_law_3274 rfl ?_
  refine WP.iconst (pc := 3275) (v := 0) dL_law_3275 (by decide) ?_
  refine WP.laload (pc := 3276) (a := x + 74) (n := 1) ho2 vp01 dL_law_3276 ?_
  rw [show aL (wI τ I1) (x + 74) (Int32.toNatClampNeg 0) = q.2.1.toInt64 from h4 c0]
  refine WP.iload (pc := 3277) dL_law_3277 rfl ?_
  refine WP.i2l (pc := 3279) dL_law_3279 ?_
  rw [g2 c0]
  refine WP.lcmp (pc := 3280) dL_law_3280 ?_
  exact WP.if_eq (pc := 3281) (tgt := 3286) dL_law_3281 (by decide) (fun _ => fin _ _) (fun c => absurd (lg_self _) c)
set_option maxRecDepth 4000 in
theorem law_c60 (hi : i + 6 ≤ (gX Γ).2.1) (hN : (gX Γ).2.1 ≤ 4000) (hb : bd T C Z) (hs : SI σ x mm) (hv : inv T C Z mm) (hk : nxK Γ nm x i k T C Z) : WP Γ (12, 260, 40 * (k + 1), 512 * (k + 1)) (ML_law nm) lwO 3289 (lwL Γ x i none none none none) [] σ := by
  obtain ⟨hx, hm, hd, ho⟩ := id hs
  have hI : inv (T + 1) (C + 18000) (Z + 2880) (q_save mm ((gX Γ).2.2 (i + 1))).2.2 := q_save_inv hv ((gX Γ).2.2 (i + 1))
  have hle := qsave_le mm ((gX Γ).2.2 (i + 1))
  refine WP.aload_n (pc := 3289) dL_law_3289 rfl ?_
  refine WP.aload_n (pc := 3290) dL_law_3290 rfl ?_
  refine WP.iload (pc := 3291) dL_law_3291 rfl ?_
  refine WP.iconst (pc := 3293) (v := 1) dL_law_3293 (by decide) ?_
  refine WP.iaN (pc := 3294) (a := i) (b := 1) dL_law_3294 ?_
  refine WP.xA (pc := 3295) (i := i + 1) (by omega) (by omega) dL_law_3295 ?_
  refine WP.aload_n (pc := 3296) dL_law_3296 rfl ?_
  refine WP.callSH (pc := 3297) (mc2 := 40 * k) (ms2 := 512 * k) (M' := ML_save) (List.cons_ne_nil _ _) kL_375 (CL_save Γ hx ((gX Γ).2.2 (i + 1)) ho) rfl ⟨(Nat.le_of_ble_eq_true rfl), (Nat.le_of_ble_eq_true rfl)⟩ (by omega) (by omega) (Nat.le_of_ble_eq_true rfl) rfl dL_law_3297 (fun v τ hw => ?_) (fun E τ hw => nomatch hw.1)
  obtain ⟨h1, h2, h3, h4⟩ := hw
  cases h1
  obtain ⟨hx2, hm2, hd2, ho2⟩ := hs.x h2 h3
  refine WP.istore (pc := 3300) dL_law_3300 (Nat.le_of_ble_eq_true rfl) rfl ?_
  refine WP.self ?_
  refine WP.aload_n (pc := 3302) dL_law_3302 rfl ?_
  refine WP.aload_n (pc := 3303) dL_law_3303 rfl ?_
  refine WP.iload (pc := 3304) dL_law_3304 rfl ?_
  refine WP.iconst (pc := 3306) (v := 1) dL_law_3306 (by decide) ?_
  refine WP.iaN (pc := 3307) (a := i) (b := 1) dL_law_3307 ?_
  refine WP.xA (pc := 3308) (i := i + 1) (by omega) (by omega) dL_law_3308 ?_
  refine WP.cVp (pc := 3309) (mc2 := 40 * k) (ms2 := 512 * k) (ci := 9) kL_377 (CX9_save Γ hm2 hd2 ((gX Γ).2.2 (i + 1))) (by decide) rfl hm2.t0 rfl ⟨(Nat.le_of_ble_eq_true rfl), (Nat.le_of_ble_eq_true rfl)⟩ (by omega) (by omega) (Nat.le_of_ble_eq_true rfl) rfl dL_law_3309 (fun v I1 ⟨g1, g2, g3, g4⟩ => ?_)
  have h5 := SI.m hx2 hm2 ho2 g3 g4
  generalize q_save mm ((gX Γ).2.2 (i + 1)) = q at *
  refine WP.istore (pc := 3312) dL_law_3312 (Nat.le_of_ble_eq_true rfl) rfl ?_
  refine WP.aload_n (pc := 3314) dL_law_3314 rfl ?_
  refine WP.cV1 (pc := 3315) (mc2 := 40 * k) (ms2 := 512 * k) (ci := 9) kL_175 (CX9_thrown Γ hm2) (by decide) rfl hm2.t0 rfl ⟨(Nat.le_of_ble_eq_true rfl), (Nat.le_of_ble_eq_true rfl)⟩ (by omega) (by omega) (Nat.le_of_ble_eq_true rfl) rfl dL_law_3315 ?_
  rw [g1]
  refine WP.iload (pc := 3318) dL_law_3318 rfl ?_
  refine WP.icmp_eq (pc := 3320) (tgt := 3325) dL_law_3320 (by decide) (fun _ => ?_) (fun c => absurd rfl c)
  refine WP.iload (pc := 3325) dL_law_3325 rfl ?_
  have fin : ∀ L5 L6, WP Γ (12, 260, 40 * k, 512 * k) (ML_law nm) lwO 3342 (lwL Γ x i L5 L6 none none) [] (wI τ I1) := fun L5 L6 => WP.goto (pc := 3342) (tgt := 3458) dL_law_3342 (by decide) (hk _ _ L5 L6 none none h5 hI)
  refine WP.if_ne (pc := 3327) (tgt := 3342) dL_law_3327 (by decide) (fun _ => fin _ _) (fun c => ?_)
  have c0 : q.1 = 0 := (nI_eq (b := 0) (by omega) (by omega)).mp c
  refine WP.aload_n (pc := 3330) dL_law_3330 rfl ?_
  refine WP.iconst (pc := 3331) (v := 0) dL_law_3331 (by decide) ?_
  refine WP.laload (pc := 3332) (a := x + 74) (n := 1) ho2 vp01 dL_law_3332 ?_
  rw [show aL (wI τ I1) (x + 74) (Int32.toNatClampNeg 0) = q.2.1.toInt64 from h4 c0]
  refine WP.iload (pc := 3333) dL_law_3333 rfl ?_
  refine WP.i2l (pc := 3335) dL_law_3335 ?_
  rw [g2 c0]
  refine WP.lcmp (pc := 3336) dL_law_3336 ?_
  exact WP.if_eq (pc := 3337) (tgt := 3342) dL_law_3337 (by decide) (fun _ => fin _ _) (fun c => absurd (lg_self _) c)
set_option maxRecDepth 4000 in
theorem law_c61 (hi : i + 6 ≤ (gX Γ).2.1) (hN : (gX Γ).2.1 ≤ 4000) (hb : bd T C Z) (hs : SI σ x mm) (hv : inv T C Z mm) (hk : nxK Γ nm x i k T C Z) : WP Γ (12, 260, 40 * (k + 1), 512 * (k + 1)) (ML_law nm) lwO 3345 (lwL Γ x i none none none none) [] σ := by
  obtain ⟨hx, hm, hd, ho⟩ := id hs
  have hI : inv (T + 1) (C + 18000) (Z + 2880) (q_restore mm ((gX Γ).2.2 (i + 1))).2.2 := q_restore_inv hv ((gX Γ).2.2 (i + 1))
  have hle := qrestore_le mm ((gX Γ).2.2 (i + 1))
  refine WP.aload_n (pc := 3345) dL_law_3345 rfl ?_
  refine WP.aload_n (pc := 3346) dL_law_3346 rfl ?_
  refine WP.iload (pc := 3347) dL_law_3347 rfl ?_
  refine WP.iconst (pc := 3349) (v := 1) dL_law_3349 (by decide) ?_
  refine WP.iaN (pc := 3350) (a := i) (b := 1) dL_law_3350 ?_
  refine WP.xA (pc := 3351) (i := i + 1) (by omega) (by omega) dL_law_3351 ?_
  refine WP.aload_n (pc := 3352) dL_law_3352 rfl ?_
  refine WP.callSH (pc := 3353) (mc2 := 40 * k) (ms2 := 512 * k) (M' := ML_restore) (List.cons_ne_nil _ _) kL_378 (CL_restore Γ hx ((gX Γ).2.2 (i + 1)) ho) rfl ⟨(Nat.le_of_ble_eq_true rfl), (Nat.le_of_ble_eq_true rfl)⟩ (by omega) (by omega) (Nat.le_of_ble_eq_true rfl) rfl dL_law_3353 (fun v τ hw => ?_) (fun E τ hw => nomatch hw.1)
  obtain ⟨h1, h2, h3, h4⟩ := hw
  cases h1
  obtain ⟨hx2, hm2, hd2, ho2⟩ := hs.x h2 h3
  refine WP.istore (pc := 3356) dL_law_3356 (Nat.le_of_ble_eq_true rfl) rfl ?_
  refine WP.self ?_
  refine WP.aload_n (pc := 3358) dL_law_3358 rfl ?_
  refine WP.aload_n (pc := 3359) dL_law_3359 rfl ?_
  refine WP.iload (pc := 3360) dL_law_3360 rfl ?_
  refine WP.iconst (pc := 3362) (v := 1) dL_law_3362 (by decide) ?_
  refine WP.iaN (pc := 3363) (a := i) (b := 1) dL_law_3363 ?_
  refine WP.xA (pc := 3364) (i := i + 1) (by omega) (by omega) dL_law_3364 ?_
  refine WP.cVp (pc := 3365) (mc2 := 40 * k) (ms2 := 512 * k) (ci := 9) kL_380 (CX9_restore Γ hm2 hd2 ((gX Γ).2.2 (i + 1))) (by decide) rfl hm2.t0 rfl ⟨(Nat.le_of_ble_eq_true rfl), (Nat.le_of_ble_eq_true rfl)⟩ (by omega) (by omega) (Nat.le_of_ble_eq_true rfl) rfl dL_law_3365 (fun v I1 ⟨g1, g2, g3, g4⟩ => ?_)
  have h5 := SI.m hx2 hm2 ho2 g3 g4
  generalize q_restore mm ((gX Γ).2.2 (i + 1)) = q at *
  refine WP.istore (pc := 3368) dL_law_3368 (Nat.le_of_ble_eq_true rfl) rfl ?_
  refine WP.aload_n (pc := 3370) dL_law_3370 rfl ?_
  refine WP.cV1 (pc := 3371) (mc2 := 40 * k) (ms2 := 512 * k) (ci := 9) kL_175 (CX9_thrown Γ hm2) (by decide) rfl hm2.t0 rfl ⟨(Nat.le_of_ble_eq_true rfl), (Nat.le_of_ble_eq_true rfl)⟩ (by omega) (by omega) (Nat.le_of_ble_eq_true rfl) rfl dL_law_3371 ?_
  rw [g1]
  refine WP.iload (pc := 3374) dL_law_3374 rfl ?_
  refine WP.icmp_eq (pc := 3376) (tgt := 3381) dL_law_3376 (by decide) (fun _ => ?_) (fun c => absurd rfl c)
  refine WP.iload (pc := 3381) dL_law_3381 rfl ?_
  have fin : ∀ L5 L6, WP Γ (12, 260, 40 * k, 512 * k) (ML_law nm) lwO 3398 (lwL Γ x i L5 L6 none none) [] (wI τ I1) := fun L5 L6 => WP.goto (pc := 3398) (tgt := 3458) dL_law_3398 (by decide) (hk _ _ L5 L6 none none h5 hI)
  refine WP.if_ne (pc := 3383) (tgt := 3398) dL_law_3383 (by decide) (fun _ => fin _ _) (fun c => ?_)
  have c0 : q.1 = 0 := (nI_eq (b := 0) (by omega) (by omega)).mp c
  refine WP.aload_n (pc := 3386) dL_law_3386 rfl ?_
  refine WP.iconst (pc := 3387) (v := 0) dL_law_3387 (by decide) ?_
  refine WP.laload (pc := 3388) (a := x + 74) (n := 1) ho2 vp01 dL_law_3388 ?_
  rw [show aL (wI τ I1) (x + 74) (Int32.toNatClampNeg 0) = q.2.1.toInt64 from h4 c0]
  refine WP.iload (pc := 3389) dL_law_3389 rfl ?_
  refine WP.i2l (pc := 3391) dL_law_3391 ?_
  rw [g2 c0]
  refine WP.lcmp (pc := 3392) dL_law_3392 ?_
  exact WP.if_eq (pc := 3393) (tgt := 3398) dL_law_3393 (by decide) (fun _ => fin _ _) (fun c => absurd (lg_self _) c)
set_option maxRecDepth 4000 in
theorem law_c62 (hi : i + 6 ≤ (gX Γ).2.1) (hN : (gX Γ).2.1 ≤ 4000) (hb : bd T C Z) (hs : SI σ x mm) (hv : inv T C Z mm) (hk : nxK Γ nm x i k T C Z) : WP Γ (12, 260, 40 * (k + 1), 512 * (k + 1)) (ML_law nm) lwO 3401 (lwL Γ x i none none none none) [] σ := by
  obtain ⟨hx, hm, hd, ho⟩ := id hs
  have hI : inv (T + 1) (C + 18000) (Z + 2880) (q_undo mm).2.2 := q_undo_inv hv
  have hle := qundo_le mm
  refine WP.aload_n (pc := 3401) dL_law_3401 rfl ?_
  refine WP.aload_n (pc := 3402) dL_law_3402 rfl ?_
  refine WP.callSH (pc := 3403) (mc2 := 40 * k) (ms2 := 512 * k) (M' := ML_undo) (List.cons_ne_nil _ _) kL_381 (CL_undo Γ hx ho) rfl ⟨(Nat.le_of_ble_eq_true rfl), (Nat.le_of_ble_eq_true rfl)⟩ (by omega) (by omega) (Nat.le_of_ble_eq_true rfl) rfl dL_law_3403 (fun v τ hw => ?_) (fun E τ hw => nomatch hw.1)
  obtain ⟨h1, h2, h3, h4⟩ := hw
  cases h1
  obtain ⟨hx2, hm2, hd2, ho2⟩ := hs.x h2 h3
  refine WP.istore (pc := 3406) dL_law_3406 (Nat.le_of_ble_eq_true rfl) rfl ?_
  refine WP.self ?_
  refine WP.aload_n (pc := 3408) dL_law_3408 rfl ?_
  refine WP.cVp (pc := 3409) (mc2 := 40 * k) (ms2 := 512 * k) (ci := 9) kL_383 (CX9_undo Γ hm2 hd2) (by decide) rfl hm2.t0 rfl ⟨(Nat.le_of_ble_eq_true rfl), (Nat.le_of_ble_eq_true rfl)⟩ (by omega) (by omega) (Nat.le_of_ble_eq_true rfl) rfl dL_law_3409 (fun v I1 ⟨g1, g2, g3, g4⟩ => ?_)
  have h5 := SI.m hx2 hm2 ho2 g3 g4
  generalize q_undo mm = q at *
  refine WP.istore (pc := 3412) dL_law_3412 (Nat.le_of_ble_eq_true rfl) rfl ?_
  refine WP.aload_n (pc := 3414) dL_law_3414 rfl ?_
  refine WP.cV1 (pc := 3415) (mc2 := 40 * k) (ms2 := 512 * k) (ci := 9) kL_175 (CX9_thrown Γ hm2) (by decide) rfl hm2.t0 rfl ⟨(Nat.le_of_ble_eq_true rfl), (Nat.le_of_ble_eq_true rfl)⟩ (by omega) (by omega) (Nat.le_of_ble_eq_true rfl) rfl dL_law_3415 ?_
  rw [g1]
  refine WP.iload (pc := 3418) dL_law_3418 rfl ?_
  refine WP.icmp_eq (pc := 3420) (tgt := 3425) dL_law_3420 (by decide) (fun _ => ?_) (fun c => absurd rfl c)
  refine WP.iload (pc := 3425) dL_law_3425 rfl ?_
  have fin : ∀ L5 L6, WP Γ (12, 260, 40 * k, 512 * k) (ML_law nm) lwO 3442 (lwL Γ x i L5 L6 none none) [] (wI τ I1) := fun L5 L6 => WP.goto (pc := 3442) (tgt := 3458) dL_law_3442 (by decide) (hk _ _ L5 L6 none none h5 hI)
  refine WP.if_ne (pc := 3427) (tgt := 3442) dL_law_3427 (by decide) (fun _ => fin _ _) (fun c => ?_)
  have c0 : q.1 = 0 := (nI_eq (b := 0) (by omega) (by omega)).mp c
  refine WP.aload_n (pc := 3430) dL_law_3430 rfl ?_
  refine WP.iconst (pc := 3431) (v := 0) dL_law_3431 (by decide) ?_
  refine WP.laload (pc := 3432) (a := x + 74) (n := 1) ho2 vp01 dL_law_3432 ?_
  rw [show aL (wI τ I1) (x + 74) (Int32.toNatClampNeg 0) = q.2.1.toInt64 from h4 c0]
  refine WP.iload (pc := 3433) dL_law_3433 rfl ?_
  refine WP.i2l (pc := 3435) dL_law_3435 ?_
  rw [g2 c0]
  refine WP.lcmp (pc := 3436) dL_law_3436 ?_
  exact WP.if_eq (pc := 3437) (tgt := 3442) dL_law_3437 (by decide) (fun _ => fin _ _) (fun c => absurd (lg_self _) c)
set_option maxRecDepth 4000 in
theorem law_c63 (hi : i + 6 ≤ (gX Γ).2.1) (hN : (gX Γ).2.1 ≤ 4000) (hb : bd T C Z) (hs : SI σ x mm) (hv : inv T C Z mm) (hk : nxK Γ nm x i k T C Z) : WP Γ (12, 260, 40 * (k + 1), 512 * (k + 1)) (ML_law nm) lwO 3445 (lwL Γ x i none none none none) [] σ := by
  obtain ⟨hx, hm, hd, ho⟩ := id hs
  have hI : inv (T + 1) (C + 18000) (Z + 2880) (q_undoDepth mm).2.2 := hv.up
  refine WP.aload_n (pc := 3445) dL_law_3445 rfl ?_
  refine WP.cXO (pc := 3446) (mc2 := 40 * k) (ms2 := 512 * k) kL_384 (CX8_undoDepth Γ hx) rfl hx.1.t0 rfl ⟨(Nat.le_of_ble_eq_true rfl), (Nat.le_of_ble_eq_true rfl)⟩ (by omega) (by omega) (Nat.le_of_ble_eq_true rfl) rfl dL_law_3446 (fun τ h0 h2 h3 => ?_) (fun τ t h0 _ _ => absurd (show (0 : Nat) = t + 1 from h0) (by omega))
  obtain ⟨hx2, hm2, hd2, ho2⟩ := hs.x h2 (fun a c1 c2 => ⟨(h3 a c1 c2).1, (h3 a c1 c2).2.1, (h3 a c1 c2).2.2.1⟩)
  refine WP.self ?_
  refine WP.aload_n (pc := 3449) dL_law_3449 rfl ?_
  refine WP.cVp (pc := 3450) (mc2 := 40 * k) (ms2 := 512 * k) (ci := 9) kL_387 (CX9_undoDepth Γ hm2 hd2) (by decide) rfl hm2.t0 rfl ⟨(Nat.le_of_ble_eq_true rfl), (Nat.le_of_ble_eq_true rfl)⟩ (by omega) (by omega) (Nat.le_of_ble_eq_true rfl) rfl dL_law_3450 (fun v I1 ⟨g1, g2, g3, g4⟩ => ?_)
  have h5 := SI.m hx2 hm2 ho2 g3 g4
  exact WP.icmp_eq (pc := 3453) (tgt := 3458) dL_law_3453 (by decide) (fun _ => hk _ _ none none none none h5 hI) (fun c => absurd (g2 h0).symm c)
end T
