section T
variable (Γ : cG) {x h : Nat} {m : mX}
theorem HA_join {σ : cAS} {N P TT C X nm : Nat} {S : hBd} {s : mS} (hj : hJ σ x m h N S) (hR : hRs noP P s S) (hw : wf TT C s) (hX : X < 2147483648) (hc : ¬ X % 16 < 3) (hc2 : X % 16 < 6) : WP Γ (4, 102, 330, 990) MX9_acts (acQ x m h P nm s X) 166 [some (.ref h), some (.int (nI X)), some (.int (nI (X / 16))), some (.int (nI (X / 16 % 3))), none, none] [] σ := by
  have hA : hdAct nm s X = (if s.2.2.2.1.length = 10 then (-9, s) else (s.1 11, wlC s nm (nI (X / 16 % 3)) (nI (1 + X / 16 / 4 % 5)) (nI (1 + X / 16 / 32 % 40)) (nI (X / 16 / 2048 % 200)) (nI (1 + X / 16 / 65536 % 20)))) := by
    unfold hdAct
    rw [if_neg hc, if_pos hc2]
  have hC10 := hw.2.2.2.2.1.1
  have hSQ : S.2.2.2.1 = s.2.2.2.1 := hR.2.2.2.1.1
  refine WP.aload_n (pc := 166) dX9_acts_166 rfl ?_
  refine WP.gIs (pc := 167) uX9 fX9_46 hj.t0 (v := nI S.2.2.2.1.length) ((hj.fI 5).trans (hR.h5)) dX9_acts_167 ?_
  refine WP.bipush (pc := 170) (v := 10) dX9_acts_170 (by decide) ?_
  refine WP.icmp_ne (pc := 172) (tgt := 178) dX9_acts_172 (by decide) (fun c => ?_) (fun c => ?_)
  · have h10 : ¬ s.2.2.2.1.length = 10 := fun z => c (by rw [hSQ, z]; rfl)
    rw [if_neg h10] at hA
    have hS9 : S.2.2.2.1.length < 10 := by rw [hSQ]; omega
    refine WP.aload_n (pc := 178) dX9_acts_178 rfl ?_
    refine WP.gRs (pc := 179) uX9 fX9_18 hj.t0 hj.r0_2 dX9_acts_179 ?_
    refine WP.aload_n (pc := 182) dX9_acts_182 rfl ?_
    refine WP.gIs (pc := 183) uX9 fX9_46 hj.t0 (v := nI S.2.2.2.1.length) ((hj.fI 5).trans (hR.h5)) dX9_acts_183 ?_
    refine WP.bipush (pc := 186) (v := 6) dX9_acts_186 (by decide) ?_
    refine WP.less (mc2 := 329 + 1) (ms2 := 984 + 6) (by omega) (by omega) ?_
    refine WP.newarr (pc := 188) (kd := 11) (n := 6) (by decide) (by decide) rfl nA11 (by decide) (by decide) (by decide) dX9_acts_188 ?_
    have ht : aT (sA σ 11 6) (aN σ) = (11, 6) := by rw [aT_sA, if_pos rfl]
    have hf := hj.newF 11 6
    have hN := hj.newN
    replace hj := hj.alloc 11 6
    refine WP.dup (pc := 190) dX9_acts_190 rfl ?_
    refine WP.iconst (pc := 191) (v := 0) dX9_acts_191 (by decide) ?_
    refine WP.aload_n (pc := 192) dX9_acts_192 rfl ?_
    refine WP.gIs (pc := 193) uX9 fX9_68 hj.t0 (v := (s.1 11)) ((hj.fI 8).trans (hR.1.1)) dX9_acts_193 ?_
    refine WP.iastS (pc := 196) (k := 0) ht (by omega) (by omega) dX9_acts_196 ?_
    refine WP.dup (pc := 197) dX9_acts_197 rfl ?_
    refine WP.iconst (pc := 198) (v := 1) dX9_acts_198 (by decide) ?_
    refine WP.iload_n (pc := 199) dX9_acts_199 rfl ?_
    refine WP.iastS (pc := 200) (k := 1) ht (by omega) (by omega) dX9_acts_200 ?_
    refine WP.dup (pc := 201) dX9_acts_201 rfl ?_
    refine WP.iconst (pc := 202) (v := 2) dX9_acts_202 (by decide) ?_
    refine WP.iconst (pc := 203) (v := 1) dX9_acts_203 (by decide) ?_
    refine WP.iload_n (pc := 204) dX9_acts_204 rfl ?_
    refine WP.iconst (pc := 205) (v := 4) dX9_acts_205 (by decide) ?_
    refine WP.idN (pc := 206) (b := 4) rfl (by omega) (by omega) (by omega) dX9_acts_206 ?_
    refine WP.iconst (pc := 207) (v := 5) dX9_acts_207 (by decide) ?_
    refine WP.irN (pc := 208) (b := 5) rfl (by omega) (by omega) (by omega) dX9_acts_208 ?_
    refine WP.iaN (pc := 209) (a := 1) rfl rfl dX9_acts_209 ?_
    refine WP.iastS (pc := 210) (k := 2) ht (by omega) (by omega) dX9_acts_210 ?_
    refine WP.dup (pc := 211) dX9_acts_211 rfl ?_
    refine WP.iconst (pc := 212) (v := 3) dX9_acts_212 (by decide) ?_
    refine WP.iconst (pc := 213) (v := 1) dX9_acts_213 (by decide) ?_
    refine WP.iload_n (pc := 214) dX9_acts_214 rfl ?_
    refine WP.bipush (pc := 215) (v := 32) dX9_acts_215 (by decide) ?_
    refine WP.idN (pc := 217) (b := 32) rfl (by omega) (by omega) (by omega) dX9_acts_217 ?_
    refine WP.bipush (pc := 218) (v := 40) dX9_acts_218 (by decide) ?_
    refine WP.irN (pc := 220) (b := 40) rfl (by omega) (by omega) (by omega) dX9_acts_220 ?_
    refine WP.iaN (pc := 221) (a := 1) rfl rfl dX9_acts_221 ?_
    refine WP.iastS (pc := 222) (k := 3) ht (by omega) (by omega) dX9_acts_222 ?_
    refine WP.dup (pc := 223) dX9_acts_223 rfl ?_
    refine WP.iconst (pc := 224) (v := 4) dX9_acts_224 (by decide) ?_
    refine WP.iload_n (pc := 225) dX9_acts_225 rfl ?_
    refine WP.sipush (pc := 226) (v := 2048) dX9_acts_226 (by decide) ?_
    refine WP.idN (pc := 229) (b := 2048) rfl (by omega) (by omega) (by omega) dX9_acts_229 ?_
    refine WP.sipush (pc := 230) (v := 200) dX9_acts_230 (by decide) ?_
    refine WP.irN (pc := 233) (b := 200) rfl (by omega) (by omega) (by omega) dX9_acts_233 ?_
    refine WP.iastS (pc := 234) (k := 4) ht (by omega) (by omega) dX9_acts_234 ?_
    refine WP.dup (pc := 235) dX9_acts_235 rfl ?_
    refine WP.iconst (pc := 236) (v := 5) dX9_acts_236 (by decide) ?_
    refine WP.iconst (pc := 237) (v := 1) dX9_acts_237 (by decide) ?_
    refine WP.iload_n (pc := 238) dX9_acts_238 rfl ?_
    refine WP.ldc (pc := 239) qX9_126 dX9_acts_239 ?_
    refine WP.idN (pc := 241) (b := 65536) rfl (by omega) (by omega) (by omega) dX9_acts_241 ?_
    refine WP.bipush (pc := 242) (v := 20) dX9_acts_242 (by decide) ?_
    refine WP.irN (pc := 244) (b := 20) rfl (by omega) (by omega) (by omega) dX9_acts_244 ?_
    refine WP.iaN (pc := 245) (a := 1) rfl rfl dX9_acts_245 ?_
    refine WP.iastS (pc := 246) (k := 5) ht (by omega) (by omega) dX9_acts_246 ?_
    refine WP.aastS (pc := 247) hj.t3 ht (by omega) (by decide) dX9_acts_247 ?_
    replace hj := ((((((hj.tmp hN hf (j := 0) (v := s.1 11)).tmp hN hf (j := 1) (v := nI (X / 16 % 3))).tmp hN hf (j := 2) (v := nI (1 + X / 16 / 4 % 5))).tmp hN hf (j := 3) (v := nI (1 + X / 16 / 32 % 40))).tmp hN hf (j := 4) (v := nI (X / 16 / 2048 % 200))).tmp hN hf (j := 5) (v := nI (1 + X / 16 / 65536 % 20))).pushQ (nm, s.1 11, nI (X / 16 % 3), nI (1 + X / 16 / 4 % 5), nI (1 + X / 16 / 32 % 40), nI (X / 16 / 2048 % 200), nI (1 + X / 16 / 65536 % 20)) hN hf ht (new6 rfl)
    generalize sR _ (h + 3) _ _ = τ at hj ⊢
    refine WP.aload_n (pc := 248) dX9_acts_248 rfl ?_
    refine WP.dup (pc := 249) dX9_acts_249 rfl ?_
    refine WP.gIs (pc := 250) uX9 fX9_46 hj.t0 (v := nI S.2.2.2.1.length) ((hj.fI 5).trans (hR.h5)) dX9_acts_250 ?_
    refine WP.iconst (pc := 253) (v := 1) dX9_acts_253 (by decide) ?_
    refine WP.iaN (pc := 254) (b := 1) rfl rfl dX9_acts_254 ?_
    refine WP.putI (pc := 255) uX9 fX9_46 rfl rfl hj.t0 dX9_acts_255 ?_
    replace hj := hj.scal 5 (nI (S.2.2.2.1.length + 1))
    generalize sI τ h 5 _ = τ2 at hj ⊢
    refine WP.aload_n (pc := 258) dX9_acts_258 rfl ?_
    refine WP.dup (pc := 259) dX9_acts_259 rfl ?_
    refine WP.gIs (pc := 260) uX9 fX9_68 hj.t0 (v := (s.1 11)) ((hj.fI 8).trans (hR.1.1)) dX9_acts_260 ?_
    refine WP.iconst (pc := 263) (v := 1) dX9_acts_263 (by decide) ?_
    refine WP.iadd (pc := 264) dX9_acts_264 ?_
    refine WP.putI (pc := 265) uX9 fX9_68 rfl rfl hj.t0 dX9_acts_265 ?_
    replace hj := hj.scal 8 (s.1 11 + 1)
    generalize sI τ2 h 8 _ = τ3 at hj ⊢
    refine WP.aload_n (pc := 268) dX9_acts_268 rfl ?_
    refine WP.gIs (pc := 269) uX9 fX9_68 hj.t0 (v := (s.1 11 + 1)) ((hj.fI 8).trans (rfl)) dX9_acts_269 ?_
    refine WP.iconst (pc := 272) (v := 1) dX9_acts_272 (by decide) ?_
    refine WP.isub (pc := 273) dX9_acts_273 ?_
    rw [Int32.add_sub_cancel]
    refine WP.iret (pc := 274) rfl dX9_acts_274 ?_
    refine ⟨_, rfl, by rw [hA], _, _, hj, ?_⟩
    rw [hA]
    refine ((hR.join (nm, s.1 11, nI (X / 16 % 3), nI (1 + X / 16 / 4 % 5), nI (1 + X / 16 / 32 % 40), nI (X / 16 / 2048 % 200), nI (1 + X / 16 / 65536 % 20))).pp (P' := P + 13) (by omega)).any.zz ⟨rfl, rfl, rfl, rfl, fun j hj => ?_⟩
    show zup (zup s.1 9 _) 11 _ j = zup s.1 11 _ j
    unfold zup
    rw [if_neg (by omega), if_neg (by omega), if_neg (by omega)]
  · have h10 : s.2.2.2.1.length = 10 := by
      have c : nI S.2.2.2.1.length = 10 := by first | exact c | exact Classical.not_not.mp c
      rw [hSQ] at c
      exact (nI_eq (b := 10) (by omega) (by decide)).mp c
    rw [if_pos h10] at hA
    refine WP.bipush (pc := 175) (v := (-9)) dX9_acts_175 (by decide) ?_
    refine WP.iret (pc := 177) rfl dX9_acts_177 ?_
    refine ⟨_, rfl, by rw [hA], N, S, hj, ?_⟩
    rw [hA]
    exact (hR.pp (Nat.le_add_right _ _)).any
theorem HA_send {σ : cAS} {N P TT C X nm : Nat} {S : hBd} {s : mS} (hj : hJ σ x m h N S) (hR : hRs noP P s S) (hw : wf TT C s) (hT : TT ≤ 2147483647) (hP : P ≤ 1900) (hX : X < 2147483648) (hc : X % 16 = 6) : WP Γ (4, 102, 330, 990) MX9_acts (acQ x m h P nm s X) 275 [some (.ref h), some (.int (nI X)), some (.int (nI (X / 16))), some (.int (nI (X / 16 % 3))), none, none] [] σ := by
  have hA : hdAct nm s X = (if s.2.2.2.1.length = 0 then (-9, s) else ((s.2.2.2.1.getD (acW s X) dC).2.2.2.2.2.1, sdA s (acW s X))) := by
    unfold hdAct
    rw [if_neg (by omega), if_neg (by omega), if_pos hc]
  have hC10 := hw.2.2.2.2.1.1
  have hSQ : S.2.2.2.1 = s.2.2.2.1 := hR.2.2.2.1.1
  refine WP.aload_n (pc := 275) dX9_acts_275 rfl ?_
  refine WP.gIs (pc := 276) uX9 fX9_46 hj.t0 (v := nI s.2.2.2.1.length) ((hj.fI 5).trans ((hR.h5.trans (by rw [hSQ])))) dX9_acts_276 ?_
  refine WP.if_ne (pc := 279) (tgt := 285) dX9_acts_279 (by decide) (fun c => ?_) (fun c => ?_)
  · have h0 : 0 < s.2.2.2.1.length := by
      rcases Nat.eq_zero_or_pos s.2.2.2.1.length with q | q
      · exact absurd (by rw [q]; rfl) c
      · exact q
    have hw9 : acW s X < s.2.2.2.1.length := Nat.mod_lt _ h0
    rw [if_neg (by omega)] at hA
    obtain ⟨e, he⟩ : ∃ e, s.2.2.2.1[acW s X]? = some e := ⟨_, List.getElem?_eq_getElem hw9⟩
    have hgd : s.2.2.2.1.getD (acW s X) dC = e := by rw [List.getD_eq_getElem?_getD, he]; rfl
    obtain ⟨a, a1, a2, a3, -, -⟩ := hj.qu (by rw [hSQ]; exact he)
    refine WP.iload_n (pc := 285) dX9_acts_285 rfl ?_
    refine WP.aload_n (pc := 286) dX9_acts_286 rfl ?_
    refine WP.gIs (pc := 287) uX9 fX9_46 hj.t0 (v := nI s.2.2.2.1.length) ((hj.fI 5).trans ((hR.h5.trans (by rw [hSQ])))) dX9_acts_287 ?_
    refine WP.irN (pc := 290) rfl (by omega) (by omega) (by omega) dX9_acts_290 ?_
    rw [show X / 16 % s.2.2.2.1.length = acW s X from rfl]
    refine WP.istore (pc := 291) dX9_acts_291 (by decide) rfl ?_
    refine WP.aload_n (pc := 293) dX9_acts_293 rfl ?_
    refine WP.gRs (pc := 294) uX9 fX9_18 hj.t0 hj.r0_2 dX9_acts_294 ?_
    refine WP.iload (pc := 297) dX9_acts_297 rfl ?_
    refine WP.aaldS (pc := 299) hj.t3 (by omega) (by decide) a1 dX9_acts_299 ?_
    refine WP.iconst (pc := 300) (v := 4) dX9_acts_300 (by decide) ?_
    refine WP.ialdS (pc := 301) (k := 4) a2 (by decide) (by decide) (v := e.2.2.2.2.2.1) (congrFun a3 4) dX9_acts_301 ?_
    refine WP.istore (pc := 302) dX9_acts_302 (by decide) rfl ?_
    refine WP.aload_n (pc := 304) dX9_acts_304 rfl ?_
    refine WP.iload (pc := 305) dX9_acts_305 rfl ?_
    refine WP.iconst (pc := 307) (v := 2) dX9_acts_307 (by decide) ?_
    refine WP.cVs (pc := 308) (mc2 := 329) (ms2 := 987) (ci := 9) kX9_111 (CH_leaves Γ (e := e) hj hR.h5 hR.h7 (by have := hR.lE; omega) (by rw [hSQ]; exact hC10) (by rw [hSQ]; exact he) 2) (by decide) rfl hj.t0 rfl ⟨Nat.le_of_ble_eq_true rfl, Nat.le_of_ble_eq_true rfl⟩ (Nat.le_of_ble_eq_true rfl) (Nat.le_of_ble_eq_true rfl) (Nat.le_of_ble_eq_true rfl) rfl dX9_acts_308 (fun v τ ⟨hv, N', hj'⟩ => ?_)
    subst hv
    refine WP.iload (pc := 311) dX9_acts_311 rfl ?_
    refine WP.iret (pc := 313) rfl dX9_acts_313 ?_
    refine ⟨_, rfl, by rw [hA, hgd], _, _, hj', ?_⟩
    rw [hA]
    have e1 : (s.2.2.2.1.set (acW s X) (e.1, -1, e.2.2)).filter pC = s.2.2.2.1.eraseIdx (acW s X) := filter_erase (fun e he => by
      obtain ⟨t, h1, h2⟩ := (hw.2.2.2.2.1.2 e he).2.1
      rw [h1]
      exact nI_ne_m1 (by omega)) hw9 rfl
    unfold sdA
    rw [hgd, e1]
    exact ((hR.leave hw9 (3, e.2.1, 2)).pp (Nat.le_add_right _ _)).any.zz ⟨rfl, rfl, rfl, rfl, fun j hj => by
      show zup s.1 10 _ j = s.1 j
      unfold zup
      rw [if_neg (by omega)]⟩
  · have h0 : s.2.2.2.1.length = 0 := by
      have c : nI s.2.2.2.1.length = 0 := by first | exact c | exact Classical.not_not.mp c
      exact (nI_eq (b := 0) (by omega) (by decide)).mp c
    rw [if_pos h0] at hA
    refine WP.bipush (pc := 282) (v := (-9)) dX9_acts_282 (by decide) ?_
    refine WP.iret (pc := 284) rfl dX9_acts_284 ?_
    refine ⟨_, rfl, by rw [hA], N, S, hj, ?_⟩
    rw [hA]
    exact (hR.pp (Nat.le_add_right _ _)).any
theorem HA_base {σ : cAS} {N P X nm : Nat} {S : hBd} {s : mS} (hj : hJ σ x m h N S) (hR : hRs noP P s S) (hX : X < 2147483648) (hc : X % 16 = 7) : WP Γ (4, 102, 330, 990) MX9_acts (acQ x m h P nm s X) 314 [some (.ref h), some (.int (nI X)), some (.int (nI (X / 16))), some (.int (nI (X / 16 % 3))), none, none] [] σ := by
  have hA : hdAct nm s X = (s.1 (X / 16 % 3), (zup s.1 (X / 16 % 3) (nI (1 + X / 16 / 4 % 40)), s.2)) := by
    unfold hdAct
    rw [if_neg (by omega), if_neg (by omega), if_neg (by omega), if_pos hc]
  have hi : X / 16 % 3 < 3 := Nat.mod_lt _ (by decide)
  refine WP.aload_n (pc := 314) dX9_acts_314 rfl ?_
  refine WP.gRs (pc := 315) uX9 fX9_7 hj.t0 hj.r0_0 dX9_acts_315 ?_
  refine WP.iload_n (pc := 318) dX9_acts_318 rfl ?_
  refine WP.ialdS (pc := 319) hj.t1 (by omega) (by decide) (v := (s.1 (X / 16 % 3))) ((hj.bI _).trans ((hR.1.2.2.2.2 _ hi))) dX9_acts_319 ?_
  refine WP.istore (pc := 320) dX9_acts_320 (by decide) rfl ?_
  refine WP.aload_n (pc := 322) dX9_acts_322 rfl ?_
  refine WP.gRs (pc := 323) uX9 fX9_7 hj.t0 hj.r0_0 dX9_acts_323 ?_
  refine WP.iload_n (pc := 326) dX9_acts_326 rfl ?_
  refine WP.iconst (pc := 327) (v := 1) dX9_acts_327 (by decide) ?_
  refine WP.iload_n (pc := 328) dX9_acts_328 rfl ?_
  refine WP.iconst (pc := 329) (v := 4) dX9_acts_329 (by decide) ?_
  refine WP.idN (pc := 330) (b := 4) rfl (by omega) (by omega) (by omega) dX9_acts_330 ?_
  refine WP.bipush (pc := 331) (v := 40) dX9_acts_331 (by decide) ?_
  refine WP.irN (pc := 333) (b := 40) rfl (by omega) (by omega) (by omega) dX9_acts_333 ?_
  refine WP.iaN (pc := 334) (a := 1) rfl rfl dX9_acts_334 ?_
  refine WP.iastS (pc := 335) hj.t1 (by omega) (by decide) dX9_acts_335 ?_
  replace hj := hj.base (X / 16 % 3) (nI (1 + X / 16 / 4 % 40))
  refine WP.iload (pc := 336) dX9_acts_336 rfl ?_
  refine WP.iret (pc := 338) rfl dX9_acts_338 ?_
  refine ⟨_, rfl, by rw [hA], _, _, hj, ?_⟩
  rw [hA]
  exact ((hR.base _ hi _).pp (Nat.le_add_right _ _)).any
theorem HA_scat {σ : cAS} {N P X nm : Nat} {S : hBd} {s : mS} (hj : hJ σ x m h N S) (hR : hRs noP P s S) (hX : X < 2147483648) (hc : X % 16 = 8) : WP Γ (4, 102, 330, 990) MX9_acts (acQ x m h P nm s X) 339 [some (.ref h), some (.int (nI X)), some (.int (nI (X / 16))), some (.int (nI (X / 16 % 3))), none, none] [] σ := by
  have hA : hdAct nm s X = (s.1 4 + nI (1 + X / 16 % 40), (zup s.1 4 (s.1 4 + nI (1 + X / 16 % 40)), s.2)) := by
    unfold hdAct
    rw [if_neg (by omega), if_neg (by omega), if_neg (by omega), if_neg (by omega), if_pos hc]
  refine WP.aload_n (pc := 339) dX9_acts_339 rfl ?_
  refine WP.dup (pc := 340) dX9_acts_340 rfl ?_
  refine WP.gIs (pc := 341) uX9 fX9_74 hj.t0 (v := (s.1 4)) ((hj.fI 10).trans (hR.h10)) dX9_acts_341 ?_
  refine WP.iconst (pc := 344) (v := 1) dX9_acts_344 (by decide) ?_
  refine WP.iload_n (pc := 345) dX9_acts_345 rfl ?_
  refine WP.bipush (pc := 346) (v := 40) dX9_acts_346 (by decide) ?_
  refine WP.irN (pc := 348) (b := 40) rfl (by omega) (by omega) (by omega) dX9_acts_348 ?_
  refine WP.iaN (pc := 349) (a := 1) rfl rfl dX9_acts_349 ?_
  refine WP.iadd (pc := 350) dX9_acts_350 ?_
  refine WP.putI (pc := 351) uX9 fX9_74 rfl rfl hj.t0 dX9_acts_351 ?_
  replace hj := hj.scal 10 (s.1 4 + nI (1 + X / 16 % 40))
  refine WP.aload_n (pc := 354) dX9_acts_354 rfl ?_
  refine WP.gIs (pc := 355) uX9 fX9_74 hj.t0 (v := (s.1 4 + nI (1 + X / 16 % 40))) ((hj.fI 10).trans (rfl)) dX9_acts_355 ?_
  refine WP.iret (pc := 358) rfl dX9_acts_358 ?_
  refine ⟨_, rfl, by rw [hA], _, _, hj, ?_⟩
  rw [hA]
  exact ((hR.crumb _).pp (Nat.le_add_right _ _)).any
theorem HA_hold {σ : cAS} {N P TT C X nm : Nat} {S : hBd} {s : mS} (hj : hJ σ x m h N S) (hR : hRs noP P s S) (hw : wf TT C s) (hT : TT ≤ 2147483647) (hP : P + 13 ≤ 1900) (hX : X < 2147483648) (hc : 8 < X % 16) (hc2 : X % 16 < 12) : WP Γ (4, 102, 330, 990) MX9_acts (acQ x m h P nm s X) 359 [some (.ref h), some (.int (nI X)), some (.int (nI (X / 16))), some (.int (nI (X / 16 % 3))), none, none] [] σ := by
  have hA : hdAct nm s X = (nI (plT s (nI (X / 16 % 3))), hdOut s (nI (X / 16 % 3))) := by
    unfold hdAct
    rw [if_neg (by omega), if_neg (by omega), if_neg (by omega), if_neg (by omega), if_neg (by omega), if_pos hc2]
  have hi : X / 16 % 3 < 3 := Nat.mod_lt _ (by decide)
  refine WP.aload_n (pc := 359) dX9_acts_359 rfl ?_
  refine WP.iload_n (pc := 360) dX9_acts_360 rfl ?_
  refine WP.cVs (pc := 361) (mc2 := 315) (ms2 := 767) (ci := 9) kX9_127 (CH_holds Γ hj hR hw ⟨X / 16 % 3, rfl, by omega, by omega⟩ (by omega) hT) (by decide) rfl hj.t0 rfl ⟨Nat.le_of_ble_eq_true rfl, Nat.le_of_ble_eq_true rfl⟩ (Nat.le_of_ble_eq_true rfl) (Nat.le_of_ble_eq_true rfl) (Nat.le_of_ble_eq_true rfl) rfl dX9_acts_361 (fun v τ ⟨hv, N', S', hj', hR'⟩ => ?_)
  subst hv
  refine WP.iret (pc := 364) rfl dX9_acts_364 ?_
  refine ⟨_, rfl, by rw [hA], _, _, hj', ?_⟩
  rw [hA]
  exact (hR'.pp (by omega)).any
theorem hrsN_n {n : Nat} {s : mS} : hrsN (n + 1) s = hrsN n (hrOut s) := rfl
theorem i32_tel (a b c : Int32) : a - c + (b - a) = b - c := by
  rw [i32_gain, Int32.add_comm a b, Int32.add_comm c a, Int32.sub_eq_add_neg, Int32.neg_add, Int32.sub_eq_add_neg]
  rw [show b + a + (-a + -c) = b + (a + -a) + -c by ac_rfl]
  rw [Int32.add_right_neg, Int32.add_zero, Int32.sub_eq_add_neg]
theorem HL_pass {P TT X nm i : Nat} {s : mS} (hT : TT ≤ 2147483647) (hP : P ≤ 1900) (hi : i < 3) (hA : hdAct nm s X = ((hrsN (i + 1) s).1 8 - s.1 8, hrsN (i + 1) s)) : ∀ d j C t N S σ, j + d = i + 1 → C + 300 * d ≤ 900000000 → hJ σ x m h N S → hRs noP P t S → wf TT C t → t.2.1.length = 3 → hrsN d t = hrsN (i + 1) s → WP Γ (4, 102, 109 * d, 327 * d) MX9_acts (acQ x m h P nm s X) 371 [some (.ref h), some (.int (nI X)), some (.int (nI (X / 16))), some (.int (nI i)), some (.int (t.1 8 - s.1 8)), some (.int (nI j))] [] σ := by
  intro d
  induction d with
  | zero =>
    intro j C t N S σ h1 hC hj hR hw h3 he
    refine WP.iload (pc := 371) dX9_acts_371 rfl ?_
    refine WP.iload_n (pc := 373) dX9_acts_373 rfl ?_
    refine WP.icmp_gt (pc := 374) (tgt := 392) dX9_acts_374 (by decide) (fun c => ?_) (fun c => ?_)
    · refine WP.iload (pc := 392) dX9_acts_392 rfl ?_
      refine WP.iret (pc := 394) rfl dX9_acts_394 ?_
      have he : t = hrsN (i + 1) s := he
      refine ⟨_, rfl, by rw [hA, ← he], _, _, hj, ?_⟩
      rw [hA, ← he]
      exact (hR.pp (Nat.le_add_right _ _)).any
    · exact absurd (nI_lt (by omega) (by omega)) c
  | succ d ih =>
    intro j C t N S σ h1 hC hj hR hw h3 he
    have hC1 : C + 300 + 300 * d ≤ 900000000 := by
      clear hj hR hw h3 he ih hA
      omega
    have hC2 : C + 300 < 2 ^ 30 := by
      clear hj hR hw h3 he ih hA
      omega
    have hC3 : C + 300 < 2147483648 := by
      clear hj hR hw h3 he ih hA
      omega
    have h3' : (hrOut t).2.1.length = 3 := by
      show (t.2.1.map mkO).length = 3
      rw [List.length_map]
      exact h3
    refine WP.iload (pc := 371) dX9_acts_371 rfl ?_
    refine WP.iload_n (pc := 373) dX9_acts_373 rfl ?_
    refine WP.icmp_gt (pc := 374) (tgt := 392) dX9_acts_374 (by decide) (fun c => ?_) (fun c => ?_)
    · exact absurd c (nI_nlt (by omega) (by omega))
    · refine WP.iload (pc := 377) dX9_acts_377 rfl ?_
      refine WP.aload_n (pc := 379) dX9_acts_379 rfl ?_
      refine WP.cVs (pc := 380) (mc2 := 109 * d) (ms2 := 327 * d) (ci := 9) kX9_130 (CH_passes Γ hj hR hw h3 hP hT hC2) (by decide) rfl hj.t0 rfl ⟨Nat.le_of_ble_eq_true rfl, Nat.le_of_ble_eq_true rfl⟩ (Nat.le_of_eq (Nat.mul_succ 109 d).symm) (Nat.le_of_eq (Nat.mul_succ 327 d).symm) (Nat.le_of_ble_eq_true rfl) rfl dX9_acts_380 (fun v τ ⟨hv, N', S', hj', hR'⟩ => ?_)
      subst hv
      refine WP.iadd (pc := 383) dX9_acts_383 ?_
      rw [i32_tel]
      refine WP.istore (pc := 384) dX9_acts_384 (by decide) rfl ?_
      refine WP.iinc (pc := 386) dX9_acts_386 rfl (nI_1 _) (by decide) rfl ?_
      refine WP.goto (pc := 389) (tgt := 371) dX9_acts_389 (by decide) ?_
      exact ih (j + 1) (C + 300) (hrOut t) N' S' τ (by omega) hC1 hj' hR' (hrOut_wf hT hC3 hw) h3' he
theorem CH_acts {σ : cAS} {N P TT C X nm : Nat} {S : hBd} {s : mS} (hj : hJ σ x m h N S) (hR : hRs noP P s S) (hw : wf TT C s) (hT : TT ≤ 2147483647) (hC : C + 900 ≤ 900000000) (hP : P + 13 ≤ 1900) (hX : X < 2147483648) : Ctr Γ (4, 102, 330, 990) MX9_acts [.ref h, .int (nI X)] σ (acQ x m h P nm s X) := by
  refine Ctr.go rfl (by decide) rfl rfl ?_
  refine WP.iload_n (pc := 0) dX9_acts_0 rfl ?_
  refine WP.bipush (pc := 1) (v := 16) dX9_acts_1 (by decide) ?_
  refine WP.idN (pc := 3) (b := 16) rfl (by omega) (by omega) (by omega) dX9_acts_3 ?_
  refine WP.istore_n (pc := 4) dX9_acts_4 (by decide) rfl ?_
  refine WP.iload_n (pc := 5) dX9_acts_5 rfl ?_
  refine WP.iconst (pc := 6) (v := 3) dX9_acts_6 (by decide) ?_
  refine WP.irN (pc := 7) (b := 3) rfl (by omega) (by omega) (by omega) dX9_acts_7 ?_
  refine WP.istore_n (pc := 8) dX9_acts_8 (by decide) rfl ?_
  refine WP.iload_n (pc := 9) dX9_acts_9 rfl ?_
  refine WP.bipush (pc := 10) (v := 16) dX9_acts_10 (by decide) ?_
  refine WP.irN (pc := 12) (b := 16) rfl (by omega) (by omega) (by omega) dX9_acts_12 ?_
  have g0 : X % 16 < 3 → WP Γ (4, 102, 330, 990) MX9_acts (acQ x m h P nm s X) 76 [some (.ref h), some (.int (nI X)), some (.int (nI (X / 16))), some (.int (nI (X / 16 % 3))), none, none] [] σ := fun q => HA_bake Γ hj hR hw hX q
  have g1 : ¬ X % 16 < 3 → X % 16 < 6 → WP Γ (4, 102, 330, 990) MX9_acts (acQ x m h P nm s X) 166 [some (.ref h), some (.int (nI X)), some (.int (nI (X / 16))), some (.int (nI (X / 16 % 3))), none, none] [] σ := fun q q2 => HA_join Γ hj hR hw hX q q2
  have g2 : X % 16 = 6 → WP Γ (4, 102, 330, 990) MX9_acts (acQ x m h P nm s X) 275 [some (.ref h), some (.int (nI X)), some (.int (nI (X / 16))), some (.int (nI (X / 16 % 3))), none, none] [] σ := fun q => HA_send Γ hj hR hw hT (by omega) hX q
  have g3 : X % 16 = 7 → WP Γ (4, 102, 330, 990) MX9_acts (acQ x m h P nm s X) 314 [some (.ref h), some (.int (nI X)), some (.int (nI (X / 16))), some (.int (nI (X / 16 % 3))), none, none] [] σ := fun q => HA_base Γ hj hR hX q
  have g4 : X % 16 = 8 → WP Γ (4, 102, 330, 990) MX9_acts (acQ x m h P nm s X) 339 [some (.ref h), some (.int (nI X)), some (.int (nI (X / 16))), some (.int (nI (X / 16 % 3))), none, none] [] σ := fun q => HA_scat Γ hj hR hX q
  have g5 : 8 < X % 16 → X % 16 < 12 → WP Γ (4, 102, 330, 990) MX9_acts (acQ x m h P nm s X) 359 [some (.ref h), some (.int (nI X)), some (.int (nI (X / 16))), some (.int (nI (X / 16 % 3))), none, none] [] σ := fun q q2 => HA_hold Γ hj hR hw hT hP hX q q2
  have g6 : 12 ≤ X % 16 → WP Γ (4, 102, 330, 990) MX9_acts (acQ x m h P nm s X) 365 [some (.ref h), some (.int (nI X)), some (.int (nI (X / 16))), some (.int (nI (X / 16 % 3))), none, none] [] σ := fun q => by
    have hi : X / 16 % 3 < 3 := Nat.mod_lt _ (by decide)
    have hA : hdAct nm s X = ((hrsN (X / 16 % 3 + 1) s).1 8 - s.1 8, hrsN (X / 16 % 3 + 1) s) := by
      unfold hdAct
      rw [if_neg (by omega), if_neg (by omega), if_neg (by omega), if_neg (by omega), if_neg (by omega), if_neg (by omega)]
    refine WP.iconst (pc := 365) (v := 0) dX9_acts_365 (by decide) ?_
    refine WP.istore (pc := 366) dX9_acts_366 (by decide) rfl ?_
    refine WP.iconst (pc := 368) (v := 0) dX9_acts_368 (by decide) ?_
    refine WP.istore (pc := 369) dX9_acts_369 (by decide) rfl ?_
    refine WP.less (mc2 := 109 * (X / 16 % 3 + 1)) (ms2 := 327 * (X / 16 % 3 + 1)) (by omega) (by omega) ?_
    have hC4 : C + 300 * (X / 16 % 3 + 1) ≤ 900000000 := by
      exact Nat.le_trans (Nat.add_le_add_left (Nat.mul_le_mul_left 300 hi) C) hC
    have := HL_pass Γ (P := P) (TT := TT) (X := X) (nm := nm) (s := s) hT (by omega) hi hA (X / 16 % 3 + 1) 0 C s N S σ (Nat.zero_add _) hC4 hj hR hw hR.2.2.1.2.1 rfl
    rw [Int32.sub_self] at this
    exact this
  have hr : X % 16 < 16 := Nat.mod_lt _ (by decide)
  generalize X % 16 = r at g0 g1 g2 g3 g4 g5 g6 hr ⊢
  rcases (show r = 0 ∨ r = 1 ∨ r = 2 ∨ r = 3 ∨ r = 4 ∨ r = 5 ∨ r = 6 ∨ r = 7 ∨ r = 8 ∨ r = 9 ∨ r = 10 ∨ r = 11 ∨ r = 12 ∨ r = 13 ∨ r = 14 ∨ r = 15 by omega) with rfl | rfl | rfl | rfl | rfl | rfl | rfl | rfl | rfl | rfl | rfl | rfl | rfl | rfl | rfl | rfl
  · exact WP.tableIn (off := 63) (tgt := 76) dX9_acts_13 (by decide) (by decide) (by decide) (by decide) (g0 (by decide))
  · exact WP.tableIn (off := 63) (tgt := 76) dX9_acts_13 (by decide) (by decide) (by decide) (by decide) (g0 (by decide))
  · exact WP.tableIn (off := 63) (tgt := 76) dX9_acts_13 (by decide) (by decide) (by decide) (by decide) (g0 (by decide))
  · exact WP.tableIn (off := 153) (tgt := 166) dX9_acts_13 (by decide) (by decide) (by decide) (by decide) (g1 (by decide) (by decide))
  · exact WP.tableIn (off := 153) (tgt := 166) dX9_acts_13 (by decide) (by decide) (by decide) (by decide) (g1 (by decide) (by decide))
  · exact WP.tableIn (off := 153) (tgt := 166) dX9_acts_13 (by decide) (by decide) (by decide) (by decide) (g1 (by decide) (by decide))
  · exact WP.tableIn (off := 262) (tgt := 275) dX9_acts_13 (by decide) (by decide) (by decide) (by decide) (g2 rfl)
  · exact WP.tableIn (off := 301) (tgt := 314) dX9_acts_13 (by decide) (by decide) (by decide) (by decide) (g3 rfl)
  · exact WP.tableIn (off := 326) (tgt := 339) dX9_acts_13 (by decide) (by decide) (by decide) (by decide) (g4 rfl)
  · exact WP.tableIn (off := 346) (tgt := 359) dX9_acts_13 (by decide) (by decide) (by decide) (by decide) (g5 (by decide) (by decide))
  · exact WP.tableIn (off := 346) (tgt := 359) dX9_acts_13 (by decide) (by decide) (by decide) (by decide) (g5 (by decide) (by decide))
  · exact WP.tableIn (off := 346) (tgt := 359) dX9_acts_13 (by decide) (by decide) (by decide) (by decide) (g5 (by decide) (by decide))
  · exact WP.tableOut (tgt := 365) dX9_acts_13 (Or.inr (by decide)) (by decide) (g6 (by decide))
  · exact WP.tableOut (tgt := 365) dX9_acts_13 (Or.inr (by decide)) (by decide) (g6 (by decide))
  · exact WP.tableOut (tgt := 365) dX9_acts_13 (Or.inr (by decide)) (by decide) (g6 (by decide))
  · exact WP.tableOut (tgt := 365) dX9_acts_13 (Or.inr (by decide)) (by decide) (g6 (by decide))
end T
