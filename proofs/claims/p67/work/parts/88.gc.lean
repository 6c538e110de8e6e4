section T
variable (Γ : cG) {x h N : Nat} {m : mX}
-- the loaves
theorem LH_ag2 {Φ : cRes → cAS → Prop} {mc ms P TT C : Nat} {S : hBd} (hR : hRs noP P m.s S) (hw : wf TT C m.s)
    (kk : ∀ τ, hJ τ x m h N S → WP Γ (9, 160, mc, ms) MX9_agrees Φ 291 [some (.ref h), some (.ref x), some (.int (nI m.s.2.2.1.length)), none] [] τ) : ∀ d i σ, i + d = m.s.2.2.1.length → hJ σ x m h N S → WP Γ (9, 160, mc + 6 * d, ms + 36 * d) MX9_agrees Φ 204 [some (.ref h), some (.ref x), some (.int (nI i)), none] [] σ := by
  have hL60 : m.s.2.2.1.length ≤ 60 := by have := hw.2.2.1; omega
  have hl : m.s.2.2.1.length ≤ 2000 := by omega
  have hSF : S.2.2.2.2.1 = m.s.2.2.1 := hR.2.2.2.1.2.1
  have h6 : S.1 6 = nI m.s.2.2.1.length := by rw [hR.h6, hSF]
  intro d
  induction d with
  | zero =>
    intro i σ h1 hj
    have hi : i = m.s.2.2.1.length := by omega
    rw [hi]
    refine WP.iload_n (pc := 204) dX9_agrees_204 rfl ?_
    refine WP.aload_n (pc := 205) dX9_agrees_205 rfl ?_
    refine WP.gIs (pc := 206) uX9 fX9_93 hj.t0 (v := nI m.s.2.2.1.length) ((hj.fI 6).trans (h6)) dX9_agrees_206 ?_
    refine WP.icmp_ge (pc := 209) (tgt := 291) dX9_agrees_209 (by decide) (fun c => ?_) (fun c => ?_)
    · exact kk σ hj
    · exact absurd (nI_le (Nat.le_refl _) (by omega)) c
  | succ d ih =>
    intro i σ h1 hj
    obtain ⟨e, he⟩ : ∃ e, m.s.2.2.1[i]? = some e := ⟨_, List.getElem?_eq_getElem (by omega)⟩
    have heF : S.2.2.2.2.1[i]? = some e := by rw [hSF]; exact he
    refine WP.iload_n (pc := 204) dX9_agrees_204 rfl ?_
    refine WP.aload_n (pc := 205) dX9_agrees_205 rfl ?_
    refine WP.gIs (pc := 206) uX9 fX9_93 hj.t0 (v := nI m.s.2.2.1.length) ((hj.fI 6).trans (h6)) dX9_agrees_206 ?_
    refine WP.icmp_ge (pc := 209) (tgt := 291) dX9_agrees_209 (by decide) (fun c => ?_) (fun c => ?_)
    · exact absurd c (nI_ge (by omega) (by omega))
    · refine WP.aload_n (pc := 212) dX9_agrees_212 rfl ?_
      refine WP.iload_n (pc := 213) dX9_agrees_213 rfl ?_
      refine WP.cVs (pc := 214) (mc2 := mc + 6 * d + 5) (ms2 := ms + 36 * d + 30) (ci := 8) kX9_144 (G_loafKind Γ hj he hl) (by decide) rfl hj.1.1.t0 rfl ⟨Nat.le_of_ble_eq_true rfl, Nat.le_of_ble_eq_true rfl⟩ (by omega) (by omega) (Nat.le_of_ble_eq_true rfl) rfl dX9_agrees_214 (fun v τ ⟨hv, hj', hk⟩ => ?_)
      subst hv
      replace hj := hj'
      clear hj' hk
      obtain ⟨a, a1, a2, a3, -, -⟩ := hj.lf heF
      refine WP.aload_n (pc := 217) dX9_agrees_217 rfl ?_
      refine WP.gRs (pc := 218) uX9 fX9_21 hj.t0 hj.r0_3 dX9_agrees_218 ?_
      refine WP.iload_n (pc := 221) dX9_agrees_221 rfl ?_
      refine WP.aaldS (pc := 222) hj.t4 (by omega) (by decide) a1 dX9_agrees_222 ?_
      refine WP.iconst (pc := 223) (v := 0) dX9_agrees_223 (by decide) ?_
      refine WP.ialdS (pc := 224) (k := 0) a2 (by decide) (by decide) (v := e.1) (congrFun a3 0) dX9_agrees_224 ?_
      refine WP.icmp_ne (pc := 225) (tgt := 283) dX9_agrees_225 (by decide) (fun c1 => ?_) (fun c1 => ?_)
      · exact absurd rfl c1
      · refine WP.aload_n (pc := 228) dX9_agrees_228 rfl ?_
        refine WP.iload_n (pc := 229) dX9_agrees_229 rfl ?_
        refine WP.cVs (pc := 230) (mc2 := mc + 6 * d + 4) (ms2 := ms + 36 * d + 24) (ci := 8) kX9_147 (G_loafBaker Γ hj he hl) (by decide) rfl hj.1.1.t0 rfl ⟨Nat.le_of_ble_eq_true rfl, Nat.le_of_ble_eq_true rfl⟩ (by omega) (by omega) (Nat.le_of_ble_eq_true rfl) rfl dX9_agrees_230 (fun v τ ⟨hv, hj', hk⟩ => ?_)
        subst hv
        replace hj := hj'
        clear hj' hk
        obtain ⟨a, a1, a2, a3, -, -⟩ := hj.lf heF
        refine WP.aload_n (pc := 233) dX9_agrees_233 rfl ?_
        refine WP.gRs (pc := 234) uX9 fX9_21 hj.t0 hj.r0_3 dX9_agrees_234 ?_
        refine WP.iload_n (pc := 237) dX9_agrees_237 rfl ?_
        refine WP.aaldS (pc := 238) hj.t4 (by omega) (by decide) a1 dX9_agrees_238 ?_
        refine WP.iconst (pc := 239) (v := 1) dX9_agrees_239 (by decide) ?_
        refine WP.ialdS (pc := 240) (k := 1) a2 (by decide) (by decide) (v := e.2.1) (congrFun a3 1) dX9_agrees_240 ?_
        refine WP.icmp_ne (pc := 241) (tgt := 283) dX9_agrees_241 (by decide) (fun c2 => ?_) (fun c2 => ?_)
        · exact absurd rfl c2
        · refine WP.aload_n (pc := 244) dX9_agrees_244 rfl ?_
          refine WP.iload_n (pc := 245) dX9_agrees_245 rfl ?_
          refine WP.cVs (pc := 246) (mc2 := mc + 6 * d + 2) (ms2 := ms + 36 * d + 12) (ci := 8) kX9_150 (G_loafAge Γ hj he hl) (by decide) rfl hj.1.1.t0 rfl ⟨Nat.le_of_ble_eq_true rfl, Nat.le_of_ble_eq_true rfl⟩ (by omega) (by omega) (Nat.le_of_ble_eq_true rfl) rfl dX9_agrees_246 (fun v τ ⟨hv, hj', hk⟩ => ?_)
          subst hv
          replace hj := hj'
          clear hj' hk
          obtain ⟨a, a1, a2, a3, -, -⟩ := hj.lf heF
          refine WP.aload_n (pc := 249) dX9_agrees_249 rfl ?_
          refine WP.gIs (pc := 250) uX9 fX9_81 hj.t0 (v := (m.s.1 3)) ((hj.fI 9).trans (hR.h9)) dX9_agrees_250 ?_
          refine WP.aload_n (pc := 253) dX9_agrees_253 rfl ?_
          refine WP.gRs (pc := 254) uX9 fX9_21 hj.t0 hj.r0_3 dX9_agrees_254 ?_
          refine WP.iload_n (pc := 257) dX9_agrees_257 rfl ?_
          refine WP.aaldS (pc := 258) hj.t4 (by omega) (by decide) a1 dX9_agrees_258 ?_
          refine WP.iconst (pc := 259) (v := 2) dX9_agrees_259 (by decide) ?_
          refine WP.ialdS (pc := 260) (k := 2) a2 (by decide) (by decide) (v := e.2.2) (congrFun a3 2) dX9_agrees_260 ?_
          refine WP.isub (pc := 261) dX9_agrees_261 ?_
          refine WP.icmp_ne (pc := 262) (tgt := 283) dX9_agrees_262 (by decide) (fun c3 => ?_) (fun c3 => ?_)
          · exact absurd rfl c3
          · refine WP.aload_n (pc := 265) dX9_agrees_265 rfl ?_
            refine WP.iload_n (pc := 266) dX9_agrees_266 rfl ?_
            refine WP.cVs (pc := 267) (mc2 := mc + 6 * d) (ms2 := ms + 36 * d) (ci := 8) kX9_153 (G_reservePrice Γ hj he hl) (by decide) rfl hj.1.1.t0 rfl ⟨Nat.le_of_ble_eq_true rfl, Nat.le_of_ble_eq_true rfl⟩ (by omega) (by omega) (Nat.le_of_ble_eq_true rfl) rfl dX9_agrees_267 (fun v τ ⟨hv, hj', hk⟩ => ?_)
            subst hv
            replace hj := hj'
            clear hj' hk
            obtain ⟨a, a1, a2, a3, -, -⟩ := hj.lf heF
            refine WP.aload_n (pc := 270) dX9_agrees_270 rfl ?_
            refine WP.aload_n (pc := 271) dX9_agrees_271 rfl ?_
            refine WP.gRs (pc := 272) uX9 fX9_21 hj.t0 hj.r0_3 dX9_agrees_272 ?_
            refine WP.iload_n (pc := 275) dX9_agrees_275 rfl ?_
            refine WP.aaldS (pc := 276) hj.t4 (by omega) (by decide) a1 dX9_agrees_276 ?_
            refine WP.cV1 (pc := 277) (mc2 := mc + 6 * d) (ms2 := ms + 36 * d) (ci := 9) kX9_100 (CH_reserve Γ hj a2 a3 hw.1 (by decide : (73 : Nat) ≤ 2000) (hw.2.2.2.1.1 e (List.mem_of_getElem? he)) hR.Z) (by decide) rfl hj.t0 rfl ⟨Nat.le_of_ble_eq_true rfl, Nat.le_of_ble_eq_true rfl⟩ (by omega) (by omega) (Nat.le_of_ble_eq_true rfl) rfl dX9_agrees_277 ?_
            refine WP.icmp_eq (pc := 280) (tgt := 285) dX9_agrees_280 (by decide) (fun c4 => ?_) (fun c4 => ?_)
            · refine WP.iinc (pc := 285) dX9_agrees_285 rfl (nI_1 _) (by decide) rfl ?_
              refine WP.goto (pc := 288) (tgt := 204) dX9_agrees_288 (by decide) ?_
              exact ih (i + 1) _ (by omega) hj
            · exact absurd rfl c4
-- the queue
theorem LH_ag3 {Φ : cRes → cAS → Prop} {mc ms P TT C : Nat} {S : hBd} (hR : hRs noP P m.s S) (hw : wf TT C m.s) (htk : ∀ (i : Nat) (e : mCu), m.s.2.2.2.1[i]? = some e → fndI (fun i => (m.s.2.2.2.1.getD i dC).2.1) e.2.1 m.s.2.2.2.1.length 0 = nI i)
    (kk : ∀ τ, hJ τ x m h N S → WP Γ (9, 160, mc, ms) MX9_agrees Φ 389 [some (.ref h), some (.ref x), some (.int (nI m.s.2.2.2.1.length)), none] [] τ) : ∀ d i σ, i + d = m.s.2.2.2.1.length → hJ σ x m h N S → WP Γ (9, 160, mc + 4 * d, ms + 24 * d) MX9_agrees Φ 293 [some (.ref h), some (.ref x), some (.int (nI i)), none] [] σ := by
  have hC10 := hw.2.2.2.2.1.1
  have hl : m.s.2.2.2.1.length ≤ 2000 := by omega
  have hSQ : S.2.2.2.1 = m.s.2.2.2.1 := hR.2.2.2.1.1
  have h5 : S.1 5 = nI m.s.2.2.2.1.length := by rw [hR.h5, hSQ]
  intro d
  induction d with
  | zero =>
    intro i σ h1 hj
    have hi : i = m.s.2.2.2.1.length := by omega
    rw [hi]
    refine WP.iload_n (pc := 293) dX9_agrees_293 rfl ?_
    refine WP.aload_n (pc := 294) dX9_agrees_294 rfl ?_
    refine WP.gIs (pc := 295) uX9 fX9_46 hj.t0 (v := nI m.s.2.2.2.1.length) ((hj.fI 5).trans (h5)) dX9_agrees_295 ?_
    refine WP.icmp_ge (pc := 298) (tgt := 389) dX9_agrees_298 (by decide) (fun c => ?_) (fun c => ?_)
    · exact kk σ hj
    · exact absurd (nI_le (Nat.le_refl _) (by omega)) c
  | succ d ih =>
    intro i σ h1 hj
    obtain ⟨e, he⟩ : ∃ e, m.s.2.2.2.1[i]? = some e := ⟨_, List.getElem?_eq_getElem (by omega)⟩
    have heQ : S.2.2.2.1[i]? = some e := by rw [hSQ]; exact he
    refine WP.iload_n (pc := 293) dX9_agrees_293 rfl ?_
    refine WP.aload_n (pc := 294) dX9_agrees_294 rfl ?_
    refine WP.gIs (pc := 295) uX9 fX9_46 hj.t0 (v := nI m.s.2.2.2.1.length) ((hj.fI 5).trans (h5)) dX9_agrees_295 ?_
    refine WP.icmp_ge (pc := 298) (tgt := 389) dX9_agrees_298 (by decide) (fun c => ?_) (fun c => ?_)
    · exact absurd c (nI_ge (by omega) (by omega))
    · refine WP.aload_n (pc := 301) dX9_agrees_301 rfl ?_
      refine WP.iload_n (pc := 302) dX9_agrees_302 rfl ?_
      refine WP.cVs (pc := 303) (mc2 := mc + 4 * d + 3) (ms2 := ms + 24 * d + 18) (ci := 8) kX9_50 (G_ticketOf Γ hj he hl) (by decide) rfl hj.1.1.t0 rfl ⟨Nat.le_of_ble_eq_true rfl, Nat.le_of_ble_eq_true rfl⟩ (by omega) (by omega) (Nat.le_of_ble_eq_true rfl) rfl dX9_agrees_303 (fun v τ ⟨hv, hj', hk⟩ => ?_)
      subst hv
      replace hj := hj'
      clear hj' hk
      obtain ⟨a, a1, a2, a3, -, -⟩ := hj.qu heQ
      refine WP.aload_n (pc := 306) dX9_agrees_306 rfl ?_
      refine WP.gRs (pc := 307) uX9 fX9_18 hj.t0 hj.r0_2 dX9_agrees_307 ?_
      refine WP.iload_n (pc := 310) dX9_agrees_310 rfl ?_
      refine WP.aaldS (pc := 311) hj.t3 (by omega) (by decide) a1 dX9_agrees_311 ?_
      refine WP.iconst (pc := 312) (v := 0) dX9_agrees_312 (by decide) ?_
      refine WP.ialdS (pc := 313) (k := 0) a2 (by decide) (by decide) (v := e.2.1) (congrFun a3 0) dX9_agrees_313 ?_
      refine WP.icmp_ne (pc := 314) (tgt := 381) dX9_agrees_314 (by decide) (fun c1 => ?_) (fun c1 => ?_)
      · exact absurd rfl c1
      · refine WP.aload_n (pc := 317) dX9_agrees_317 rfl ?_
        refine WP.iload_n (pc := 318) dX9_agrees_318 rfl ?_
        refine WP.cVs (pc := 319) (mc2 := mc + 4 * d + 2) (ms2 := ms + 24 * d + 12) (ci := 8) kX9_56 (G_wanted Γ hj he hl) (by decide) rfl hj.1.1.t0 rfl ⟨Nat.le_of_ble_eq_true rfl, Nat.le_of_ble_eq_true rfl⟩ (by omega) (by omega) (Nat.le_of_ble_eq_true rfl) rfl dX9_agrees_319 (fun v τ ⟨hv, hj', hk⟩ => ?_)
        subst hv
        replace hj := hj'
        clear hj' hk
        obtain ⟨a, a1, a2, a3, -, -⟩ := hj.qu heQ
        refine WP.aload_n (pc := 322) dX9_agrees_322 rfl ?_
        refine WP.gRs (pc := 323) uX9 fX9_18 hj.t0 hj.r0_2 dX9_agrees_323 ?_
        refine WP.iload_n (pc := 326) dX9_agrees_326 rfl ?_
        refine WP.aaldS (pc := 327) hj.t3 (by omega) (by decide) a1 dX9_agrees_327 ?_
        refine WP.iconst (pc := 328) (v := 2) dX9_agrees_328 (by decide) ?_
        refine WP.ialdS (pc := 329) (k := 2) a2 (by decide) (by decide) (v := e.2.2.2.1) (congrFun a3 2) dX9_agrees_329 ?_
        refine WP.icmp_ne (pc := 330) (tgt := 381) dX9_agrees_330 (by decide) (fun c2 => ?_) (fun c2 => ?_)
        · exact absurd rfl c2
        · refine WP.aload_n (pc := 333) dX9_agrees_333 rfl ?_
          refine WP.iload_n (pc := 334) dX9_agrees_334 rfl ?_
          refine WP.cVs (pc := 335) (mc2 := mc + 4 * d + 1) (ms2 := ms + 24 * d + 6) (ci := 8) kX9_62 (G_purse Γ hj he hl) (by decide) rfl hj.1.1.t0 rfl ⟨Nat.le_of_ble_eq_true rfl, Nat.le_of_ble_eq_true rfl⟩ (by omega) (by omega) (Nat.le_of_ble_eq_true rfl) rfl dX9_agrees_335 (fun v τ ⟨hv, hj', hk⟩ => ?_)
          subst hv
          replace hj := hj'
          clear hj' hk
          obtain ⟨a, a1, a2, a3, -, -⟩ := hj.qu heQ
          refine WP.aload_n (pc := 338) dX9_agrees_338 rfl ?_
          refine WP.gRs (pc := 339) uX9 fX9_18 hj.t0 hj.r0_2 dX9_agrees_339 ?_
          refine WP.iload_n (pc := 342) dX9_agrees_342 rfl ?_
          refine WP.aaldS (pc := 343) hj.t3 (by omega) (by decide) a1 dX9_agrees_343 ?_
          refine WP.iconst (pc := 344) (v := 4) dX9_agrees_344 (by decide) ?_
          refine WP.ialdS (pc := 345) (k := 4) a2 (by decide) (by decide) (v := e.2.2.2.2.2.1) (congrFun a3 4) dX9_agrees_345 ?_
          refine WP.icmp_ne (pc := 346) (tgt := 381) dX9_agrees_346 (by decide) (fun c3 => ?_) (fun c3 => ?_)
          · exact absurd rfl c3
          · refine WP.aload_n (pc := 349) dX9_agrees_349 rfl ?_
            refine WP.iload_n (pc := 350) dX9_agrees_350 rfl ?_
            refine WP.cVs (pc := 351) (mc2 := mc + 4 * d) (ms2 := ms + 24 * d) (ci := 8) kX9_65 (G_patience Γ hj he hl) (by decide) rfl hj.1.1.t0 rfl ⟨Nat.le_of_ble_eq_true rfl, Nat.le_of_ble_eq_true rfl⟩ (by omega) (by omega) (Nat.le_of_ble_eq_true rfl) rfl dX9_agrees_351 (fun v τ ⟨hv, hj', hk⟩ => ?_)
            subst hv
            replace hj := hj'
            clear hj' hk
            obtain ⟨a, a1, a2, a3, -, -⟩ := hj.qu heQ
            refine WP.aload_n (pc := 354) dX9_agrees_354 rfl ?_
            refine WP.gRs (pc := 355) uX9 fX9_18 hj.t0 hj.r0_2 dX9_agrees_355 ?_
            refine WP.iload_n (pc := 358) dX9_agrees_358 rfl ?_
            refine WP.aaldS (pc := 359) hj.t3 (by omega) (by decide) a1 dX9_agrees_359 ?_
            refine WP.iconst (pc := 360) (v := 5) dX9_agrees_360 (by decide) ?_
            refine WP.ialdS (pc := 361) (k := 5) a2 (by decide) (by decide) (v := e.2.2.2.2.2.2) (congrFun a3 5) dX9_agrees_361 ?_
            refine WP.icmp_ne (pc := 362) (tgt := 381) dX9_agrees_362 (by decide) (fun c4 => ?_) (fun c4 => ?_)
            · exact absurd rfl c4
            · refine WP.aload_n (pc := 365) dX9_agrees_365 rfl ?_
              refine WP.aload_n (pc := 366) dX9_agrees_366 rfl ?_
              refine WP.gRs (pc := 367) uX9 fX9_18 hj.t0 hj.r0_2 dX9_agrees_367 ?_
              refine WP.iload_n (pc := 370) dX9_agrees_370 rfl ?_
              refine WP.aaldS (pc := 371) hj.t3 (by omega) (by decide) a1 dX9_agrees_371 ?_
              refine WP.iconst (pc := 372) (v := 0) dX9_agrees_372 (by decide) ?_
              refine WP.ialdS (pc := 373) (k := 0) a2 (by decide) (by decide) (v := e.2.1) (congrFun a3 0) dX9_agrees_373 ?_
              refine WP.cVs (pc := 374) (mc2 := mc + 4 * d) (ms2 := ms + 24 * d) (ci := 8) kX9_156 (G_customerWithTicket Γ hj e.2.1 (nI i) (htk i e he)) (by decide) rfl hj.1.1.t0 rfl ⟨Nat.le_of_ble_eq_true rfl, Nat.le_of_ble_eq_true rfl⟩ (by omega) (by omega) (Nat.le_of_ble_eq_true rfl) rfl dX9_agrees_374 (fun v τ ⟨hv, hj', hk⟩ => ?_)
              subst hv
              replace hj := hj'
              clear hj' hk
              refine WP.iload_n (pc := 377) dX9_agrees_377 rfl ?_
              refine WP.icmp_eq (pc := 378) (tgt := 383) dX9_agrees_378 (by decide) (fun c5 => ?_) (fun c5 => ?_)
              · refine WP.iinc (pc := 383) dX9_agrees_383 rfl (nI_1 _) (by decide) rfl ?_
                refine WP.goto (pc := 386) (tgt := 293) dX9_agrees_386 (by decide) ?_
                exact ih (i + 1) _ (by omega) hj
              · exact absurd rfl c5
-- the events
theorem LH_ag4 {Φ : cRes → cAS → Prop} {mc ms P : Nat} {S : hBd} (hR : hRs noP P m.s S) (hV : m.s.2.2.2.2.length ≤ 30) (hE : S.2.2.2.2.2.length ≤ 2000)
    (kk : ∀ τ, hJ τ x m h N S → Φ (.inl (some (.int 1))) τ) : ∀ d i σ, i + d = m.s.2.2.2.2.length → hJ σ x m h N S → WP Γ (9, 160, mc + 3 * d, ms + 18 * d) MX9_agrees Φ 403 [some (.ref h), some (.ref x), some (.int (nI (S.2.2.2.2.2.length - 30))), some (.int (nI (S.2.2.2.2.2.length - 30 + i)))] [] σ := by
  have hl : m.s.2.2.2.2.length ≤ 2000 := by omega
  have hVE : m.s.2.2.2.2 = S.2.2.2.2.2.drop (S.2.2.2.2.2.length - 30) := hR.2.2.2.1.2.2
  have hlen : m.s.2.2.2.2.length = S.2.2.2.2.2.length - (S.2.2.2.2.2.length - 30) := by rw [hVE, List.length_drop]
  intro d
  induction d with
  | zero =>
    intro i σ h1 hj
    refine WP.iload_n (pc := 403) dX9_agrees_403 rfl ?_
    refine WP.aload_n (pc := 404) dX9_agrees_404 rfl ?_
    refine WP.gIs (pc := 405) uX9 fX9_90 hj.t0 (v := nI S.2.2.2.2.2.length) ((hj.fI 7).trans (hR.h7)) dX9_agrees_405 ?_
    refine WP.icmp_ge (pc := 408) (tgt := 473) dX9_agrees_408 (by decide) (fun c => ?_) (fun c => ?_)
    · refine WP.iconst (pc := 473) (v := 1) dX9_agrees_473 (by decide) ?_
      exact WP.zret (pc := 474) rfl (by decide) dX9_agrees_474 (kk σ hj)
    · exact absurd (nI_le (by omega) (by omega)) c
  | succ d ih =>
    intro i σ h1 hj
    obtain ⟨e, he⟩ : ∃ e, m.s.2.2.2.2[i]? = some e := ⟨_, List.getElem?_eq_getElem (by omega)⟩
    have heE : S.2.2.2.2.2[S.2.2.2.2.2.length - 30 + i]? = some e := by
      rw [← List.getElem?_drop, ← hVE]
      exact he
    have hsub : nI (S.2.2.2.2.2.length - 30 + i) - nI (S.2.2.2.2.2.length - 30) = nI i := by
      rw [pk_sub (by omega)]
      congr 1
      omega
    refine WP.iload_n (pc := 403) dX9_agrees_403 rfl ?_
    refine WP.aload_n (pc := 404) dX9_agrees_404 rfl ?_
    refine WP.gIs (pc := 405) uX9 fX9_90 hj.t0 (v := nI S.2.2.2.2.2.length) ((hj.fI 7).trans (hR.h7)) dX9_agrees_405 ?_
    refine WP.icmp_ge (pc := 408) (tgt := 473) dX9_agrees_408 (by decide) (fun c => ?_) (fun c => ?_)
    · exact absurd c (nI_ge (by omega) (by omega))
    · refine WP.aload_n (pc := 411) dX9_agrees_411 rfl ?_
      refine WP.iload_n (pc := 412) dX9_agrees_412 rfl ?_
      refine WP.iload_n (pc := 413) dX9_agrees_413 rfl ?_
      refine WP.isub (pc := 414) dX9_agrees_414 ?_
      rw [hsub]
      refine WP.cVs (pc := 415) (mc2 := mc + 3 * d + 2) (ms2 := ms + 18 * d + 12) (ci := 8) kX9_159 (G_eventType Γ hj he hl) (by decide) rfl hj.1.1.t0 rfl ⟨Nat.le_of_ble_eq_true rfl, Nat.le_of_ble_eq_true rfl⟩ (by omega) (by omega) (Nat.le_of_ble_eq_true rfl) rfl dX9_agrees_415 (fun v τ ⟨hv, hj', hk⟩ => ?_)
      subst hv
      replace hj := hj'
      clear hj' hk
      obtain ⟨a, a1, a2, a3, -, -⟩ := hj.ev heE
      refine WP.aload_n (pc := 418) dX9_agrees_418 rfl ?_
      refine WP.gRs (pc := 419) uX9 fX9_24 hj.t0 hj.r0_4 dX9_agrees_419 ?_
      refine WP.iload_n (pc := 422) dX9_agrees_422 rfl ?_
      refine WP.aaldS (pc := 423) hj.t5 (by omega) (by decide) a1 dX9_agrees_423 ?_
      refine WP.iconst (pc := 424) (v := 0) dX9_agrees_424 (by decide) ?_
      refine WP.ialdS (pc := 425) (k := 0) a2 (by decide) (by decide) (v := e.1) (congrFun a3 0) dX9_agrees_425 ?_
      refine WP.icmp_ne (pc := 426) (tgt := 465) dX9_agrees_426 (by decide) (fun c1 => ?_) (fun c1 => ?_)
      · exact absurd rfl c1
      · refine WP.aload_n (pc := 429) dX9_agrees_429 rfl ?_
        refine WP.iload_n (pc := 430) dX9_agrees_430 rfl ?_
        refine WP.iload_n (pc := 431) dX9_agrees_431 rfl ?_
        refine WP.isub (pc := 432) dX9_agrees_432 ?_
        rw [hsub]
        refine WP.cVs (pc := 433) (mc2 := mc + 3 * d + 1) (ms2 := ms + 18 * d + 6) (ci := 8) kX9_162 (G_eventFirst Γ hj he hl) (by decide) rfl hj.1.1.t0 rfl ⟨Nat.le_of_ble_eq_true rfl, Nat.le_of_ble_eq_true rfl⟩ (by omega) (by omega) (Nat.le_of_ble_eq_true rfl) rfl dX9_agrees_433 (fun v τ ⟨hv, hj', hk⟩ => ?_)
        subst hv
        replace hj := hj'
        clear hj' hk
        obtain ⟨a, a1, a2, a3, -, -⟩ := hj.ev heE
        refine WP.aload_n (pc := 436) dX9_agrees_436 rfl ?_
        refine WP.gRs (pc := 437) uX9 fX9_24 hj.t0 hj.r0_4 dX9_agrees_437 ?_
        refine WP.iload_n (pc := 440) dX9_agrees_440 rfl ?_
        refine WP.aaldS (pc := 441) hj.t5 (by omega) (by decide) a1 dX9_agrees_441 ?_
        refine WP.iconst (pc := 442) (v := 1) dX9_agrees_442 (by decide) ?_
        refine WP.ialdS (pc := 443) (k := 1) a2 (by decide) (by decide) (v := e.2.1) (congrFun a3 1) dX9_agrees_443 ?_
        refine WP.icmp_ne (pc := 444) (tgt := 465) dX9_agrees_444 (by decide) (fun c2 => ?_) (fun c2 => ?_)
        · exact absurd rfl c2
        · refine WP.aload_n (pc := 447) dX9_agrees_447 rfl ?_
          refine WP.iload_n (pc := 448) dX9_agrees_448 rfl ?_
          refine WP.iload_n (pc := 449) dX9_agrees_449 rfl ?_
          refine WP.isub (pc := 450) dX9_agrees_450 ?_
          rw [hsub]
          refine WP.cVs (pc := 451) (mc2 := mc + 3 * d) (ms2 := ms + 18 * d) (ci := 8) kX9_165 (G_eventSecond Γ hj he hl) (by decide) rfl hj.1.1.t0 rfl ⟨Nat.le_of_ble_eq_true rfl, Nat.le_of_ble_eq_true rfl⟩ (by omega) (by omega) (Nat.le_of_ble_eq_true rfl) rfl dX9_agrees_451 (fun v τ ⟨hv, hj', hk⟩ => ?_)
          subst hv
          replace hj := hj'
          clear hj' hk
          obtain ⟨a, a1, a2, a3, -, -⟩ := hj.ev heE
          refine WP.aload_n (pc := 454) dX9_agrees_454 rfl ?_
          refine WP.gRs (pc := 455) uX9 fX9_24 hj.t0 hj.r0_4 dX9_agrees_455 ?_
          refine WP.iload_n (pc := 458) dX9_agrees_458 rfl ?_
          refine WP.aaldS (pc := 459) hj.t5 (by omega) (by decide) a1 dX9_agrees_459 ?_
          refine WP.iconst (pc := 460) (v := 2) dX9_agrees_460 (by decide) ?_
          refine WP.ialdS (pc := 461) (k := 2) a2 (by decide) (by decide) (v := e.2.2) (congrFun a3 2) dX9_agrees_461 ?_
          refine WP.icmp_eq (pc := 462) (tgt := 467) dX9_agrees_462 (by decide) (fun c3 => ?_) (fun c3 => ?_)
          · refine WP.iinc (pc := 467) dX9_agrees_467 rfl (nI_1 _) (by decide) rfl ?_
            refine WP.goto (pc := 470) (tgt := 403) dX9_agrees_470 (by decide) ?_
            exact ih (i + 1) _ (by omega) hj
          · exact absurd rfl c3
theorem CH_agrees {σ : cAS} {P TT C : Nat} {S : hBd} (hj : hJ σ x m h N S) (hR : hRs anyP P m.s S) (hw : wf TT C m.s) (hP : P ≤ 1900) (htk : ∀ (i : Nat) (e : mCu), m.s.2.2.2.1[i]? = some e → fndI (fun i => (m.s.2.2.2.1.getD i dC).2.1) e.2.1 m.s.2.2.2.1.length 0 = nI i) : Ctr Γ (9, 160, 511, 3066) MX9_agrees [.ref h, .ref x] σ (rS (fun v τ => v = some (.int 1) ∧ ∃ S', hJ τ x m h N S' ∧ hRs noP P m.s S')) := by
  have hC10 := hw.2.2.2.2.1.1
  have hL60 : m.s.2.2.1.length ≤ 60 := by have := hw.2.2.1; omega
  have hV30 := hw.2.2.2.2.2
  have h3 : m.s.2.1.length = 3 := hR.2.2.1.2.1
  have hSF : S.2.2.2.2.1 = m.s.2.2.1 := hR.2.2.2.1.2.1
  have hSQ : S.2.2.2.1 = m.s.2.2.2.1 := hR.2.2.2.1.1
  have hVE : m.s.2.2.2.2 = S.2.2.2.2.2.drop (S.2.2.2.2.2.length - 30) := hR.2.2.2.1.2.2
  have hlen : m.s.2.2.2.2.length = S.2.2.2.2.2.length - (S.2.2.2.2.2.length - 30) := by rw [hVE, List.length_drop]
  have hEl := hR.lE
  refine Ctr.go rfl (by decide) rfl rfl ?_
  refine WP.aload_n (pc := 0) dX9_agrees_0 rfl ?_
  refine WP.cVs (pc := 1) (mc2 := 511) (ms2 := 3066) (ci := 8) kX9_133 (G_hour Γ hj) (by decide) rfl hj.1.1.t0 rfl ⟨Nat.le_of_ble_eq_true rfl, Nat.le_of_ble_eq_true rfl⟩ (Nat.le_of_ble_eq_true rfl) (Nat.le_of_ble_eq_true rfl) (Nat.le_of_ble_eq_true rfl) rfl dX9_agrees_1 (fun v τ ⟨hv, hj', hk⟩ => ?_)
  subst hv
  replace hj := hj'
  clear hj' hk
  refine WP.aload_n (pc := 4) dX9_agrees_4 rfl ?_
  refine WP.gIs (pc := 5) uX9 fX9_81 hj.t0 (v := (m.s.1 3)) ((hj.fI 9).trans (hR.h9)) dX9_agrees_5 ?_
  refine WP.icmp_ne (pc := 8) (tgt := 71) dX9_agrees_8 (by decide) (fun c1 => ?_) (fun c1 => ?_)
  · exact absurd rfl c1
  · refine WP.aload_n (pc := 11) dX9_agrees_11 rfl ?_
    refine WP.cVs (pc := 12) (mc2 := 511) (ms2 := 3066) (ci := 8) kX9_135 (G_loafCount Γ hj) (by decide) rfl hj.1.1.t0 rfl ⟨Nat.le_of_ble_eq_true rfl, Nat.le_of_ble_eq_true rfl⟩ (Nat.le_of_ble_eq_true rfl) (Nat.le_of_ble_eq_true rfl) (Nat.le_of_ble_eq_true rfl) rfl dX9_agrees_12 (fun v τ ⟨hv, hj', hk⟩ => ?_)
    subst hv
    replace hj := hj'
    clear hj' hk
    refine WP.aload_n (pc := 15) dX9_agrees_15 rfl ?_
    refine WP.gIs (pc := 16) uX9 fX9_93 hj.t0 (v := nI m.s.2.2.1.length) ((hj.fI 6).trans ((hR.h6.trans (by rw [hSF])))) dX9_agrees_16 ?_
    refine WP.icmp_ne (pc := 19) (tgt := 71) dX9_agrees_19 (by decide) (fun c2 => ?_) (fun c2 => ?_)
    · exact absurd rfl c2
    · refine WP.aload_n (pc := 22) dX9_agrees_22 rfl ?_
      refine WP.cVs (pc := 23) (mc2 := 511) (ms2 := 3066) (ci := 8) kX9_42 (G_customerCount Γ hj) (by decide) rfl hj.1.1.t0 rfl ⟨Nat.le_of_ble_eq_true rfl, Nat.le_of_ble_eq_true rfl⟩ (Nat.le_of_ble_eq_true rfl) (Nat.le_of_ble_eq_true rfl) (Nat.le_of_ble_eq_true rfl) rfl dX9_agrees_23 (fun v τ ⟨hv, hj', hk⟩ => ?_)
      subst hv
      replace hj := hj'
      clear hj' hk
      refine WP.aload_n (pc := 26) dX9_agrees_26 rfl ?_
      refine WP.gIs (pc := 27) uX9 fX9_46 hj.t0 (v := nI m.s.2.2.2.1.length) ((hj.fI 5).trans ((hR.h5.trans (by rw [hSQ])))) dX9_agrees_27 ?_
      refine WP.icmp_ne (pc := 30) (tgt := 71) dX9_agrees_30 (by decide) (fun c3 => ?_) (fun c3 => ?_)
      · exact absurd rfl c3
      · refine WP.aload_n (pc := 33) dX9_agrees_33 rfl ?_
        refine WP.cVs (pc := 34) (mc2 := 511) (ms2 := 3066) (ci := 8) kX9_71 (G_crumbs Γ hj) (by decide) rfl hj.1.1.t0 rfl ⟨Nat.le_of_ble_eq_true rfl, Nat.le_of_ble_eq_true rfl⟩ (Nat.le_of_ble_eq_true rfl) (Nat.le_of_ble_eq_true rfl) (Nat.le_of_ble_eq_true rfl) rfl dX9_agrees_34 (fun v τ ⟨hv, hj', hk⟩ => ?_)
        subst hv
        replace hj := hj'
        clear hj' hk
        refine WP.aload_n (pc := 37) dX9_agrees_37 rfl ?_
        refine WP.gIs (pc := 38) uX9 fX9_74 hj.t0 (v := (m.s.1 4)) ((hj.fI 10).trans (hR.h10)) dX9_agrees_38 ?_
        refine WP.icmp_ne (pc := 41) (tgt := 71) dX9_agrees_41 (by decide) (fun c4 => ?_) (fun c4 => ?_)
        · exact absurd rfl c4
        · refine WP.aload_n (pc := 44) dX9_agrees_44 rfl ?_
          refine WP.cVs (pc := 45) (mc2 := 511) (ms2 := 3066) (ci := 8) kX9_76 (G_sparrows Γ hj) (by decide) rfl hj.1.1.t0 rfl ⟨Nat.le_of_ble_eq_true rfl, Nat.le_of_ble_eq_true rfl⟩ (Nat.le_of_ble_eq_true rfl) (Nat.le_of_ble_eq_true rfl) (Nat.le_of_ble_eq_true rfl) rfl dX9_agrees_45 (fun v τ ⟨hv, hj', hk⟩ => ?_)
          subst hv
          replace hj := hj'
          clear hj' hk
          refine WP.aload_n (pc := 48) dX9_agrees_48 rfl ?_
          refine WP.gIs (pc := 49) uX9 fX9_79 hj.t0 (v := (m.s.1 5)) ((hj.fI 11).trans (hR.h11)) dX9_agrees_49 ?_
          refine WP.icmp_ne (pc := 52) (tgt := 71) dX9_agrees_52 (by decide) (fun c5 => ?_) (fun c5 => ?_)
          · exact absurd rfl c5
          · refine WP.aload_n (pc := 55) dX9_agrees_55 rfl ?_
            refine WP.cVs (pc := 56) (mc2 := 511) (ms2 := 3066) (ci := 8) kX9_138 (G_eventCount Γ hj) (by decide) rfl hj.1.1.t0 rfl ⟨Nat.le_of_ble_eq_true rfl, Nat.le_of_ble_eq_true rfl⟩ (Nat.le_of_ble_eq_true rfl) (Nat.le_of_ble_eq_true rfl) (Nat.le_of_ble_eq_true rfl) rfl dX9_agrees_56 (fun v τ ⟨hv, hj', hk⟩ => ?_)
            subst hv
            replace hj := hj'
            clear hj' hk
            refine WP.bipush (pc := 59) (v := 30) dX9_agrees_59 (by decide) ?_
            refine WP.aload_n (pc := 61) dX9_agrees_61 rfl ?_
            refine WP.gIs (pc := 62) uX9 fX9_90 hj.t0 (v := nI S.2.2.2.2.2.length) ((hj.fI 7).trans (hR.h7)) dX9_agrees_62 ?_
            refine WP.mmin (pc := 65) kX9_108 (by decide) (Nat.le_of_ble_eq_true rfl) dX9_agrees_65 ?_
            have em : (if nI S.2.2.2.2.2.length < 30 then nI S.2.2.2.2.2.length else 30) = nI m.s.2.2.2.2.length := by
              by_cases q : S.2.2.2.2.2.length < 30
              · rw [if_pos (show nI S.2.2.2.2.2.length < 30 from nI_lt (b := 30) q (by decide))]
                congr 1
                omega
              · rw [if_neg (show ¬ nI S.2.2.2.2.2.length < 30 from nI_nlt (b := 30) (by omega) (by omega)), show m.s.2.2.2.2.length = 30 by omega]
                rfl
            rw [em]
            refine WP.icmp_eq (pc := 68) (tgt := 73) dX9_agrees_68 (by decide) (fun c6 => ?_) (fun c6 => ?_)
            · refine WP.iconst (pc := 73) (v := 0) dX9_agrees_73 (by decide) ?_
              refine WP.istore_n (pc := 74) dX9_agrees_74 (by decide) rfl ?_
              refine WP.less (mc2 := (130 + 6 * m.s.2.2.1.length) + 7 * 3) (ms2 := (780 + 36 * m.s.2.2.1.length) + 42 * 3) (by omega) (by omega) ?_
              refine LH_ag1 Γ (P := P) hw.2.1.2 h3 (fun τ2 S2 hj hR2 => ?_) 3 0 τ S rfl hj (hR.mono (fun j _ _ => Nat.zero_le j))
              clear hR hSF hSQ hVE hlen hEl em c6 c5 c4 c3 c2 c1
              have hEl := hR2.lE
              refine WP.iconst (pc := 202) (v := 0) dX9_agrees_202 (by decide) ?_
              refine WP.istore_n (pc := 203) dX9_agrees_203 (by decide) rfl ?_
              refine LH_ag2 Γ (P := P) hR2 hw (fun τ3 hj => ?_) m.s.2.2.1.length 0 τ2 (Nat.zero_add _) hj
              refine WP.iconst (pc := 291) (v := 0) dX9_agrees_291 (by decide) ?_
              refine WP.istore_n (pc := 292) dX9_agrees_292 (by decide) rfl ?_
              refine WP.less (mc2 := 90 + 4 * m.s.2.2.2.1.length) (ms2 := 540 + 24 * m.s.2.2.2.1.length) (by omega) (by omega) ?_
              refine LH_ag3 Γ (P := P) hR2 hw htk (fun τ4 hj => ?_) m.s.2.2.2.1.length 0 τ3 (Nat.zero_add _) hj
              refine WP.iconst (pc := 389) (v := 0) dX9_agrees_389 (by decide) ?_
              refine WP.aload_n (pc := 390) dX9_agrees_390 rfl ?_
              refine WP.gIs (pc := 391) uX9 fX9_90 hj.t0 (v := nI S2.2.2.2.2.2.length) ((hj.fI 7).trans (hR2.h7)) dX9_agrees_391 ?_
              refine WP.bipush (pc := 394) (v := 30) dX9_agrees_394 (by decide) ?_
              refine WP.isub (pc := 396) dX9_agrees_396 ?_
              refine WP.mmax (pc := 397) kX9_84 (by decide) (Nat.le_of_ble_eq_true rfl) dX9_agrees_397 ?_
              rw [show (30 : Int32) = nI 30 from rfl, imax0 (by omega) (by omega)]
              refine WP.istore_n (pc := 400) dX9_agrees_400 (by decide) rfl ?_
              refine WP.iload_n (pc := 401) dX9_agrees_401 rfl ?_
              refine WP.istore_n (pc := 402) dX9_agrees_402 (by decide) rfl ?_
              refine WP.less (mc2 := 0 + 3 * m.s.2.2.2.2.length) (ms2 := 0 + 18 * m.s.2.2.2.2.length) (by omega) (by omega) ?_
              exact LH_ag4 Γ (P := P) hR2 hV30 (by omega) (fun τ5 hj => ⟨_, rfl, rfl, S2, hj, hR2⟩) m.s.2.2.2.2.length 0 τ4 (Nat.zero_add _) hj
            · exact absurd rfl c6
end T
