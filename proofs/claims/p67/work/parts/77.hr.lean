section T
variable (Γ : cG) {x h : Nat} {m : mX}
theorem spEat_8 (z : Nat → Int32) : spEat z 8 = z 8 := by
  unfold spEat
  split
  · split <;> (split <;> rfl)
  · split <;> (split <;> rfl)
theorem hrOut_8 (s : mS) : (hrOut s).1 8 = (tsF (ovOut (hr1 s)) (ovOut (hr1 s)).2.2.1.length).1 := by
  show spEat (stOut (ovOut (hr1 s))).1 8 = _
  rw [spEat_8]
  rfl
theorem CH_passes {σ : cAS} {N P T C : Nat} {S : hBd} {s : mS} (hj : hJ σ x m h N S) (hR : hRs noP P s S) (hw : wf T C s) (h3 : s.2.1.length = 3) (hP : P ≤ 1900) (hT : T ≤ 2147483647) (hC : C + 300 < 2 ^ 30) : Ctr Γ (2, 48, 109, 327) MX9_passes [.ref h] σ (rS (fun v τ => v = some (.int ((hrOut s).1 8 - s.1 8)) ∧ ∃ N' S', hJ τ x m h N' S' ∧ hRs noP P (hrOut s) S')) := by
  have hw1 := hr1_wf hw
  have hw2 := ovOut_wf hw1
  have hw3 := stOut_wf (by decide) hw2
  have h23 : (hr1 s).2.1.length = 3 := h3
  generalize ht : ovOut (hr1 s) = t at hw2 hw3
  generalize hu : stOut t = u at hw3
  have hL60 : t.2.2.1.length ≤ 60 := by have := hw2.2.2.1; omega
  obtain ⟨c, hc, -, hc2⟩ := hw3.1.2.1
  obtain ⟨p, hp, -, hp9⟩ := hw3.1.2.2.1
  have hsp := spEat_N hc hp (by omega) hp9
  have hC10 : u.2.2.2.1.length ≤ 10 := hw3.2.2.2.2.1.1
  refine Ctr.go rfl (by decide) rfl rfl ?_
  refine WP.iconst (pc := 0) (v := 0) dX9_passes_0 (by decide) ?_
  refine WP.istore_n (pc := 1) dX9_passes_1 (by decide) rfl ?_
  refine WP.aload_n (pc := 2) dX9_passes_2 rfl ?_
  refine WP.dup (pc := 3) dX9_passes_3 rfl ?_
  refine WP.gIs (pc := 4) uX9 fX9_81 hj.t0 (v := (s.1 3)) ((hj.fI 9).trans (hR.h9)) dX9_passes_4 ?_
  refine WP.iconst (pc := 7) (v := 1) dX9_passes_7 (by decide) ?_
  refine WP.iadd (pc := 8) dX9_passes_8 ?_
  refine WP.putI (pc := 9) uX9 fX9_81 rfl rfl hj.t0 dX9_passes_9 ?_
  replace hj := hj.scal 9 (s.1 3 + 1)
  have hR1 : hRs noP P (hr1 s) (u1 S.1 9 (s.1 3 + 1), S.2) := hR.hour (s.1 3 + 1)
  generalize sI σ h 9 (s.1 3 + 1) = σ1 at hj ⊢
  generalize (u1 S.1 9 (s.1 3 + 1), S.2) = S1 at hj hR1
  clear hR
  refine WP.iconst (pc := 12) (v := 0) dX9_passes_12 (by decide) ?_
  refine WP.istore_n (pc := 13) dX9_passes_13 (by decide) rfl ?_
  have fin : ∀ τ N S W, hJ τ x m h N S → hRs noP P (spEat u.1, u.2) S → W = (hrOut s).1 8 - s.1 8 → ∀ v2, WP Γ (2, 48, 10, 30) MX9_passes (rS (fun v τ => v = some (.int ((hrOut s).1 8 - s.1 8)) ∧ ∃ N' S', hJ τ x m h N' S' ∧ hRs noP P (hrOut s) S')) 284 [some (.ref h), some (.int W), some (.int v2), none] [] τ := by
    intro τ N S W hj hR hW v2
    refine WP.iconst (pc := 284) (v := 0) dX9_passes_284 (by decide) ?_
    refine WP.istore_n (pc := 285) dX9_passes_285 (by decide) rfl ?_
    refine WP.less (mc2 := 0 + u.2.2.2.1.length) (ms2 := 0 + 3 * u.2.2.2.1.length) (by omega) (by omega) ?_
    refine LH_p3 Γ (t := (spEat u.1, u.2)) hC10 hP (fun υ N' S' hj' hR' => ?_) u.2.2.2.1.length 0 N S τ (Nat.zero_add _) hj (by rw [lpM_0]; exact hR)
    refine ⟨_, rfl, by rw [hW], N', S', hj', ?_⟩
    have e : hrOut s = lpOut (spEat u.1, u.2) := by
      rw [← hu, ← ht]
      rfl
    rw [e, ← lpM_full (s := (spEat u.1, u.2)) (fun e he => by
      obtain ⟨t, h1, h2⟩ := (hw3.2.2.2.2.1.2 e he).2.1
      rw [h1]
      exact nI_ne_m1 (by omega))]
    exact hR'
  refine WP.less (mc2 := 10 + t.2.2.1.length + 13 * 3) (ms2 := 30 + 3 * t.2.2.1.length + 39 * 3) (by omega) (by omega) ?_
  refine LH_p1 Γ (s := hr1 s) (P := P) hw1 h23 hP (fun τ N S hj hR => ?_) 3 0 _ S1 σ1 rfl hj (by rw [ovS_0]; exact hR1)
  rw [ht] at hR
  refine WP.iconst (pc := 143) (v := 0) dX9_passes_143 (by decide) ?_
  refine WP.istore_n (pc := 144) dX9_passes_144 (by decide) rfl ?_
  have q2 := LH_p2 Γ (x := x) (h := h) (m := m) (mc := 10) (ms := 30) (Φ := rS (fun v τ => v = some (.int ((hrOut s).1 8 - s.1 8)) ∧ ∃ N' S', hJ τ x m h N' S' ∧ hRs noP P (hrOut s) S')) hw2 hP (fun τ N S hj hR => ?_) t.2.2.1.length 0 N S τ (Nat.zero_add _) hj (by rw [stM_0]; exact hR)
  · rw [show (tsF t 0).1 - t.1 8 = 0 from Int32.sub_self _] at q2
    exact q2
  · rw [stM_full (fun e he => by
      obtain ⟨k, h1, h2, h3⟩ := (hw2.2.2.2.1.1 e he).1
      rw [h1]
      exact nI_ne_m1 (by omega)), hu] at hR
    have hW : (tsF t t.2.2.1.length).1 - t.1 8 = (hrOut s).1 8 - s.1 8 := by
      rw [hrOut_8, ht]
      rw [← ht]
      rfl
    generalize (tsF t t.2.2.1.length).1 - t.1 8 = W at hW ⊢
    generalize nI (stK t t.2.2.1.length).length = v2
    refine WP.aload_n (pc := 217) dX9_passes_217 rfl ?_
    refine WP.iconst (pc := 218) (v := 0) dX9_passes_218 (by decide) ?_
    refine WP.aload_n (pc := 219) dX9_passes_219 rfl ?_
    refine WP.gIs (pc := 220) uX9 fX9_74 hj.t0 (v := nI c) ((hj.fI 10).trans (hR.h10.trans hc)) dX9_passes_220 ?_
    refine WP.iconst (pc := 223) (v := 3) dX9_passes_223 (by decide) ?_
    refine WP.aload_n (pc := 224) dX9_passes_224 rfl ?_
    refine WP.gIs (pc := 225) uX9 fX9_79 hj.t0 (v := nI p) ((hj.fI 11).trans (hR.h11.trans hp)) dX9_passes_225 ?_
    refine WP.imN (pc := 228) (a := 3) rfl rfl dX9_passes_228 ?_
    refine WP.isub (pc := 229) dX9_passes_229 ?_
    refine WP.mmax (pc := 230) kX9_84 (by decide) (Nat.le_of_ble_eq_true rfl) dX9_passes_230 ?_
    rw [imax0 (by omega) (by omega)]
    refine WP.putI (pc := 233) uX9 fX9_74 rfl rfl hj.t0 dX9_passes_233 ?_
    replace hj := hj.scal 10 (nI (c - 3 * p))
    have hR1 := hR.crumb (nI (c - 3 * p))
    generalize sI τ h 10 (nI (c - 3 * p)) = τ1 at hj ⊢
    refine WP.aload_n (pc := 236) dX9_passes_236 rfl ?_
    refine WP.gIs (pc := 237) uX9 fX9_74 hj.t0 (v := nI (c - 3 * p)) ((hj.fI 10).trans ((hR1.h10 : _ = nI (c - 3 * p)))) dX9_passes_237 ?_
    refine WP.bipush (pc := 240) (v := 20) dX9_passes_240 (by decide) ?_
    refine WP.icmp_le (pc := 242) (tgt := 263) dX9_passes_242 (by decide) (fun c1 => ?_) (fun c1 => ?_)
    · have n20 : ¬ 20 < c - 3 * p := fun z => absurd c1 (nI_ge (a := 20) (b := c - 3 * p) z (by omega))
      refine WP.aload_n (pc := 263) dX9_passes_263 rfl ?_
      refine WP.gIs (pc := 264) uX9 fX9_74 hj.t0 (v := nI (c - 3 * p)) ((hj.fI 10).trans ((hR1.h10 : _ = nI (c - 3 * p)))) dX9_passes_264 ?_
      refine WP.if_ne (pc := 267) (tgt := 284) dX9_passes_267 (by decide) (fun c2 => ?_) (fun c2 => ?_)
      · have n0 : c - 3 * p ≠ 0 := fun z => c2 (by rw [z]; rfl)
        refine fin _ _ _ W hj ?_ hW v2
        rw [hsp]
        refine hR1.zz ⟨rfl, rfl, rfl, ?_, fun j hj => ?_⟩
        · show nI (spN (c - 3 * p) p) = u.1 5
          unfold spN
          rw [if_neg n20, if_neg (fun z => n0 z.1), hp]
        · show zup (zup u.1 4 _) 5 _ j = zup u.1 4 _ j
          unfold zup
          rw [if_neg (by omega)]
      · have n0 : c - 3 * p = 0 := (nI_eq (by omega) (by omega)).mp c2
        refine WP.aload_n (pc := 270) dX9_passes_270 rfl ?_
        refine WP.iconst (pc := 271) (v := 0) dX9_passes_271 (by decide) ?_
        refine WP.aload_n (pc := 272) dX9_passes_272 rfl ?_
        refine WP.gIs (pc := 273) uX9 fX9_79 hj.t0 (v := nI p) ((hj.fI 11).trans (hR1.h11.trans hp)) dX9_passes_273 ?_
        refine WP.iconst (pc := 276) (v := 1) dX9_passes_276 (by decide) ?_
        refine WP.isub (pc := 277) dX9_passes_277 ?_
        refine WP.mmax (pc := 278) kX9_84 (by decide) (Nat.le_of_ble_eq_true rfl) dX9_passes_278 ?_
        rw [show (1 : Int32) = nI 1 from rfl, imax0 (by omega) (by omega)]
        refine WP.putI (pc := 281) uX9 fX9_79 rfl rfl hj.t0 dX9_passes_281 ?_
        replace hj := hj.scal 11 (nI (p - 1))
        refine fin _ _ _ W hj ?_ hW v2
        rw [hsp]
        refine (hR1.sparrow (nI (p - 1))).zz ⟨rfl, rfl, rfl, ?_, fun j hj => ?_⟩
        · show nI (spN (c - 3 * p) p) = nI (p - 1)
          unfold spN
          rw [if_neg n20]
          split
          · rfl
          · next z => rw [show p - 1 = p by omega]
        · show zup (zup u.1 4 _) 5 _ j = zup (zup u.1 4 _) 5 _ j
          unfold zup
          simp only [if_neg (show ¬ j = 5 by omega), if_neg (show ¬ j = 4 by omega)]
    · have n20 : 20 < c - 3 * p := by
        rcases Nat.lt_or_ge 20 (c - 3 * p) with z | z
        · exact z
        · exact absurd (nI_le (a := c - 3 * p) (b := 20) z (by decide)) c1
      refine WP.aload_n (pc := 245) dX9_passes_245 rfl ?_
      refine WP.bipush (pc := 246) (v := 9) dX9_passes_246 (by decide) ?_
      refine WP.aload_n (pc := 248) dX9_passes_248 rfl ?_
      refine WP.gIs (pc := 249) uX9 fX9_79 hj.t0 (v := nI p) ((hj.fI 11).trans (hR1.h11.trans hp)) dX9_passes_249 ?_
      refine WP.iconst (pc := 252) (v := 1) dX9_passes_252 (by decide) ?_
      refine WP.iaN (pc := 253) (b := 1) rfl rfl dX9_passes_253 ?_
      refine WP.mmin (pc := 254) kX9_108 (by decide) (Nat.le_of_ble_eq_true rfl) dX9_passes_254 ?_
      have e9 : (if nI (p + 1) < 9 then nI (p + 1) else 9) = nI (spN (c - 3 * p) p) := by
        unfold spN
        rw [if_pos n20]
        by_cases z : p + 1 < 9
        · rw [if_pos (show nI (p + 1) < 9 from nI_lt (b := 9) z (by decide)), if_pos (by omega)]
        · rw [if_neg (show ¬ nI (p + 1) < 9 from nI_nlt (b := 9) (by omega) (by omega))]
          split
          · rw [show p + 1 = 9 by omega]; rfl
          · rw [show p = 9 by omega]; rfl
      rw [e9]
      refine WP.putI (pc := 257) uX9 fX9_79 rfl rfl hj.t0 dX9_passes_257 ?_
      refine WP.goto (pc := 260) (tgt := 284) dX9_passes_260 (by decide) ?_
      replace hj := hj.scal 11 (nI (spN (c - 3 * p) p))
      refine fin _ _ _ W hj ?_ hW v2
      rw [hsp]
      exact hR1.sparrow (nI (spN (c - 3 * p) p))
end T
