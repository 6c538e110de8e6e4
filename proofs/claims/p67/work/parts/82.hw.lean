section T
variable (Γ : cG) {x h : Nat} {m : mX}
theorem hoD.row {σ : cAS} {N t cT cB cG a j : Nat} {bs ls : List mBd} {v : Int32} {pq : Nat × Nat} (hD : hoD σ x N bs ls t cT cB cG) (ha : aT σ a = pq) (h1 : (13, 60) ≠ pq) (h2 : (11, 60) ≠ pq) : hoD (sI σ a j v) x N bs ls t cT cB cG := by
  obtain ⟨⟨⟨tN, tf, tT⟩, ⟨bN, bf, tB⟩, ⟨gN, gf, tG⟩⟩, htk, hbu, hgo⟩ := hD
  refine ⟨⟨⟨tN, tf, tT⟩, ⟨bN, bf, tB⟩, ⟨gN, gf, tG⟩⟩, ?_, ?_, ?_⟩
  · rw [aI_ne σ (ne_of_T tT ha h1)]
    exact htk
  · rw [aI_ne σ (ne_of_T tB ha h2)]
    exact hbu
  · rw [aI_ne σ (ne_of_T tG ha h2)]
    exact hgo
theorem rw5_4 (r : mHB) (v : Int32) : rw5 (r.1, r.2.1, r.2.2.1, r.2.2.2.1, v) = u1 (rw5 r) 4 v := by
  funext j
  unfold u1 rw5
  by_cases q : j = 4
  · subst q
    rfl
  · rw [if_neg q]
    simp only [if_neg q]
theorem rw6_4 (e : mCu) (v : Int32) : rw6 (e.1, e.2.1, e.2.2.1, e.2.2.2.1, e.2.2.2.2.1, v, e.2.2.2.2.2.2) = u1 (rw6 e) 4 v := by
  funext j
  unfold u1 rw6
  by_cases q : j = 4
  · subst q
    rfl
  · rw [if_neg q]
    simp only [if_neg q]
theorem rw6_2 (e : mCu) (v : Int32) : rw6 (e.1, e.2.1, e.2.2.1, v, e.2.2.2.2.1, e.2.2.2.2.2.1, e.2.2.2.2.2.2) = u1 (rw6 e) 2 v := by
  funext j
  unfold u1 rw6
  by_cases q : j = 2
  · subst q
    rfl
  · rw [if_neg q]
    simp only [if_neg q]
theorem LH_settle {Φ : cRes → cAS → Prop} {mc ms TT C P N n cL cT cB cG : Nat} {s : mS} {k p : Int32} (hw : wfA 73 TT C s) (hk : inR k 0 2)
    (kk : ∀ τ S, hJ τ x m h N S → hoD τ x N (plB s k) (plL s k) (plT s k) cT cB cG → hRel noP P (sellN s k p (plB s k) (plL s k) (plT s k)).1 (sellN s k p (plB s k) (plL s k) (plT s k)).2.1 s.2.2.1 (sellN s k p (plB s k) (plL s k) (plT s k)).2.2.2.1 s.2.2.2.2 S → WP Γ (3, 72, mc, ms) MX9_holds Φ 302 [some (.ref h), some (.int k), some (.ref cL), some (.ref cT), some (.ref cB), some (.ref cG), some (.int (nI (plT s k))), some (.int p), none, none, none] [] τ) :
    ∀ d i S σ, i + d = plT s k → hJ σ x m h N S → hoD σ x N (plB s k) (plL s k) (plT s k) cT cB cG → hRel noP P (sellN s k p (plB s k) (plL s k) i).1 (sellN s k p (plB s k) (plL s k) i).2.1 s.2.2.1 (sellN s k p (plB s k) (plL s k) i).2.2.2.1 s.2.2.2.2 S → WP Γ (3, 72, mc, ms) MX9_holds Φ 220 [some (.ref h), some (.int k), some (.ref cL), some (.ref cT), some (.ref cB), some (.ref cG), some (.int (nI (plT s k))), some (.int p), some (.int (nI i)), none, none] [] σ := by
  have hT60 := plT_le hw k
  have hl10 := hw.2.2.2.2.1.1
  have hL60 : s.2.2.1.length ≤ 60 := by have := hw.2.2.1; omega
  have hbk4 := hw.2.1.1
  intro d
  induction d with
  | zero =>
    intro i S σ h1 hj hD hR
    have hi : i = plT s k := by omega
    subst hi
    refine WP.iload (pc := 220) dX9_holds_220 rfl ?_
    refine WP.iload (pc := 222) dX9_holds_222 rfl ?_
    refine WP.icmp_ge (pc := 224) (tgt := 302) dX9_holds_224 (by decide) (fun c => ?_) (fun c => ?_)
    · refine WP.drop 8 ?_
      exact kk σ S hj hD hR
    · exact absurd (nI_le (Nat.le_refl _) (by omega)) c
  | succ d ih =>
    intro i S σ h1 hj hD hR
    have hD0 := hD
    obtain ⟨⟨⟨tN, tf, tT⟩, ⟨bN, bf, tB⟩, ⟨gN, gf, tG⟩⟩, htk, hbu, hgo⟩ := id hD
    obtain ⟨y, u, hbs, hls, -⟩ := trN_get (bs := plB s k) (ls := plL s k) (t := i) (by show i < plT s k; omega)
    obtain ⟨n1, n2, n3⟩ := sellN_len s k p (plB s k) (plL s k) i
    obtain ⟨c, e0, c1, c2, rfl⟩ := bdF_mem s.2.2.2.1.length (List.mem_of_getElem? hbs)
    obtain ⟨j, e1, j1, j2, j3, rfl⟩ := lvF_mem s.2.2.1.length (List.mem_of_getElem? hls)
    have gc : (sellN s k p (plB s k) (plL s k) i).2.2.2.1[c]? = some ((sellN s k p (plB s k) (plL s k) i).2.2.2.1[c]'(by omega)) := List.getElem?_eq_getElem (by omega)
    have gl : (sellN s k p (plB s k) (plL s k) i).2.2.1[j]? = some ((sellN s k p (plB s k) (plL s k) i).2.2.1[j]'(by omega)) := List.getElem?_eq_getElem (by omega)
    generalize (sellN s k p (plB s k) (plL s k) i).2.2.2.1[c]'(by omega) = ec at gc
    generalize (sellN s k p (plB s k) (plL s k) i).2.2.1[j]'(by omega) = el at gl
    obtain ⟨e1', q1, q2, -⟩ := sellN_lf i gl
    have e1e : e1' = e1 := Option.some.inj (q1.symm.trans j2)
    subst e1e
    obtain ⟨bi, b1, b2⟩ := sellN_bk k p (plB s k) (plL s k) hw.bk i el (List.mem_of_getElem? gl)
    have gb : (sellN s k p (plB s k) (plL s k) i).2.1[bi]? = some ((sellN s k p (plB s k) (plL s k) i).2.1[bi]'b2) := List.getElem?_eq_getElem b2
    generalize (sellN s k p (plB s k) (plL s k) i).2.1[bi]'b2 = eb at gb
    have hst := sellN_step hbs hls gc gl b1 gb (by omega) (by omega) (by omega)
    have hbi : e1'.2.1 = nI bi := by rw [← q2]; exact b1
    have hQc : S.2.2.2.1[c]? = some ec := by rw [hR.2.2.2.1.1]; exact gc
    have hFj : S.2.2.2.2.1[j]? = some e1' := by rw [hR.2.2.2.1.2.1]; exact j2
    obtain ⟨r, hr⟩ : ∃ r, S.2.2.1[bi]? = some r := ⟨_, List.getElem?_eq_getElem (by have := hR.2.2.1.1; have := hR.2.2.1.2.1; omega)⟩
    have hbr := hR.2.2.1.2.2 bi eb r gb hr
    have hb3 : (sellN s k p (plB s k) (plL s k) i).2.1.length = 3 := hR.2.2.1.2.1
    obtain ⟨aQ, aQ1, aQ2, aQ3, -, -⟩ := hj.qu hQc
    refine WP.iload (pc := 220) dX9_holds_220 rfl ?_
    refine WP.iload (pc := 222) dX9_holds_222 rfl ?_
    refine WP.icmp_ge (pc := 224) (tgt := 302) dX9_holds_224 (by decide) (fun c9 => ?_) (fun c9 => ?_)
    · exact absurd c9 (nI_ge (by omega) (by omega))
    · refine WP.aload_n (pc := 227) dX9_holds_227 rfl ?_
      refine WP.gRs (pc := 228) uX9 fX9_18 hj.t0 hj.r0_2 dX9_holds_228 ?_
      refine WP.aload (pc := 231) dX9_holds_231 rfl ?_
      refine WP.iload (pc := 233) dX9_holds_233 rfl ?_
      refine WP.ialdS (pc := 235) tB (by omega) (by omega) (v := (nI c)) ((hbu i _ (by omega) hbs)) dX9_holds_235 ?_
      refine WP.aaldS (pc := 236) hj.t3 (by omega) (by decide) aQ1 dX9_holds_236 ?_
      refine WP.iconst (pc := 237) (v := 4) dX9_holds_237 (by decide) ?_
      refine WP.dup2 (pc := 238) dX9_holds_238 rfl rfl ?_
      refine WP.ialdS (pc := 239) (k := 4) aQ2 (by decide) (by decide) (v := ec.2.2.2.2.2.1) (congrFun aQ3 4) dX9_holds_239 ?_
      refine WP.iload (pc := 240) dX9_holds_240 rfl ?_
      refine WP.isub (pc := 242) dX9_holds_242 ?_
      refine WP.iastS (pc := 243) (k := 4) aQ2 (by decide) (by decide) dX9_holds_243 ?_
      replace hj := hj.qset (ec.1, ec.2.1, ec.2.2.1, ec.2.2.2.1, ec.2.2.2.2.1, ec.2.2.2.2.2.1 - p, ec.2.2.2.2.2.2) hQc aQ1 (rw6_4 ec _)
      replace hD := hD.row (j := 4) (v := ec.2.2.2.2.2.1 - p) aQ2 (by simp) (by simp)
      generalize sI σ aQ 4 _ = τ at hj hD ⊢
      clear aQ1 aQ2 aQ3 hbu hgo tT tB tG tf bf gf
      clear aQ
      obtain ⟨⟨⟨-, tf, tT⟩, ⟨-, bf, tB⟩, ⟨-, gf, tG⟩⟩, htk, hbu, hgo⟩ := id hD
      have hQc2 : (S.2.2.2.1.set c (ec.1, ec.2.1, ec.2.2.1, ec.2.2.2.1, ec.2.2.2.2.1, ec.2.2.2.2.2.1 - p, ec.2.2.2.2.2.2))[c]? = some (ec.1, ec.2.1, ec.2.2.1, ec.2.2.2.1, ec.2.2.2.2.1, ec.2.2.2.2.2.1 - p, ec.2.2.2.2.2.2) := List.getElem?_set_self (gE_lt hQc)
      obtain ⟨aQ, aQ1, aQ2, aQ3, -, -⟩ := hj.qu hQc2
      refine WP.aload_n (pc := 244) dX9_holds_244 rfl ?_
      refine WP.gRs (pc := 245) uX9 fX9_18 hj.t0 hj.r0_2 dX9_holds_245 ?_
      refine WP.aload (pc := 248) dX9_holds_248 rfl ?_
      refine WP.iload (pc := 250) dX9_holds_250 rfl ?_
      refine WP.ialdS (pc := 252) tB (by omega) (by omega) (v := (nI c)) ((hbu i _ (by omega) hbs)) dX9_holds_252 ?_
      refine WP.aaldS (pc := 253) hj.t3 (by omega) (by decide) aQ1 dX9_holds_253 ?_
      refine WP.iconst (pc := 254) (v := 2) dX9_holds_254 (by decide) ?_
      refine WP.dup2 (pc := 255) dX9_holds_255 rfl rfl ?_
      refine WP.ialdS (pc := 256) (k := 2) aQ2 (by decide) (by decide) (v := (ec.1, ec.2.1, ec.2.2.1, ec.2.2.2.1, ec.2.2.2.2.1, ec.2.2.2.2.2.1 - p, ec.2.2.2.2.2.2).2.2.2.1) (congrFun aQ3 2) dX9_holds_256 ?_
      refine WP.iconst (pc := 257) (v := 1) dX9_holds_257 (by decide) ?_
      refine WP.isub (pc := 258) dX9_holds_258 ?_
      refine WP.iastS (pc := 259) (k := 2) aQ2 (by decide) (by decide) dX9_holds_259 ?_
      replace hj := hj.qset (payC ec p) hQc2 aQ1 (rw6_2 (ec.1, ec.2.1, ec.2.2.1, ec.2.2.2.1, ec.2.2.2.2.1, ec.2.2.2.2.2.1 - p, ec.2.2.2.2.2.2) (ec.2.2.2.1 - 1))
      replace hD := hD.row (j := 2) (v := ec.2.2.2.1 - 1) aQ2 (by simp) (by simp)
      generalize sI τ aQ 2 _ = τ2 at hj hD ⊢
      clear aQ1 aQ2 aQ3 hbu hgo tT tB tG tf bf gf
      clear aQ
      obtain ⟨⟨⟨-, tf, tT⟩, ⟨-, bf, tB⟩, ⟨-, gf, tG⟩⟩, htk, hbu, hgo⟩ := id hD
      obtain ⟨aF, aF1, aF2, aF3, -, -⟩ := hj.lf hFj
      obtain ⟨aB, aB1, aB2, aB3, -, -⟩ := hj.bk hr
      refine WP.aload_n (pc := 260) dX9_holds_260 rfl ?_
      refine WP.gRs (pc := 261) uX9 fX9_14 hj.t0 hj.r0_1 dX9_holds_261 ?_
      refine WP.aload_n (pc := 264) dX9_holds_264 rfl ?_
      refine WP.gRs (pc := 265) uX9 fX9_21 hj.t0 hj.r0_3 dX9_holds_265 ?_
      refine WP.aload (pc := 268) dX9_holds_268 rfl ?_
      refine WP.iload (pc := 270) dX9_holds_270 rfl ?_
      refine WP.ialdS (pc := 272) tG (by omega) (by omega) (v := (nI j)) ((hgo i _ (by omega) hls)) dX9_holds_272 ?_
      refine WP.aaldS (pc := 273) hj.t4 (by omega) (by decide) aF1 dX9_holds_273 ?_
      refine WP.iconst (pc := 274) (v := 1) dX9_holds_274 (by decide) ?_
      refine WP.ialdS (pc := 275) (k := 1) aF2 (by decide) (by decide) (v := (nI bi)) ((congrFun aF3 1).trans (hbi)) dX9_holds_275 ?_
      refine WP.aaldS (pc := 276) hj.t2 (by omega) (by decide) aB1 dX9_holds_276 ?_
      refine WP.iconst (pc := 277) (v := 4) dX9_holds_277 (by decide) ?_
      refine WP.dup2 (pc := 278) dX9_holds_278 rfl rfl ?_
      refine WP.ialdS (pc := 279) (k := 4) aB2 (by decide) (by decide) (v := r.2.2.2.2) (congrFun aB3 4) dX9_holds_279 ?_
      refine WP.iload (pc := 280) dX9_holds_280 rfl ?_
      refine WP.iadd (pc := 282) dX9_holds_282 ?_
      refine WP.iastS (pc := 283) (k := 4) aB2 (by decide) (by decide) dX9_holds_283 ?_
      replace hj := hj.bset (r.1, r.2.1, r.2.2.1, r.2.2.2.1, r.2.2.2.2 + p) hr aB1 (rw5_4 r _)
      replace hD := hD.row (j := 4) (v := r.2.2.2.2 + p) aB2 (by simp) (by simp)
      generalize sI τ2 aB 4 _ = τ3 at hj hD ⊢
      have hR2 := (hR.cset c (payC ec p)).tick (e' := ernB eb p) (r' := (r.1, r.2.1, r.2.2.1, r.2.2.2.1, r.2.2.2.2 + p)) gb rfl rfl ⟨hbr.1, hbr.2.1, hbr.2.2.1, hbr.2.2.2.1.imp id (fun z => z), by show r.2.2.2.2 + p = eb.2.2.2.2.2 + p; rw [hbr.2.2.2.2]⟩
      have hR3 := hR2.crumb ((sellN s k p (plB s k) (plL s k) i).1 4 + (k + 1))
      refine WP.aload_n (pc := 284) dX9_holds_284 rfl ?_
      refine WP.dup (pc := 285) dX9_holds_285 rfl ?_
      refine WP.gIs (pc := 286) uX9 fX9_74 hj.t0 (v := ((sellN s k p (plB s k) (plL s k) i).1 4)) ((hj.fI 10).trans (hR2.h10)) dX9_holds_286 ?_
      refine WP.iload_n (pc := 289) dX9_holds_289 rfl ?_
      refine WP.iconst (pc := 290) (v := 1) dX9_holds_290 (by decide) ?_
      refine WP.iadd (pc := 291) dX9_holds_291 ?_
      refine WP.iadd (pc := 292) dX9_holds_292 ?_
      refine WP.putI (pc := 293) uX9 fX9_74 rfl rfl hj.t0 dX9_holds_293 ?_
      replace hj := hj.scal 10 ((sellN s k p (plB s k) (plL s k) i).1 4 + (k + 1))
      replace hD := hD.row (j := 10) (v := (sellN s k p (plB s k) (plL s k) i).1 4 + (k + 1)) hj.t0 (by simp) (by simp)
      refine WP.iinc (pc := 296) dX9_holds_296 rfl (nI_1 _) (by decide) rfl ?_
      refine WP.goto (pc := 299) (tgt := 220) dX9_holds_299 (by decide) ?_
      refine ih (i + 1) _ _ (by omega) hj hD ?_
      rw [hst]
      show hRel noP P (zup (zup (sellN s k p (plB s k) (plL s k) i).1 7 ((sellN s k p (plB s k) (plL s k) i).1 7 + 1)) 4 ((sellN s k p (plB s k) (plL s k) i).1 4 + crK k)) ((sellN s k p (plB s k) (plL s k) i).2.1.set bi (ernB eb p)) s.2.2.1 ((sellN s k p (plB s k) (plL s k) i).2.2.2.1.set c (payC ec p)) s.2.2.2.2 _
      rw [crK_of hk]
      simp only [List.set_set]
      exact hR3.zz ⟨rfl, rfl, rfl, rfl, fun j hj => by
        unfold zup
        simp only [if_neg (show ¬ j = 4 by omega), if_neg (show ¬ j = 7 by omega)]⟩
-- the loaves that are sold go
theorem LH_cut {Φ : cRes → cAS → Prop} {mc ms TT C P N n T cL cT cB cG : Nat} {s : mS} {k p : Int32} {ls : List mBd} {z : Nat → Int32} {Bk : List mBk} {Cq : List mCu} {V : List mEv} {Lm : List mLf} (hw : wfA 73 TT C s) (hlen : Lm.length = s.2.2.1.length) (hmk : ∀ (j : Nat) (el : mLf), Lm[j]? = some el → (el.1 = -1 ↔ nI j ∈ (ls.take T).map Prod.fst)) (hor : ∀ (j : Nat) (el e : mLf), Lm[j]? = some el → s.2.2.1[j]? = some e → el.1 = -1 ∨ el = e) (hls : ∀ y ∈ ls, ∃ c, y.1 = nI c ∧ c < s.2.2.1.length)
    (kk : ∀ τ S, hJ τ x m h N S → hRel noP P z Bk (Lm.filter pK) Cq V S → WP Γ (3, 72, mc, ms) MX9_holds Φ 330 [some (.ref h), some (.int k), some (.ref cL), some (.ref cT), some (.ref cB), some (.ref cG), some (.int (nI T)), some (.int p), none, none, none] [] τ) :
    ∀ d S σ, d ≤ 60 → hJ σ x m h N S → aT σ cT = (13, 60) → tkP ls T (aI σ cT) → hRel noP P z Bk (cutL s.2.2.1 Lm d) Cq V S → WP Γ (3, 72, mc, ms) MX9_holds Φ 306 [some (.ref h), some (.int k), some (.ref cL), some (.ref cT), some (.ref cB), some (.ref cG), some (.int (nI T)), some (.int p), some (.int (nI d - 1)), none, none] [] σ := by
  have hL60 : s.2.2.1.length ≤ 60 := by have := hw.2.2.1; omega
  intro d
  induction d with
  | zero =>
    intro S σ h1 hj tT htk hR
    refine WP.iload (pc := 306) dX9_holds_306 rfl ?_
    refine WP.if_lt (pc := 308) (tgt := 330) dX9_holds_308 (by decide) (fun c => ?_) (fun c => ?_)
    · refine WP.drop 8 ?_
      rw [cutL_0] at hR
      exact kk σ S hj hR
    · exact absurd (by decide) c
  | succ d ih =>
    intro S σ h1 hj tT htk hR
    rw [show nI (d + 1) - 1 = nI d from pk_sub (a := d + 1) (b := 1) (by omega)]
    refine WP.iload (pc := 306) dX9_holds_306 rfl ?_
    refine WP.if_lt (pc := 308) (tgt := 330) dX9_holds_308 (by decide) (fun c => ?_) (fun c => ?_)
    · exact absurd c (nI_pos (by omega))
    · by_cases hin : nI d ∈ (ls.take T).map Prod.fst
      · have hv := htk d (by omega)
        rw [if_pos hin] at hv
        have hdL : d < s.2.2.1.length := by
          obtain ⟨y, y1, y2⟩ := List.mem_map.mp hin
          obtain ⟨c', c1, c2⟩ := hls y (List.mem_of_mem_take y1)
          have : d = c' := (nI_eq (by omega) (by omega)).mp (y2.symm.trans c1)
          omega
        have gL : s.2.2.1[d]? = some s.2.2.1[d] := List.getElem?_eq_getElem hdL
        have gM : Lm[d]? = some (Lm[d]'(by omega)) := List.getElem?_eq_getElem (by omega)
        have hm1 := (hmk d _ gM).mpr hin
        have hw9 : d < S.2.2.2.2.1.length := by
          rw [hR.2.2.2.1.2.1]
          have := cutL_len (L := s.2.2.1) (Lm := Lm) (d := d + 1) (by omega)
          omega
        refine WP.aload_n (pc := 311) dX9_holds_311 rfl ?_
        refine WP.iload (pc := 312) dX9_holds_312 rfl ?_
        refine WP.zaldS (pc := 314) tT (by omega) (by omega) (v := ((1 : Int32))) (hv) dX9_holds_314 ?_
        refine WP.if_eq (pc := 315) (tgt := 324) dX9_holds_315 (by decide) (fun c2 => ?_) (fun c2 => ?_)
        · exact absurd c2 (by decide)
        · refine WP.aload_n (pc := 318) dX9_holds_318 rfl ?_
          refine WP.iload (pc := 319) dX9_holds_319 rfl ?_
          refine WP.cV0 (pc := 321) (mc2 := mc) (ms2 := ms) (ci := 9) kX9_104 (CH_dropLoaf Γ hj hR.h6 hR.lL hw9) (by decide) rfl hj.t0 rfl ⟨Nat.le_of_ble_eq_true rfl, Nat.le_of_ble_eq_true rfl⟩ (by omega) (by omega) (Nat.le_of_ble_eq_true rfl) rfl dX9_holds_321 ?_
          have hR2 := (hR.pp (Nat.le_succ P)).drop (w := d) (by rw [← hR.2.2.2.1.2.1]; exact hw9)
          rw [cutL_out gL gM hm1] at hR2
          have hne : cT ≠ h := ne_of_T tT hj.t0 (by simp)
          replace hj := hj.drop hw9
          refine WP.iinc (pc := 324) (v := nI d - 1) dX9_holds_324 rfl (by rw [Int32.sub_eq_add_neg]; rfl) (by decide) rfl ?_
          refine WP.goto (pc := 327) (tgt := 306) dX9_holds_327 (by decide) ?_
          refine ih _ _ (by omega) hj tT ?_ hR2
          show tkP ls T (aI (sI σ h 6 _) cT)
          rw [aI_ne σ hne]
          exact htk
      · have hv := htk d (by omega)
        rw [if_neg hin] at hv
        have hcut : cutL s.2.2.1 Lm (d + 1) = cutL s.2.2.1 Lm d := by
          rcases Nat.lt_or_ge d s.2.2.1.length with hdL | hdL
          · have gL : s.2.2.1[d]? = some s.2.2.1[d] := List.getElem?_eq_getElem hdL
            have gM : Lm[d]? = some (Lm[d]'(by omega)) := List.getElem?_eq_getElem (by omega)
            have hm1 : ¬ (Lm[d]'(by omega)).1 = -1 := fun z => hin ((hmk d _ gM).mp z)
            have he := (hor d _ _ gM gL).resolve_left hm1
            exact (cutL_keep gL (by rw [← he]; exact gM) (by rw [← he]; exact hm1)).symm
          · rw [cutL_full hlen (by omega), cutL_full hlen hdL]
        refine WP.aload_n (pc := 311) dX9_holds_311 rfl ?_
        refine WP.iload (pc := 312) dX9_holds_312 rfl ?_
        refine WP.zaldS (pc := 314) tT (by omega) (by omega) (v := ((0 : Int32))) (hv) dX9_holds_314 ?_
        refine WP.if_eq (pc := 315) (tgt := 324) dX9_holds_315 (by decide) (fun c2 => ?_) (fun c2 => ?_)
        · refine WP.iinc (pc := 324) (v := nI d - 1) dX9_holds_324 rfl (by rw [Int32.sub_eq_add_neg]; rfl) (by decide) rfl ?_
          refine WP.goto (pc := 327) (tgt := 306) dX9_holds_327 (by decide) ?_
          rw [hcut] at hR
          exact ih S σ (by omega) hj tT htk hR
        · exact absurd rfl c2
end T
