section T
variable (Γ : cG) {x h : Nat} {m : mX}
theorem iinc_back (a : Int32) : a + Int32.ofInt (-1) + Int32.ofInt 1 = a := by
  rw [Int32.add_assoc, show Int32.ofInt (-1) + Int32.ofInt 1 = 0 by decide, Int32.add_zero]
theorem i32_up (a b : Int32) : a - b + Int32.ofInt 1 = a + 1 - b := by
  rw [show Int32.ofInt 1 = 1 by decide, Int32.sub_eq_add_neg, Int32.sub_eq_add_neg, Int32.add_assoc, Int32.add_comm (-b) 1, ← Int32.add_assoc]
def stK (t : mS) (i : Nat) : List mLf := (t.2.2.1.take i).filter (kpL t.1)
theorem stK_s {t : mS} {i : Nat} {e : mLf} (hg : t.2.2.1[i]? = some e) : stK t (i + 1) = if rsE t.1 e = 0 then stK t i else stK t i ++ [e] := by
  unfold stK
  rw [tk_app hg, List.filter_append]
  by_cases q : rsE t.1 e = 0
  · rw [if_pos q, List.filter_cons_of_neg (by unfold kpL; simp [q])]
    simp
  · rw [if_neg q, List.filter_cons_of_pos (by unfold kpL; simp [q])]
    simp
theorem tsF_s {t : mS} {i : Nat} {e : mLf} (hg : t.2.2.1[i]? = some e) : tsF t (i + 1) = if rsE t.1 e = 0 then ((tsF t i).1 + 1, (tsF t i).2.1 + 5, evAdd (tsF t i).2.2 (2, e.1, e.2.1)) else tsF t i := by
  show (match t.2.2.1[i]? with | some e => _ | none => _) = _
  rw [hg]
theorem LH_p2 {Φ : cRes → cAS → Prop} {mc ms P T C : Nat} {t : mS} (hw : wfA 74 T C t) (hP : P ≤ 1900)
    (kk : ∀ τ N S, hJ τ x m h N S → hRs noP P (stM t t.2.2.1.length) S → WP Γ (2, 48, mc, ms) MX9_passes Φ 217 [some (.ref h), some (.int ((tsF t t.2.2.1.length).1 - t.1 8)), some (.int (nI (stK t t.2.2.1.length).length)), none] [] τ) :
    ∀ d i N S σ, i + d = t.2.2.1.length → hJ σ x m h N S → hRs noP P (stM t i) S → WP Γ (2, 48, mc + d, ms + 3 * d) MX9_passes Φ 145 [some (.ref h), some (.int ((tsF t i).1 - t.1 8)), some (.int (nI (stK t i).length)), none] [] σ := by
  intro d
  induction d with
  | zero =>
    intro i N S σ h1 hj hR
    have hi : i = t.2.2.1.length := by omega
    subst hi
    have hF : S.2.2.2.2.1.length = (stK t t.2.2.1.length).length := by
      rw [hR.2.2.2.1.2.1]
      show (stK t _ ++ List.drop _ _).length = _
      rw [List.drop_length, List.append_nil]
    refine WP.iload_n (pc := 145) dX9_passes_145 rfl ?_
    refine WP.aload_n (pc := 146) dX9_passes_146 rfl ?_
    refine WP.gIs (pc := 147) uX9 fX9_93 hj.t0 (v := nI S.2.2.2.2.1.length) ((hj.fI 6).trans (hR.h6)) dX9_passes_147 ?_
    refine WP.icmp_ge (pc := 150) (tgt := 217) dX9_passes_150 (by decide) (fun c => ?_) (fun c => ?_)
    · exact kk σ N S hj hR
    · exact absurd (by rw [hF]; exact nI_le (Nat.le_refl _) (by have := hR.lL; omega)) c
  | succ d ih =>
    intro i N S σ h1 hj hR
    have hg : t.2.2.1[i]? = some (t.2.2.1[i]'(by omega)) := List.getElem?_eq_getElem (by omega)
    generalize t.2.2.1[i]'(by omega) = e at hg
    have hok := hw.2.2.2.1.1 e (List.mem_of_getElem? hg)
    obtain ⟨j, b, q1, q2, q3, q4, hv⟩ := rsE_N hw.1 (by decide : (74 : Nat) ≤ 2000) hok
    have hFl : S.2.2.2.2.1 = stK t i ++ t.2.2.1.drop i := hR.2.2.2.1.2.1
    have hFe : S.2.2.2.2.1[(stK t i).length]? = some e := by rw [hFl, cut_get]; exact hg
    have hlt := gE_lt hFe
    have h60 := hR.lL
    obtain ⟨a, a1, a2, a3, -, -⟩ := hj.lf hFe
    have hZt : hZ t.1 S := ⟨hR.h9, fun j hj => (hR.Z.2 j hj).trans (by
      show zup (zup t.1 8 _) 4 _ j = _
      unfold zup
      rw [if_neg (by omega), if_neg (by omega)])⟩
    have ih := fun N' S' τ => ih (i + 1) N' S' τ (by omega)
    rw [tsF_s hg, stK_s hg] at ih
    refine WP.iload_n (pc := 145) dX9_passes_145 rfl ?_
    refine WP.aload_n (pc := 146) dX9_passes_146 rfl ?_
    refine WP.gIs (pc := 147) uX9 fX9_93 hj.t0 (v := nI S.2.2.2.2.1.length) ((hj.fI 6).trans (hR.h6)) dX9_passes_147 ?_
    refine WP.icmp_ge (pc := 150) (tgt := 217) dX9_passes_150 (by decide) (fun c => ?_) (fun c => ?_)
    · exact absurd c (nI_ge (by omega) (by omega))
    · refine WP.aload_n (pc := 153) dX9_passes_153 rfl ?_
      refine WP.aload_n (pc := 154) dX9_passes_154 rfl ?_
      refine WP.gRs (pc := 155) uX9 fX9_21 hj.t0 hj.r0_3 dX9_passes_155 ?_
      refine WP.iload_n (pc := 158) dX9_passes_158 rfl ?_
      refine WP.aaldS (pc := 159) hj.t4 (by omega) (by decide) a1 dX9_passes_159 ?_
      refine WP.cV1 (pc := 160) (mc2 := mc + (d + 1)) (ms2 := ms + 3 * (d + 1)) (ci := 9) kX9_100 (CH_reserve Γ hj a2 a3 hw.1 (by decide : (74 : Nat) ≤ 2000) hok hZt) (by decide) rfl hj.t0 rfl ⟨Nat.le_of_ble_eq_true rfl, Nat.le_of_ble_eq_true rfl⟩ (by omega) (by omega) (Nat.le_of_ble_eq_true rfl) rfl dX9_passes_160 ?_
      refine WP.if_le (pc := 163) (tgt := 169) dX9_passes_163 (by decide) (fun c2 => ?_) (fun c2 => ?_)
      · have h0 : rsE t.1 e = 0 := by
          rw [hv] at c2 ⊢
          rcases Nat.eq_zero_or_pos (rsvN j b (ag t.1 e)) with z | z
          · rw [z]; rfl
          · exact absurd c2 (nI_ge (a := 0) z (by have := rsvN_le (k := j) (b := b) (a := ag t.1 e); omega))
        rw [if_pos h0, if_pos h0] at ih
        have hR1 := hR.ev (2, e.1, e.2.1)
        have hw1 : (stK t i).length < (tlS S (2, e.1, e.2.1)).2.2.2.2.1.length := hlt
        have hR2 := hR1.drop (w := (stK t i).length) (by rw [← hR.2.2.2.1.2.1]; exact hlt)
        have hR3 := hR2.crumb ((tsF t i).2.1 + 5)
        refine WP.aload_n (pc := 169) dX9_passes_169 rfl ?_
        refine WP.iconst (pc := 170) (v := 2) dX9_passes_170 (by decide) ?_
        refine WP.aload_n (pc := 171) dX9_passes_171 rfl ?_
        refine WP.gRs (pc := 172) uX9 fX9_21 hj.t0 hj.r0_3 dX9_passes_172 ?_
        refine WP.iload_n (pc := 175) dX9_passes_175 rfl ?_
        refine WP.aaldS (pc := 176) hj.t4 (by omega) (by decide) a1 dX9_passes_176 ?_
        refine WP.iconst (pc := 177) (v := 0) dX9_passes_177 (by decide) ?_
        refine WP.ialdS (pc := 178) (k := 0) a2 (by decide) (by decide) (v := e.1) (congrFun a3 0) dX9_passes_178 ?_
        refine WP.aload_n (pc := 179) dX9_passes_179 rfl ?_
        refine WP.gRs (pc := 180) uX9 fX9_21 hj.t0 hj.r0_3 dX9_passes_180 ?_
        refine WP.iload_n (pc := 183) dX9_passes_183 rfl ?_
        refine WP.aaldS (pc := 184) hj.t4 (by omega) (by decide) a1 dX9_passes_184 ?_
        refine WP.iconst (pc := 185) (v := 1) dX9_passes_185 (by decide) ?_
        refine WP.ialdS (pc := 186) (k := 1) a2 (by decide) (by decide) (v := e.2.1) (congrFun a3 1) dX9_passes_186 ?_
        refine WP.cVs (pc := 187) (mc2 := mc + d) (ms2 := ms + 3 * d) (ci := 9) kX9_96 (CH_tells Γ hj hR.h7 (by have := hR.lE; omega) 2 e.1 e.2.1) (by decide) rfl hj.t0 rfl ⟨Nat.le_of_ble_eq_true rfl, Nat.le_of_ble_eq_true rfl⟩ (by omega) (by omega) (Nat.le_of_ble_eq_true rfl) rfl dX9_passes_187 (fun v τ ⟨hv2, N', hj'⟩ => ?_)
        subst hv2
        clear a1 a2 a3
        replace hj := hj'
        clear hj'
        refine WP.aload_n (pc := 190) dX9_passes_190 rfl ?_
        refine WP.iload_n (pc := 191) dX9_passes_191 rfl ?_
        refine WP.cV0 (pc := 192) (mc2 := mc + d) (ms2 := ms + 3 * d) (ci := 9) kX9_104 (CH_dropLoaf Γ hj hR1.h6 hR1.lL hw1) (by decide) rfl hj.t0 rfl ⟨Nat.le_of_ble_eq_true rfl, Nat.le_of_ble_eq_true rfl⟩ (by omega) (by omega) (Nat.le_of_ble_eq_true rfl) rfl dX9_passes_192 ?_
        replace hj := hj.drop hw1
        generalize dlA τ h (stK t i).length _ = τ2 at hj ⊢
        refine WP.aload_n (pc := 195) dX9_passes_195 rfl ?_
        refine WP.dup (pc := 196) dX9_passes_196 rfl ?_
        refine WP.gIs (pc := 197) uX9 fX9_74 hj.t0 (v := ((tsF t i).2.1)) ((hj.fI 10).trans (hR2.h10)) dX9_passes_197 ?_
        refine WP.iconst (pc := 200) (v := 5) dX9_passes_200 (by decide) ?_
        refine WP.iadd (pc := 201) dX9_passes_201 ?_
        refine WP.putI (pc := 202) uX9 fX9_74 rfl rfl hj.t0 dX9_passes_202 ?_
        replace hj := hj.scal 10 ((tsF t i).2.1 + 5)
        refine WP.iinc (pc := 205) (v := (tsF t i).1 + 1 - t.1 8) dX9_passes_205 rfl (i32_up _ _) (by decide) rfl ?_
        refine WP.iinc (pc := 208) dX9_passes_208 rfl rfl (by decide) rfl ?_
        refine WP.iinc (pc := 211) (v := nI (stK t i).length) dX9_passes_211 rfl (iinc_back _) (by decide) rfl ?_
        refine WP.goto (pc := 214) (tgt := 145) dX9_passes_214 (by decide) ?_
        refine ih _ _ _ hj ?_
        have eM : stM t (i + 1) = (zup (zup t.1 8 ((tsF t i).1 + 1)) 4 ((tsF t i).2.1 + 5), t.2.1, stK t i ++ t.2.2.1.drop (i + 1), t.2.2.2.1, evAdd (tsF t i).2.2 (2, e.1, e.2.1)) := by
          show (zup (zup t.1 8 (tsF t (i + 1)).1) 4 (tsF t (i + 1)).2.1, t.2.1, stK t (i + 1) ++ t.2.2.1.drop (i + 1), t.2.2.2.1, (tsF t (i + 1)).2.2) = _
          rw [tsF_s hg, stK_s hg, if_pos h0, if_pos h0]
        rw [eM, ← cut_er (stK t i) t.2.2.1 (gE_lt hg)]
        exact hR3.zz ⟨rfl, rfl, rfl, rfl, fun j hj => by
          show zup (zup t.1 8 _) 4 _ j = zup (zup (zup t.1 8 _) 4 _) 4 _ j
          unfold zup
          rw [if_neg (by omega), if_neg (by omega), if_neg (by omega), if_neg (by omega), if_neg (by omega)]⟩
      · have h0 : ¬ rsE t.1 e = 0 := fun z => c2 (by rw [z]; decide)
        rw [if_neg h0, if_neg h0] at ih
        refine WP.less (mc2 := mc + d) (ms2 := ms + 3 * d) (by omega) (by omega) ?_
        refine WP.goto (pc := 166) (tgt := 211) dX9_passes_166 (by decide) ?_
        refine WP.iinc (pc := 211) dX9_passes_211 rfl (nI_1 _) (by decide) rfl ?_
        refine WP.goto (pc := 214) (tgt := 145) dX9_passes_214 (by decide) ?_
        rw [List.length_append] at ih
        refine ih N S σ hj ?_
        have eM : stM t (i + 1) = stM t i := by
          show (zup (zup t.1 8 (tsF t (i + 1)).1) 4 (tsF t (i + 1)).2.1, t.2.1, stK t (i + 1) ++ t.2.2.1.drop (i + 1), t.2.2.2.1, (tsF t (i + 1)).2.2) = _
          rw [tsF_s hg, stK_s hg, if_neg h0, if_neg h0, cut_nx _ _ hg]
          rfl
        rw [eM]
        exact hR
-- patience
theorem rw6_5 (e : mCu) : rw6 (decP e) = u1 (rw6 e) 5 (e.2.2.2.2.2.2 - 1) := by
  funext j
  unfold u1 rw6 decP
  by_cases q : j = 5
  · subst q
    rfl
  · rw [if_neg q]
    simp only [if_neg q]
theorem lpK_s {t : mS} {i : Nat} {e : mCu} (hg : t.2.2.2.1[i]? = some e) : lpK t (i + 1) = if e.2.2.2.2.2.2 - 1 ≤ 0 then lpK t i else lpK t i ++ [decP e] := by
  unfold lpK
  rw [tk_app hg, List.filter_append]
  by_cases q : e.2.2.2.2.2.2 - 1 ≤ 0
  · rw [if_pos q, List.filter_cons_of_neg (by unfold dieP; simp [q])]
    simp
  · rw [if_neg q, List.filter_cons_of_pos (by unfold dieP; simp [q])]
    simp
theorem lpF_s {t : mS} {i : Nat} {e : mCu} (hg : t.2.2.2.1[i]? = some e) : lpF t (i + 1) = if e.2.2.2.2.2.2 - 1 ≤ 0 then ((lpF t i).1 + e.2.2.2.2.2.1, evAdd (lpF t i).2 (3, e.2.1, 1)) else lpF t i := by
  show (match t.2.2.2.1[i]? with | some e => _ | none => _) = _
  rw [hg]
theorem LH_p3 {Φ : cRes → cAS → Prop} {mc ms P : Nat} {t : mS} {W : Int32} (hC10 : t.2.2.2.1.length ≤ 10) (hP : P ≤ 1900)
    (kk : ∀ τ N S, hJ τ x m h N S → hRs noP P (lpM t t.2.2.2.1.length) S → Φ (.inl (some (.int W))) τ) :
    ∀ d i N S σ, i + d = t.2.2.2.1.length → hJ σ x m h N S → hRs noP P (lpM t i) S → WP Γ (2, 48, mc + d, ms + 3 * d) MX9_passes Φ 286 [some (.ref h), some (.int W), some (.int (nI (lpK t i).length)), none] [] σ := by
  intro d
  induction d with
  | zero =>
    intro i N S σ h1 hj hR
    have hi : i = t.2.2.2.1.length := by omega
    subst hi
    have hQ : S.2.2.2.1.length = (lpK t t.2.2.2.1.length).length := by
      rw [hR.2.2.2.1.1]
      show (lpK t _ ++ List.drop _ _).length = _
      rw [List.drop_length, List.append_nil]
    have hK : (lpK t t.2.2.2.1.length).length ≤ 10 := by
      unfold lpK
      rw [List.length_map]
      have := List.length_filter_le (fun e => !dieP e) (t.2.2.2.1.take t.2.2.2.1.length)
      rw [List.length_take] at this
      omega
    refine WP.iload_n (pc := 286) dX9_passes_286 rfl ?_
    refine WP.aload_n (pc := 287) dX9_passes_287 rfl ?_
    refine WP.gIs (pc := 288) uX9 fX9_46 hj.t0 (v := nI S.2.2.2.1.length) ((hj.fI 5).trans (hR.h5)) dX9_passes_288 ?_
    refine WP.icmp_ge (pc := 291) (tgt := 335) dX9_passes_291 (by decide) (fun c => ?_) (fun c => ?_)
    · refine WP.iload_n (pc := 335) dX9_passes_335 rfl ?_
      exact WP.iret (pc := 336) rfl dX9_passes_336 (kk σ N S hj hR)
    · exact absurd (by rw [hQ]; exact nI_le (Nat.le_refl _) (by omega)) c
  | succ d ih =>
    intro i N S σ h1 hj hR
    have hg : t.2.2.2.1[i]? = some (t.2.2.2.1[i]'(by omega)) := List.getElem?_eq_getElem (by omega)
    generalize t.2.2.2.1[i]'(by omega) = e at hg
    have hQl : S.2.2.2.1 = lpK t i ++ t.2.2.2.1.drop i := hR.2.2.2.1.1
    have hQe : S.2.2.2.1[(lpK t i).length]? = some e := by rw [hQl, cut_get]; exact hg
    have hlt := gE_lt hQe
    have hK : (lpK t i).length ≤ 10 := by
      unfold lpK
      rw [List.length_map]
      have := List.length_filter_le (fun e => !dieP e) (t.2.2.2.1.take i)
      rw [List.length_take] at this
      omega
    have hQ10 : S.2.2.2.1.length ≤ 10 := by
      rw [hQl, List.length_append, List.length_drop]
      have : (lpK t i).length ≤ i := by
        unfold lpK
        rw [List.length_map]
        have := List.length_filter_le (fun e => !dieP e) (t.2.2.2.1.take i)
        rw [List.length_take] at this
        omega
      omega
    obtain ⟨a, a1, a2, a3, -, -⟩ := hj.qu hQe
    have ih := fun N' S' τ => ih (i + 1) N' S' τ (by omega)
    rw [lpK_s hg] at ih
    refine WP.iload_n (pc := 286) dX9_passes_286 rfl ?_
    refine WP.aload_n (pc := 287) dX9_passes_287 rfl ?_
    refine WP.gIs (pc := 288) uX9 fX9_46 hj.t0 (v := nI S.2.2.2.1.length) ((hj.fI 5).trans (hR.h5)) dX9_passes_288 ?_
    refine WP.icmp_ge (pc := 291) (tgt := 335) dX9_passes_291 (by decide) (fun c => ?_) (fun c => ?_)
    · exact absurd c (nI_ge (by omega) (by omega))
    · refine WP.aload_n (pc := 294) dX9_passes_294 rfl ?_
      refine WP.gRs (pc := 295) uX9 fX9_18 hj.t0 hj.r0_2 dX9_passes_295 ?_
      refine WP.iload_n (pc := 298) dX9_passes_298 rfl ?_
      refine WP.aaldS (pc := 299) hj.t3 (by omega) (by decide) a1 dX9_passes_299 ?_
      refine WP.iconst (pc := 300) (v := 5) dX9_passes_300 (by decide) ?_
      refine WP.dup2 (pc := 301) dX9_passes_301 rfl rfl ?_
      refine WP.ialdS (pc := 302) (k := 5) a2 (by decide) (by decide) (v := e.2.2.2.2.2.2) (congrFun a3 5) dX9_passes_302 ?_
      refine WP.iconst (pc := 303) (v := 1) dX9_passes_303 (by decide) ?_
      refine WP.isub (pc := 304) dX9_passes_304 ?_
      refine WP.iastS (pc := 305) (k := 5) a2 (by decide) (by decide) dX9_passes_305 ?_
      have hR0 := hR.cset (lpK t i).length (decP e)
      replace hj := hj.qset (decP e) hQe a1 (rw6_5 e)
      generalize sI σ a 5 _ = τ at hj ⊢
      clear a1 a2 a3
      clear a
      have hQe' : (S.2.2.2.1.set (lpK t i).length (decP e))[(lpK t i).length]? = some (decP e) := List.getElem?_set_self hlt
      obtain ⟨a, a1, a2, a3, -, -⟩ := hj.qu hQe'
      refine WP.aload_n (pc := 306) dX9_passes_306 rfl ?_
      refine WP.gRs (pc := 307) uX9 fX9_18 hj.t0 hj.r0_2 dX9_passes_307 ?_
      refine WP.iload_n (pc := 310) dX9_passes_310 rfl ?_
      refine WP.aaldS (pc := 311) hj.t3 (by omega) (by decide) a1 dX9_passes_311 ?_
      refine WP.iconst (pc := 312) (v := 5) dX9_passes_312 (by decide) ?_
      refine WP.ialdS (pc := 313) (k := 5) a2 (by decide) (by decide) (v := (decP e).2.2.2.2.2.2) (congrFun a3 5) dX9_passes_313 ?_
      refine WP.if_le (pc := 314) (tgt := 320) dX9_passes_314 (by decide) (fun c2 => ?_) (fun c2 => ?_)
      · have c2' : e.2.2.2.2.2.2 - 1 ≤ 0 := c2
        rw [if_pos c2'] at ih
        have hR1 := hR0.leave (w := (lpK t i).length) (by rw [List.length_set, ← hR.2.2.2.1.1]; exact hlt) (3, (decP e).2.1, 1)
        refine WP.aload_n (pc := 320) dX9_passes_320 rfl ?_
        refine WP.iload_n (pc := 321) dX9_passes_321 rfl ?_
        refine WP.iconst (pc := 322) (v := 1) dX9_passes_322 (by decide) ?_
        refine WP.cVs (pc := 323) (mc2 := mc + d) (ms2 := ms + 3 * d) (ci := 9) kX9_111 (CH_leaves Γ hj hR0.h5 hR0.h7 (by have := hR0.lE; show S.2.2.2.2.2.length < 2000; have q : S.2.2.2.2.2.length ≤ P := this; omega) (by show (S.2.2.2.1.set _ _).length ≤ 10; rw [List.length_set]; exact hQ10) hQe' 1) (by decide) rfl hj.t0 rfl ⟨Nat.le_of_ble_eq_true rfl, Nat.le_of_ble_eq_true rfl⟩ (by omega) (by omega) (Nat.le_of_ble_eq_true rfl) rfl dX9_passes_323 (fun v τ2 ⟨hv2, N', hj'⟩ => ?_)
        subst hv2
        refine WP.iinc (pc := 326) dX9_passes_326 rfl rfl (by decide) rfl ?_
        refine WP.iinc (pc := 329) (v := nI (lpK t i).length) dX9_passes_329 rfl (iinc_back _) (by decide) rfl ?_
        refine WP.goto (pc := 332) (tgt := 286) dX9_passes_332 (by decide) ?_
        refine ih _ _ _ hj' ?_
        have eM : lpM t (i + 1) = (zup t.1 10 ((lpF t i).1 + e.2.2.2.2.2.1), t.2.1, t.2.2.1, lpK t i ++ t.2.2.2.1.drop (i + 1), evAdd (lpF t i).2 (3, e.2.1, 1)) := by
          show (zup t.1 10 (lpF t (i + 1)).1, t.2.1, t.2.2.1, lpK t (i + 1) ++ t.2.2.2.1.drop (i + 1), (lpF t (i + 1)).2) = _
          rw [lpF_s hg, lpK_s hg, if_pos c2', if_pos c2']
        have eC : ((lpK t i ++ t.2.2.2.1.drop i).set (lpK t i).length (decP e)).eraseIdx (lpK t i).length = lpK t i ++ t.2.2.2.1.drop (i + 1) := by
          rw [cut_set _ _ (gE_lt hg), cut_er2]
        rw [eM, ← eC]
        exact hR1.zz ⟨rfl, rfl, rfl, rfl, fun j hj => by
          show zup t.1 10 _ j = zup t.1 10 _ j
          unfold zup
          rw [if_neg (by omega), if_neg (by omega)]⟩
      · have c2' : ¬ e.2.2.2.2.2.2 - 1 ≤ 0 := c2
        rw [if_neg c2'] at ih
        refine WP.less (mc2 := mc + d) (ms2 := ms + 3 * d) (by omega) (by omega) ?_
        refine WP.goto (pc := 317) (tgt := 329) dX9_passes_317 (by decide) ?_
        refine WP.iinc (pc := 329) dX9_passes_329 rfl (nI_1 _) (by decide) rfl ?_
        refine WP.goto (pc := 332) (tgt := 286) dX9_passes_332 (by decide) ?_
        rw [List.length_append] at ih
        refine ih _ _ _ hj ?_
        have eM : lpM t (i + 1) = (zup t.1 10 (lpF t i).1, t.2.1, t.2.2.1, (lpK t i ++ t.2.2.2.1.drop i).set (lpK t i).length (decP e), (lpF t i).2) := by
          show (zup t.1 10 (lpF t (i + 1)).1, t.2.1, t.2.2.1, lpK t (i + 1) ++ t.2.2.2.1.drop (i + 1), (lpF t (i + 1)).2) = _
          rw [lpF_s hg, lpK_s hg, if_neg c2', if_neg c2', cut_set _ _ (gE_lt hg), List.append_assoc]
          rfl
        rw [eM]
        exact hR0
end T
