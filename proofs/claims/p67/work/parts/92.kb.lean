section T
variable (Γ : cG) {σ : cAS} {x : Nat} {m : mX}
theorem LA_send {X t : Nat} (hX : X < 2147483648) (hx : xAt σ x m) (h10 : m.s.2.2.2.1.length ≤ 10) (hn : m.n = 0) (hc : X % 16 = 6) : WP Γ (11, 300, 60, 2200) ML_acts (acP σ x m X t) 157 [some (.ref x), some (.int (nI X)), some (.int (nI t)), some (.int (nI (X / 16))), none] [] σ := by
  have hA : hdAct (nmT t) m.s X = (if m.s.2.2.2.1.length = 0 then (-9, m.s) else ((m.s.2.2.2.1.getD (acW m.s X) dC).2.2.2.2.2.1, sdA m.s (acW m.s X))) := by
    unfold hdAct
    rw [if_neg (by omega), if_neg (by omega), if_pos hc]
  refine WP.aload_n (pc := 157) dL_acts_157 rfl ?_
  refine WP.cVs (pc := 158) (mc2 := 60) (ms2 := 2200) (ci := 8) kL_99 (xOk Γ (CX8_customerCount Γ hx) rfl) (by decide) rfl hx.1.t0 rfl ⟨Nat.le_of_ble_eq_true rfl, Nat.le_of_ble_eq_true rfl⟩ (Nat.le_of_ble_eq_true rfl) (Nat.le_of_ble_eq_true rfl) (Nat.le_of_ble_eq_true rfl) rfl dL_acts_158 (fun w τ ⟨hw, hx1, hk1⟩ => ?_)
  subst hw
  refine WP.if_ne (pc := 161) (tgt := 169) dL_acts_161 (by decide) (fun c => ?_) (fun c => ?_)
  · have h0 : 0 < m.s.2.2.2.1.length := by
      rcases Nat.eq_zero_or_pos m.s.2.2.2.1.length with q | q
      · exact absurd (by rw [q]; rfl) c
      · exact q
    have hw9 : acW m.s X < m.s.2.2.2.1.length := Nat.mod_lt _ h0
    rw [if_neg (by omega)] at hA
    obtain ⟨e, he⟩ : ∃ e, m.s.2.2.2.1[acW m.s X]? = some e := ⟨_, List.getElem?_eq_getElem hw9⟩
    have hq : q_sendAway m (nI (acW m.s X)) = (0, (m.s.2.2.2.1.getD (acW m.s X) dC).2.2.2.2.2.1, psh m (sdA m.s (acW m.s X))) := by
      unfold q_sendAway
      rw [if_neg (ix_no hw9 (by omega)), nI_clamp (by omega)]
    have hv := fun T C Z hT (h : inv T C Z m) => q_sendAway_inv hT h (nI (acW m.s X))
    refine WP.aload_n (pc := 169) dL_acts_169 rfl ?_
    refine WP.iload_n (pc := 170) dL_acts_170 rfl ?_
    refine WP.aload_n (pc := 171) dL_acts_171 rfl ?_
    refine WP.cVs (pc := 172) (mc2 := 60) (ms2 := 2200) (ci := 8) kL_99 (xOk Γ (CX8_customerCount Γ hx1) rfl) (by decide) rfl hx1.1.t0 rfl ⟨Nat.le_of_ble_eq_true rfl, Nat.le_of_ble_eq_true rfl⟩ (Nat.le_of_ble_eq_true rfl) (Nat.le_of_ble_eq_true rfl) (Nat.le_of_ble_eq_true rfl) rfl dL_acts_172 (fun w τ2 ⟨hw, hx2, hk2⟩ => ?_)
    subst hw
    refine WP.irN (pc := 175) (a := X / 16) (b := m.s.2.2.2.1.length) rfl (by omega) (by omega) (by omega) dL_acts_175 ?_
    rw [show X / 16 % m.s.2.2.2.1.length = acW m.s X from rfl]
    refine WP.cVs (pc := 176) (mc2 := 0) (ms2 := 0) (ci := 8) kL_102 (xOk Γ (CX8_sendAway Γ hx2 (nI (acW m.s X))) hq) (by decide) rfl hx2.1.t0 rfl ⟨Nat.le_of_ble_eq_true rfl, Nat.le_of_ble_eq_true rfl⟩ (Nat.le_of_ble_eq_true rfl) (Nat.le_of_ble_eq_true rfl) (Nat.le_of_ble_eq_true rfl) rfl dL_acts_176 (fun w τ3 ⟨hw, hx3, hk3⟩ => ?_)
    subst hw
    refine WP.iret (pc := 179) rfl dL_acts_179 ⟨_, rfl, by rw [hA], _, hx3, hk1.trans (hk2.trans hk3), by rw [hA]; rfl, hn, fun T C Z hT hC h => ?_⟩
    have := hv T C Z hT h
    rw [hq] at this
    exact this
  · have h0 : m.s.2.2.2.1.length = 0 := by
      have c : nI m.s.2.2.2.1.length = 0 := by first | exact c | exact Classical.not_not.mp c
      exact (nI_eq (b := 0) (by omega) (by decide)).mp c
    rw [if_pos h0] at hA
    refine WP.bipush (pc := 164) (v := (-9)) dL_acts_164 (by decide) ?_
    refine WP.goto (pc := 166) (tgt := 179) dL_acts_166 (by decide) ?_
    exact WP.iret (pc := 179) rfl dL_acts_179 ⟨_, rfl, by rw [hA], m, hx1, hk1, by rw [hA], hn, fun T C Z hT hC h => h.up⟩
theorem LA_base {X t : Nat} (hX : X < 2147483648) (hx : xAt σ x m) (hn : m.n = 0) (hc : X % 16 = 7) : WP Γ (11, 300, 60, 2200) ML_acts (acP σ x m X t) 180 [some (.ref x), some (.int (nI X)), some (.int (nI t)), some (.int (nI (X / 16))), none] [] σ := by
  have hA : hdAct (nmT t) m.s X = (m.s.1 (X / 16 % 3), (zup m.s.1 (X / 16 % 3) (nI (1 + X / 16 / 4 % 40)), m.s.2)) := by
    unfold hdAct
    rw [if_neg (by omega), if_neg (by omega), if_neg (by omega), if_pos hc]
  have hi : X / 16 % 3 < 3 := Nat.mod_lt _ (by decide)
  have hq : q_setBasePrice m (nI (X / 16 % 3)) (nI (1 + X / 16 / 4 % 40)) = (0, m.s.1 (X / 16 % 3), psh m (zup m.s.1 (X / 16 % 3) (nI (1 + X / 16 / 4 % 40)), m.s.2)) := by
    unfold q_setBasePrice bsO
    rw [if_neg (ix_no hi (by decide)), if_neg (fun z => z.elim (fun z => nI_nlt (a := 1 + X / 16 / 4 % 40) (b := 1) (by omega) (by omega) z) (fun z => nI_nlt (a := 99) (b := 1 + X / 16 / 4 % 40) (by omega) (by omega) z)), if_pos ⟨Int32.not_lt.mp (nI_pos (by omega)), nI_lt (b := 3) hi (by decide)⟩, nI_clamp (by omega)]
  have hv := fun T C Z (h : inv T C Z m) => q_setBasePrice_inv h (nI (X / 16 % 3)) (nI (1 + X / 16 / 4 % 40))
  refine WP.aload_n (pc := 180) dL_acts_180 rfl ?_
  refine WP.iload_n (pc := 181) dL_acts_181 rfl ?_
  refine WP.iconst (pc := 182) (v := 3) dL_acts_182 (by decide) ?_
  refine WP.irN (pc := 183) (b := 3) rfl (by omega) (by omega) (by omega) dL_acts_183 ?_
  refine WP.iconst (pc := 184) (v := 1) dL_acts_184 (by decide) ?_
  refine WP.iload_n (pc := 185) dL_acts_185 rfl ?_
  refine WP.iconst (pc := 186) (v := 4) dL_acts_186 (by decide) ?_
  refine WP.idN (pc := 187) (b := 4) rfl (by omega) (by omega) (by omega) dL_acts_187 ?_
  refine WP.bipush (pc := 188) (v := 40) dL_acts_188 (by decide) ?_
  refine WP.irN (pc := 190) (b := 40) rfl (by omega) (by omega) (by omega) dL_acts_190 ?_
  refine WP.iaN (pc := 191) (a := 1) rfl rfl dL_acts_191 ?_
  refine WP.cVs (pc := 192) (mc2 := 0) (ms2 := 0) (ci := 8) kL_105 (xOk Γ (CX8_setBasePrice Γ hx (nI (X / 16 % 3)) (nI (1 + X / 16 / 4 % 40))) hq) (by decide) rfl hx.1.t0 rfl ⟨Nat.le_of_ble_eq_true rfl, Nat.le_of_ble_eq_true rfl⟩ (Nat.le_of_ble_eq_true rfl) (Nat.le_of_ble_eq_true rfl) (Nat.le_of_ble_eq_true rfl) rfl dL_acts_192 (fun w τ ⟨hw, hx2, hk2⟩ => ?_)
  subst hw
  refine WP.iret (pc := 195) rfl dL_acts_195 ⟨_, rfl, by rw [hA], _, hx2, hk2, by rw [hA]; rfl, hn, fun T C Z hT hC h => ?_⟩
  have := hv T C Z h
  rw [hq] at this
  exact this
theorem LA_scat {X t : Nat} (hX : X < 2147483648) (hx : xAt σ x m) (hn : m.n = 0) (hc : X % 16 = 8) : WP Γ (11, 300, 60, 2200) ML_acts (acP σ x m X t) 196 [some (.ref x), some (.int (nI X)), some (.int (nI t)), some (.int (nI (X / 16))), none] [] σ := by
  have hA : hdAct (nmT t) m.s X = (m.s.1 4 + nI (1 + X / 16 % 40), (zup m.s.1 4 (m.s.1 4 + nI (1 + X / 16 % 40)), m.s.2)) := by
    unfold hdAct
    rw [if_neg (by omega), if_neg (by omega), if_neg (by omega), if_neg (by omega), if_pos hc]
  have hq : q_scatter m (nI (1 + X / 16 % 40)) = (0, m.s.1 4 + nI (1 + X / 16 % 40), psh m (zup m.s.1 4 (m.s.1 4 + nI (1 + X / 16 % 40)), m.s.2)) := by
    unfold q_scatter
    rw [if_neg (fun z => z.elim (fun z => nI_nlt (a := 1 + X / 16 % 40) (b := 1) (by omega) (by omega) z) (fun z => nI_nlt (a := 99) (b := 1 + X / 16 % 40) (by omega) (by omega) z))]
  have hv := fun T C Z (h : inv T C Z m) => q_scatter_inv h (nI (1 + X / 16 % 40))
  refine WP.aload_n (pc := 196) dL_acts_196 rfl ?_
  refine WP.iconst (pc := 197) (v := 1) dL_acts_197 (by decide) ?_
  refine WP.iload_n (pc := 198) dL_acts_198 rfl ?_
  refine WP.bipush (pc := 199) (v := 40) dL_acts_199 (by decide) ?_
  refine WP.irN (pc := 201) (b := 40) rfl (by omega) (by omega) (by omega) dL_acts_201 ?_
  refine WP.iaN (pc := 202) (a := 1) rfl rfl dL_acts_202 ?_
  refine WP.cVs (pc := 203) (mc2 := 0) (ms2 := 0) (ci := 8) kL_108 (xOk Γ (CX8_scatter Γ hx (nI (1 + X / 16 % 40))) hq) (by decide) rfl hx.1.t0 rfl ⟨Nat.le_of_ble_eq_true rfl, Nat.le_of_ble_eq_true rfl⟩ (Nat.le_of_ble_eq_true rfl) (Nat.le_of_ble_eq_true rfl) (Nat.le_of_ble_eq_true rfl) rfl dL_acts_203 (fun w τ ⟨hw, hx2, hk2⟩ => ?_)
  subst hw
  refine WP.iret (pc := 206) rfl dL_acts_206 ⟨_, rfl, by rw [hA], _, hx2, hk2, by rw [hA]; rfl, hn, fun T C Z hT hC h => ?_⟩
  have := hv T C Z h
  rw [hq] at this
  exact this
theorem LA_hold {X t TT CC : Nat} (hX : X < 2147483648) (hx : xAt σ x m) (hw : wf TT CC m.s) (hn : m.n = 0) (hc : 8 < X % 16) (hc2 : X % 16 < 12) : WP Γ (11, 300, 60, 2200) ML_acts (acP σ x m X t) 207 [some (.ref x), some (.int (nI X)), some (.int (nI t)), some (.int (nI (X / 16))), none] [] σ := by
  have hA : hdAct (nmT t) m.s X = (nI (plT m.s (nI (X / 16 % 3))), hdOut m.s (nI (X / 16 % 3))) := by
    unfold hdAct
    rw [if_neg (by omega), if_neg (by omega), if_neg (by omega), if_neg (by omega), if_neg (by omega), if_pos hc2]
  have hi : X / 16 % 3 < 3 := Nat.mod_lt _ (by decide)
  have hq : q_auction m (nI (X / 16 % 3)) = (0, nI (plT m.s (nI (X / 16 % 3))), psh m (hdOut m.s (nI (X / 16 % 3)))) := by
    unfold q_auction
    rw [if_neg (ix_no hi (by decide))]
  have hv := fun T C Z hT (h : inv T C Z m) => q_auction_inv hT h (nI (X / 16 % 3))
  refine WP.aload_n (pc := 207) dL_acts_207 rfl ?_
  refine WP.iload_n (pc := 208) dL_acts_208 rfl ?_
  refine WP.iconst (pc := 209) (v := 3) dL_acts_209 (by decide) ?_
  refine WP.irN (pc := 210) (b := 3) rfl (by omega) (by omega) (by omega) dL_acts_210 ?_
  refine WP.cVs (pc := 211) (mc2 := 0) (ms2 := 0) (ci := 8) kL_111 (xOk Γ (CX8_auction Γ hx hw (nI (X / 16 % 3))) hq) (by decide) rfl hx.1.t0 rfl ⟨Nat.le_of_ble_eq_true rfl, Nat.le_of_ble_eq_true rfl⟩ (Nat.le_of_ble_eq_true rfl) (Nat.le_of_ble_eq_true rfl) (Nat.le_of_ble_eq_true rfl) rfl dL_acts_211 (fun w τ ⟨hw', hx2, hk2⟩ => ?_)
  subst hw'
  refine WP.iret (pc := 214) rfl dL_acts_214 ⟨_, rfl, by rw [hA], _, hx2, hk2, by rw [hA]; rfl, hn, fun T C Z hT hC h => ?_⟩
  have := hv T C Z hT h
  rw [hq] at this
  exact this
theorem LA_pass {X t TT CC : Nat} (hX : X < 2147483648) (hx : xAt σ x m) (hw : wf TT CC m.s) (hTT : TT ≤ 2147483647) (hCC : CC + 30000 < 2147483648) (hn : m.n = 0) (hc : 12 ≤ X % 16) : WP Γ (11, 300, 60, 2200) ML_acts (acP σ x m X t) 215 [some (.ref x), some (.int (nI X)), some (.int (nI t)), some (.int (nI (X / 16))), none] [] σ := by
  have hA : hdAct (nmT t) m.s X = ((hrsN (X / 16 % 3 + 1) m.s).1 8 - m.s.1 8, hrsN (X / 16 % 3 + 1) m.s) := by
    unfold hdAct
    rw [if_neg (by omega), if_neg (by omega), if_neg (by omega), if_neg (by omega), if_neg (by omega), if_neg (by omega)]
  have hi : X / 16 % 3 < 3 := Nat.mod_lt _ (by decide)
  have hq : q_passHours m (nI (1 + X / 16 % 3)) = (0, (hrsN (X / 16 % 3 + 1) m.s).1 8 - m.s.1 8, psh m (hrsN (X / 16 % 3 + 1) m.s)) := by
    unfold q_passHours
    rw [if_neg (fun z => z.elim (fun z => nI_nlt (a := 1 + X / 16 % 3) (b := 1) (by omega) (by omega) z) (fun z => nI_nlt (a := 60) (b := 1 + X / 16 % 3) (by omega) (by omega) z)), nI_clamp (by omega), Nat.add_comm 1]
  have hv := fun T C Z hT hC (h : inv T C Z m) => q_passHours_inv hT hC h (nI (1 + X / 16 % 3))
  refine WP.aload_n (pc := 215) dL_acts_215 rfl ?_
  refine WP.iconst (pc := 216) (v := 1) dL_acts_216 (by decide) ?_
  refine WP.iload_n (pc := 217) dL_acts_217 rfl ?_
  refine WP.iconst (pc := 218) (v := 3) dL_acts_218 (by decide) ?_
  refine WP.irN (pc := 219) (b := 3) rfl (by omega) (by omega) (by omega) dL_acts_219 ?_
  refine WP.iaN (pc := 220) (a := 1) rfl rfl dL_acts_220 ?_
  refine WP.cVs (pc := 221) (mc2 := 0) (ms2 := 0) (ci := 8) kL_114 (xOk Γ (CX8_passHours Γ hx hw hTT hCC (nI (1 + X / 16 % 3))) hq) (by decide) rfl hx.1.t0 rfl ⟨Nat.le_of_ble_eq_true rfl, Nat.le_of_ble_eq_true rfl⟩ (Nat.le_of_ble_eq_true rfl) (Nat.le_of_ble_eq_true rfl) (Nat.le_of_ble_eq_true rfl) rfl dL_acts_221 (fun w τ ⟨hw', hx2, hk2⟩ => ?_)
  subst hw'
  refine WP.iret (pc := 224) rfl dL_acts_224 ⟨_, rfl, by rw [hA], _, hx2, hk2, by rw [hA]; rfl, hn, fun T C Z hT hC h => ?_⟩
  have := hv T C Z hT hC h
  rw [hq] at this
  exact this
theorem strF.new {τ : cAS} {a : Nat} {l : List Nat} (hx : xAt σ x m) (hk : kpB σ τ (aN σ)) (h : strB τ (aN σ) a l) : strF τ x a l := by
  obtain ⟨⟨h1, h2⟩, h3, h4, u, ⟨h5, h6⟩, h7, h8, h9⟩ := h
  have kx := kpB.X (x := x) (m := m) hk
  refine ⟨⟨⟨Nat.zero_le _, h2⟩, h3, h4, u, ⟨Nat.zero_le _, h6⟩, h7, h8, h9⟩, hx.new kx h1 h2, fun u' hu' => ?_⟩
  rw [h7] at hu'
  rw [← Option.some.inj hu']
  exact hx.new kx h5 h6
theorem i2c_n : ∀ c, c < 128 → ((nI c).toUInt32 % 65536).toInt32 = nI c := by decide +kernel
theorem cT27 : cTx 27 = [100] := by decide +kernel
theorem LA_join {X t : Nat} (hX : X < 2147483648) (ht : t < 1000) (hx : xAt σ x m) (h10 : m.s.2.2.2.1.length ≤ 10) (hn : m.n = 0) (hnm : hasN m.s (nI (100 + 256 * (97 + t % 26))) = false) (hc : ¬ X % 16 < 3) (hc2 : X % 16 < 6) : WP Γ (11, 300, 60, 2200) ML_acts (acP σ x m X t) 85 [some (.ref x), some (.int (nI X)), some (.int (nI t)), some (.int (nI (X / 16))), none] [] σ := by
  have hA : hdAct (nmT t) m.s X = (if m.s.2.2.2.1.length = 10 then (-9, m.s) else (m.s.1 11, wlC m.s (nmT t) (nI (X / 16 % 3)) (nI (1 + X / 16 / 4 % 5)) (nI (1 + X / 16 / 32 % 40)) (nI (X / 16 / 2048 % 200)) (nI (1 + X / 16 / 65536 % 20)))) := by
    unfold hdAct
    rw [if_neg hc, if_pos hc2]
  have hkk := kpB.rf (σ := σ) (B0 := aN σ)
  have hB := hx.2.1
  refine WP.aload_n (pc := 85) dL_acts_85 rfl ?_
  refine WP.less (mc2 := 59 + 1) (ms2 := 2196 + 4) (by omega) (by omega) ?_
  refine WP.new (pc := 86) (mc := 59) (ms := 2196) (ci := 15) uX15 (by decide) nL_45 nI15 nJ15 nD15 dL_acts_86 ?_
  refine WP.dup (pc := 89) dL_acts_89 rfl ?_
  refine WP.cIs (pc := 90) (mc2 := 58) (ms2 := 1794) kL_89 (CJ4_init0 Γ (B0 := aN σ) (b := aN σ) (show aT (sA σ 16 4) (aN σ) = (16, 4) from by rw [aT_sA, if_pos rfl]) (by rw [aN_sA]; omega) (fun i => by rw [aI_sA, if_pos rfl]) (Nat.le_refl _)) rfl ⟨Nat.le_of_ble_eq_true rfl, Nat.le_of_ble_eq_true rfl⟩ (Nat.le_of_ble_eq_true rfl) (Nat.le_of_ble_eq_true rfl) (Nat.le_of_ble_eq_true rfl) rfl dL_acts_90 (fun w τ ⟨hw, ⟨v', hs0⟩, hk2⟩ => ?_)
  subst hw
  have hk : kpB σ τ (aN σ) := (kpB.sA (Nat.le_refl _)).trans hk2
  generalize hb : aN σ = b at hs0 hk ⊢
  refine WP.ldcS (pc := 93) (j := 27) (List.mem_of_getElem? (i := 27) rfl) dL_acts_93 ?_
  refine WP.cVs (pc := 95) (mc2 := 57) (ms2 := 1392) (ci := 15) kL_61 (CJ4_appendS Γ (j := 27) (by decide) hs0 (by decide) (by decide)) (by decide) rfl hs0.2.2.2.2.1 rfl ⟨Nat.le_of_ble_eq_true rfl, Nat.le_of_ble_eq_true rfl⟩ (Nat.le_of_ble_eq_true rfl) (Nat.le_of_ble_eq_true rfl) (Nat.le_of_ble_eq_true rfl) rfl dL_acts_95 (fun w τ2 ⟨hw, ⟨v2, hs1⟩, hk3⟩ => ?_)
  subst hw
  refine WP.bipush (pc := 98) (v := 97) dL_acts_98 (by decide) ?_
  refine WP.iload_n (pc := 100) dL_acts_100 rfl ?_
  refine WP.bipush (pc := 101) (v := 26) dL_acts_101 (by decide) ?_
  refine WP.irN (pc := 103) (a := t) (b := 26) rfl (by omega) (by omega) (by omega) dL_acts_103 ?_
  refine WP.iaN (pc := 104) (a := 97) (b := t % 26) rfl rfl dL_acts_104 ?_
  refine WP.i2c (pc := 105) dL_acts_105 ?_
  rw [i2c_n (97 + t % 26) (by omega)]
  rw [show gwN (([] : List Nat).length + cTL 27) 16 = 16 by decide +kernel, cT27, List.nil_append] at hs1
  refine WP.cVs (pc := 106) (mc2 := 56) (ms2 := 990) (ci := 15) kL_56 (CJ4_appendC Γ hs1 (c := 97 + t % 26) (by omega) (by decide)) (by decide) rfl hs1.2.2.2.2.1 rfl ⟨Nat.le_of_ble_eq_true rfl, Nat.le_of_ble_eq_true rfl⟩ (Nat.le_of_ble_eq_true rfl) (Nat.le_of_ble_eq_true rfl) (Nat.le_of_ble_eq_true rfl) rfl dL_acts_106 (fun w τ3 ⟨hw, ⟨v3, hs2⟩, hk4⟩ => ?_)
  subst hw
  rw [show gwN ([100].length + 1) 16 = 16 by decide +kernel] at hs2
  refine WP.cVs (pc := 109) (mc2 := 54) (ms2 := 580) (ci := 15) kL_81 (CJ4_toString Γ hs2 (by show 2 < 16; decide) (by decide)) (by decide) rfl hs2.2.2.2.2.1 rfl ⟨Nat.le_of_ble_eq_true rfl, Nat.le_of_ble_eq_true rfl⟩ (Nat.le_of_ble_eq_true rfl) (Nat.le_of_ble_eq_true rfl) (Nat.le_of_ble_eq_true rfl) rfl dL_acts_109 (fun w τ4 ⟨a, hw, hs3, hk5⟩ => ?_)
  subst hw
  have hkB : kpB σ τ4 (aN σ) := by
    rw [hb]
    exact hk.trans (hk3.trans (hk4.trans hk5))
  have hsF : strF τ4 x a ([100] ++ [97 + t % 26]) := strF.new hx hkB (by rw [hb]; exact hs3)
  have hkM := kpB.M hkB hB hx
  have hx4 := hx.oth (kpB.X (m := m) hkB)
  have em : m = (m.s, m.f, 0, m.2.2.2) := by rw [← hn]
  rw [em] at hx4
  refine WP.cSs (pc := 112) (mc2 := 33) (ms2 := 464) kL_92 (CL_says Γ (by show 2 ≤ 200; decide) hx4 hsF) rfl ⟨Nat.le_of_ble_eq_true rfl, Nat.le_of_ble_eq_true rfl⟩ (Nat.le_of_ble_eq_true rfl) (Nat.le_of_ble_eq_true rfl) (Nat.le_of_ble_eq_true rfl) rfl dL_acts_112 (fun w τ5 ⟨hw, ⟨f', hx5, hf'⟩, hk6⟩ => ?_)
  subst hw
  have g0 : f' 0 = nI 100 := hf' 0 100 rfl
  have g1 : f' 1 = nI (97 + t % 26) := hf' 1 (97 + t % 26) rfl
  obtain ⟨p1, p2⟩ := nm2_f g0 g1 (by decide) (by omega)
  have hx5 : xAt τ5 x (m.s, f', 2, m.2.2.2) := hx5
  have hq : q_joinQueue (m.s, f', 2, m.2.2.2) (nI (X / 16 % 3)) (nI (1 + X / 16 / 4 % 5)) (nI (1 + X / 16 / 32 % 40)) (nI (X / 16 / 2048 % 200)) (nI (1 + X / 16 / 65536 % 20)) = if m.s.2.2.2.1.length = 10 then (3, 0, (m.s, f', 2, m.2.2.2)) else (0, m.s.1 11, mX.w_n (psh (m.s, f', 2, m.2.2.2) (wlC m.s (nmT t) (nI (X / 16 % 3)) (nI (1 + X / 16 / 4 % 5)) (nI (1 + X / 16 / 32 % 40)) (nI (X / 16 / 2048 % 200)) (nI (1 + X / 16 / 65536 % 20)))) 0) := by
    have rg : ∀ v lo hi, lo ≤ v → v ≤ hi → hi < 1000 → ¬ (nI v < nI lo ∨ nI hi < nI v) := fun v lo hi q1 q2 q3 z => z.elim (fun z => nI_nlt (a := v) (b := lo) (by omega) (by omega) z) (fun z => nI_nlt (a := hi) (b := v) (by omega) (by omega) z)
    unfold q_joinQueue
    rw [if_neg (ix_no (Nat.mod_lt _ (by decide)) (by decide)), if_neg (show ¬ (nI (1 + X / 16 / 4 % 5) < (1 : Int32) ∨ (9 : Int32) < nI (1 + X / 16 / 4 % 5)) from rg (1 + X / 16 / 4 % 5) 1 9 (by omega) (by omega) (by decide)), if_neg (show ¬ (nI (1 + X / 16 / 32 % 40) < (1 : Int32) ∨ (99 : Int32) < nI (1 + X / 16 / 32 % 40)) from rg (1 + X / 16 / 32 % 40) 1 99 (by omega) (by omega) (by decide)), if_neg (show ¬ (nI (X / 16 / 2048 % 200) < (0 : Int32) ∨ (999 : Int32) < nI (X / 16 / 2048 % 200)) from rg (X / 16 / 2048 % 200) 0 999 (by omega) (by omega) (by decide)), if_neg (show ¬ (nI (1 + X / 16 / 65536 % 20) < (1 : Int32) ∨ (99 : Int32) < nI (1 + X / 16 / 65536 % 20)) from rg (1 + X / 16 / 65536 % 20) 1 99 (by omega) (by omega) (by decide))]
    show (if pkN f' 0 2 = -1 then _ else if 10 ≤ m.s.2.2.2.1.length ∨ hasN m.s (pkN f' 0 2) = true then _ else (0, m.s.1 11, mX.w_n (psh _ (wlC m.s (nmF f' 0 2) _ _ _ _ _)) 0)) = _
    rw [p1, p2, hnm, if_neg (nI_ne_m1 (by omega))]
    by_cases q : m.s.2.2.2.1.length = 10
    · rw [if_pos q, if_pos (Or.inl (by omega))]
    · rw [if_neg q, if_neg (fun z => z.elim (fun z => q (by omega)) (fun z => nomatch z))]
      rfl
  have hv := fun T C Z (h : inv T C Z (m.s, f', 2, m.2.2.2)) => q_joinQueue_inv h (nI (X / 16 % 3)) (nI (1 + X / 16 / 4 % 5)) (nI (1 + X / 16 / 32 % 40)) (nI (X / 16 / 2048 % 200)) (nI (1 + X / 16 / 65536 % 20))
  refine WP.aload_n (pc := 115) dL_acts_115 rfl ?_
  refine WP.iload_n (pc := 116) dL_acts_116 rfl ?_
  refine WP.iconst (pc := 117) (v := 3) dL_acts_117 (by decide) ?_
  refine WP.irN (pc := 118) (b := 3) rfl (by omega) (by omega) (by omega) dL_acts_118 ?_
  refine WP.iconst (pc := 119) (v := 1) dL_acts_119 (by decide) ?_
  refine WP.iload_n (pc := 120) dL_acts_120 rfl ?_
  refine WP.iconst (pc := 121) (v := 4) dL_acts_121 (by decide) ?_
  refine WP.idN (pc := 122) (b := 4) rfl (by omega) (by omega) (by omega) dL_acts_122 ?_
  refine WP.iconst (pc := 123) (v := 5) dL_acts_123 (by decide) ?_
  refine WP.irN (pc := 124) (b := 5) rfl (by omega) (by omega) (by omega) dL_acts_124 ?_
  refine WP.iaN (pc := 125) (a := 1) rfl rfl dL_acts_125 ?_
  refine WP.iconst (pc := 126) (v := 1) dL_acts_126 (by decide) ?_
  refine WP.iload_n (pc := 127) dL_acts_127 rfl ?_
  refine WP.bipush (pc := 128) (v := 32) dL_acts_128 (by decide) ?_
  refine WP.idN (pc := 130) (b := 32) rfl (by omega) (by omega) (by omega) dL_acts_130 ?_
  refine WP.bipush (pc := 131) (v := 40) dL_acts_131 (by decide) ?_
  refine WP.irN (pc := 133) (b := 40) rfl (by omega) (by omega) (by omega) dL_acts_133 ?_
  refine WP.iaN (pc := 134) (a := 1) rfl rfl dL_acts_134 ?_
  refine WP.iload_n (pc := 135) dL_acts_135 rfl ?_
  refine WP.sipush (pc := 136) (v := 2048) dL_acts_136 (by decide) ?_
  refine WP.idN (pc := 139) (b := 2048) rfl (by omega) (by omega) (by omega) dL_acts_139 ?_
  refine WP.sipush (pc := 140) (v := 200) dL_acts_140 (by decide) ?_
  refine WP.irN (pc := 143) (b := 200) rfl (by omega) (by omega) (by omega) dL_acts_143 ?_
  refine WP.iconst (pc := 144) (v := 1) dL_acts_144 (by decide) ?_
  refine WP.iload_n (pc := 145) dL_acts_145 rfl ?_
  refine WP.ldc (pc := 146) qL_76 dL_acts_146 ?_
  refine WP.idN (pc := 148) (b := 65536) rfl (by omega) (by omega) (by omega) dL_acts_148 ?_
  refine WP.bipush (pc := 149) (v := 20) dL_acts_149 (by decide) ?_
  refine WP.irN (pc := 151) (b := 20) rfl (by omega) (by omega) (by omega) dL_acts_151 ?_
  refine WP.iaN (pc := 152) (a := 1) rfl rfl dL_acts_152 ?_
  by_cases q : m.s.2.2.2.1.length = 10
  · rw [if_pos q] at hq hA
    refine WP.callV (pc := 153) (mc2 := 1) (ms2 := 18) (ci := 8) kL_96 (xEx Γ (CX8_joinQueue Γ hx5 (nI (X / 16 % 3)) (nI (1 + X / 16 / 4 % 5)) (nI (1 + X / 16 / 32 % 40)) (nI (X / 16 / 2048 % 200)) (nI (1 + X / 16 / 65536 % 20))) hq (E := eIS) rfl) (by decide) rfl hx5.1.t0 rfl ⟨Nat.le_of_ble_eq_true rfl, Nat.le_of_ble_eq_true rfl⟩ (Nat.le_of_ble_eq_true rfl) (Nat.le_of_ble_eq_true rfl) (Nat.le_of_ble_eq_true rfl) rfl dL_acts_153 (fun v τ h => nomatch h.1) (fun E τ h => ?_)
    obtain ⟨hE, hx6, hk7⟩ := h
    cases hE
    refine WX.catch2 (E := eIS) (name := eIS) [⟨5, 84, 225, 117⟩] ⟨85, 156, 225, 117⟩ [⟨157, 179, 225, 117⟩, ⟨180, 195, 225, 117⟩, ⟨196, 206, 225, 117⟩, ⟨207, 214, 225, 117⟩, ⟨215, 224, 225, 117⟩] rfl (fun z hz => by rw [List.mem_singleton.mp hz]; decide) (by decide) (by decide) bL_117 bC_117 (fun q => ?_)
    exact LA_no Γ (mc := 0) (ms := 12) hx6 (hkM.trans (hk6.trans hk7)) rfl (fun T C Z h => h) hA q rfl
  · rw [if_neg q] at hq hA
    refine WP.cVs (pc := 153) (mc2 := 0) (ms2 := 0) (ci := 8) kL_96 (xOk Γ (CX8_joinQueue Γ hx5 (nI (X / 16 % 3)) (nI (1 + X / 16 / 4 % 5)) (nI (1 + X / 16 / 32 % 40)) (nI (X / 16 / 2048 % 200)) (nI (1 + X / 16 / 65536 % 20))) hq) (by decide) rfl hx5.1.t0 rfl ⟨Nat.le_of_ble_eq_true rfl, Nat.le_of_ble_eq_true rfl⟩ (Nat.le_of_ble_eq_true rfl) (Nat.le_of_ble_eq_true rfl) (Nat.le_of_ble_eq_true rfl) rfl dL_acts_153 (fun w τ ⟨hw, hx6, hk7⟩ => ?_)
    subst hw
    refine WP.iret (pc := 156) rfl dL_acts_156 ⟨_, rfl, by rw [hA], _, hx6, hkM.trans (hk6.trans hk7), by rw [hA]; rfl, rfl, fun T C Z hT hC h => ?_⟩
    have := hv T C Z h
    rw [hq] at this
    exact this
theorem CL_acts {X t TT CC : Nat} (hX : X < 2147483648) (ht : t < 1000) (hx : xAt σ x m) (hw : wf TT CC m.s) (hTT : TT ≤ 2147483647) (hCC : CC + 30000 < 2147483648) (hn : m.n = 0) (h3 : m.s.2.1.length = 3) (hnm : hasN m.s (nI (100 + 256 * (97 + t % 26))) = false) : Ctr Γ (11, 300, 60, 2200) ML_acts [.ref x, .int (nI X), .int (nI t)] σ (acP σ x m X t) := by
  have h10 := hw.2.2.2.2.1.1
  refine Ctr.ofH (List.cons_ne_nil _ _) (by decide) (Nat.le_of_ble_eq_true rfl) (by intro v hv; simp only [List.mem_cons, List.not_mem_nil, or_false] at hv; rcases hv with rfl | rfl | rfl <;> rfl) ?_
  refine WP.iload_n (pc := 0) dL_acts_0 rfl ?_
  refine WP.bipush (pc := 1) (v := 16) dL_acts_1 (by decide) ?_
  refine WP.idN (pc := 3) (b := 16) rfl (by omega) (by omega) (by omega) dL_acts_3 ?_
  refine WP.istore_n (pc := 4) dL_acts_4 (by decide) rfl ?_
  refine WP.iload_n (pc := 5) dL_acts_5 rfl ?_
  refine WP.bipush (pc := 6) (v := 16) dL_acts_6 (by decide) ?_
  refine WP.irN (pc := 8) (b := 16) rfl (by omega) (by omega) (by omega) dL_acts_8 ?_
  have g0 : X % 16 < 3 → WP Γ (11, 300, 60, 2200) ML_acts (acP σ x m X t) 72 [some (.ref x), some (.int (nI X)), some (.int (nI t)), some (.int (nI (X / 16))), none] [] σ := fun q => LA_bake Γ hX hx h3 hn q
  have g1 : ¬ X % 16 < 3 → X % 16 < 6 → WP Γ (11, 300, 60, 2200) ML_acts (acP σ x m X t) 85 [some (.ref x), some (.int (nI X)), some (.int (nI t)), some (.int (nI (X / 16))), none] [] σ := fun q q2 => LA_join Γ hX ht hx h10 hn hnm q q2
  have g2 : X % 16 = 6 → WP Γ (11, 300, 60, 2200) ML_acts (acP σ x m X t) 157 [some (.ref x), some (.int (nI X)), some (.int (nI t)), some (.int (nI (X / 16))), none] [] σ := fun q => LA_send Γ hX hx h10 hn q
  have g3 : X % 16 = 7 → WP Γ (11, 300, 60, 2200) ML_acts (acP σ x m X t) 180 [some (.ref x), some (.int (nI X)), some (.int (nI t)), some (.int (nI (X / 16))), none] [] σ := fun q => LA_base Γ hX hx hn q
  have g4 : X % 16 = 8 → WP Γ (11, 300, 60, 2200) ML_acts (acP σ x m X t) 196 [some (.ref x), some (.int (nI X)), some (.int (nI t)), some (.int (nI (X / 16))), none] [] σ := fun q => LA_scat Γ hX hx hn q
  have g5 : 8 < X % 16 → X % 16 < 12 → WP Γ (11, 300, 60, 2200) ML_acts (acP σ x m X t) 207 [some (.ref x), some (.int (nI X)), some (.int (nI t)), some (.int (nI (X / 16))), none] [] σ := fun q q2 => LA_hold Γ hX hx hw hn q q2
  have g6 : 12 ≤ X % 16 → WP Γ (11, 300, 60, 2200) ML_acts (acP σ x m X t) 215 [some (.ref x), some (.int (nI X)), some (.int (nI t)), some (.int (nI (X / 16))), none] [] σ := fun q => LA_pass Γ hX hx hw hTT hCC hn q
  have hr : X % 16 < 16 := Nat.mod_lt _ (by decide)
  generalize X % 16 = r at g0 g1 g2 g3 g4 g5 g6 hr ⊢
  rcases (show r = 0 ∨ r = 1 ∨ r = 2 ∨ r = 3 ∨ r = 4 ∨ r = 5 ∨ r = 6 ∨ r = 7 ∨ r = 8 ∨ r = 9 ∨ r = 10 ∨ r = 11 ∨ r = 12 ∨ r = 13 ∨ r = 14 ∨ r = 15 by omega) with rfl | rfl | rfl | rfl | rfl | rfl | rfl | rfl | rfl | rfl | rfl | rfl | rfl | rfl | rfl | rfl
  · exact WP.tableIn (off := 63) (tgt := 72) dL_acts_9 (by decide) (by decide) (by decide) (by decide) (g0 (by decide))
  · exact WP.tableIn (off := 63) (tgt := 72) dL_acts_9 (by decide) (by decide) (by decide) (by decide) (g0 (by decide))
  · exact WP.tableIn (off := 63) (tgt := 72) dL_acts_9 (by decide) (by decide) (by decide) (by decide) (g0 (by decide))
  · exact WP.tableIn (off := 76) (tgt := 85) dL_acts_9 (by decide) (by decide) (by decide) (by decide) (g1 (by decide) (by decide))
  · exact WP.tableIn (off := 76) (tgt := 85) dL_acts_9 (by decide) (by decide) (by decide) (by decide) (g1 (by decide) (by decide))
  · exact WP.tableIn (off := 76) (tgt := 85) dL_acts_9 (by decide) (by decide) (by decide) (by decide) (g1 (by decide) (by decide))
  · exact WP.tableIn (off := 148) (tgt := 157) dL_acts_9 (by decide) (by decide) (by decide) (by decide) (g2 rfl)
  · exact WP.tableIn (off := 171) (tgt := 180) dL_acts_9 (by decide) (by decide) (by decide) (by decide) (g3 rfl)
  · exact WP.tableIn (off := 187) (tgt := 196) dL_acts_9 (by decide) (by decide) (by decide) (by decide) (g4 rfl)
  · exact WP.tableIn (off := 198) (tgt := 207) dL_acts_9 (by decide) (by decide) (by decide) (by decide) (g5 (by decide) (by decide))
  · exact WP.tableIn (off := 198) (tgt := 207) dL_acts_9 (by decide) (by decide) (by decide) (by decide) (g5 (by decide) (by decide))
  · exact WP.tableIn (off := 198) (tgt := 207) dL_acts_9 (by decide) (by decide) (by decide) (by decide) (g5 (by decide) (by decide))
  · exact WP.tableOut (tgt := 215) dL_acts_9 (Or.inr (by decide)) (by decide) (g6 (by decide))
  · exact WP.tableOut (tgt := 215) dL_acts_9 (Or.inr (by decide)) (by decide) (g6 (by decide))
  · exact WP.tableOut (tgt := 215) dL_acts_9 (Or.inr (by decide)) (by decide) (g6 (by decide))
  · exact WP.tableOut (tgt := 215) dL_acts_9 (Or.inr (by decide)) (by decide) (g6 (by decide))
end T
