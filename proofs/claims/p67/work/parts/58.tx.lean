-- the law's text
def tqH (x : Nat) : List Nat := cTx 15 ++ dgs (1 + x % 40) ++ [32] ++ dgs (1 + x / 64 % 30) ++ [32] ++ dgs (1 + x / 4096 % 30) ++ [59]
def tqB (l : List Nat) (k y : Nat) : List Nat := l ++ cTx 16 ++ [120 + k] ++ [32] ++ dgs (1 + y % 6) ++ [32] ++ dgs (1 + y / 8 % 4) ++ [59]
def tqK (l : List Nat) (k y : Nat) : List Nat := if y / 64 % 3 = 0 then l else l ++ cTx 18 ++ [120 + k] ++ [32] ++ cTx (19 + y / 256 % 3) ++ [59]
def tqC (l : List Nat) (k y : Nat) : List Nat := l ++ cTx 22 ++ [120 + k] ++ [32] ++ cTx (19 + y % 3) ++ [32] ++ dgs (1 + y / 4 % 5) ++ [32] ++ dgs (1 + y / 32 % 40) ++ [32] ++ dgs (y / 2048 % 200) ++ [32] ++ dgs (3 + y / 65536 % 20) ++ [59]
def tqS (l : List Nat) (x : Nat) : List Nat := l ++ cTx 24 ++ dgs (x / 131072 % 10) ++ [32] ++ dgs (x / 2097152 % 60) ++ [59]
abbrev yB (Γ : cG) (k : Nat) : Nat := clN Γ 1 / (1 + 97 * k)
abbrev yC (Γ : cG) (k : Nat) : Nat := clN Γ 2 / (1 + 61 * k)
def tqKB (Γ : cG) (l : List Nat) (k : Nat) : List Nat := tqK (tqB l k (yB Γ k)) k (yB Γ k)
def txt (Γ : cG) : List Nat := tqS (tqC (tqC (tqKB Γ (tqKB Γ (tqKB Γ (tqH (clN Γ 0)) 0) 1) 2) 0 (yC Γ 0)) 1 (yC Γ 1)) (clN Γ 0)
theorem xyz_17 : ∀ k, k < 3 → cTB 17 k = nI (120 + k) := by decide +kernel
theorem xyz_23 : ∀ k, k < 2 → cTB 23 k = nI (120 + k) := by decide +kernel
theorem knd_len : ∀ q, q < 3 → cTL (19 + q) ≤ 5 := by decide +kernel
section T
variable (Γ : cG) {σ : cAS} {B0 b : Nat} {l : List Nat} {Φ : cRes → cAS → Prop} {mc ms : Nat}
theorem LL_bk (hN : (gX Γ).2.1 ≤ 260) {k n : Nat} (hk3 : k < 3) (hs : SB σ B0 b l n) (hn : n + 31 ≤ 198) {l1 l4 : Option Value} (hl4 : cLc [some (.ref (gX Γ).1), l1, some (.ref b), some (.int (nI k)), l4] = true)
    (kk : ∀ τ, SB τ B0 b (tqKB Γ l k) (n + 31) → kpB σ τ B0 → ∀ l4', cLc [some (.ref (gX Γ).1), l1, some (.ref b), some (.int (nI k)), l4'] = true → WP Γ (20, 600, mc, ms) ML_text Φ 187 [some (.ref (gX Γ).1), l1, some (.ref b), some (.int (nI k)), l4'] [] τ) :
    WP Γ (20, 600, mc + 12, ms + 4824) ML_text Φ 72 [some (.ref (gX Γ).1), l1, some (.ref b), some (.int (nI k)), l4] [] σ := by
  have hk : kpB σ σ B0 := kpB.rf
  have h17 : 17 < 30 := by decide
  have hc1 := clN_lt Γ 1
  have hcl : cLc [some (.ref (gX Γ).1), l1, some (.ref b), some (.int (nI k)), some (.int (nI (yB Γ k)))] = true := by
    simp [cLc] at hl4 ⊢
    exact ⟨rfl, hl4.2.1, rfl, rfl, rfl⟩
  have hy : yB Γ k < 2147483648 := Nat.lt_of_le_of_lt (Nat.div_le_self _ _) hc1
  refine WP.aload_n (pc := 72) dL_text_72 rfl ?_
  refine WP.iconst (pc := 73) (v := 1) dL_text_73 (by decide) ?_
  refine WP.cS1 (pc := 74) (mc2 := mc + 12) (ms2 := ms + 4824) kL_39 (CL_cell Γ hN (k := 1) (by omega)) rfl ⟨Nat.le_of_ble_eq_true rfl, Nat.le_of_ble_eq_true rfl⟩ (by omega) (by omega) (Nat.le_of_ble_eq_true rfl) rfl dL_text_74 ?_
  refine WP.iconst (pc := 77) (v := 1) dL_text_77 (by decide) ?_
  refine WP.bipush (pc := 78) (v := 97) dL_text_78 (by decide) ?_
  refine WP.iload_n (pc := 80) dL_text_80 rfl ?_
  refine WP.imN (pc := 81) (a := 97) (b := k) rfl rfl dL_text_81 ?_
  refine WP.iaN (pc := 82) (a := 1) (b := 97 * k) rfl rfl dL_text_82 ?_
  refine WP.idN (pc := 83) (a := clN Γ 1) (b := 1 + 97 * k) rfl (by omega) (by omega) (by omega) dL_text_83 ?_
  refine WP.istore (pc := 84) dL_text_84 (by decide) hl4 ?_
  generalize hyy : clN Γ 1 / (1 + 97 * k) = y
  have hy2 : y < 2147483648 := by rw [← hyy]; exact hy
  replace hcl : cLc [some (.ref (gX Γ).1), l1, some (.ref b), some (.int (nI k)), some (.int (nI y))] = true := by rw [← hyy]; exact hcl
  refine WP.aload_n (pc := 86) dL_text_86 rfl ?_
  refine WP.ldcS (pc := 87) (j := 16) (List.mem_of_getElem? (i := 16) rfl) dL_text_87 ?_
  refine WP.cVs (pc := 89) (mc2 := mc + 11) (ms2 := ms + 4422) (ci := 15) kL_61 (AS Γ (N := 7) hs (j := 16) (by decide) (by decide) (by decide) (by omega)) (by decide) rfl hs.t rfl ⟨Nat.le_of_ble_eq_true rfl, Nat.le_of_ble_eq_true rfl⟩ (by omega) (by omega) (Nat.le_of_ble_eq_true rfl) rfl dL_text_89 (fun w τ ⟨hw, hs2, hk2⟩ => ?_)
  subst hw
  replace hk := hk.trans hk2
  clear hk2
  replace hs := hs2
  clear hs2
  refine WP.ldcS (pc := 92) (j := 17) (List.mem_of_getElem? (i := 17) rfl) dL_text_92 ?_
  refine WP.iload_n (pc := 94) dL_text_94 rfl ?_
  refine WP.cVS (pc := 95) (mc2 := mc + 11) (ms2 := ms + 4422) h17 kL_14 (CJ_charAt Γ _ h17 (i := k) hk3) rfl rfl ⟨Nat.le_of_ble_eq_true rfl, Nat.le_of_ble_eq_true rfl⟩ (by omega) (by omega) (Nat.le_of_ble_eq_true rfl) rfl dL_text_95 ?_
  rw [xyz_17 k hk3]
  refine WP.cVs (pc := 98) (mc2 := mc + 10) (ms2 := ms + 4020) (ci := 15) kL_56 (AC Γ hs (c := 120 + k) (by omega) (by omega)) (by decide) rfl hs.t rfl ⟨Nat.le_of_ble_eq_true rfl, Nat.le_of_ble_eq_true rfl⟩ (by omega) (by omega) (Nat.le_of_ble_eq_true rfl) rfl dL_text_98 (fun w τ ⟨hw, hs2, hk2⟩ => ?_)
  subst hw
  replace hk := hk.trans hk2
  clear hk2
  replace hs := hs2
  clear hs2
  refine WP.bipush (pc := 101) (v := 32) dL_text_101 (by decide) ?_
  refine WP.cVs (pc := 103) (mc2 := mc + 9) (ms2 := ms + 3618) (ci := 15) kL_56 (AC Γ hs (c := 32) (by omega) (by omega)) (by decide) rfl hs.t rfl ⟨Nat.le_of_ble_eq_true rfl, Nat.le_of_ble_eq_true rfl⟩ (by omega) (by omega) (Nat.le_of_ble_eq_true rfl) rfl dL_text_103 (fun w τ ⟨hw, hs2, hk2⟩ => ?_)
  subst hw
  replace hk := hk.trans hk2
  clear hk2
  replace hs := hs2
  clear hs2
  refine WP.iconst (pc := 106) (v := 1) dL_text_106 (by decide) ?_
  refine WP.iload (pc := 107) dL_text_107 rfl ?_
  refine WP.bipush (pc := 109) (v := 6) dL_text_109 (by decide) ?_
  refine WP.irN (pc := 111) (a := y) (b := 6) rfl (by omega) (by omega) (by omega) dL_text_111 ?_
  refine WP.iaN (pc := 112) (a := 1) (b := y % 6) rfl rfl dL_text_112 ?_
  refine WP.cVs (pc := 113) (mc2 := mc + 8) (ms2 := ms + 3216) (ci := 15) kL_52 (AI Γ hs (x := 1 + y % 6) (by omega) (by omega)) (by decide) rfl hs.t rfl ⟨Nat.le_of_ble_eq_true rfl, Nat.le_of_ble_eq_true rfl⟩ (by omega) (by omega) (Nat.le_of_ble_eq_true rfl) rfl dL_text_113 (fun w τ ⟨hw, hs2, hk2⟩ => ?_)
  subst hw
  replace hk := hk.trans hk2
  clear hk2
  replace hs := hs2
  clear hs2
  refine WP.bipush (pc := 116) (v := 32) dL_text_116 (by decide) ?_
  refine WP.cVs (pc := 118) (mc2 := mc + 7) (ms2 := ms + 2814) (ci := 15) kL_56 (AC Γ hs (c := 32) (by omega) (by omega)) (by decide) rfl hs.t rfl ⟨Nat.le_of_ble_eq_true rfl, Nat.le_of_ble_eq_true rfl⟩ (by omega) (by omega) (Nat.le_of_ble_eq_true rfl) rfl dL_text_118 (fun w τ ⟨hw, hs2, hk2⟩ => ?_)
  subst hw
  replace hk := hk.trans hk2
  clear hk2
  replace hs := hs2
  clear hs2
  refine WP.iconst (pc := 121) (v := 1) dL_text_121 (by decide) ?_
  refine WP.iload (pc := 122) dL_text_122 rfl ?_
  refine WP.bipush (pc := 124) (v := 8) dL_text_124 (by decide) ?_
  refine WP.idN (pc := 126) (a := y) (b := 8) rfl (by omega) (by omega) (by omega) dL_text_126 ?_
  refine WP.iconst (pc := 127) (v := 4) dL_text_127 (by decide) ?_
  refine WP.irN (pc := 128) (a := y / 8) (b := 4) rfl (by omega) (by omega) (by omega) dL_text_128 ?_
  refine WP.iaN (pc := 129) (a := 1) (b := y / 8 % 4) rfl rfl dL_text_129 ?_
  refine WP.cVs (pc := 130) (mc2 := mc + 6) (ms2 := ms + 2412) (ci := 15) kL_52 (AI Γ hs (x := 1 + y / 8 % 4) (by omega) (by omega)) (by decide) rfl hs.t rfl ⟨Nat.le_of_ble_eq_true rfl, Nat.le_of_ble_eq_true rfl⟩ (by omega) (by omega) (Nat.le_of_ble_eq_true rfl) rfl dL_text_130 (fun w τ ⟨hw, hs2, hk2⟩ => ?_)
  subst hw
  replace hk := hk.trans hk2
  clear hk2
  replace hs := hs2
  clear hs2
  refine WP.bipush (pc := 133) (v := 59) dL_text_133 (by decide) ?_
  refine WP.cVs (pc := 135) (mc2 := mc + 5) (ms2 := ms + 2010) (ci := 15) kL_56 (AC Γ hs (c := 59) (by omega) (by omega)) (by decide) rfl hs.t rfl ⟨Nat.le_of_ble_eq_true rfl, Nat.le_of_ble_eq_true rfl⟩ (by omega) (by omega) (Nat.le_of_ble_eq_true rfl) rfl dL_text_135 (fun w τ ⟨hw, hs2, hk2⟩ => ?_)
  subst hw
  replace hk := hk.trans hk2
  clear hk2
  replace hs := hs2
  clear hs2
  refine WP.pop (pc := 138) dL_text_138 rfl ?_
  refine WP.iload (pc := 139) dL_text_139 rfl ?_
  refine WP.bipush (pc := 141) (v := 64) dL_text_141 (by decide) ?_
  refine WP.idN (pc := 143) (a := y) (b := 64) rfl (by omega) (by omega) (by omega) dL_text_143 ?_
  refine WP.iconst (pc := 144) (v := 3) dL_text_144 (by decide) ?_
  refine WP.irN (pc := 145) (a := y / 64) (b := 3) rfl (by omega) (by omega) (by omega) dL_text_145 ?_
  have hB : l ++ cTx 16 ++ [120 + k] ++ [32] ++ dgs (1 + y % 6) ++ [32] ++ dgs (1 + y / 8 % 4) ++ [59] = tqB l k y := rfl
  rw [hB] at hs
  have hKB : tqKB Γ l k = tqK (tqB l k y) k y := by unfold tqKB yB; rw [hyy]
  rw [hKB] at kk
  refine WP.if_le (pc := 146) (tgt := 187) dL_text_146 (by decide) (fun h => ?_) (fun h => ?_)
  · have h0 : y / 64 % 3 = 0 := by
      have := (nI_leI (a := y / 64 % 3) (b := 0) (by omega) (by omega)).mp h
      omega
    unfold tqK at kk
    rw [if_pos h0] at kk
    exact WP.less (by omega) (by omega) (kk _ ⟨by have := hs.1; omega, hs.2⟩ hk _ hcl)
  · have h0 : ¬ y / 64 % 3 = 0 := fun z => h (by rw [z]; decide)
    refine WP.aload_n (pc := 149) dL_text_149 rfl ?_
    refine WP.ldcS (pc := 150) (j := 18) (List.mem_of_getElem? (i := 18) rfl) dL_text_150 ?_
    refine WP.cVs (pc := 152) (mc2 := mc + 4) (ms2 := ms + 1608) (ci := 15) kL_61 (AS Γ (N := 6) hs (j := 18) (by decide) (by decide) (by decide) (by omega)) (by decide) rfl hs.t rfl ⟨Nat.le_of_ble_eq_true rfl, Nat.le_of_ble_eq_true rfl⟩ (by omega) (by omega) (Nat.le_of_ble_eq_true rfl) rfl dL_text_152 (fun w τ ⟨hw, hs2, hk2⟩ => ?_)
    subst hw
    replace hk := hk.trans hk2
    clear hk2
    replace hs := hs2
    clear hs2
    refine WP.ldcS (pc := 155) (j := 17) (List.mem_of_getElem? (i := 17) rfl) dL_text_155 ?_
    refine WP.iload_n (pc := 157) dL_text_157 rfl ?_
    refine WP.cVS (pc := 158) (mc2 := mc + 4) (ms2 := ms + 1608) h17 kL_14 (CJ_charAt Γ _ h17 (i := k) hk3) rfl rfl ⟨Nat.le_of_ble_eq_true rfl, Nat.le_of_ble_eq_true rfl⟩ (by omega) (by omega) (Nat.le_of_ble_eq_true rfl) rfl dL_text_158 ?_
    rw [xyz_17 k hk3]
    refine WP.cVs (pc := 161) (mc2 := mc + 3) (ms2 := ms + 1206) (ci := 15) kL_56 (AC Γ hs (c := 120 + k) (by omega) (by omega)) (by decide) rfl hs.t rfl ⟨Nat.le_of_ble_eq_true rfl, Nat.le_of_ble_eq_true rfl⟩ (by omega) (by omega) (Nat.le_of_ble_eq_true rfl) rfl dL_text_161 (fun w τ ⟨hw, hs2, hk2⟩ => ?_)
    subst hw
    replace hk := hk.trans hk2
    clear hk2
    replace hs := hs2
    clear hs2
    refine WP.bipush (pc := 164) (v := 32) dL_text_164 (by decide) ?_
    refine WP.cVs (pc := 166) (mc2 := mc + 2) (ms2 := ms + 804) (ci := 15) kL_56 (AC Γ hs (c := 32) (by omega) (by omega)) (by decide) rfl hs.t rfl ⟨Nat.le_of_ble_eq_true rfl, Nat.le_of_ble_eq_true rfl⟩ (by omega) (by omega) (Nat.le_of_ble_eq_true rfl) rfl dL_text_166 (fun w τ ⟨hw, hs2, hk2⟩ => ?_)
    subst hw
    replace hk := hk.trans hk2
    clear hk2
    replace hs := hs2
    clear hs2
    refine WP.iload (pc := 169) dL_text_169 rfl ?_
    refine WP.sipush (pc := 171) (v := 256) dL_text_171 (by decide) ?_
    refine WP.idN (pc := 174) (a := y) (b := 256) rfl (by omega) (by omega) (by omega) dL_text_174 ?_
    refine WP.cS1 (pc := 175) (mc2 := mc + 2) (ms2 := ms + 804) kL_68 (CL_kind Γ (x := y / 256) (by omega)) rfl ⟨Nat.le_of_ble_eq_true rfl, Nat.le_of_ble_eq_true rfl⟩ (by omega) (by omega) (Nat.le_of_ble_eq_true rfl) rfl dL_text_175 ?_
    refine WP.cVs (pc := 178) (mc2 := mc + 1) (ms2 := ms + 402) (ci := 15) kL_61 (AS Γ (N := 5) hs (j := 19 + y / 256 % 3) (by omega) (knd_len _ (by omega)) (by decide) (by omega)) (by decide) rfl hs.t rfl ⟨Nat.le_of_ble_eq_true rfl, Nat.le_of_ble_eq_true rfl⟩ (by omega) (by omega) (Nat.le_of_ble_eq_true rfl) rfl dL_text_178 (fun w τ ⟨hw, hs2, hk2⟩ => ?_)
    subst hw
    replace hk := hk.trans hk2
    clear hk2
    replace hs := hs2
    clear hs2
    refine WP.bipush (pc := 181) (v := 59) dL_text_181 (by decide) ?_
    refine WP.cVs (pc := 183) (mc2 := mc + 0) (ms2 := ms + 0) (ci := 15) kL_56 (AC Γ hs (c := 59) (by omega) (by omega)) (by decide) rfl hs.t rfl ⟨Nat.le_of_ble_eq_true rfl, Nat.le_of_ble_eq_true rfl⟩ (by omega) (by omega) (Nat.le_of_ble_eq_true rfl) rfl dL_text_183 (fun w τ ⟨hw, hs2, hk2⟩ => ?_)
    subst hw
    replace hk := hk.trans hk2
    clear hk2
    replace hs := hs2
    clear hs2
    refine WP.pop (pc := 186) dL_text_186 rfl ?_
    unfold tqK at kk
    rw [if_neg h0] at kk
    exact WP.less (by omega) (by omega) (kk _ ⟨by have := hs.1; omega, hs.2⟩ hk _ hcl)
theorem LL_cu (hN : (gX Γ).2.1 ≤ 260) {k n : Nat} (hk3 : k < 2) (hs : SB σ B0 b l n) (hn : n + 34 ≤ 198) {l1 l4 : Option Value} (hl4 : cLc [some (.ref (gX Γ).1), l1, some (.ref b), some (.int (nI k)), l4] = true)
    (kk : ∀ τ, SB τ B0 b (tqC l k (yC Γ k)) (n + 34) → kpB σ τ B0 → ∀ l4', cLc [some (.ref (gX Γ).1), l1, some (.ref b), some (.int (nI k)), l4'] = true → WP Γ (20, 600, mc, ms) ML_text Φ 318 [some (.ref (gX Γ).1), l1, some (.ref b), some (.int (nI k)), l4'] [] τ) :
    WP Γ (20, 600, mc + 13, ms + 5226) ML_text Φ 200 [some (.ref (gX Γ).1), l1, some (.ref b), some (.int (nI k)), l4] [] σ := by
  have hk : kpB σ σ B0 := kpB.rf
  have h23 : 23 < 30 := by decide
  have hc1 := clN_lt Γ 2
  have hcl : cLc [some (.ref (gX Γ).1), l1, some (.ref b), some (.int (nI k)), some (.int (nI (yC Γ k)))] = true := by
    simp [cLc] at hl4 ⊢
    exact ⟨rfl, hl4.2.1, rfl, rfl, rfl⟩
  have hy : yC Γ k < 2147483648 := Nat.lt_of_le_of_lt (Nat.div_le_self _ _) hc1
  refine WP.aload_n (pc := 200) dL_text_200 rfl ?_
  refine WP.iconst (pc := 201) (v := 2) dL_text_201 (by decide) ?_
  refine WP.cS1 (pc := 202) (mc2 := mc + 13) (ms2 := ms + 5226) kL_39 (CL_cell Γ hN (k := 2) (by omega)) rfl ⟨Nat.le_of_ble_eq_true rfl, Nat.le_of_ble_eq_true rfl⟩ (by omega) (by omega) (Nat.le_of_ble_eq_true rfl) rfl dL_text_202 ?_
  refine WP.iconst (pc := 205) (v := 1) dL_text_205 (by decide) ?_
  refine WP.bipush (pc := 206) (v := 61) dL_text_206 (by decide) ?_
  refine WP.iload_n (pc := 208) dL_text_208 rfl ?_
  refine WP.imN (pc := 209) (a := 61) (b := k) rfl rfl dL_text_209 ?_
  refine WP.iaN (pc := 210) (a := 1) (b := 61 * k) rfl rfl dL_text_210 ?_
  refine WP.idN (pc := 211) (a := clN Γ 2) (b := 1 + 61 * k) rfl (by omega) (by omega) (by omega) dL_text_211 ?_
  refine WP.istore (pc := 212) dL_text_212 (by decide) hl4 ?_
  generalize hyy : clN Γ 2 / (1 + 61 * k) = y
  have hy2 : y < 2147483648 := by rw [← hyy]; exact hy
  replace hcl : cLc [some (.ref (gX Γ).1), l1, some (.ref b), some (.int (nI k)), some (.int (nI y))] = true := by rw [← hyy]; exact hcl
  refine WP.aload_n (pc := 214) dL_text_214 rfl ?_
  refine WP.ldcS (pc := 215) (j := 22) (List.mem_of_getElem? (i := 22) rfl) dL_text_215 ?_
  refine WP.cVs (pc := 217) (mc2 := mc + 12) (ms2 := ms + 4824) (ci := 15) kL_61 (AS Γ (N := 10) hs (j := 22) (by decide) (by decide) (by decide) (by omega)) (by decide) rfl hs.t rfl ⟨Nat.le_of_ble_eq_true rfl, Nat.le_of_ble_eq_true rfl⟩ (by omega) (by omega) (Nat.le_of_ble_eq_true rfl) rfl dL_text_217 (fun w τ ⟨hw, hs2, hk2⟩ => ?_)
  subst hw
  replace hk := hk.trans hk2
  clear hk2
  replace hs := hs2
  clear hs2
  refine WP.ldcS (pc := 220) (j := 23) (List.mem_of_getElem? (i := 23) rfl) dL_text_220 ?_
  refine WP.iload_n (pc := 222) dL_text_222 rfl ?_
  refine WP.cVS (pc := 223) (mc2 := mc + 12) (ms2 := ms + 4824) h23 kL_14 (CJ_charAt Γ _ h23 (i := k) hk3) rfl rfl ⟨Nat.le_of_ble_eq_true rfl, Nat.le_of_ble_eq_true rfl⟩ (by omega) (by omega) (Nat.le_of_ble_eq_true rfl) rfl dL_text_223 ?_
  rw [xyz_23 k hk3]
  refine WP.cVs (pc := 226) (mc2 := mc + 11) (ms2 := ms + 4422) (ci := 15) kL_56 (AC Γ hs (c := 120 + k) (by omega) (by omega)) (by decide) rfl hs.t rfl ⟨Nat.le_of_ble_eq_true rfl, Nat.le_of_ble_eq_true rfl⟩ (by omega) (by omega) (Nat.le_of_ble_eq_true rfl) rfl dL_text_226 (fun w τ ⟨hw, hs2, hk2⟩ => ?_)
  subst hw
  replace hk := hk.trans hk2
  clear hk2
  replace hs := hs2
  clear hs2
  refine WP.bipush (pc := 229) (v := 32) dL_text_229 (by decide) ?_
  refine WP.cVs (pc := 231) (mc2 := mc + 10) (ms2 := ms + 4020) (ci := 15) kL_56 (AC Γ hs (c := 32) (by omega) (by omega)) (by decide) rfl hs.t rfl ⟨Nat.le_of_ble_eq_true rfl, Nat.le_of_ble_eq_true rfl⟩ (by omega) (by omega) (Nat.le_of_ble_eq_true rfl) rfl dL_text_231 (fun w τ ⟨hw, hs2, hk2⟩ => ?_)
  subst hw
  replace hk := hk.trans hk2
  clear hk2
  replace hs := hs2
  clear hs2
  refine WP.iload (pc := 234) dL_text_234 rfl ?_
  refine WP.cS1 (pc := 236) (mc2 := mc + 10) (ms2 := ms + 4020) kL_68 (CL_kind Γ (x := y) (by omega)) rfl ⟨Nat.le_of_ble_eq_true rfl, Nat.le_of_ble_eq_true rfl⟩ (by omega) (by omega) (Nat.le_of_ble_eq_true rfl) rfl dL_text_236 ?_
  refine WP.cVs (pc := 239) (mc2 := mc + 9) (ms2 := ms + 3618) (ci := 15) kL_61 (AS Γ (N := 5) hs (j := 19 + y % 3) (by omega) (knd_len _ (by omega)) (by decide) (by omega)) (by decide) rfl hs.t rfl ⟨Nat.le_of_ble_eq_true rfl, Nat.le_of_ble_eq_true rfl⟩ (by omega) (by omega) (Nat.le_of_ble_eq_true rfl) rfl dL_text_239 (fun w τ ⟨hw, hs2, hk2⟩ => ?_)
  subst hw
  replace hk := hk.trans hk2
  clear hk2
  replace hs := hs2
  clear hs2
  refine WP.bipush (pc := 242) (v := 32) dL_text_242 (by decide) ?_
  refine WP.cVs (pc := 244) (mc2 := mc + 8) (ms2 := ms + 3216) (ci := 15) kL_56 (AC Γ hs (c := 32) (by omega) (by omega)) (by decide) rfl hs.t rfl ⟨Nat.le_of_ble_eq_true rfl, Nat.le_of_ble_eq_true rfl⟩ (by omega) (by omega) (Nat.le_of_ble_eq_true rfl) rfl dL_text_244 (fun w τ ⟨hw, hs2, hk2⟩ => ?_)
  subst hw
  replace hk := hk.trans hk2
  clear hk2
  replace hs := hs2
  clear hs2
  refine WP.iconst (pc := 247) (v := 1) dL_text_247 (by decide) ?_
  refine WP.iload (pc := 248) dL_text_248 rfl ?_
  refine WP.iconst (pc := 250) (v := 4) dL_text_250 (by decide) ?_
  refine WP.idN (pc := 251) (a := y) (b := 4) rfl (by omega) (by omega) (by omega) dL_text_251 ?_
  refine WP.iconst (pc := 252) (v := 5) dL_text_252 (by decide) ?_
  refine WP.irN (pc := 253) (a := y / 4) (b := 5) rfl (by omega) (by omega) (by omega) dL_text_253 ?_
  refine WP.iaN (pc := 254) (a := 1) (b := y / 4 % 5) rfl rfl dL_text_254 ?_
  refine WP.cVs (pc := 255) (mc2 := mc + 7) (ms2 := ms + 2814) (ci := 15) kL_52 (AI Γ hs (x := 1 + y / 4 % 5) (by omega) (by omega)) (by decide) rfl hs.t rfl ⟨Nat.le_of_ble_eq_true rfl, Nat.le_of_ble_eq_true rfl⟩ (by omega) (by omega) (Nat.le_of_ble_eq_true rfl) rfl dL_text_255 (fun w τ ⟨hw, hs2, hk2⟩ => ?_)
  subst hw
  replace hk := hk.trans hk2
  clear hk2
  replace hs := hs2
  clear hs2
  refine WP.bipush (pc := 258) (v := 32) dL_text_258 (by decide) ?_
  refine WP.cVs (pc := 260) (mc2 := mc + 6) (ms2 := ms + 2412) (ci := 15) kL_56 (AC Γ hs (c := 32) (by omega) (by omega)) (by decide) rfl hs.t rfl ⟨Nat.le_of_ble_eq_true rfl, Nat.le_of_ble_eq_true rfl⟩ (by omega) (by omega) (Nat.le_of_ble_eq_true rfl) rfl dL_text_260 (fun w τ ⟨hw, hs2, hk2⟩ => ?_)
  subst hw
  replace hk := hk.trans hk2
  clear hk2
  replace hs := hs2
  clear hs2
  refine WP.iconst (pc := 263) (v := 1) dL_text_263 (by decide) ?_
  refine WP.iload (pc := 264) dL_text_264 rfl ?_
  refine WP.bipush (pc := 266) (v := 32) dL_text_266 (by decide) ?_
  refine WP.idN (pc := 268) (a := y) (b := 32) rfl (by omega) (by omega) (by omega) dL_text_268 ?_
  refine WP.bipush (pc := 269) (v := 40) dL_text_269 (by decide) ?_
  refine WP.irN (pc := 271) (a := y / 32) (b := 40) rfl (by omega) (by omega) (by omega) dL_text_271 ?_
  refine WP.iaN (pc := 272) (a := 1) (b := y / 32 % 40) rfl rfl dL_text_272 ?_
  refine WP.cVs (pc := 273) (mc2 := mc + 5) (ms2 := ms + 2010) (ci := 15) kL_52 (AI Γ hs (x := 1 + y / 32 % 40) (by omega) (by omega)) (by decide) rfl hs.t rfl ⟨Nat.le_of_ble_eq_true rfl, Nat.le_of_ble_eq_true rfl⟩ (by omega) (by omega) (Nat.le_of_ble_eq_true rfl) rfl dL_text_273 (fun w τ ⟨hw, hs2, hk2⟩ => ?_)
  subst hw
  replace hk := hk.trans hk2
  clear hk2
  replace hs := hs2
  clear hs2
  refine WP.bipush (pc := 276) (v := 32) dL_text_276 (by decide) ?_
  refine WP.cVs (pc := 278) (mc2 := mc + 4) (ms2 := ms + 1608) (ci := 15) kL_56 (AC Γ hs (c := 32) (by omega) (by omega)) (by decide) rfl hs.t rfl ⟨Nat.le_of_ble_eq_true rfl, Nat.le_of_ble_eq_true rfl⟩ (by omega) (by omega) (Nat.le_of_ble_eq_true rfl) rfl dL_text_278 (fun w τ ⟨hw, hs2, hk2⟩ => ?_)
  subst hw
  replace hk := hk.trans hk2
  clear hk2
  replace hs := hs2
  clear hs2
  refine WP.iload (pc := 281) dL_text_281 rfl ?_
  refine WP.sipush (pc := 283) (v := 2048) dL_text_283 (by decide) ?_
  refine WP.idN (pc := 286) (a := y) (b := 2048) rfl (by omega) (by omega) (by omega) dL_text_286 ?_
  refine WP.sipush (pc := 287) (v := 200) dL_text_287 (by decide) ?_
  refine WP.irN (pc := 290) (a := y / 2048) (b := 200) rfl (by omega) (by omega) (by omega) dL_text_290 ?_
  refine WP.cVs (pc := 291) (mc2 := mc + 3) (ms2 := ms + 1206) (ci := 15) kL_52 (AI Γ hs (x := y / 2048 % 200) (by omega) (by omega)) (by decide) rfl hs.t rfl ⟨Nat.le_of_ble_eq_true rfl, Nat.le_of_ble_eq_true rfl⟩ (by omega) (by omega) (Nat.le_of_ble_eq_true rfl) rfl dL_text_291 (fun w τ ⟨hw, hs2, hk2⟩ => ?_)
  subst hw
  replace hk := hk.trans hk2
  clear hk2
  replace hs := hs2
  clear hs2
  refine WP.bipush (pc := 294) (v := 32) dL_text_294 (by decide) ?_
  refine WP.cVs (pc := 296) (mc2 := mc + 2) (ms2 := ms + 804) (ci := 15) kL_56 (AC Γ hs (c := 32) (by omega) (by omega)) (by decide) rfl hs.t rfl ⟨Nat.le_of_ble_eq_true rfl, Nat.le_of_ble_eq_true rfl⟩ (by omega) (by omega) (Nat.le_of_ble_eq_true rfl) rfl dL_text_296 (fun w τ ⟨hw, hs2, hk2⟩ => ?_)
  subst hw
  replace hk := hk.trans hk2
  clear hk2
  replace hs := hs2
  clear hs2
  refine WP.iconst (pc := 299) (v := 3) dL_text_299 (by decide) ?_
  refine WP.iload (pc := 300) dL_text_300 rfl ?_
  refine WP.ldc (pc := 302) qL_76 dL_text_302 ?_
  refine WP.idN (pc := 304) (a := y) (b := 65536) rfl (by omega) (by omega) (by omega) dL_text_304 ?_
  refine WP.bipush (pc := 305) (v := 20) dL_text_305 (by decide) ?_
  refine WP.irN (pc := 307) (a := y / 65536) (b := 20) rfl (by omega) (by omega) (by omega) dL_text_307 ?_
  refine WP.iaN (pc := 308) (a := 3) (b := y / 65536 % 20) rfl rfl dL_text_308 ?_
  refine WP.cVs (pc := 309) (mc2 := mc + 1) (ms2 := ms + 402) (ci := 15) kL_52 (AI Γ hs (x := 3 + y / 65536 % 20) (by omega) (by omega)) (by decide) rfl hs.t rfl ⟨Nat.le_of_ble_eq_true rfl, Nat.le_of_ble_eq_true rfl⟩ (by omega) (by omega) (Nat.le_of_ble_eq_true rfl) rfl dL_text_309 (fun w τ ⟨hw, hs2, hk2⟩ => ?_)
  subst hw
  replace hk := hk.trans hk2
  clear hk2
  replace hs := hs2
  clear hs2
  refine WP.bipush (pc := 312) (v := 59) dL_text_312 (by decide) ?_
  refine WP.cVs (pc := 314) (mc2 := mc + 0) (ms2 := ms + 0) (ci := 15) kL_56 (AC Γ hs (c := 59) (by omega) (by omega)) (by decide) rfl hs.t rfl ⟨Nat.le_of_ble_eq_true rfl, Nat.le_of_ble_eq_true rfl⟩ (by omega) (by omega) (Nat.le_of_ble_eq_true rfl) rfl dL_text_314 (fun w τ ⟨hw, hs2, hk2⟩ => ?_)
  subst hw
  replace hk := hk.trans hk2
  clear hk2
  replace hs := hs2
  clear hs2
  refine WP.pop (pc := 317) dL_text_317 rfl ?_
  have hB : tqC l k (yC Γ k) = l ++ cTx 22 ++ [120 + k] ++ [32] ++ cTx (19 + y % 3) ++ [32] ++ dgs (1 + y / 4 % 5) ++ [32] ++ dgs (1 + y / 32 % 40) ++ [32] ++ dgs (y / 2048 % 200) ++ [32] ++ dgs (3 + y / 65536 % 20) ++ [59] := by rw [← hyy]; rfl
  rw [hB] at kk
  exact WP.less (by omega) (by omega) (kk _ ⟨by have := hs.1; omega, hs.2⟩ hk _ hcl)
theorem txt_len (Γ : cG) : 99 ≤ (txt Γ).length := by
  have h1 : ∀ x, x < 1000 → 1 ≤ (dgs x).length := fun x hx => by
    rw [(dgs_fact x hx).1]
    split <;> (try split) <;> omega
  have hc0 := clN_lt Γ 0
  have kl : ∀ l k y, l.length ≤ (tqK l k y).length := fun l k y => by
    unfold tqK
    split
    · exact Nat.le_refl _
    · simp only [List.length_append]
      omega
  have bl : ∀ l k, l.length + 13 ≤ (tqKB Γ l k).length := fun l k => by
    refine Nat.le_trans ?_ (kl _ _ _)
    have a1 := h1 (1 + yB Γ k % 6) (by omega)
    have a2 := h1 (1 + yB Γ k / 8 % 4) (by omega)
    unfold tqB
    simp only [List.length_append, List.length_cons, List.length_nil, show (cTx 16).length = 7 from rfl]
    omega
  have cl : ∀ l k, l.length + 21 ≤ (tqC l k (yC Γ k)).length := fun l k => by
    have a1 := h1 (1 + yC Γ k / 4 % 5) (by omega)
    have a2 := h1 (1 + yC Γ k / 32 % 40) (by omega)
    have a3 := h1 (yC Γ k / 2048 % 200) (by omega)
    have a4 := h1 (3 + yC Γ k / 65536 % 20) (by omega)
    unfold tqC
    simp only [List.length_append, List.length_cons, List.length_nil, show (cTx 22).length = 10 from rfl]
    omega
  have hl : 13 ≤ (tqH (clN Γ 0)).length := by
    have a1 := h1 (1 + clN Γ 0 % 40) (by omega)
    have a2 := h1 (1 + clN Γ 0 / 64 % 30) (by omega)
    have a3 := h1 (1 + clN Γ 0 / 4096 % 30) (by omega)
    unfold tqH
    simp only [List.length_append, List.length_cons, List.length_nil, show (cTx 15).length = 7 from rfl]
    omega
  have b0 := bl (tqH (clN Γ 0)) 0
  have b1 := bl (tqKB Γ (tqH (clN Γ 0)) 0) 1
  have b2 := bl (tqKB Γ (tqKB Γ (tqH (clN Γ 0)) 0) 1) 2
  have c0 := cl (tqKB Γ (tqKB Γ (tqKB Γ (tqH (clN Γ 0)) 0) 1) 2) 0
  have c1 := cl (tqC (tqKB Γ (tqKB Γ (tqKB Γ (tqH (clN Γ 0)) 0) 1) 2) 0 (yC Γ 0)) 1
  have s1 := h1 (clN Γ 0 / 131072 % 10) (by omega)
  have s2 := h1 (clN Γ 0 / 2097152 % 60) (by omega)
  unfold txt tqS
  simp only [List.length_append, List.length_cons, List.length_nil, show (cTx 24).length = 9 from rfl]
  omega
end T
