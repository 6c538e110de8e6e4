section T
variable (Γ : cG) {σ : cAS} {x b : Nat}
set_option maxRecDepth 40000 in
theorem LX4_read (hx : shX σ x) (hs : shS σ b) (hd : b + 25 ≤ x + 51) {n : Nat} (hn : n ≤ 600) {R : mS × mLd} {I0 : Nat → Nat → Int32} : ∀ m i T C p (I : Nat → Nat → Int32), i + m = n → sdLoop (I0 (x + 56)) n m p = R → T + m ≤ 2147483646 → C + 18000 * m < 2147483648 → wf T C p.1 → stAt I b p.1 → ldAt I x n p.2 → frL I0 I b x → WP Γ (8, 176, 0, 0) MX4_read (rW σ (fun I' => frL I0 I' b x ∧ stAt I' b R.1 ∧ ldAt I' x n R.2)) 49 [some (.ref (x + 57)), some (.int (nI n)), some (.ref b), some (.int (nI i))] [] (wI σ I) := by
  intro m
  induction m with
  | zero =>
    intro i T C p I hi hR hT hC hw hst h F
    refine WP.iload_n (pc := 49) dX4_read_49 rfl ?_
    refine WP.iload_n (pc := 50) dX4_read_50 rfl ?_
    refine WP.icmp_ge (pc := 51) (tgt := 202) dX4_read_51 (by decide) (fun h1 => ?_) (fun h1 => ?_)
    · refine WP.vret (pc := 202) rfl dX4_read_202 ?_
      rw [← hR]
      exact ⟨rfl, _, rfl, F, hst, h⟩
    · exact absurd (nI_le (by omega) (by omega)) h1
  | succ m ih =>
    intro i T C p I hi hR hT hC hw hst h F
    have ef : I (x + 56) = I0 (x + 56) := F _ (by omega) (by omega)
    have hw' : wf (T + 1) (C + 18000) (sdStep (I0 (x + 56)) n p.1 p.2).1 := sdStep_wf (T := T) (C := C) (s := p.1) (by omega) (by omega) hw
    refine WP.iload_n (pc := 49) dX4_read_49 rfl ?_
    refine WP.iload_n (pc := 50) dX4_read_50 rfl ?_
    refine WP.icmp_ge (pc := 51) (tgt := 202) dX4_read_51 (by decide) (fun h1 => ?_) (fun h1 => ?_)
    · exact absurd h1 (nI_ge (by omega) (by omega))
    · refine WP.aload_n (pc := 54) dX4_read_54 rfl ?_
      refine WP.gIv (pc := 55) (v := (nI p.2.1)) uX4 fX4_24 hx.t57 (by simp [up_eq, h.1]) dX4_read_55 ?_
      unfold sdLoop at hR
      refine WP.if_ne (pc := 58) (tgt := 202) dX4_read_58 (by decide) (fun h2 => ?_) (fun h2 => ?_)
      · refine WP.vret (pc := 202) rfl dX4_read_202 ?_
        rw [if_neg (fun q => h2 (h.er.mpr q.1))] at hR
        rw [← hR]
        exact ⟨rfl, _, rfl, F, hst, h⟩
      · refine WP.aload_n (pc := 61) dX4_read_61 rfl ?_
        refine WP.gR (pc := 62) uX4 fX4_14 hx.t57 hx.r57_0 dX4_read_62 ?_
        refine WP.gIv (pc := 65) (v := (nI p.2.2.2.1)) uX7 fX4_53 hx.t58 (by simp [up_eq, h.2.2.1.2.1]) dX4_read_65 ?_
        refine WP.if_eq (pc := 68) (tgt := 202) dX4_read_68 (by decide) (fun h3 => ?_) (fun h3 => ?_)
        · refine WP.vret (pc := 202) rfl dX4_read_202 ?_
          have h3' : p.2.2.2.1 = 0 := (nI_eq (b := 0) (by have := h.2.2.2.1.1; omega) (by omega)).mp h3
          rw [if_neg (fun q => q.2 h3')] at hR
          rw [← hR]
          exact ⟨rfl, _, rfl, F, hst, h⟩
        · have h3' : p.2.2.2.1 ≠ 0 := fun q => h3 (by rw [q]; rfl)
          rw [if_pos ⟨h.er.mp h2, h3'⟩] at hR
          have hfin : ∀ I', frL I I' b x → stAt I' b (sdStep (I0 (x + 56)) n p.1 p.2).1 → ldAt I' x n (sdStep (I0 (x + 56)) n p.1 p.2).2 → WP Γ (8, 176, 0, 0) MX4_read (rW σ (fun I' => frL I0 I' b x ∧ stAt I' b R.1 ∧ ldAt I' x n R.2)) 196 [some (.ref (x + 57)), some (.int (nI n)), some (.ref b), some (.int (nI i))] [] (wI σ I') := by
            intro I' F' hst' h'
            refine WP.iinc (pc := 196) dX4_read_196 rfl (nI_1 _) (by decide) rfl ?_
            refine WP.goto (pc := 199) (tgt := 49) dX4_read_199 (by decide) ?_
            exact ih (i + 1) (T + 1) (C + 18000) _ I' (by omega) hR (by omega) (by omega) hw' hst' h' (F.trans F')
          have hwd : ∀ j, j < 30 → Ctr Γ (5, 106, 0, 0) MX7_isWord [.ref (x + 58), .ref (gK Γ j)] (wI σ I) (rV (some (.int (bI (wdI (I0 (x + 56)) p.2.2.2 j)))) (wI σ I)) := fun j hj => by
            rw [← ef]
            exact CX7_isWord Γ hx (j := j) hj h.2.2.1
          unfold sdStep at hfin
          refine WP.aload_n (pc := 71) dX4_read_71 rfl ?_
          refine WP.gR (pc := 72) uX4 fX4_14 hx.t57 hx.r57_0 dX4_read_72 ?_
          refine WP.ldcS (pc := 75) (j := 2) (tx := "baker") (by decide) dX4_read_75 ?_
          refine WP.cV1 (pc := 77) (mc2 := 0) (ms2 := 0) (ci := 7) kX4_42 (hwd 2 (by decide)) (by decide) rfl hx.t58 rfl ⟨Nat.le_of_ble_eq_true rfl, Nat.le_of_ble_eq_true rfl⟩ (Nat.le_of_ble_eq_true rfl) (Nat.le_of_ble_eq_true rfl) (Nat.le_of_ble_eq_true rfl) rfl dX4_read_77 ?_
          refine WP.if_eq (pc := 80) (tgt := 91) dX4_read_80 (by decide) (fun w2 => ?_) (fun w2 => ?_)
          · rw [if_neg (by rw [bI_0 w2]; decide)] at hfin
            refine WP.aload_n (pc := 91) dX4_read_91 rfl ?_
            refine WP.gR (pc := 92) uX4 fX4_14 hx.t57 hx.r57_0 dX4_read_92 ?_
            refine WP.ldcS (pc := 95) (j := 3) (tx := "bake") (by decide) dX4_read_95 ?_
            refine WP.cV1 (pc := 97) (mc2 := 0) (ms2 := 0) (ci := 7) kX4_42 (hwd 3 (by decide)) (by decide) rfl hx.t58 rfl ⟨Nat.le_of_ble_eq_true rfl, Nat.le_of_ble_eq_true rfl⟩ (Nat.le_of_ble_eq_true rfl) (Nat.le_of_ble_eq_true rfl) (Nat.le_of_ble_eq_true rfl) rfl dX4_read_97 ?_
            refine WP.if_eq (pc := 100) (tgt := 111) dX4_read_100 (by decide) (fun w3 => ?_) (fun w3 => ?_)
            · rw [if_neg (by rw [bI_0 w3]; decide)] at hfin
              refine WP.aload_n (pc := 111) dX4_read_111 rfl ?_
              refine WP.gR (pc := 112) uX4 fX4_14 hx.t57 hx.r57_0 dX4_read_112 ?_
              refine WP.ldcS (pc := 115) (j := 7) (tx := "customer") (by decide) dX4_read_115 ?_
              refine WP.cV1 (pc := 117) (mc2 := 0) (ms2 := 0) (ci := 7) kX4_42 (hwd 7 (by decide)) (by decide) rfl hx.t58 rfl ⟨Nat.le_of_ble_eq_true rfl, Nat.le_of_ble_eq_true rfl⟩ (Nat.le_of_ble_eq_true rfl) (Nat.le_of_ble_eq_true rfl) (Nat.le_of_ble_eq_true rfl) rfl dX4_read_117 ?_
              refine WP.if_eq (pc := 120) (tgt := 131) dX4_read_120 (by decide) (fun w7 => ?_) (fun w7 => ?_)
              · rw [if_neg (by rw [bI_0 w7]; decide)] at hfin
                refine WP.aload_n (pc := 131) dX4_read_131 rfl ?_
                refine WP.gR (pc := 132) uX4 fX4_14 hx.t57 hx.r57_0 dX4_read_132 ?_
                refine WP.ldcS (pc := 135) (j := 8) (tx := "auction") (by decide) dX4_read_135 ?_
                refine WP.cV1 (pc := 137) (mc2 := 0) (ms2 := 0) (ci := 7) kX4_42 (hwd 8 (by decide)) (by decide) rfl hx.t58 rfl ⟨Nat.le_of_ble_eq_true rfl, Nat.le_of_ble_eq_true rfl⟩ (Nat.le_of_ble_eq_true rfl) (Nat.le_of_ble_eq_true rfl) (Nat.le_of_ble_eq_true rfl) rfl dX4_read_137 ?_
                refine WP.if_eq (pc := 140) (tgt := 151) dX4_read_140 (by decide) (fun w8 => ?_) (fun w8 => ?_)
                · rw [if_neg (by rw [bI_0 w8]; decide)] at hfin
                  refine WP.aload_n (pc := 151) dX4_read_151 rfl ?_
                  refine WP.gR (pc := 152) uX4 fX4_14 hx.t57 hx.r57_0 dX4_read_152 ?_
                  refine WP.ldcS (pc := 155) (j := 9) (tx := "sparrows") (by decide) dX4_read_155 ?_
                  refine WP.cV1 (pc := 157) (mc2 := 0) (ms2 := 0) (ci := 7) kX4_42 (hwd 9 (by decide)) (by decide) rfl hx.t58 rfl ⟨Nat.le_of_ble_eq_true rfl, Nat.le_of_ble_eq_true rfl⟩ (Nat.le_of_ble_eq_true rfl) (Nat.le_of_ble_eq_true rfl) (Nat.le_of_ble_eq_true rfl) rfl dX4_read_157 ?_
                  refine WP.if_eq (pc := 160) (tgt := 171) dX4_read_160 (by decide) (fun w9 => ?_) (fun w9 => ?_)
                  · rw [if_neg (by rw [bI_0 w9]; decide)] at hfin
                    refine WP.aload_n (pc := 171) dX4_read_171 rfl ?_
                    refine WP.gR (pc := 172) uX4 fX4_14 hx.t57 hx.r57_0 dX4_read_172 ?_
                    refine WP.ldcS (pc := 175) (j := 10) (tx := "hours") (by decide) dX4_read_175 ?_
                    refine WP.cV1 (pc := 177) (mc2 := 0) (ms2 := 0) (ci := 7) kX4_42 (hwd 10 (by decide)) (by decide) rfl hx.t58 rfl ⟨Nat.le_of_ble_eq_true rfl, Nat.le_of_ble_eq_true rfl⟩ (Nat.le_of_ble_eq_true rfl) (Nat.le_of_ble_eq_true rfl) (Nat.le_of_ble_eq_true rfl) rfl dX4_read_177 ?_
                    refine WP.if_eq (pc := 180) (tgt := 191) dX4_read_180 (by decide) (fun w10 => ?_) (fun w10 => ?_)
                    · rw [if_neg (by rw [bI_0 w10]; decide)] at hfin
                      refine WP.aload_n (pc := 191) dX4_read_191 rfl ?_
                      refine WP.iconst (pc := 192) (v := 1) dX4_read_192 (by decide) ?_
                      refine WP.cVw (pc := 193) (mc2 := 0) (ms2 := 0) (ci := 4) kX4_50 (CX4_fail Γ hx (c := 1) (by decide) h) (by decide) rfl hx.t57 rfl ⟨Nat.le_of_ble_eq_true rfl, Nat.le_of_ble_eq_true rfl⟩ (Nat.le_of_ble_eq_true rfl) (Nat.le_of_ble_eq_true rfl) (Nat.le_of_ble_eq_true rfl) rfl dX4_read_193 (fun I1 ⟨f1, g1⟩ => ?_)
                      have F1 : fr I I1 (x + 57) 2 := f1.mono (by omega) (by omega)
                      exact hfin I1 F1.L (hst.kp F1 (by omega)) g1
                    · rw [if_pos (bI_1 w10)] at hfin
                      refine WP.aload_n (pc := 183) dX4_read_183 rfl ?_
                      refine WP.aload_n (pc := 184) dX4_read_184 rfl ?_
                      refine WP.cVw (pc := 185) (mc2 := 0) (ms2 := 0) (ci := 4) kX4_82 (CX4_hours Γ hx hs hd (T := T) (C := C) (by omega) (by omega) hw hst h) (by decide) rfl hx.t57 rfl ⟨Nat.le_of_ble_eq_true rfl, Nat.le_of_ble_eq_true rfl⟩ (Nat.le_of_ble_eq_true rfl) (Nat.le_of_ble_eq_true rfl) (Nat.le_of_ble_eq_true rfl) rfl dX4_read_185 (fun I1 ⟨f1, g1, g2⟩ => ?_)
                      rw [ef] at g1 g2
                      refine WP.goto (pc := 188) (tgt := 196) dX4_read_188 (by decide) ?_
                      exact hfin I1 f1 g1 g2
                  · rw [if_pos (bI_1 w9)] at hfin
                    refine WP.aload_n (pc := 163) dX4_read_163 rfl ?_
                    refine WP.aload_n (pc := 164) dX4_read_164 rfl ?_
                    refine WP.cVw (pc := 165) (mc2 := 0) (ms2 := 0) (ci := 4) kX4_77 (CX4_sparrows Γ hx hs hd hst h) (by decide) rfl hx.t57 rfl ⟨Nat.le_of_ble_eq_true rfl, Nat.le_of_ble_eq_true rfl⟩ (Nat.le_of_ble_eq_true rfl) (Nat.le_of_ble_eq_true rfl) (Nat.le_of_ble_eq_true rfl) rfl dX4_read_165 (fun I1 ⟨f1, g1, g2⟩ => ?_)
                    rw [ef] at g1 g2
                    refine WP.goto (pc := 168) (tgt := 196) dX4_read_168 (by decide) ?_
                    exact hfin I1 f1 g1 g2
                · rw [if_pos (bI_1 w8)] at hfin
                  refine WP.aload_n (pc := 143) dX4_read_143 rfl ?_
                  refine WP.aload_n (pc := 144) dX4_read_144 rfl ?_
                  refine WP.cVw (pc := 145) (mc2 := 0) (ms2 := 0) (ci := 4) kX4_72 (CX4_auction Γ hx hs hd hw hst h) (by decide) rfl hx.t57 rfl ⟨Nat.le_of_ble_eq_true rfl, Nat.le_of_ble_eq_true rfl⟩ (Nat.le_of_ble_eq_true rfl) (Nat.le_of_ble_eq_true rfl) (Nat.le_of_ble_eq_true rfl) rfl dX4_read_145 (fun I1 ⟨f1, g1, g2⟩ => ?_)
                  rw [ef] at g1 g2
                  refine WP.goto (pc := 148) (tgt := 196) dX4_read_148 (by decide) ?_
                  exact hfin I1 f1 g1 g2
              · rw [if_pos (bI_1 w7)] at hfin
                refine WP.aload_n (pc := 123) dX4_read_123 rfl ?_
                refine WP.aload_n (pc := 124) dX4_read_124 rfl ?_
                refine WP.cVw (pc := 125) (mc2 := 0) (ms2 := 0) (ci := 4) kX4_68 (CX4_customer Γ hx hs hd hst h) (by decide) rfl hx.t57 rfl ⟨Nat.le_of_ble_eq_true rfl, Nat.le_of_ble_eq_true rfl⟩ (Nat.le_of_ble_eq_true rfl) (Nat.le_of_ble_eq_true rfl) (Nat.le_of_ble_eq_true rfl) rfl dX4_read_125 (fun I1 ⟨f1, g1, g2⟩ => ?_)
                rw [ef] at g1 g2
                refine WP.goto (pc := 128) (tgt := 196) dX4_read_128 (by decide) ?_
                exact hfin I1 f1 g1 g2
            · rw [if_pos (bI_1 w3)] at hfin
              refine WP.aload_n (pc := 103) dX4_read_103 rfl ?_
              refine WP.aload_n (pc := 104) dX4_read_104 rfl ?_
              refine WP.cVw (pc := 105) (mc2 := 0) (ms2 := 0) (ci := 4) kX4_63 (CX4_bake Γ hx hs hd hst h) (by decide) rfl hx.t57 rfl ⟨Nat.le_of_ble_eq_true rfl, Nat.le_of_ble_eq_true rfl⟩ (Nat.le_of_ble_eq_true rfl) (Nat.le_of_ble_eq_true rfl) (Nat.le_of_ble_eq_true rfl) rfl dX4_read_105 (fun I1 ⟨f1, g1, g2⟩ => ?_)
              rw [ef] at g1 g2
              refine WP.goto (pc := 108) (tgt := 196) dX4_read_108 (by decide) ?_
              exact hfin I1 f1 g1 g2
          · rw [if_pos (bI_1 w2)] at hfin
            refine WP.aload_n (pc := 83) dX4_read_83 rfl ?_
            refine WP.aload_n (pc := 84) dX4_read_84 rfl ?_
            refine WP.cVw (pc := 85) (mc2 := 0) (ms2 := 0) (ci := 4) kX4_58 (CX4_baker Γ hx hs hd hst h) (by decide) rfl hx.t57 rfl ⟨Nat.le_of_ble_eq_true rfl, Nat.le_of_ble_eq_true rfl⟩ (Nat.le_of_ble_eq_true rfl) (Nat.le_of_ble_eq_true rfl) (Nat.le_of_ble_eq_true rfl) rfl dX4_read_85 (fun I1 ⟨f1, g1, g2⟩ => ?_)
            rw [ef] at g1 g2
            refine WP.goto (pc := 88) (tgt := 196) dX4_read_88 (by decide) ?_
            exact hfin I1 f1 g1 g2
theorem CX4_read (hx : shX σ x) (hs : shS σ b) (hd : b + 25 ≤ x + 51) {n : Nat} (hn : n ≤ 600) {I : Nat → Nat → Int32} (hz : ∀ j, j < 3 → inR (I (b + 1) j) 0 99) : Ctr Γ (8, 176, 0, 0) MX4_read [.ref (x + 57), .int (nI n), .ref b] (wI σ I) (rW σ (fun I' => frL I I' b x ∧ stAt I' b (sdRead (I (x + 56)) n (mS0 (fun j => I (b + 1) j))).1 ∧ ldAt I' x n (sdRead (I (x + 56)) n (mS0 (fun j => I (b + 1) j))).2)) := by
  refine Ctr.go rfl (by decide) rfl rfl ?_
  refine WP.aload_n (pc := 0) dX4_read_0 rfl ?_
  refine WP.iconst (pc := 1) (v := 0) dX4_read_1 (by decide) ?_
  refine WP.pI (pc := 2) uX4 fX4_24 rfl rfl hx.t57 dX4_read_2 ?_
  refine WP.aload_n (pc := 5) dX4_read_5 rfl ?_
  refine WP.iconst (pc := 6) (v := (-1)) dX4_read_6 (by decide) ?_
  refine WP.pI (pc := 7) uX4 fX4_28 rfl rfl hx.t57 dX4_read_7 ?_
  refine WP.aload_n (pc := 10) dX4_read_10 rfl ?_
  have f0 : fr I (up (up I (x + 57) 2 0) (x + 57) 3 (-1)) (x + 57) 2 := (fr.rf.up (by omega) (by omega)).up (by omega) (by omega)
  have e2 : (up (up I (x + 57) 2 0) (x + 57) 3 (-1)) (x + 57) 2 = 0 := by simp [up_eq]
  have e3 : (up (up I (x + 57) 2 0) (x + 57) 3 (-1)) (x + 57) 3 = -1 := by simp [up_eq]
  generalize up (up I (x + 57) 2 0) (x + 57) 3 (-1) = J at f0 e2 e3
  refine WP.cVw (pc := 11) (mc2 := 0) (ms2 := 0) (ci := 5) kX4_31 (CX5_clear Γ hs) (by decide) rfl hs.t0 rfl ⟨Nat.le_of_ble_eq_true rfl, Nat.le_of_ble_eq_true rfl⟩ (Nat.le_of_ble_eq_true rfl) (Nat.le_of_ble_eq_true rfl) (Nat.le_of_ble_eq_true rfl) rfl dX4_read_11 (fun I1 ⟨f1, g1⟩ => ?_)
  rw [f0 (b + 1) (by omega)] at g1
  have F1 : frL I I1 b x := f0.L.trans f1.Lb
  refine WP.aload_n (pc := 14) dX4_read_14 rfl ?_
  refine WP.gR (pc := 15) uX4 fX4_14 hx.t57 hx.r57_0 dX4_read_15 ?_
  refine WP.iload_n (pc := 18) dX4_read_18 rfl ?_
  refine WP.cVw (pc := 19) (mc2 := 0) (ms2 := 0) (ci := 7) kX4_36 (CX7_begin Γ hx hn) (by decide) rfl hx.t58 rfl ⟨Nat.le_of_ble_eq_true rfl, Nat.le_of_ble_eq_true rfl⟩ (Nat.le_of_ble_eq_true rfl) (Nat.le_of_ble_eq_true rfl) (Nat.le_of_ble_eq_true rfl) rfl dX4_read_19 (fun I2 ⟨f2, g2⟩ => ?_)
  have F2' : fr I1 I2 (x + 57) 2 := f2.mono (by omega) (by omega)
  have F2 : frL I I2 b x := F1.trans F2'.L
  rw [F1 (x + 56) (by omega) (by omega)] at g2
  have hst2 := g1.kp F2' (by omega)
  have h2 : ldAt I2 x n (ld0 (I (x + 56)) n) := by
    refine ⟨?_, ?_, g2, tkN_tk (Nat.zero_le _), Nat.zero_le _⟩
    · rw [f2 (x + 57) (by omega), f1 (x + 57) (by omega), e2]
      rfl
    · rw [f2 (x + 57) (by omega), f1 (x + 57) (by omega), e3]
      rfl
  have ef : I2 (x + 56) = I (x + 56) := F2 _ (by omega) (by omega)
  have hw0 : wf 0 0 (mS0 (fun j => I (b + 1) j)) := mS0_wf hz
  generalize mS0 (fun j => I (b + 1) j) = s0 at g1 hst2 hw0 ⊢
  unfold sdRead
  have hfin : ∀ p I', frL I I' b x → stAt I' b p.1 → ldAt I' x n p.2 → wf 0 0 p.1 → WP Γ (8, 176, 0, 0) MX4_read (rW σ (fun I' => frL I I' b x ∧ stAt I' b (sdLoop (I (x + 56)) n n p).1 ∧ ldAt I' x n (sdLoop (I (x + 56)) n n p).2)) 47 [some (.ref (x + 57)), some (.int (nI n)), some (.ref b), none] [] (wI σ I') := by
    intro p I' F hst h hw
    refine WP.iconst (pc := 47) (v := 0) dX4_read_47 (by decide) ?_
    refine WP.istore_n (pc := 48) dX4_read_48 (by decide) rfl ?_
    exact LX4_read Γ hx hs hd hn n 0 0 0 p I' (by omega) rfl (by omega) (by omega) hw hst h F
  refine WP.aload_n (pc := 22) dX4_read_22 rfl ?_
  refine WP.gR (pc := 23) uX4 fX4_14 hx.t57 hx.r57_0 dX4_read_23 ?_
  refine WP.ldcS (pc := 26) (j := 1) (tx := "market") (by decide) dX4_read_26 ?_
  refine WP.cV1 (pc := 28) (mc2 := 0) (ms2 := 0) (ci := 7) kX4_42 (CX7_isWord Γ hx (j := 1) (by decide) h2.2.2.1) (by decide) rfl hx.t58 rfl ⟨Nat.le_of_ble_eq_true rfl, Nat.le_of_ble_eq_true rfl⟩ (Nat.le_of_ble_eq_true rfl) (Nat.le_of_ble_eq_true rfl) (Nat.le_of_ble_eq_true rfl) rfl dX4_read_28 ?_
  rw [ef]
  refine WP.if_eq (pc := 31) (tgt := 42) dX4_read_31 (by decide) (fun hm => ?_) (fun hm => ?_)
  · rw [if_neg (by rw [bI_0 hm]; decide)]
    refine WP.aload_n (pc := 42) dX4_read_42 rfl ?_
    refine WP.iconst (pc := 43) (v := 1) dX4_read_43 (by decide) ?_
    refine WP.cVw (pc := 44) (mc2 := 0) (ms2 := 0) (ci := 4) kX4_50 (CX4_fail Γ hx (c := 1) (by decide) h2) (by decide) rfl hx.t57 rfl ⟨Nat.le_of_ble_eq_true rfl, Nat.le_of_ble_eq_true rfl⟩ (Nat.le_of_ble_eq_true rfl) (Nat.le_of_ble_eq_true rfl) (Nat.le_of_ble_eq_true rfl) rfl dX4_read_44 (fun I3 ⟨f3, g3⟩ => ?_)
    have F3 : fr I2 I3 (x + 57) 2 := f3.mono (by omega) (by omega)
    exact hfin (s0, ldF 1 (ld0 (I (x + 56)) n)) I3 (F2.trans F3.L) (hst2.kp F3 (by omega)) g3 hw0
  · rw [if_pos (bI_1 hm)]
    refine WP.aload_n (pc := 34) dX4_read_34 rfl ?_
    refine WP.aload_n (pc := 35) dX4_read_35 rfl ?_
    refine WP.cVw (pc := 36) (mc2 := 0) (ms2 := 0) (ci := 4) kX4_46 (CX4_market Γ hx hs hd hst2 h2) (by decide) rfl hx.t57 rfl ⟨Nat.le_of_ble_eq_true rfl, Nat.le_of_ble_eq_true rfl⟩ (Nat.le_of_ble_eq_true rfl) (Nat.le_of_ble_eq_true rfl) (Nat.le_of_ble_eq_true rfl) rfl dX4_read_36 (fun I3 ⟨f3, g3, g4⟩ => ?_)
    rw [ef] at g3 g4
    refine WP.goto (pc := 39) (tgt := 47) dX4_read_39 (by decide) ?_
    exact hfin _ I3 (F2.trans f3) g3 g4 (sdMarket_wf hw0)
end T
