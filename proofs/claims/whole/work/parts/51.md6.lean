-- behind: 50
section T
variable (Γ : cG) {σ : cAS} {a m : Nat}
/-- the model's market while loaves are being sold: they lie there still -/
def tdM (s : mS) (u : mS) : mS := (zup u.1 7 (s.1 7), u.2.1, s.2.2.1, u.2.2.2.1, u.2.2.2.2)
def sdR (I : Nat → Nat → Int32) (m : Nat) (u : mS) : Prop := (∀ j e, u.2.2.1[j]? = some e → I (m + 9) j = bI (decide (e.1 = -1))) ∧ ∀ j, u.2.2.1.length ≤ j → j < 60 → I (m + 9) j = 0
def frT (I I' : Nat → Nat → Int32) (m a : Nat) : Prop := ∀ b, b ≠ m + 9 → b ≠ a → I' b = I b
theorem frT.rf {I : Nat → Nat → Int32} : frT I I m a := fun _ _ _ => rfl
theorem frT.trans {I I' I'' : Nat → Nat → Int32} (h : frT I I' m a) (h' : frT I' I'' m a) : frT I I'' m a := fun b h1 h2 => (h' b h1 h2).trans (h b h1 h2)
theorem frT.upA {I I' : Nat → Nat → Int32} {k : Nat} {v : Int32} (h : frT I I' m a) : frT I (up I' a k v) m a := fun b h1 h2 => (up_ne h2).trans (h b h1 h2)
theorem frT.upS {I I' : Nat → Nat → Int32} {k : Nat} {v : Int32} (h : frT I I' m a) : frT I (up I' (m + 9) k v) m a := fun b h1 h2 => (up_ne h1).trans (h b h1 h2)
theorem frT.ofB {I I' : Nat → Nat → Int32} (h : frB I I' a) : frT I I' m a := fun b _ h2 => h b h2
theorem auM.frT {I I' : Nat → Nat → Int32} {s : mS} {k : Int32} (h : auM I m s k) (hf : frT I I' m a) (ha : a ≠ m ∧ a ≠ m + 7 ∧ a ≠ m + 8 ∧ a ≠ m + 9) : auM I' m s k := by
  unfold auM pbM plM
  rw [hf m (by omega) (fun q => ha.1 q.symm), hf (m + 7) (by omega) (fun q => ha.2.1 q.symm), hf (m + 8) (by omega) (fun q => ha.2.2.1 q.symm)]
  exact h
theorem LX9_tr2 (hm : shM σ m) {k : Int32} {Φ : cRes → cAS → Prop} : ∀ d i (I : Nat → Nat → Int32), i + d = 60 → (∀ j, j < i → I (m + 9) j = 0) → (∀ I', (∀ b, b ≠ m + 9 → I' b = I b) → (∀ j, j < 60 → I' (m + 9) j = 0) → WP Γ (1, 25, 0, 0) MX9_trade Φ 21 [some (.ref m), some (.ref a), some (.int k), some (.int (nI 60)), none] [] (wI σ I')) →
    WP Γ (1, 25, 0, 0) MX9_trade Φ 2 [some (.ref m), some (.ref a), some (.int k), some (.int (nI i)), none] [] (wI σ I) := by
  intro d
  induction d with
  | zero =>
    intro i I hi h H
    refine WP.iload_n (pc := 2) dX9_trade_2 rfl ?_
    refine WP.bipush (pc := 3) (v := 60) dX9_trade_3 (by decide) ?_
    refine WP.icmp_ge (pc := 5) (tgt := 21) dX9_trade_5 (by decide) (fun h1 => ?_) (fun h1 => ?_)
    · rw [show i = 60 by omega] at h ⊢
      exact H I (fun _ _ => rfl) h
    · exact absurd (nI_le (a := 60) (by omega) (by omega)) h1
  | succ d ih =>
    intro i I hi h H
    refine WP.iload_n (pc := 2) dX9_trade_2 rfl ?_
    refine WP.bipush (pc := 3) (v := 60) dX9_trade_3 (by decide) ?_
    refine WP.icmp_ge (pc := 5) (tgt := 21) dX9_trade_5 (by decide) (fun h1 => ?_) (fun h1 => ?_)
    · exact absurd h1 (nI_ge (b := 60) (by omega) (by omega))
    · refine WP.aload_n (pc := 8) dX9_trade_8 rfl ?_
      refine WP.gR (pc := 9) uX9 fX9_35 hm.t0 hm.r0_15 dX9_trade_9 ?_
      refine WP.iload_n (pc := 12) dX9_trade_12 rfl ?_
      refine WP.iconst (pc := 13) (v := 0) dX9_trade_13 (by decide) ?_
      refine WP.zast (pc := 14) hm.t9 (by omega) (by decide) (by decide) dX9_trade_14 ?_
      refine WP.iinc (pc := 15) dX9_trade_15 rfl (nI_1 _) (by decide) rfl ?_
      refine WP.goto (pc := 18) (tgt := 2) dX9_trade_18 (by decide) ?_
      refine ih (i + 1) _ (by omega) (fun j hj => ?_) (fun I' f g => H I' (fun b hb => (f b hb).trans (up_ne hb)) g)
      rw [up_eq]
      by_cases q : j = i
      · rw [if_pos ⟨rfl, q⟩]
      · rw [if_neg (fun z => q z.2)]
        exact h j (by omega)
theorem LX9_tr23 (hm : shM σ m) (hg : aT σ a = (11, 380)) (ha : a ≠ m ∧ a ≠ m + 7 ∧ a ≠ m + 8 ∧ a ≠ m + 9) {s : mS} {A T C : Nat} (hA : A ≤ 2000) (hw : wfA A T C s) {k : Int32} (hk : inR k 0 2) {Φ : cRes → cAS → Prop} : ∀ d t (I : Nat → Nat → Int32), t + d = plT s k → auM I m s k → gAt (I a) (tdM s (sellN s k (plP s k) (plB s k) (plL s k) t)) → sdR I m (sellN s k (plP s k) (plB s k) (plL s k) t) → (sellN s k (plP s k) (plB s k) (plL s k) t).1 7 = s.1 7 + nI t →
    (∀ I', frT I I' m a → gAt (I' a) (tdM s (hdA s k)) → sdR I' m (hdA s k) → (hdA s k).1 7 = s.1 7 + nI (plT s k) → WP Γ (1, 25, 0, 0) MX9_trade Φ 119 [some (.ref m), some (.ref a), some (.int k), some (.int (nI (plT s k))), none] [] (wI σ I')) →
    WP Γ (1, 25, 0, 0) MX9_trade Φ 23 [some (.ref m), some (.ref a), some (.int k), some (.int (nI t)), none] [] (wI σ I) := by
  have ⟨t1, t2⟩ := trN_le (plB s k) (plL s k)
  have eT : plT s k = trN (plB s k) (plL s k) := rfl
  intro d
  induction d with
  | zero =>
    intro t I ht hau h hs h7 H
    refine WP.iload_n (pc := 23) dX9_trade_23 rfl ?_
    refine WP.aload_n (pc := 24) dX9_trade_24 rfl ?_
    refine WP.gIv (pc := 25) (v := nI (plT s k)) uX9 fX9_133 hm.t0 (by simp [up_eq, hau.2.2.1]) dX9_trade_25 ?_
    have htT : t = plT s k := by omega
    have h0 : plP s k ≠ -1 ∨ True := Or.inr trivial
    refine WP.icmp_ge (pc := 28) (tgt := 119) dX9_trade_28 (by decide) (fun h1 => ?_) (fun h1 => ?_)
    · rw [htT] at h hs h7 ⊢
      exact H I frT.rf h hs h7
    · exact absurd (by rw [htT]; exact Int32.le_refl _) h1
  | succ d ih =>
    intro t I ht hau h hs h7 H
    have hb90 := hau.1.2.1
    have hl60 := hau.2.1.2.1
    have h14 : I m 14 = plP s k := by rw [hau.2.2.2, if_neg (by omega)]
    obtain ⟨y, hy⟩ : ∃ e, (plB s k)[t]? = some e := ⟨(plB s k)[t]'(by omega), List.getElem?_eq_getElem (by omega)⟩
    obtain ⟨q, hq⟩ : ∃ e, (plL s k)[t]? = some e := ⟨(plL s k)[t]'(by omega), List.getElem?_eq_getElem (by omega)⟩
    obtain ⟨c, e0, y1, y2, rfl⟩ := bdF_mem _ (List.mem_of_getElem? hy)
    obtain ⟨j, ej, q1, q2, q3, rfl⟩ := lvF_mem _ (List.mem_of_getElem? hq)
    obtain ⟨bi, hbi, hbi2⟩ := hw.bk ej (List.mem_of_getElem? q2)
    have hlen := sellN_len s k (plP s k) (plB s k) (plL s k) t
    have hcl := hw.2.2.2.2.1.1
    have hbl := hw.2.1.1
    have hll := h.2.2.1.2.1
    have hll2 : s.2.2.1.length ≤ 60 := hll
    obtain ⟨ec, hec⟩ : ∃ ec, (sellN s k (plP s k) (plB s k) (plL s k) t).2.2.2.1[c]? = some ec := ⟨_, List.getElem?_eq_getElem (by rw [hlen.2.2]; exact y1)⟩
    obtain ⟨el, hel⟩ : ∃ el, (sellN s k (plP s k) (plB s k) (plL s k) t).2.2.1[j]? = some el := ⟨_, List.getElem?_eq_getElem (by rw [hlen.2.1]; exact q1)⟩
    obtain ⟨eb, heb⟩ : ∃ eb, (sellN s k (plP s k) (plB s k) (plL s k) t).2.1[bi]? = some eb := ⟨_, List.getElem?_eq_getElem (by rw [hlen.1]; exact hbi2)⟩
    obtain ⟨e1, g1, g2, g3⟩ := sellN_lf t hel
    rw [q2] at g1
    cases g1
    have hstep := sellN_step hy hq hec hel (by rw [g2]; exact hbi) heb (by omega) (by omega) (by omega)
    obtain ⟨c1, c2, c3, c4, c5, c6, c7⟩ := h.2.2.2.1.2.2 c ec hec
    obtain ⟨b1, b2, b3, b4, b5, b6⟩ := h.2.1.2.2.1 bi eb heb
    obtain ⟨l1, l2, l3⟩ := h.2.2.1.2.2 j ej q2
    have hz4 : I a 4 = (sellN s k (plP s k) (plB s k) (plL s k) t).1 4 := h.1 4 (by omega)
    have hsell := h.sell hec heb (plP s k) ((sellN s k (plP s k) (plB s k) (plL s k) t).1 4 + (k + 1))
    generalize hU : sellN s k (plP s k) (plB s k) (plL s k) t = U at *
    have r7 := hau.1.2.2 t _ hy
    have r8 := hau.2.1.2.2 t _ hq
    refine WP.iload_n (pc := 23) dX9_trade_23 rfl ?_
    refine WP.aload_n (pc := 24) dX9_trade_24 rfl ?_
    refine WP.gIv (pc := 25) (v := nI (plT s k)) uX9 fX9_133 hm.t0 (by simp [up_eq, hau.2.2.1]) dX9_trade_25 ?_
    refine WP.icmp_ge (pc := 28) (tgt := 119) dX9_trade_28 (by decide) (fun h1 => ?_) (fun h1 => ?_)
    · exact absurd h1 (nI_ge (by omega) (by omega))
    · refine WP.aload_n (pc := 31) dX9_trade_31 rfl ?_
      refine WP.gR (pc := 32) uX9 fX9_29 hm.t0 hm.r0_9 dX9_trade_32 ?_
      refine WP.iload_n (pc := 35) dX9_trade_35 rfl ?_
      refine WP.ialdv (pc := 36) hm.t7 (by omega) (by decide) (v := (nI c)) (r7) dX9_trade_36 ?_
      refine WP.cS1 (pc := 37) (mc2 := 0) (ms2 := 0) kX9_111 (CX9_ofCustomer Γ c) rfl ⟨Nat.le_of_ble_eq_true rfl, Nat.le_of_ble_eq_true rfl⟩ (Nat.le_of_ble_eq_true rfl) (Nat.le_of_ble_eq_true rfl) (Nat.le_of_ble_eq_true rfl) rfl dX9_trade_37 ?_
      refine WP.istore (pc := 40) dX9_trade_40 (by decide) rfl ?_
      refine WP.aload_n (pc := 42) dX9_trade_42 rfl ?_
      refine WP.iload (pc := 43) dX9_trade_43 rfl ?_
      refine WP.iconst (pc := 45) (v := 4) dX9_trade_45 (by decide) ?_
      refine WP.iaN (pc := 46) (b := 4) dX9_trade_46 ?_
      refine WP.dup2 (pc := 47) dX9_trade_47 rfl rfl ?_
      refine WP.ialdv (pc := 48) hg (by omega) (by omega) (v := (ec.2.2.2.2.2.1)) (c5) dX9_trade_48 ?_
      refine WP.aload_n (pc := 49) dX9_trade_49 rfl ?_
      refine WP.gIv (pc := 50) (v := (plP s k)) uX9 fX9_139 hm.t0 (by simp [up_eq, h14, Ne.symm ha.1]) dX9_trade_50 ?_
      refine WP.isub (pc := 53) dX9_trade_53 ?_
      refine WP.iast (pc := 54) hg (by omega) (by omega) dX9_trade_54 ?_
      refine WP.aload_n (pc := 55) dX9_trade_55 rfl ?_
      refine WP.iload (pc := 56) dX9_trade_56 rfl ?_
      refine WP.iconst (pc := 58) (v := 2) dX9_trade_58 (by decide) ?_
      refine WP.iaN (pc := 59) (b := 2) dX9_trade_59 ?_
      refine WP.dup2 (pc := 60) dX9_trade_60 rfl rfl ?_
      refine WP.ialdv (pc := 61) hg (by omega) (by omega) (v := (ec.2.2.2.1)) (by rw [up_row, uw_ne (by omega)]; exact c3) dX9_trade_61 ?_
      refine WP.iconst (pc := 62) (v := 1) dX9_trade_62 (by decide) ?_
      refine WP.isub (pc := 63) dX9_trade_63 ?_
      refine WP.iast (pc := 64) hg (by omega) (by omega) dX9_trade_64 ?_
      refine WP.aload_n (pc := 65) dX9_trade_65 rfl ?_
      refine WP.aload_n (pc := 66) dX9_trade_66 rfl ?_
      refine WP.aload_n (pc := 67) dX9_trade_67 rfl ?_
      refine WP.gR (pc := 68) uX9 fX9_32 hm.t0 hm.r0_10 dX9_trade_68 ?_
      refine WP.iload_n (pc := 71) dX9_trade_71 rfl ?_
      refine WP.ialdv (pc := 72) hm.t8 (by omega) (by decide) (v := (nI j)) (by rw [up_ne (fun q => ha.2.2.1 q.symm), up_ne (fun q => ha.2.2.1 q.symm)]; exact r8) dX9_trade_72 ?_
      refine WP.cS1 (pc := 73) (mc2 := 0) (ms2 := 0) kX9_89 (CX9_ofLoaf Γ j) rfl ⟨Nat.le_of_ble_eq_true rfl, Nat.le_of_ble_eq_true rfl⟩ (Nat.le_of_ble_eq_true rfl) (Nat.le_of_ble_eq_true rfl) (Nat.le_of_ble_eq_true rfl) rfl dX9_trade_73 ?_
      refine WP.iconst (pc := 76) (v := 1) dX9_trade_76 (by decide) ?_
      refine WP.iaN (pc := 77) (b := 1) dX9_trade_77 ?_
      refine WP.ialdv (pc := 78) hg (by omega) (by omega) (v := (nI bi)) (by simp (disch := omega) only [up_row, uw_ne]; exact l2.trans hbi) dX9_trade_78 ?_
      refine WP.cS1 (pc := 79) (mc2 := 0) (ms2 := 0) kX9_100 (CX9_ofBaker Γ bi) rfl ⟨Nat.le_of_ble_eq_true rfl, Nat.le_of_ble_eq_true rfl⟩ (Nat.le_of_ble_eq_true rfl) (Nat.le_of_ble_eq_true rfl) (Nat.le_of_ble_eq_true rfl) rfl dX9_trade_79 ?_
      refine WP.iconst (pc := 82) (v := 5) dX9_trade_82 (by decide) ?_
      refine WP.iaN (pc := 83) (b := 5) dX9_trade_83 ?_
      refine WP.dup2 (pc := 84) dX9_trade_84 rfl rfl ?_
      refine WP.ialdv (pc := 85) hg (by omega) (by omega) (v := (eb.2.2.2.2.2)) (by simp (disch := omega) only [up_row, uw_ne]; exact b6) dX9_trade_85 ?_
      refine WP.aload_n (pc := 86) dX9_trade_86 rfl ?_
      refine WP.gIv (pc := 87) (v := (plP s k)) uX9 fX9_139 hm.t0 (by simp [up_eq, h14, Ne.symm ha.1]) dX9_trade_87 ?_
      refine WP.iadd (pc := 90) dX9_trade_90 ?_
      refine WP.iast (pc := 91) hg (by omega) (by omega) dX9_trade_91 ?_
      refine WP.aload_n (pc := 92) dX9_trade_92 rfl ?_
      refine WP.iconst (pc := 93) (v := 4) dX9_trade_93 (by decide) ?_
      refine WP.dup2 (pc := 94) dX9_trade_94 rfl rfl ?_
      refine WP.ialdv (pc := 95) (k := 4) hg (by decide) (by omega) (v := ((U.1 4))) (by simp (disch := omega) only [up_row, uw_ne]; exact hz4) dX9_trade_95 ?_
      refine WP.iload_n (pc := 96) dX9_trade_96 rfl ?_
      refine WP.iconst (pc := 97) (v := 1) dX9_trade_97 (by decide) ?_
      refine WP.iadd (pc := 98) dX9_trade_98 ?_
      refine WP.iadd (pc := 99) dX9_trade_99 ?_
      refine WP.iast (pc := 100) (k := 4) hg (by decide) (by omega) dX9_trade_100 ?_
      refine WP.aload_n (pc := 101) dX9_trade_101 rfl ?_
      refine WP.gR (pc := 102) uX9 fX9_35 hm.t0 hm.r0_15 dX9_trade_102 ?_
      refine WP.aload_n (pc := 105) dX9_trade_105 rfl ?_
      refine WP.gR (pc := 106) uX9 fX9_32 hm.t0 hm.r0_10 dX9_trade_106 ?_
      refine WP.iload_n (pc := 109) dX9_trade_109 rfl ?_
      refine WP.ialdv (pc := 110) hm.t8 (by omega) (by decide) (v := (nI j)) (by rw [up_ne (fun q => ha.2.2.1 q.symm), up_ne (fun q => ha.2.2.1 q.symm), up_ne (fun q => ha.2.2.1 q.symm), up_ne (fun q => ha.2.2.1 q.symm)]; exact r8) dX9_trade_110 ?_
      refine WP.iconst (pc := 111) (v := 1) dX9_trade_111 (by decide) ?_
      refine WP.zast (pc := 112) hm.t9 (by omega) (by decide) (by decide) dX9_trade_112 ?_
      refine WP.iinc (pc := 113) dX9_trade_113 rfl (nI_1 _) (by decide) rfl ?_
      refine WP.goto (pc := 116) (tgt := 23) dX9_trade_116 (by decide) ?_
      refine WP.drop 4 ?_
      have hF : frT I (up (up (up (up (up I a (40 + 7 * c + 4) (ec.2.2.2.2.2.1 - plP s k)) a (40 + 7 * c + 2) (ec.2.2.2.1 - 1)) a (16 + 6 * bi + 5) (eb.2.2.2.2.2 + plP s k)) a 4 (U.1 4 + (k + 1))) (m + 9) j 1) m a := frT.rf.upA.upA.upA.upA.upS
      refine ih (t + 1) _ (by omega) (hau.frT hF ha) ?_ ?_ ?_ (fun I' f' => H I' (hF.trans f'))
      · rw [hstep, up_ne ha.2.2.2]
        simp only [up_row]
        refine gAt.ofz hsell ?_
        funext i
        rw [← crK_of hk]
        simp only [tdM, slS, zup_eq]
        by_cases i4 : i = 4
        · simp [i4]
        · by_cases i7 : i = 7
          · simp [i7]
          · simp [i4, i7]
      · rw [hstep]
        refine ⟨fun i e he => ?_, fun i i1 i2 => ?_⟩
        · rcases gE_set he with ⟨rfl, rfl⟩ | ⟨w1, w2⟩
          · rw [up_eq, if_pos ⟨rfl, rfl⟩]
            rfl
          · rw [up_eq, if_neg (fun z => w1 z.2), up_ne (fun z => ha.2.2.2 z.symm), up_ne (fun z => ha.2.2.2 z.symm), up_ne (fun z => ha.2.2.2 z.symm), up_ne (fun z => ha.2.2.2 z.symm)]
            exact hs.1 i e w2
        · have i1' : U.2.2.1.length ≤ i := by simpa [slS] using i1
          rw [up_eq, if_neg (fun z => by have := hlen.2.1; omega), up_ne (fun z => ha.2.2.2 z.symm), up_ne (fun z => ha.2.2.2 z.symm), up_ne (fun z => ha.2.2.2 z.symm), up_ne (fun z => ha.2.2.2 z.symm)]
          exact hs.2 i i1' i2
      · rw [hstep]
        show (zup (zup U.1 7 (U.1 7 + 1)) 4 (U.1 4 + crK k)) 7 = _
        rw [zup_eq, if_neg (by omega), zup_eq, if_pos rfl, h7, Int32.add_assoc, nI_1]
end T
