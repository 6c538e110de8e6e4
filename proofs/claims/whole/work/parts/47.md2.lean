-- behind: 46
section T
variable (Γ : cG) {σ : cAS} {a : Nat}
theorem gLs.get {g : Nat → Int32} {l : List mLf} (h : gLs g l) : g 3 = nI l.length := h.1
theorem LX9_unload (hg : aT σ a = (11, 380)) {i o : Nat} {e : mBk} (ho : e.2.1 = nI o) (ho2 : o ≤ 60) (kd : Int32) {Φ : cRes → cAS → Prop} : ∀ d j (I : Nat → Nat → Int32) (s : mS), j + d = o → s.2.2.1.length + d ≤ 60 → gAt (I a) s → s.2.1[i]? = some e → I a (16 + 6 * i + 3) = kd →
    (∀ I', frB I I' a → gAt (I' a) (s.1, s.2.1, s.2.2.1 ++ List.replicate d (kd, nI i, s.1 3), s.2.2.2) → WP Γ (2, 49, 0, 0) MX9_unload Φ 64 [some (.ref a), some (.int (nI i)), some (.int (nI (16 + 6 * i))), some (.int (nI o)), none] [] (wI σ I')) →
    WP Γ (2, 49, 0, 0) MX9_unload Φ 7 [some (.ref a), some (.int (nI i)), some (.int (nI (16 + 6 * i))), some (.int (nI j)), none] [] (wI σ I) := by
  intro d
  induction d with
  | zero =>
    intro j I s hj hl h he hk H
    have hi := gE_lt he
    have hl4 := h.2.1.2.1
    obtain ⟨c1, c2, c3, c4, c5, c6⟩ := h.2.1.2.2.1 i e he
    refine WP.iload_n (pc := 7) dX9_unload_7 rfl ?_
    refine WP.aload_n (pc := 8) dX9_unload_8 rfl ?_
    refine WP.iload_n (pc := 9) dX9_unload_9 rfl ?_
    refine WP.iconst (pc := 10) (v := 1) dX9_unload_10 (by decide) ?_
    refine WP.iaN (pc := 11) (b := 1) dX9_unload_11 ?_
    refine WP.ialdv (pc := 12) hg (by omega) (by omega) (v := (nI o)) (c2.trans ho) dX9_unload_12 ?_
    refine WP.icmp_ge (pc := 13) (tgt := 64) dX9_unload_13 (by decide) (fun h1 => ?_) (fun h1 => ?_)
    · rw [show j = o by omega]
      exact H I frB.rf (by simpa using h)
    · exact absurd (by rw [show j = o by omega]; exact Int32.le_refl _) h1
  | succ d ih =>
    intro j I s hj hl h he hk H
    have hi := gE_lt he
    have hl4 := h.2.1.2.1
    have h3 := h.2.2.1.1
    obtain ⟨c1, c2, c3, c4, c5, c6⟩ := h.2.1.2.2.1 i e he
    refine WP.iload_n (pc := 7) dX9_unload_7 rfl ?_
    refine WP.aload_n (pc := 8) dX9_unload_8 rfl ?_
    refine WP.iload_n (pc := 9) dX9_unload_9 rfl ?_
    refine WP.iconst (pc := 10) (v := 1) dX9_unload_10 (by decide) ?_
    refine WP.iaN (pc := 11) (b := 1) dX9_unload_11 ?_
    refine WP.ialdv (pc := 12) hg (by omega) (by omega) (v := (nI o)) (c2.trans ho) dX9_unload_12 ?_
    refine WP.icmp_ge (pc := 13) (tgt := 64) dX9_unload_13 (by decide) (fun h1 => ?_) (fun h1 => ?_)
    · exact absurd h1 (nI_ge (by omega) (by omega))
    · skip
      refine WP.aload_n (pc := 16) dX9_unload_16 rfl ?_
      refine WP.iconst (pc := 17) (v := 3) dX9_unload_17 (by decide) ?_
      refine WP.ialdv (pc := 18) (k := 3) hg (by decide) (by omega) (v := (nI s.2.2.1.length)) (h3) dX9_unload_18 ?_
      refine WP.cS1 (pc := 19) (mc2 := 0) (ms2 := 0) kX9_89 (CX9_ofLoaf Γ s.2.2.1.length) rfl ⟨Nat.le_of_ble_eq_true rfl, Nat.le_of_ble_eq_true rfl⟩ (Nat.le_of_ble_eq_true rfl) (Nat.le_of_ble_eq_true rfl) (Nat.le_of_ble_eq_true rfl) rfl dX9_unload_19 ?_
      refine WP.istore (pc := 22) dX9_unload_22 (by decide) rfl ?_
      refine WP.aload_n (pc := 24) dX9_unload_24 rfl ?_
      refine WP.iload (pc := 25) dX9_unload_25 rfl ?_
      refine WP.iconst (pc := 27) (v := 0) dX9_unload_27 (by decide) ?_
      refine WP.ia0 (pc := 28) dX9_unload_28 ?_
      refine WP.aload_n (pc := 29) dX9_unload_29 rfl ?_
      refine WP.iload_n (pc := 30) dX9_unload_30 rfl ?_
      refine WP.iconst (pc := 31) (v := 3) dX9_unload_31 (by decide) ?_
      refine WP.iaN (pc := 32) (b := 3) dX9_unload_32 ?_
      refine WP.ialdv (pc := 33) hg (by omega) (by omega) (v := (kd)) (hk) dX9_unload_33 ?_
      refine WP.iast (pc := 34) hg (by omega) (by omega) dX9_unload_34 ?_
      refine WP.aload_n (pc := 35) dX9_unload_35 rfl ?_
      refine WP.iload (pc := 36) dX9_unload_36 rfl ?_
      refine WP.iconst (pc := 38) (v := 1) dX9_unload_38 (by decide) ?_
      refine WP.iaN (pc := 39) (b := 1) dX9_unload_39 ?_
      refine WP.iload_n (pc := 40) dX9_unload_40 rfl ?_
      refine WP.iast (pc := 41) hg (by omega) (by omega) dX9_unload_41 ?_
      refine WP.aload_n (pc := 42) dX9_unload_42 rfl ?_
      refine WP.iload (pc := 43) dX9_unload_43 rfl ?_
      refine WP.iconst (pc := 45) (v := 2) dX9_unload_45 (by decide) ?_
      refine WP.iaN (pc := 46) (b := 2) dX9_unload_46 ?_
      refine WP.aload_n (pc := 47) dX9_unload_47 rfl ?_
      refine WP.iconst (pc := 48) (v := 0) dX9_unload_48 (by decide) ?_
      refine WP.ialdv (pc := 49) (k := 0) hg (by decide) (by omega) (v := (s.1 3)) (by simp (disch := omega) only [up_row, uw_ne]; exact h.1 3 (by omega)) dX9_unload_49 ?_
      refine WP.iast (pc := 50) hg (by omega) (by omega) dX9_unload_50 ?_
      refine WP.aload_n (pc := 51) dX9_unload_51 rfl ?_
      refine WP.iconst (pc := 52) (v := 3) dX9_unload_52 (by decide) ?_
      refine WP.dup2 (pc := 53) dX9_unload_53 rfl rfl ?_
      refine WP.ialdv (pc := 54) (k := 3) hg (by decide) (by omega) (v := (nI s.2.2.1.length)) (by simp (disch := omega) only [up_row, uw_ne]; exact h3) dX9_unload_54 ?_
      refine WP.iconst (pc := 55) (v := 1) dX9_unload_55 (by decide) ?_
      refine WP.iaN (pc := 56) (b := 1) dX9_unload_56 ?_
      refine WP.iast (pc := 57) (k := 3) hg (by decide) (by omega) dX9_unload_57 ?_
      refine WP.iinc (pc := 58) dX9_unload_58 rfl (nI_1 _) (by decide) rfl ?_
      refine WP.goto (pc := 61) (tgt := 7) dX9_unload_61 (by decide) ?_
      refine WP.drop 4 ?_
      refine ih (j + 1) _ (s.1, s.2.1, s.2.2.1 ++ [(kd, nI i, s.1 3)], s.2.2.2) (by omega) (by simp; omega) ?_ he ?_ (fun I' f1 g1 => H I' (frB.rf.up.up.up.up.trans f1) ?_)
      · simp only [up_row]
        exact h.lf (fun k c1 c2 c3 => by simp (disch := omega) only [uw_ne]) (h.2.2.1.app (by omega) _ _ _)
      · simp (disch := omega) only [up_row, uw_ne]
        exact hk
      · have e1 : s.2.2.1 ++ [(kd, nI i, s.1 3)] ++ List.replicate d (kd, nI i, s.1 3) = s.2.2.1 ++ List.replicate (d + 1) (kd, nI i, s.1 3) := by
          rw [List.append_assoc]
          rfl
        rw [← e1]
        exact g1
theorem CX9_unload (hg : aT σ a = (11, 380)) {i o : Nat} {e : mBk} (ho : e.2.1 = nI o) {I : Nat → Nat → Int32} {s : mS} (h : gAt (I a) s) (hl : s.2.2.1.length + o ≤ 60) (he : s.2.1[i]? = some e) {kd : Int32} (hk : I a (16 + 6 * i + 3) = kd) :
    Ctr Γ (2, 49, 0, 0) MX9_unload [.ref a, .int (nI i)] (wI σ I) (rW σ (fun I' => frB I I' a ∧ gAt (I' a) (zup s.1 6 (s.1 6 + e.2.1), s.2.1, s.2.2.1 ++ List.replicate o (kd, nI i, s.1 3), s.2.2.2.1, evAdd s.2.2.2.2 (0, nI i, e.2.1)))) := by
  have hi := gE_lt he
  have hl4 := h.2.1.2.1
  refine Ctr.go rfl (by decide) rfl rfl ?_
  refine WP.iload_n (pc := 0) dX9_unload_0 rfl ?_
  refine WP.cS1 (pc := 1) (mc2 := 0) (ms2 := 0) kX9_100 (CX9_ofBaker Γ i) rfl ⟨Nat.le_of_ble_eq_true rfl, Nat.le_of_ble_eq_true rfl⟩ (Nat.le_of_ble_eq_true rfl) (Nat.le_of_ble_eq_true rfl) (Nat.le_of_ble_eq_true rfl) rfl dX9_unload_1 ?_
  refine WP.istore_n (pc := 4) dX9_unload_4 (by decide) rfl ?_
  refine WP.iconst (pc := 5) (v := 0) dX9_unload_5 (by decide) ?_
  refine WP.istore_n (pc := 6) dX9_unload_6 (by decide) rfl ?_
  refine LX9_unload Γ hg ho (by omega) kd o 0 I s (by omega) hl h he hk (fun I1 f1 h1 => ?_)
  obtain ⟨c1, c2, c3, c4, c5, c6⟩ := h1.2.1.2.2.1 i e he
  have h6 : I1 a 10 = s.1 6 := h1.1 6 (by omega)
  refine WP.aload_n (pc := 64) dX9_unload_64 rfl ?_
  refine WP.bipush (pc := 65) (v := 10) dX9_unload_65 (by decide) ?_
  refine WP.dup2 (pc := 67) dX9_unload_67 rfl rfl ?_
  refine WP.ialdv (pc := 68) (k := 10) hg (by decide) (by omega) (v := (s.1 6)) (h6) dX9_unload_68 ?_
  refine WP.aload_n (pc := 69) dX9_unload_69 rfl ?_
  refine WP.iload_n (pc := 70) dX9_unload_70 rfl ?_
  refine WP.iconst (pc := 71) (v := 1) dX9_unload_71 (by decide) ?_
  refine WP.iaN (pc := 72) (b := 1) dX9_unload_72 ?_
  refine WP.ialdv (pc := 73) hg (by omega) (by omega) (v := (e.2.1)) (c2) dX9_unload_73 ?_
  refine WP.iadd (pc := 74) dX9_unload_74 ?_
  refine WP.iast (pc := 75) (k := 10) hg (by decide) (by omega) dX9_unload_75 ?_
  refine WP.aload_n (pc := 76) dX9_unload_76 rfl ?_
  refine WP.iconst (pc := 77) (v := 0) dX9_unload_77 (by decide) ?_
  refine WP.iload_n (pc := 78) dX9_unload_78 rfl ?_
  refine WP.aload_n (pc := 79) dX9_unload_79 rfl ?_
  refine WP.iload_n (pc := 80) dX9_unload_80 rfl ?_
  refine WP.iconst (pc := 81) (v := 1) dX9_unload_81 (by decide) ?_
  refine WP.iaN (pc := 82) (b := 1) dX9_unload_82 ?_
  refine WP.ialdv (pc := 83) hg (by omega) (by omega) (v := (e.2.1)) (by simp (disch := omega) only [up_row, uw_ne]; exact c2) dX9_unload_83 ?_
  have h2 := h1.z (j := 6) (by omega) (s.1 6 + e.2.1)
  rw [show uw (I1 a) (zIx 6) (s.1 6 + e.2.1) = up I1 a 10 (s.1 6 + e.2.1) a from (up_row _ _ _ _).symm] at h2
  refine WP.cSw (pc := 84) (mc2 := 0) (ms2 := 0) kX9_107 (CX9_tell Γ hg h2 0 (nI i) e.2.1) rfl ⟨Nat.le_of_ble_eq_true rfl, Nat.le_of_ble_eq_true rfl⟩ (Nat.le_of_ble_eq_true rfl) (Nat.le_of_ble_eq_true rfl) (Nat.le_of_ble_eq_true rfl) rfl dX9_unload_84 (fun I2 ⟨f2, h3⟩ => ?_)
  refine WP.vret (pc := 87) rfl dX9_unload_87 ?_
  exact ⟨rfl, I2, rfl, (f1.trans frB.rf.up).trans f2, h3⟩
theorem LX9_bakeOn (hg : aT σ a = (11, 380)) {s : mS} (hb : ∀ e ∈ s.2.1, okB e) (hcap : ovCap s) {Φ : cRes → cAS → Prop} : ∀ n i (I : Nat → Nat → Int32), i + n = s.2.1.length → gAt (I a) (ovS s i) → (∀ I', frB I I' a → gAt (I' a) (ovS s s.2.1.length) → Φ (.inl none) (wI σ I')) →
    WP Γ (3, 73, 0, 0) MX9_bakeOn Φ 2 [some (.ref a), some (.int (nI i)), none] [] (wI σ I) := by
  intro n
  induction n with
  | zero =>
    intro i I hi h H
    have hc : I a 1 = nI s.2.1.length := by rw [h.2.1.1]; show nI (mix _ _ _).length = _; rw [mix_len]
    have hil : i = s.2.1.length := by omega
    refine WP.iload_n (pc := 2) dX9_bakeOn_2 rfl ?_
    refine WP.aload_n (pc := 3) dX9_bakeOn_3 rfl ?_
    refine WP.iconst (pc := 4) (v := 1) dX9_bakeOn_4 (by decide) ?_
    refine WP.ialdv (pc := 5) (k := 1) hg (by decide) (by omega) (v := (nI s.2.1.length)) (hc) dX9_bakeOn_5 ?_
    refine WP.icmp_ge (pc := 6) (tgt := 46) dX9_bakeOn_6 (by decide) (fun h1 => ?_) (fun h1 => ?_)
    · skip
      refine WP.vret (pc := 46) rfl dX9_bakeOn_46 ?_
      rw [hil] at h
      exact H I frB.rf h
    · exact absurd (by rw [hil]; exact Int32.le_refl _) h1
  | succ n ih =>
    intro i I hi h H
    have hc : I a 1 = nI s.2.1.length := by rw [h.2.1.1]; show nI (mix _ _ _).length = _; rw [mix_len]
    have hl4 : s.2.1.length ≤ 4 := by have := h.2.1.2.1; rwa [show (ovS s i).2.1 = mix mkO s.2.1 i from rfl, mix_len] at this
    obtain ⟨e, he⟩ : ∃ e, s.2.1[i]? = some e := ⟨s.2.1[i]'(by omega), List.getElem?_eq_getElem (by omega)⟩
    have hm : (ovS s i).2.1[i]? = some e := mix_get _ _ he
    have hlen : i < (ovS s i).2.1.length := by show i < (mix _ _ _).length; rw [mix_len]; omega
    have ho := hb e (List.mem_of_getElem? he)
    obtain ⟨b1, b2, b3, b4, b5, b6⟩ := h.2.1.2.2.1 i e hm
    refine WP.iload_n (pc := 2) dX9_bakeOn_2 rfl ?_
    refine WP.aload_n (pc := 3) dX9_bakeOn_3 rfl ?_
    refine WP.iconst (pc := 4) (v := 1) dX9_bakeOn_4 (by decide) ?_
    refine WP.ialdv (pc := 5) (k := 1) hg (by decide) (by omega) (v := (nI s.2.1.length)) (hc) dX9_bakeOn_5 ?_
    refine WP.icmp_ge (pc := 6) (tgt := 46) dX9_bakeOn_6 (by decide) (fun h1 => ?_) (fun h1 => ?_)
    · exact absurd h1 (nI_ge (by omega) (by omega))
    · refine WP.iload_n (pc := 9) dX9_bakeOn_9 rfl ?_
      refine WP.cS1 (pc := 10) (mc2 := 0) (ms2 := 0) kX9_100 (CX9_ofBaker Γ i) rfl ⟨Nat.le_of_ble_eq_true rfl, Nat.le_of_ble_eq_true rfl⟩ (Nat.le_of_ble_eq_true rfl) (Nat.le_of_ble_eq_true rfl) (Nat.le_of_ble_eq_true rfl) rfl dX9_bakeOn_10 ?_
      refine WP.iconst (pc := 13) (v := 4) dX9_bakeOn_13 (by decide) ?_
      refine WP.iaN (pc := 14) (b := 4) dX9_bakeOn_14 ?_
      refine WP.istore_n (pc := 15) dX9_bakeOn_15 (by decide) rfl ?_
      refine WP.aload_n (pc := 16) dX9_bakeOn_16 rfl ?_
      refine WP.iload_n (pc := 17) dX9_bakeOn_17 rfl ?_
      refine WP.ialdv (pc := 18) hg (by omega) (by omega) (v := (e.2.2.2.2.1)) (b5) dX9_bakeOn_18 ?_
      refine WP.if_le (pc := 19) (tgt := 40) dX9_bakeOn_19 (by decide) (fun h2 => ?_) (fun h2 => ?_)
      · have hk : e.2.2.2.1 = -1 := by
          rcases ho.2.2.2 with q | q
          · exact q.1
          · obtain ⟨v, hv, v1, v2⟩ := q.2
            rw [hv] at h2
            exact absurd h2 (nI_nle (by omega) (by omega))
        refine WP.iinc (pc := 40) dX9_bakeOn_40 rfl (nI_1 _) (by decide) rfl ?_
        refine WP.goto (pc := 43) (tgt := 2) dX9_bakeOn_43 (by decide) ?_
        refine WP.drop 2 ?_
        refine ih (i + 1) I (by omega) ?_ H
        have e1 : ovF s (i + 1) = ovF s i := by simp [ovF, he, hk]
        have e2 : mix mkO s.2.1 (i + 1) = mix mkO s.2.1 i := mix_id _ _ he (by simp [mkO, hk])
        unfold ovS
        rw [e1, e2]
        exact h
      · have hkl : e.2.2.2.1 ≠ -1 ∧ inR e.2.2.2.2.1 1 9 := by
          rcases ho.2.2.2 with q' | q'
          · rw [q'.2] at h2
            exact absurd (Int32.le_refl _) h2
          · exact ⟨q'.1.ne (by decide), q'.2⟩
        obtain ⟨hk, v, hv, v1, v2⟩ := hkl
        obtain ⟨w, rfl⟩ : ∃ w, v = w + 1 := ⟨v - 1, by omega⟩
        have b4' := b4 hk
        rw [hv] at b5
        refine WP.aload_n (pc := 22) dX9_bakeOn_22 rfl ?_
        refine WP.iload_n (pc := 23) dX9_bakeOn_23 rfl ?_
        refine WP.dup2 (pc := 24) dX9_bakeOn_24 rfl rfl ?_
        refine WP.ialdv (pc := 25) hg (by omega) (by omega) (v := (nI (w + 1))) (b5) dX9_bakeOn_25 ?_
        refine WP.iconst (pc := 26) (v := 1) dX9_bakeOn_26 (by decide) ?_
        refine WP.isub (pc := 27) dX9_bakeOn_27 ?_
        rw [nI_pred]
        refine WP.iast (pc := 28) hg (by omega) (by omega) dX9_bakeOn_28 ?_
        refine WP.aload_n (pc := 29) dX9_bakeOn_29 rfl ?_
        refine WP.iload_n (pc := 30) dX9_bakeOn_30 rfl ?_
        refine WP.ialdv (pc := 31) hg (by omega) (by omega) (v := (nI w)) (by rw [up_row]; exact uw_at rfl) dX9_bakeOn_31 ?_
        refine WP.if_ne (pc := 32) (tgt := 40) dX9_bakeOn_32 (by decide) (fun h3 => ?_) (fun h3 => ?_)
        · have hw : w ≠ 0 := fun q => h3 (by rw [q]; rfl)
          have h4 : ¬ e.2.2.2.2.1 - 1 ≤ 0 := by rw [hv, nI_pred]; exact nI_nle (by omega) (by omega)
          refine WP.iinc (pc := 40) dX9_bakeOn_40 rfl (nI_1 _) (by decide) rfl ?_
          refine WP.goto (pc := 43) (tgt := 2) dX9_bakeOn_43 (by decide) ?_
          refine WP.drop 2 ?_
          refine ih (i + 1) _ (by omega) ?_ (fun I' f1 g1 => H I' (frB.rf.up.trans f1) g1)
          have e1 : ovF s (i + 1) = ovF s i := by simp [ovF, he, hk, h4]
          have e2 : mix mkO s.2.1 (i + 1) = (mix mkO s.2.1 i).set i (mkO e) := (mix_set _ _ he).symm
          unfold ovS
          rw [e1, e2, up_row]
          refine h.bk (s := ovS s i) (fun k c1 c2 c3 => by simp (disch := omega) only [uw_ne]) (h.2.1.set hlen ?_ (fun k c => by simp (disch := omega) only [uw_ne]))
          unfold mkO
          rw [if_neg hk, if_neg h4, hv, nI_pred]
          refine ⟨?_, ?_, ?_, fun _ => ?_, ?_, ?_⟩ <;> simp (disch := omega) only [uw_ne, uw_at] <;> assumption
        · have hw : w = 0 := (nI_eq (b := 0) (by omega) (by decide)).mp h3
          subst hw
          have h4 : e.2.2.2.2.1 - 1 ≤ 0 := by rw [hv]; decide
          obtain ⟨o, ho1, ho2⟩ := hcap i e he hk h4
          have hlen2 : i < s.2.1.length := by omega
          have h5 : gAt (up I a (16 + 6 * i + 4) (nI 0) a) ((ovS s i).1, (mix mkO s.2.1 i).set i (mkO e), (ovS s i).2.2) := by
            rw [up_row]
            refine h.bk (s := ovS s i) (fun k c1 c2 c3 => by simp (disch := omega) only [uw_ne]) (h.2.1.set hlen ?_ (fun k c => by simp (disch := omega) only [uw_ne]))
            unfold mkO
            rw [if_neg hk, if_pos h4]
            refine ⟨?_, ?_, ?_, fun z => absurd rfl z, ?_, ?_⟩ <;> simp (disch := omega) only [uw_ne, uw_at] <;> first | assumption | rfl
          have h6 : ((mix mkO s.2.1 i).set i (mkO e))[i]? = some (mkO e) := by
            rw [List.getElem?_set_self (by rw [mix_len]; omega)]
          have hz : (mkO e).2.1 = e.2.1 := by unfold mkO; rw [if_neg hk, if_pos h4]
          refine WP.aload_n (pc := 35) dX9_bakeOn_35 rfl ?_
          refine WP.iload_n (pc := 36) dX9_bakeOn_36 rfl ?_
          refine WP.cSw (pc := 37) (mc2 := 0) (ms2 := 0) kX9_152 (CX9_unload Γ hg (i := i) (e := mkO e) (o := o) (kd := e.2.2.2.1) (hz.trans ho1) h5 (by exact ho2) h6 (by rw [up_row, uw_ne (by omega)]; exact b4')) rfl ⟨Nat.le_of_ble_eq_true rfl, Nat.le_of_ble_eq_true rfl⟩ (Nat.le_of_ble_eq_true rfl) (Nat.le_of_ble_eq_true rfl) (Nat.le_of_ble_eq_true rfl) rfl dX9_bakeOn_37 (fun I1 ⟨f1, g1⟩ => ?_)
          refine WP.iinc (pc := 40) dX9_bakeOn_40 rfl (nI_1 _) (by decide) rfl ?_
          refine WP.goto (pc := 43) (tgt := 2) dX9_bakeOn_43 (by decide) ?_
          refine WP.drop 2 ?_
          refine ih (i + 1) I1 (by omega) ?_ (fun I' f2 g2 => H I' ((frB.rf.up.trans f1).trans f2) g2)
          have e1 : ovF s (i + 1) = ((ovF s i).1 ++ List.replicate e.2.1.toNatClampNeg (e.2.2.2.1, nI i, s.1 3), (ovF s i).2.1 + e.2.1, evAdd (ovF s i).2.2 (0, nI i, e.2.1)) := by simp [ovF, he, hk, h4]
          have e2 : mix mkO s.2.1 (i + 1) = (mix mkO s.2.1 i).set i (mkO e) := (mix_set _ _ he).symm
          have e3 : e.2.1.toNatClampNeg = o := by rw [ho1]; exact nI_clamp (by omega)
          unfold ovS
          rw [e1, e2, e3]
          rw [hz] at g1
          have e4 : (ovS s i).1 3 = s.1 3 := rfl
          have e5 : zup (ovS s i).1 6 ((ovS s i).1 6 + e.2.1) = zup s.1 6 ((ovF s i).2.1 + e.2.1) := by
            funext j
            show (if j = 6 then zup s.1 6 (ovF s i).2.1 6 + e.2.1 else zup s.1 6 (ovF s i).2.1 j) = if j = 6 then _ else s.1 j
            by_cases q : j = 6
            · rw [if_pos q, if_pos q]
              rfl
            · rw [if_neg q, if_neg q]
              exact if_neg q
          rw [e4] at g1
          show gAt (I1 a) (zup s.1 6 ((ovF s i).2.1 + e.2.1), _)
          rw [← e5]
          exact g1
theorem CX9_bakeOn (hg : aT σ a = (11, 380)) {I : Nat → Nat → Int32} {s : mS} (h : gAt (I a) s) (hb : ∀ e ∈ s.2.1, okB e) (hcap : ovCap s) : Ctr Γ (3, 73, 0, 0) MX9_bakeOn [.ref a] (wI σ I) (rW σ (fun I' => frB I I' a ∧ gAt (I' a) (ovOut s))) := by
  refine Ctr.go rfl (by decide) rfl rfl ?_
  refine WP.iconst (pc := 0) (v := 0) dX9_bakeOn_0 (by decide) ?_
  refine WP.istore_n (pc := 1) dX9_bakeOn_1 (by decide) rfl ?_
  refine LX9_bakeOn Γ hg hb hcap s.2.1.length 0 I (by omega) (by rw [ovS_0]; exact h) (fun I' f1 g1 => ⟨rfl, I', rfl, f1, ?_⟩)
  have e : ovS s s.2.1.length = ovOut s := by unfold ovS ovOut; rw [mix_full _ _ rfl]
  rw [← e]
  exact g1
-- stale loaves
def kpL (z : Nat → Int32) (e : mLf) : Bool := !decide (rsE z e = 0)
def stM (s : mS) (i : Nat) : mS := (zup (zup s.1 8 (tsF s i).1) 4 (tsF s i).2.1, s.2.1, (s.2.2.1.take i).filter (kpL s.1) ++ s.2.2.1.drop i, s.2.2.2.1, (tsF s i).2.2)
theorem stM_0 (s : mS) : stM s 0 = s := by
  show (zup (zup s.1 8 (s.1 8)) 4 (s.1 4), _) = _
  rw [zup_id, zup_id]
  rfl
theorem stM_full {s : mS} (hk : ∀ e ∈ s.2.2.1, e.1 ≠ -1) : stM s s.2.2.1.length = stOut s := by
  unfold stM stOut
  rw [mkS_filter hk]
  simp
  exact ⟨rfl, rfl⟩
theorem cut_get {α : Type} (K l : List α) (i : Nat) : (K ++ l.drop i)[K.length]? = l[i]? := by
  rw [List.getElem?_append_right (Nat.le_refl _), Nat.sub_self, List.getElem?_drop, Nat.add_zero]
theorem cut_er {α : Type} (K l : List α) {i : Nat} (hi : i < l.length) : (K ++ l.drop i).eraseIdx K.length = K ++ l.drop (i + 1) := by
  rw [List.eraseIdx_append_of_length_le (Nat.le_refl _), Nat.sub_self, List.drop_eq_getElem_cons hi]
  rfl
theorem cut_nx {α : Type} (K l : List α) {i : Nat} {e : α} (he : l[i]? = some e) : K ++ [e] ++ l.drop (i + 1) = K ++ l.drop i := by
  obtain ⟨hi, he⟩ := List.getElem?_eq_some_iff.mp he
  rw [List.drop_eq_getElem_cons hi, he, List.append_assoc]
  rfl
theorem LX9_clear (hg : aT σ a = (11, 380)) {s : mS} (hr : ∀ e ∈ s.2.2.1, rsOk s.1 e) {Φ : cRes → cAS → Prop} : ∀ n i (I : Nat → Nat → Int32), i + n = s.2.2.1.length → gAt (I a) (stM s i) → (∀ I', frB I I' a → gAt (I' a) (stM s s.2.2.1.length) → Φ (.inl none) (wI σ I')) →
    WP Γ (3, 66, 0, 0) MX9_clear Φ 2 [some (.ref a), some (.int (nI ((s.2.2.1.take i).filter (kpL s.1)).length))] [] (wI σ I) := by
  intro n
  induction n with
  | zero =>
    intro i I hi h H
    have hil : i = s.2.2.1.length := by omega
    have hc : I a 3 = nI ((s.2.2.1.take i).filter (kpL s.1)).length := by
      rw [h.2.2.1.1]
      unfold stM
      rw [List.drop_of_length_le (by omega), List.append_nil]
    refine WP.iload_n (pc := 2) dX9_clear_2 rfl ?_
    refine WP.aload_n (pc := 3) dX9_clear_3 rfl ?_
    refine WP.iconst (pc := 4) (v := 3) dX9_clear_4 (by decide) ?_
    refine WP.ialdv (pc := 5) (k := 3) hg (by decide) (by omega) (v := (nI ((s.2.2.1.take i).filter (kpL s.1)).length)) (hc) dX9_clear_5 ?_
    refine WP.icmp_ge (pc := 6) (tgt := 71) dX9_clear_6 (by decide) (fun h1 => ?_) (fun h1 => ?_)
    · skip
      refine WP.vret (pc := 71) rfl dX9_clear_71 ?_
      rw [hil] at h
      exact H I frB.rf h
    · exact absurd (Int32.le_refl _) h1
  | succ n ih =>
    intro i I hi h H
    obtain ⟨e, he⟩ : ∃ e, s.2.2.1[i]? = some e := ⟨s.2.2.1[i]'(by omega), List.getElem?_eq_getElem (by omega)⟩
    have hm : (stM s i).2.2.1[((s.2.2.1.take i).filter (kpL s.1)).length]? = some e := (cut_get _ _ i).trans he
    have hlt := gE_lt hm
    have h60 := h.2.2.1.2.1
    have hc := h.2.2.1.1
    obtain ⟨b1, b2, b3⟩ := h.2.2.1.2.2 _ e hm
    have hre : rsE (stM s i).1 e = rsE s.1 e := (rsE_zup _ _ (by omega)).trans (rsE_zup _ _ (by omega))
    have hok : rsOk (stM s i).1 e := (hr e (List.mem_of_getElem? he)).z (fun j hj => by
      show zup (zup s.1 8 _) 4 _ j = _
      rw [zup_eq, if_neg (by omega), zup_eq, if_neg (by omega)])
    have ht := tk_app he
    generalize hL : (stM s i).2.2.1.length = N at hlt h60 hc
    refine WP.iload_n (pc := 2) dX9_clear_2 rfl ?_
    refine WP.aload_n (pc := 3) dX9_clear_3 rfl ?_
    refine WP.iconst (pc := 4) (v := 3) dX9_clear_4 (by decide) ?_
    refine WP.ialdv (pc := 5) (k := 3) hg (by decide) (by omega) (v := (nI N)) (hc) dX9_clear_5 ?_
    refine WP.icmp_ge (pc := 6) (tgt := 71) dX9_clear_6 (by decide) (fun h1 => ?_) (fun h1 => ?_)
    · exact absurd h1 (nI_ge (by omega) (by omega))
    · refine WP.aload_n (pc := 9) dX9_clear_9 rfl ?_
      refine WP.iload_n (pc := 10) dX9_clear_10 rfl ?_
      refine WP.cS1 (pc := 11) (mc2 := 0) (ms2 := 0) kX9_123 (CX9_reserve Γ hg h hm hok) rfl ⟨Nat.le_of_ble_eq_true rfl, Nat.le_of_ble_eq_true rfl⟩ (Nat.le_of_ble_eq_true rfl) (Nat.le_of_ble_eq_true rfl) (Nat.le_of_ble_eq_true rfl) rfl dX9_clear_11 ?_
      rw [hre]
      refine WP.if_ne (pc := 14) (tgt := 65) dX9_clear_14 (by decide) (fun h2 => ?_) (fun h2 => ?_)
      · refine WP.iinc (pc := 65) dX9_clear_65 rfl (nI_1 _) (by decide) rfl ?_
        refine WP.goto (pc := 68) (tgt := 2) dX9_clear_68 (by decide) ?_
        have hf : (s.2.2.1.take (i + 1)).filter (kpL s.1) = (s.2.2.1.take i).filter (kpL s.1) ++ [e] := by rw [ht, List.filter_append]; simp [kpL, h2]
        have hfl : ((s.2.2.1.take (i + 1)).filter (kpL s.1)).length = ((s.2.2.1.take i).filter (kpL s.1)).length + 1 := by rw [hf]; simp
        rw [← hfl]
        refine ih (i + 1) I (by omega) ?_ H
        have e1 : tsF s (i + 1) = tsF s i := by simp [tsF, he, h2]
        have e2 : stM s (i + 1) = stM s i := by
          unfold stM
          rw [e1, hf, cut_nx _ _ he]
        rw [e2]
        exact h
      · have h2' := h2
        refine WP.aload_n (pc := 17) dX9_clear_17 rfl ?_
        refine WP.iconst (pc := 18) (v := 2) dX9_clear_18 (by decide) ?_
        refine WP.aload_n (pc := 19) dX9_clear_19 rfl ?_
        refine WP.iload_n (pc := 20) dX9_clear_20 rfl ?_
        refine WP.cS1 (pc := 21) (mc2 := 0) (ms2 := 0) kX9_89 (CX9_ofLoaf Γ ((s.2.2.1.take i).filter (kpL s.1)).length) rfl ⟨Nat.le_of_ble_eq_true rfl, Nat.le_of_ble_eq_true rfl⟩ (Nat.le_of_ble_eq_true rfl) (Nat.le_of_ble_eq_true rfl) (Nat.le_of_ble_eq_true rfl) rfl dX9_clear_21 ?_
        refine WP.iconst (pc := 24) (v := 0) dX9_clear_24 (by decide) ?_
        refine WP.ia0 (pc := 25) dX9_clear_25 ?_
        refine WP.ialdv (pc := 26) hg (by omega) (by omega) (v := (e.1)) (b1) dX9_clear_26 ?_
        refine WP.aload_n (pc := 27) dX9_clear_27 rfl ?_
        refine WP.iload_n (pc := 28) dX9_clear_28 rfl ?_
        refine WP.cS1 (pc := 29) (mc2 := 0) (ms2 := 0) kX9_89 (CX9_ofLoaf Γ ((s.2.2.1.take i).filter (kpL s.1)).length) rfl ⟨Nat.le_of_ble_eq_true rfl, Nat.le_of_ble_eq_true rfl⟩ (Nat.le_of_ble_eq_true rfl) (Nat.le_of_ble_eq_true rfl) (Nat.le_of_ble_eq_true rfl) rfl dX9_clear_29 ?_
        refine WP.iconst (pc := 32) (v := 1) dX9_clear_32 (by decide) ?_
        refine WP.iaN (pc := 33) (b := 1) dX9_clear_33 ?_
        refine WP.ialdv (pc := 34) hg (by omega) (by omega) (v := (e.2.1)) (b2) dX9_clear_34 ?_
        refine WP.cSw (pc := 35) (mc2 := 0) (ms2 := 0) kX9_107 (CX9_tell Γ hg h 2 e.1 e.2.1) rfl ⟨Nat.le_of_ble_eq_true rfl, Nat.le_of_ble_eq_true rfl⟩ (Nat.le_of_ble_eq_true rfl) (Nat.le_of_ble_eq_true rfl) (Nat.le_of_ble_eq_true rfl) rfl dX9_clear_35 (fun I1 ⟨f1, g1⟩ => ?_)
        refine WP.aload_n (pc := 38) dX9_clear_38 rfl ?_
        refine WP.iconst (pc := 39) (v := 3) dX9_clear_39 (by decide) ?_
        refine WP.bipush (pc := 40) (v := 110) dX9_clear_40 (by decide) ?_
        refine WP.iconst (pc := 42) (v := 3) dX9_clear_42 (by decide) ?_
        refine WP.iload_n (pc := 43) dX9_clear_43 rfl ?_
        obtain ⟨N', rfl⟩ : ∃ N', N = N' + 1 := ⟨N - 1, by omega⟩
        have hl1 : (stM s i).2.2.1.length = N' + 1 := hL
        refine WP.cSw (pc := 44) (mc2 := 0) (ms2 := 0) kX9_78 (CX9_takeOut Γ hg 3 110 3 ((s.2.2.1.take i).filter (kpL s.1)).length N' (by omega) (by omega) (by omega) (g1.2.2.1.1.trans (by rw [show ((stM s i).1, (stM s i).2.1, (stM s i).2.2.1, (stM s i).2.2.2.1, evAdd (stM s i).2.2.2.2 (2, e.1, e.2.1)).2.2.1.length = N' + 1 from hl1]))) rfl ⟨Nat.le_of_ble_eq_true rfl, Nat.le_of_ble_eq_true rfl⟩ (Nat.le_of_ble_eq_true rfl) (Nat.le_of_ble_eq_true rfl) (Nat.le_of_ble_eq_true rfl) rfl dX9_clear_44 (fun I2 ⟨f2, g2⟩ => ?_)
        have hrm := g1.2.2.1.rm (i := ((s.2.2.1.take i).filter (kpL s.1)).length) (by show _ < (stM s i).2.2.1.length; omega)
        rw [show ((stM s i).1, (stM s i).2.1, (stM s i).2.2.1, (stM s i).2.2.2.1, evAdd (stM s i).2.2.2.2 (2, e.1, e.2.1)).2.2.1.length = N' + 1 from hl1, Nat.add_sub_cancel, ← g2] at hrm
        have h3 := g1.lf (g' := I2 a) (fun k c1 c2 c3 => by rw [g2]; unfold tkR; rw [if_neg (by omega), if_neg (by omega)]) hrm
        have h4 := h3.z (j := 4) (by omega) ((stM s i).1 4 + 5)
        have h5 := h4.z (j := 8) (by omega) ((stM s i).1 8 + 1)
        refine WP.aload_n (pc := 47) dX9_clear_47 rfl ?_
        refine WP.iconst (pc := 48) (v := 4) dX9_clear_48 (by decide) ?_
        refine WP.dup2 (pc := 49) dX9_clear_49 rfl rfl ?_
        refine WP.ialdv (pc := 50) (k := 4) hg (by decide) (by omega) (v := ((stM s i).1 4)) (h3.1 4 (by omega)) dX9_clear_50 ?_
        refine WP.iconst (pc := 51) (v := 5) dX9_clear_51 (by decide) ?_
        refine WP.iadd (pc := 52) dX9_clear_52 ?_
        refine WP.iast (pc := 53) (k := 4) hg (by decide) (by omega) dX9_clear_53 ?_
        refine WP.aload_n (pc := 54) dX9_clear_54 rfl ?_
        refine WP.bipush (pc := 55) (v := 12) dX9_clear_55 (by decide) ?_
        refine WP.dup2 (pc := 57) dX9_clear_57 rfl rfl ?_
        refine WP.ialdv (pc := 58) (k := 12) hg (by decide) (by omega) (v := ((stM s i).1 8)) (by rw [up_row, uw_ne (by omega)]; exact h3.1 8 (by omega)) dX9_clear_58 ?_
        refine WP.iconst (pc := 59) (v := 1) dX9_clear_59 (by decide) ?_
        refine WP.iadd (pc := 60) dX9_clear_60 ?_
        refine WP.iast (pc := 61) (k := 12) hg (by decide) (by omega) dX9_clear_61 ?_
        refine WP.goto (pc := 62) (tgt := 2) dX9_clear_62 (by decide) ?_
        have hf : (s.2.2.1.take (i + 1)).filter (kpL s.1) = (s.2.2.1.take i).filter (kpL s.1) := by rw [ht, List.filter_append]; simp [kpL, h2']
        rw [← hf]
        refine ih (i + 1) _ (by omega) ?_ (fun I' f3 g3 => H I' ((f1.trans f2).trans (frB.rf.up.up.trans f3)) g3)
        have e1 : tsF s (i + 1) = ((tsF s i).1 + 1, (tsF s i).2.1 + 5, evAdd (tsF s i).2.2 (2, e.1, e.2.1)) := by simp [tsF, he, h2']
        have e2 : stM s (i + 1) = (zup (zup (stM s i).1 4 ((stM s i).1 4 + 5)) 8 ((stM s i).1 8 + 1), (stM s i).2.1, (stM s i).2.2.1.eraseIdx ((s.2.2.1.take i).filter (kpL s.1)).length, (stM s i).2.2.2.1, evAdd (stM s i).2.2.2.2 (2, e.1, e.2.1)) := by
          have e3 : (stM s i).2.2.1.eraseIdx ((s.2.2.1.take i).filter (kpL s.1)).length = (s.2.2.1.take i).filter (kpL s.1) ++ s.2.2.1.drop (i + 1) := cut_er _ _ (by omega)
          rw [e3]
          unfold stM
          rw [e1, hf]
          refine Prod.ext ?_ rfl
          funext j
          simp only [zup_eq]
          by_cases q4 : j = 4
          · simp [q4]
          · by_cases q8 : j = 8
            · simp [q8]
            · simp [q4, q8]
        rw [e2]
        simp only [up_row]
        exact h5
theorem CX9_clear (hg : aT σ a = (11, 380)) {I : Nat → Nat → Int32} {s : mS} (h : gAt (I a) s) (hr : ∀ e ∈ s.2.2.1, rsOk s.1 e) (hk : ∀ e ∈ s.2.2.1, e.1 ≠ -1) : Ctr Γ (3, 66, 0, 0) MX9_clear [.ref a] (wI σ I) (rW σ (fun I' => frB I I' a ∧ gAt (I' a) (stOut s))) := by
  refine Ctr.go rfl (by decide) rfl rfl ?_
  refine WP.iconst (pc := 0) (v := 0) dX9_clear_0 (by decide) ?_
  refine WP.istore_n (pc := 1) dX9_clear_1 (by decide) rfl ?_
  exact LX9_clear Γ hg hr s.2.2.1.length 0 I (by omega) (by rw [stM_0]; exact h) (fun I' f1 g1 => ⟨rfl, I', rfl, f1, by rw [← stM_full hk]; exact g1⟩)
theorem gAt.ofz {g : Nat → Int32} {z z' : Nat → Int32} {r : List mBk × List mLf × List mCu × List mEv} (h : gAt g (z, r)) (e : z = z') : gAt g (z', r) := e ▸ h
theorem CX9_eat (hg : aT σ a = (11, 380)) {I : Nat → Nat → Int32} {s : mS} (h : gAt (I a) s) {c p : Nat} (h4 : s.1 4 = nI c) (h5 : s.1 5 = nI p) (hc : c < 2 ^ 31) (hp : p ≤ 9) : Ctr Γ (1, 20, 0, 0) MX9_eat [.ref a] (wI σ I) (rW σ (fun I' => frB I I' a ∧ gAt (I' a) (spEat s.1, s.2))) := by
  have k4 : I a 4 = nI c := (h.1 4 (by omega)).trans h4
  have k5 : I a 5 = nI p := (h.1 5 (by omega)).trans h5
  rw [spEat_N h4 h5 hc hp]
  refine Ctr.go rfl (by decide) rfl rfl ?_
  refine WP.aload_n (pc := 0) dX9_eat_0 rfl ?_
  refine WP.iconst (pc := 1) (v := 4) dX9_eat_1 (by decide) ?_
  refine WP.aload_n (pc := 2) dX9_eat_2 rfl ?_
  refine WP.iconst (pc := 3) (v := 4) dX9_eat_3 (by decide) ?_
  refine WP.ialdv (pc := 4) (k := 4) hg (by decide) (by omega) (v := (nI c)) (k4) dX9_eat_4 ?_
  refine WP.iconst (pc := 5) (v := 3) dX9_eat_5 (by decide) ?_
  refine WP.aload_n (pc := 6) dX9_eat_6 rfl ?_
  refine WP.iconst (pc := 7) (v := 5) dX9_eat_7 (by decide) ?_
  refine WP.ialdv (pc := 8) (k := 5) hg (by decide) (by omega) (v := (nI p)) (k5) dX9_eat_8 ?_
  refine WP.imN (pc := 9) (a := 3) dX9_eat_9 ?_
  refine WP.isub (pc := 10) dX9_eat_10 ?_
  refine WP.cS1 (pc := 11) (mc2 := 0) (ms2 := 0) kX9_86 (CX9_positive Γ (nI c - nI (3 * p))) rfl ⟨Nat.le_of_ble_eq_true rfl, Nat.le_of_ble_eq_true rfl⟩ (Nat.le_of_ble_eq_true rfl) (Nat.le_of_ble_eq_true rfl) (Nat.le_of_ble_eq_true rfl) rfl dX9_eat_11 ?_
  have e1 : (if nI c - nI (3 * p) < 0 then 0 else nI c - nI (3 * p)) = nI (c - 3 * p) := by
    by_cases q : 3 * p ≤ c
    · rw [pk_sub q, if_neg (nI_pos (by omega))]
    · rw [if_pos (pk_sneg (by omega) (by omega)), show c - 3 * p = 0 by omega]
      rfl
  rw [e1]
  generalize hC : c - 3 * p = C
  have hC2 : C < 2 ^ 31 := by omega
  have g1 := h.z (j := 4) (by omega) (nI C)
  refine WP.iast (pc := 14) (k := 4) hg (by decide) (by omega) dX9_eat_14 ?_
  refine WP.aload_n (pc := 15) dX9_eat_15 rfl ?_
  refine WP.iconst (pc := 16) (v := 4) dX9_eat_16 (by decide) ?_
  refine WP.ialdv (pc := 17) (k := 4) hg (by decide) (by omega) (v := (nI C)) (by rw [up_row]; exact uw_at rfl) dX9_eat_17 ?_
  refine WP.bipush (pc := 18) (v := 20) dX9_eat_18 (by decide) ?_
  have fin : ∀ v, v = nI (spN C p) → rW σ (fun I' => frB I I' a ∧ gAt (I' a) (zup (zup s.1 4 (nI C)) 5 (nI (spN C p)), s.2)) (.inl none) (wI σ (up (up I a 4 (nI C)) a 5 v)) := fun v hv => by
    refine ⟨rfl, _, rfl, frB.rf.up.up, ?_⟩
    rw [up_row, up_row, hv]
    exact g1.z (j := 5) (by omega) _
  have fin0 : spN C p = p → rW σ (fun I' => frB I I' a ∧ gAt (I' a) (zup (zup s.1 4 (nI C)) 5 (nI (spN C p)), s.2)) (.inl none) (wI σ (up I a 4 (nI C))) := fun hv => by
    refine ⟨rfl, _, rfl, frB.rf.up, ?_⟩
    rw [up_row, hv]
    refine gAt.ofz (z := zup s.1 4 (nI C)) g1 ?_
    funext j
    simp only [zup_eq]
    by_cases q : j = 5
    · simp [q, h5]
    · simp [q]
  refine WP.icmp_le (pc := 20) (tgt := 45) dX9_eat_20 (by decide) (fun h1 => ?_) (fun h1 => ?_)
  · have h20 : C ≤ 20 := (nI_leI (b := 20) hC2 (by decide)).mp h1
    refine WP.aload_n (pc := 45) dX9_eat_45 rfl ?_
    refine WP.iconst (pc := 46) (v := 4) dX9_eat_46 (by decide) ?_
    refine WP.ialdv (pc := 47) (k := 4) hg (by decide) (by omega) (v := (nI C)) (by rw [up_row]; exact uw_at rfl) dX9_eat_47 ?_
    refine WP.if_ne (pc := 48) (tgt := 68) dX9_eat_48 (by decide) (fun h2 => ?_) (fun h2 => ?_)
    · have h0 : C ≠ 0 := fun q => h2 (by rw [q]; rfl)
      skip
      refine WP.vret (pc := 68) rfl dX9_eat_68 ?_
      exact fin0 (by unfold spN; rw [if_neg (by omega), if_neg (by omega)])
    · have h0 : C = 0 := (nI_eq (b := 0) hC2 (by decide)).mp h2
      refine WP.aload_n (pc := 51) dX9_eat_51 rfl ?_
      refine WP.iconst (pc := 52) (v := 5) dX9_eat_52 (by decide) ?_
      refine WP.dup2 (pc := 53) dX9_eat_53 rfl rfl ?_
      refine WP.ialdv (pc := 54) (k := 5) hg (by decide) (by omega) (v := (nI p)) (by rw [up_row, uw_ne (by omega)]; exact k5) dX9_eat_54 ?_
      refine WP.aload_n (pc := 55) dX9_eat_55 rfl ?_
      refine WP.iconst (pc := 56) (v := 5) dX9_eat_56 (by decide) ?_
      refine WP.ialdv (pc := 57) (k := 5) hg (by decide) (by omega) (v := (nI p)) (by rw [up_row, uw_ne (by omega)]; exact k5) dX9_eat_57 ?_
      refine WP.if_le (pc := 58) (tgt := 65) dX9_eat_58 (by decide) (fun h3 => ?_) (fun h3 => ?_)
      · have hp0 : p = 0 := Nat.eq_zero_of_not_pos fun q => nI_nle q (by omega) h3
        refine WP.iconst (pc := 65) (v := 0) dX9_eat_65 (by decide) ?_
        refine WP.isub (pc := 66) dX9_eat_66 ?_
        refine WP.iast (pc := 67) (k := 5) hg (by decide) (by omega) dX9_eat_67 ?_
        refine WP.vret (pc := 68) rfl dX9_eat_68 ?_
        exact fin _ (by rw [hp0, h0]; decide)
      · have hp0 : 0 < p := Nat.pos_of_ne_zero fun q => h3 (by rw [q]; decide)
        refine WP.iconst (pc := 61) (v := 1) dX9_eat_61 (by decide) ?_
        refine WP.goto (pc := 62) (tgt := 66) dX9_eat_62 (by decide) ?_
        refine WP.isub (pc := 66) dX9_eat_66 ?_
        refine WP.iast (pc := 67) (k := 5) hg (by decide) (by omega) dX9_eat_67 ?_
        refine WP.vret (pc := 68) rfl dX9_eat_68 ?_
        refine fin _ ?_
        unfold spN
        rw [if_neg (by omega), if_pos ⟨h0, hp0⟩, show (1 : Int32) = nI 1 from rfl, pk_sub (by omega)]
  · have h20 : 20 < C := Nat.not_le.mp fun q => h1 (nI_le (b := 20) q (by decide))
    refine WP.aload_n (pc := 23) dX9_eat_23 rfl ?_
    refine WP.iconst (pc := 24) (v := 5) dX9_eat_24 (by decide) ?_
    refine WP.dup2 (pc := 25) dX9_eat_25 rfl rfl ?_
    refine WP.ialdv (pc := 26) (k := 5) hg (by decide) (by omega) (v := (nI p)) (by rw [up_row, uw_ne (by omega)]; exact k5) dX9_eat_26 ?_
    refine WP.aload_n (pc := 27) dX9_eat_27 rfl ?_
    refine WP.iconst (pc := 28) (v := 5) dX9_eat_28 (by decide) ?_
    refine WP.ialdv (pc := 29) (k := 5) hg (by decide) (by omega) (v := (nI p)) (by rw [up_row, uw_ne (by omega)]; exact k5) dX9_eat_29 ?_
    refine WP.bipush (pc := 30) (v := 9) dX9_eat_30 (by decide) ?_
    refine WP.icmp_ge (pc := 32) (tgt := 39) dX9_eat_32 (by decide) (fun h3 => ?_) (fun h3 => ?_)
    · have hp9 : 9 ≤ p := (nI_leI (a := 9) (by decide) (by omega)).mp h3
      refine WP.iconst (pc := 39) (v := 0) dX9_eat_39 (by decide) ?_
      refine WP.iadd (pc := 40) dX9_eat_40 ?_
      refine WP.iast (pc := 41) (k := 5) hg (by decide) (by omega) dX9_eat_41 ?_
      refine WP.goto (pc := 42) (tgt := 68) dX9_eat_42 (by decide) ?_
      refine WP.vret (pc := 68) rfl dX9_eat_68 ?_
      refine fin _ ?_
      unfold spN
      rw [if_pos h20, if_neg (by omega), Int32.add_zero]
    · have hp9 : p < 9 := Nat.not_le.mp fun q => h3 (nI_le (a := 9) q (by omega))
      refine WP.iconst (pc := 35) (v := 1) dX9_eat_35 (by decide) ?_
      refine WP.goto (pc := 36) (tgt := 40) dX9_eat_36 (by decide) ?_
      refine WP.iadd (pc := 40) dX9_eat_40 ?_
      refine WP.iast (pc := 41) (k := 5) hg (by decide) (by omega) dX9_eat_41 ?_
      refine WP.goto (pc := 42) (tgt := 68) dX9_eat_42 (by decide) ?_
      refine WP.vret (pc := 68) rfl dX9_eat_68 ?_
      refine fin _ ?_
      unfold spN
      rw [if_pos h20, if_pos hp9, nI_1]
end T
