-- behind: 47
section T
variable (Γ : cG) {σ : cAS} {a m : Nat}
theorem CX9_goes (hg : aT σ a = (11, 380)) {b : Nat} {I : Nat → Nat → Int32} {s : mS} (h : gAt (I a) s) {i : Nat} {e : mCu} (he : s.2.2.2.1[i]? = some e) (why : Int32) : Ctr Γ (2, 49, 0, 0) MX9_goes [.ref b, .ref a, .int (nI i), .int why] (wI σ I) (rW σ (fun I' => frB I I' a ∧ gAt (I' a) (zup s.1 10 (s.1 10 + e.2.2.2.2.2.1), s.2.1, s.2.2.1, s.2.2.2.1.eraseIdx i, evAdd s.2.2.2.2 (3, e.2.1, why)))) := by
  have hi := gE_lt he
  have hl := h.2.2.2.1.2.1
  obtain ⟨c1, c2, c3, c4, c5, c6, c7⟩ := h.2.2.2.1.2.2 i e he
  refine Ctr.go rfl (by decide) rfl rfl ?_
  refine WP.iload_n (pc := 0) dX9_goes_0 rfl ?_
  refine WP.cS1 (pc := 1) (mc2 := 0) (ms2 := 0) kX9_111 (CX9_ofCustomer Γ i) rfl ⟨Nat.le_of_ble_eq_true rfl, Nat.le_of_ble_eq_true rfl⟩ (Nat.le_of_ble_eq_true rfl) (Nat.le_of_ble_eq_true rfl) (Nat.le_of_ble_eq_true rfl) rfl dX9_goes_1 ?_
  refine WP.istore (pc := 4) dX9_goes_4 (by decide) rfl ?_
  refine WP.aload_n (pc := 6) dX9_goes_6 rfl ?_
  refine WP.bipush (pc := 7) (v := 9) dX9_goes_7 (by decide) ?_
  refine WP.dup2 (pc := 9) dX9_goes_9 rfl rfl ?_
  refine WP.ialdv (pc := 10) (k := 9) hg (by decide) (by omega) (v := (s.1 10)) (h.1 10 (by omega)) dX9_goes_10 ?_
  refine WP.aload_n (pc := 11) dX9_goes_11 rfl ?_
  refine WP.iload (pc := 12) dX9_goes_12 rfl ?_
  refine WP.iconst (pc := 14) (v := 4) dX9_goes_14 (by decide) ?_
  refine WP.iaN (pc := 15) (b := 4) dX9_goes_15 ?_
  refine WP.ialdv (pc := 16) hg (by omega) (by omega) (v := (e.2.2.2.2.2.1)) (c5) dX9_goes_16 ?_
  refine WP.iadd (pc := 17) dX9_goes_17 ?_
  refine WP.iast (pc := 18) (k := 9) hg (by decide) (by omega) dX9_goes_18 ?_
  refine WP.aload_n (pc := 19) dX9_goes_19 rfl ?_
  refine WP.iconst (pc := 20) (v := 3) dX9_goes_20 (by decide) ?_
  refine WP.aload_n (pc := 21) dX9_goes_21 rfl ?_
  refine WP.iload (pc := 22) dX9_goes_22 rfl ?_
  refine WP.bipush (pc := 24) (v := 6) dX9_goes_24 (by decide) ?_
  refine WP.iaN (pc := 26) (b := 6) dX9_goes_26 ?_
  refine WP.ialdv (pc := 27) hg (by omega) (by omega) (v := (e.2.1)) (by rw [up_row, uw_ne (by omega)]; exact c7) dX9_goes_27 ?_
  refine WP.iload_n (pc := 28) dX9_goes_28 rfl ?_
  have h1 := h.z (j := 10) (by omega) (s.1 10 + e.2.2.2.2.2.1)
  rw [show uw (I a) (zIx 10) (s.1 10 + e.2.2.2.2.2.1) = up I a 9 (s.1 10 + e.2.2.2.2.2.1) a from (up_row _ _ _ _).symm] at h1
  refine WP.cSw (pc := 29) (mc2 := 0) (ms2 := 0) kX9_107 (CX9_tell Γ hg h1 3 e.2.1 why) rfl ⟨Nat.le_of_ble_eq_true rfl, Nat.le_of_ble_eq_true rfl⟩ (Nat.le_of_ble_eq_true rfl) (Nat.le_of_ble_eq_true rfl) (Nat.le_of_ble_eq_true rfl) rfl dX9_goes_29 (fun I1 ⟨f1, g1⟩ => ?_)
  refine WP.aload_n (pc := 32) dX9_goes_32 rfl ?_
  refine WP.iconst (pc := 33) (v := 2) dX9_goes_33 (by decide) ?_
  refine WP.bipush (pc := 34) (v := 40) dX9_goes_34 (by decide) ?_
  refine WP.bipush (pc := 36) (v := 7) dX9_goes_36 (by decide) ?_
  refine WP.iload_n (pc := 38) dX9_goes_38 rfl ?_
  obtain ⟨N, hN⟩ : ∃ N, s.2.2.2.1.length = N + 1 := ⟨s.2.2.2.1.length - 1, by omega⟩
  refine WP.cSw (pc := 39) (mc2 := 0) (ms2 := 0) kX9_78 (CX9_takeOut Γ hg 2 40 7 i N (by omega) (by omega) (by omega) (g1.2.2.2.1.1.trans (congrArg nI hN))) rfl ⟨Nat.le_of_ble_eq_true rfl, Nat.le_of_ble_eq_true rfl⟩ (Nat.le_of_ble_eq_true rfl) (Nat.le_of_ble_eq_true rfl) (Nat.le_of_ble_eq_true rfl) rfl dX9_goes_39 (fun I2 ⟨f2, g2⟩ => ?_)
  refine WP.vret (pc := 42) rfl dX9_goes_42 ?_
  have hrm := g1.2.2.2.1.rm (i := i) hi
  rw [show (s.2.2.2.1.length - 1) = N by omega, ← g2] at hrm
  have h3 := g1.cu (g' := I2 a) (fun k c1 c2 c3 => by rw [g2]; unfold tkR; rw [if_neg (by omega), if_neg (by omega)]) hrm
  exact ⟨rfl, I2, rfl, (frB.rf.up.trans f1).trans f2, h3⟩
def lpK (s : mS) (i : Nat) : List mCu := ((s.2.2.2.1.take i).filter (fun e => !dieP e)).map decP
def lpM (s : mS) (i : Nat) : mS := (zup s.1 10 (lpF s i).1, s.2.1, s.2.2.1, lpK s i ++ s.2.2.2.1.drop i, (lpF s i).2)
theorem lpM_0 (s : mS) : lpM s 0 = s := by
  show (zup s.1 10 (s.1 10), _) = _
  rw [zup_id]
  rfl
theorem lpM_full {s : mS} (hk : ∀ e ∈ s.2.2.2.1, e.2.1 ≠ -1) : lpM s s.2.2.2.1.length = lpOut s := by
  unfold lpM lpOut lpK
  rw [mkP_filter hk]
  simp
theorem cut_set {α : Type} (K l : List α) {i : Nat} (hi : i < l.length) (y : α) : (K ++ l.drop i).set K.length y = K ++ y :: l.drop (i + 1) := by
  rw [List.set_append, if_neg (by omega), Nat.sub_self, List.drop_eq_getElem_cons hi]
  rfl
theorem cut_er2 {α : Type} (K t : List α) (y : α) : (K ++ y :: t).eraseIdx K.length = K ++ t := by
  rw [List.eraseIdx_append_of_length_le (Nat.le_refl _), Nat.sub_self]
  rfl
theorem cut_get2 {α : Type} (K t : List α) (y : α) : (K ++ y :: t)[K.length]? = some y := by
  rw [List.getElem?_append_right (Nat.le_refl _), Nat.sub_self]
  rfl
theorem LX9_passHour (hm : shM σ m) (hg : aT σ a = (11, 380)) {s : mS} (hC : ∀ e ∈ s.2.2.2.1, inR e.2.2.2.2.2.2 1 99) {Φ : cRes → cAS → Prop} : ∀ n i (I : Nat → Nat → Int32), i + n = s.2.2.2.1.length → gAt (I a) (lpM s i) → (∀ I', frB I I' a → gAt (I' a) (lpM s s.2.2.2.1.length) → Φ (.inl none) (wI σ I')) →
    WP Γ (4, 95, 0, 0) MX9_passHour Φ 21 [some (.ref m), some (.ref a), some (.int (nI (lpK s i).length))] [] (wI σ I) := by
  intro n
  induction n with
  | zero =>
    intro i I hi h H
    have hil : i = s.2.2.2.1.length := by omega
    have hc : I a 2 = nI (lpK s i).length := by
      rw [h.2.2.2.1.1]
      unfold lpM
      rw [List.drop_of_length_le (by omega), List.append_nil]
    refine WP.iload_n (pc := 21) dX9_passHour_21 rfl ?_
    refine WP.aload_n (pc := 22) dX9_passHour_22 rfl ?_
    refine WP.iconst (pc := 23) (v := 2) dX9_passHour_23 (by decide) ?_
    refine WP.ialdv (pc := 24) (k := 2) hg (by decide) (by omega) (v := (nI (lpK s i).length)) (hc) dX9_passHour_24 ?_
    refine WP.icmp_ge (pc := 25) (tgt := 67) dX9_passHour_25 (by decide) (fun h1 => ?_) (fun h1 => ?_)
    · skip
      refine WP.vret (pc := 67) rfl dX9_passHour_67 ?_
      rw [hil] at h
      exact H I frB.rf h
    · exact absurd (Int32.le_refl _) h1
  | succ n ih =>
    intro i I hi h H
    obtain ⟨e, he⟩ : ∃ e, s.2.2.2.1[i]? = some e := ⟨s.2.2.2.1[i]'(by omega), List.getElem?_eq_getElem (by omega)⟩
    have hm0 : (lpM s i).2.2.2.1[(lpK s i).length]? = some e := (cut_get _ _ i).trans he
    have hlt := gE_lt hm0
    have h10 := h.2.2.2.1.2.1
    have hc := h.2.2.2.1.1
    obtain ⟨b1, b2, b3, b4, b5, b6, b7⟩ := h.2.2.2.1.2.2 _ e hm0
    obtain ⟨v, hv, v1, v2⟩ := hC e (List.mem_of_getElem? he)
    obtain ⟨w, rfl⟩ : ∃ w, v = w + 1 := ⟨v - 1, by omega⟩
    have ht := tk_app he
    generalize hN : (lpM s i).2.2.2.1.length = N at hlt h10 hc
    rw [hv] at b6
    refine WP.iload_n (pc := 21) dX9_passHour_21 rfl ?_
    refine WP.aload_n (pc := 22) dX9_passHour_22 rfl ?_
    refine WP.iconst (pc := 23) (v := 2) dX9_passHour_23 (by decide) ?_
    refine WP.ialdv (pc := 24) (k := 2) hg (by decide) (by omega) (v := (nI N)) (hc) dX9_passHour_24 ?_
    refine WP.icmp_ge (pc := 25) (tgt := 67) dX9_passHour_25 (by decide) (fun h1 => ?_) (fun h1 => ?_)
    · exact absurd h1 (nI_ge (by omega) (by omega))
    · refine WP.aload_n (pc := 28) dX9_passHour_28 rfl ?_
      refine WP.iload_n (pc := 29) dX9_passHour_29 rfl ?_
      refine WP.cS1 (pc := 30) (mc2 := 0) (ms2 := 0) kX9_111 (CX9_ofCustomer Γ (lpK s i).length) rfl ⟨Nat.le_of_ble_eq_true rfl, Nat.le_of_ble_eq_true rfl⟩ (Nat.le_of_ble_eq_true rfl) (Nat.le_of_ble_eq_true rfl) (Nat.le_of_ble_eq_true rfl) rfl dX9_passHour_30 ?_
      refine WP.iconst (pc := 33) (v := 5) dX9_passHour_33 (by decide) ?_
      refine WP.iaN (pc := 34) (b := 5) dX9_passHour_34 ?_
      refine WP.dup2 (pc := 35) dX9_passHour_35 rfl rfl ?_
      refine WP.ialdv (pc := 36) hg (by omega) (by omega) (v := (nI (w + 1))) (b6) dX9_passHour_36 ?_
      refine WP.iconst (pc := 37) (v := 1) dX9_passHour_37 (by decide) ?_
      refine WP.isub (pc := 38) dX9_passHour_38 ?_
      rw [nI_pred]
      refine WP.iast (pc := 39) hg (by omega) (by omega) dX9_passHour_39 ?_
      refine WP.aload_n (pc := 40) dX9_passHour_40 rfl ?_
      refine WP.iload_n (pc := 41) dX9_passHour_41 rfl ?_
      refine WP.cS1 (pc := 42) (mc2 := 0) (ms2 := 0) kX9_111 (CX9_ofCustomer Γ (lpK s i).length) rfl ⟨Nat.le_of_ble_eq_true rfl, Nat.le_of_ble_eq_true rfl⟩ (Nat.le_of_ble_eq_true rfl) (Nat.le_of_ble_eq_true rfl) (Nat.le_of_ble_eq_true rfl) rfl dX9_passHour_42 ?_
      refine WP.iconst (pc := 45) (v := 5) dX9_passHour_45 (by decide) ?_
      refine WP.iaN (pc := 46) (b := 5) dX9_passHour_46 ?_
      refine WP.ialdv (pc := 47) hg (by omega) (by omega) (v := (nI w)) (by rw [up_row]; exact uw_at rfl) dX9_passHour_47 ?_
      have hd : decP e = (e.1, e.2.1, e.2.2.1, e.2.2.2.1, e.2.2.2.2.1, e.2.2.2.2.2.1, nI w) := by unfold decP; rw [hv, nI_pred]
      have hset : (lpM s i).2.2.2.1.set (lpK s i).length (decP e) = lpK s i ++ decP e :: s.2.2.2.1.drop (i + 1) := cut_set _ _ (by omega) _
      have h2 : gAt (up I a (40 + 7 * (lpK s i).length + 5) (nI w) a) ((lpM s i).1, (lpM s i).2.1, (lpM s i).2.2.1, lpK s i ++ decP e :: s.2.2.2.1.drop (i + 1), (lpM s i).2.2.2.2) := by
        rw [← hset, up_row]
        refine h.cu (fun k c1 c2 c3 => by simp (disch := omega) only [uw_ne]) (h.2.2.2.1.set ?_ (fun k c => by simp (disch := omega) only [uw_ne]))
        rw [hd]
        refine ⟨?_, ?_, ?_, ?_, ?_, ?_, ?_⟩ <;> simp (disch := omega) only [uw_ne, uw_at] <;> assumption
      refine WP.if_ne (pc := 48) (tgt := 61) dX9_passHour_48 (by decide) (fun h3 => ?_) (fun h3 => ?_)
      · have hw : w ≠ 0 := fun q => h3 (by rw [q]; rfl)
        have hp : dieP e = false := by unfold dieP; rw [hv, nI_pred]; exact decide_eq_false (nI_nle (by omega) (by omega))
        have hp2 : ¬ e.2.2.2.2.2.2 - 1 ≤ 0 := by rw [hv, nI_pred]; exact nI_nle (by omega) (by omega)
        have hf : lpK s (i + 1) = lpK s i ++ [decP e] := by unfold lpK; rw [ht, List.filter_append]; simp [hp]
        have hfl : (lpK s (i + 1)).length = (lpK s i).length + 1 := by rw [hf]; simp
        refine WP.iinc (pc := 61) dX9_passHour_61 rfl (nI_1 _) (by decide) rfl ?_
        refine WP.goto (pc := 64) (tgt := 21) dX9_passHour_64 (by decide) ?_
        rw [← hfl]
        refine ih (i + 1) _ (by omega) ?_ (fun I' f3 g3 => H I' (frB.rf.up.trans f3) g3)
        have e1 : lpF s (i + 1) = lpF s i := by simp [lpF, he, hp2]
        unfold lpM
        rw [e1, hf, List.append_assoc]
        exact h2
      · have hw : w = 0 := (nI_eq (b := 0) (by omega) (by decide)).mp h3
        have hp : dieP e = true := by unfold dieP; rw [hv, nI_pred, hw]; rfl
        have hp2 : e.2.2.2.2.2.2 - 1 ≤ 0 := by rw [hv, nI_pred, hw]; decide
        have hf : lpK s (i + 1) = lpK s i := by unfold lpK; rw [ht, List.filter_append]; simp [hp]
        refine WP.aload_n (pc := 51) dX9_passHour_51 rfl ?_
        refine WP.aload_n (pc := 52) dX9_passHour_52 rfl ?_
        refine WP.iload_n (pc := 53) dX9_passHour_53 rfl ?_
        refine WP.iconst (pc := 54) (v := 1) dX9_passHour_54 (by decide) ?_
        refine WP.cVw (pc := 55) (mc2 := 0) (ms2 := 0) (ci := 9) kX9_148 (CX9_goes Γ hg h2 (e := decP e) (cut_get2 _ _ _) 1) (by decide) rfl hm.t0 rfl ⟨Nat.le_of_ble_eq_true rfl, Nat.le_of_ble_eq_true rfl⟩ (Nat.le_of_ble_eq_true rfl) (Nat.le_of_ble_eq_true rfl) (Nat.le_of_ble_eq_true rfl) rfl dX9_passHour_55 (fun I1 ⟨f1, g1⟩ => ?_)
        refine WP.goto (pc := 58) (tgt := 21) dX9_passHour_58 (by decide) ?_
        rw [← hf]
        refine ih (i + 1) _ (by omega) ?_ (fun I' f3 g3 => H I' ((frB.rf.up.trans f1).trans f3) g3)
        have e1 : lpF s (i + 1) = ((lpF s i).1 + e.2.2.2.2.2.1, evAdd (lpF s i).2 (3, e.2.1, 1)) := by simp [lpF, he, hp2]
        rw [cut_er2] at g1
        unfold lpM
        rw [e1, hf]
        refine gAt.ofz g1 ?_
        funext j
        show (if j = 10 then zup s.1 10 (lpF s i).1 10 + e.2.2.2.2.2.1 else zup s.1 10 (lpF s i).1 j) = if j = 10 then (lpF s i).1 + e.2.2.2.2.2.1 else s.1 j
        by_cases q : j = 10
        · rw [if_pos q, if_pos q]
          rfl
        · rw [if_neg q, if_neg q]
          exact if_neg q
theorem CX9_passHour (hm : shM σ m) (hg : aT σ a = (11, 380)) {I : Nat → Nat → Int32} {s : mS} (h : gAt (I a) s) {T C : Nat} (hT : T ≤ 2147483647) (hCb : C + 300 < 2147483648) (hw : wf T C s) : Ctr Γ (4, 95, 0, 0) MX9_passHour [.ref m, .ref a] (wI σ I) (rW σ (fun I' => frB I I' a ∧ gAt (I' a) (hrOut s))) := by
  have w1 := hr1_wf hw
  have w2 := ovOut_wf w1
  have w3 := stOut_wf (by decide) w2
  have w4 := spEat_wf hCb w3
  refine Ctr.go rfl (by decide) rfl rfl ?_
  refine WP.aload_n (pc := 0) dX9_passHour_0 rfl ?_
  refine WP.iconst (pc := 1) (v := 0) dX9_passHour_1 (by decide) ?_
  refine WP.dup2 (pc := 2) dX9_passHour_2 rfl rfl ?_
  refine WP.ialdv (pc := 3) (k := 0) hg (by decide) (by omega) (v := (s.1 3)) (h.1 3 (by omega)) dX9_passHour_3 ?_
  refine WP.iconst (pc := 4) (v := 1) dX9_passHour_4 (by decide) ?_
  refine WP.iadd (pc := 5) dX9_passHour_5 ?_
  refine WP.iast (pc := 6) (k := 0) hg (by decide) (by omega) dX9_passHour_6 ?_
  refine WP.aload_n (pc := 7) dX9_passHour_7 rfl ?_
  have h0 := h.z (j := 3) (by omega) (s.1 3 + 1)
  rw [show uw (I a) (zIx 3) (s.1 3 + 1) = up I a 0 (s.1 3 + 1) a from (up_row _ _ _ _).symm] at h0
  refine WP.cSw (pc := 8) (mc2 := 0) (ms2 := 0) kX9_155 (CX9_bakeOn Γ hg (s := hr1 s) h0 w1.2.1.2 (hrOut_cap hw)) rfl ⟨Nat.le_of_ble_eq_true rfl, Nat.le_of_ble_eq_true rfl⟩ (Nat.le_of_ble_eq_true rfl) (Nat.le_of_ble_eq_true rfl) (Nat.le_of_ble_eq_true rfl) rfl dX9_passHour_8 (fun I1 ⟨f1, g1⟩ => ?_)
  refine WP.aload_n (pc := 11) dX9_passHour_11 rfl ?_
  refine WP.cSw (pc := 12) (mc2 := 0) (ms2 := 0) kX9_159 (CX9_clear Γ hg g1 (fun e he => rsOk.of w2.1 (by decide) (w2.2.2.2.1.1 e he)) (fun e he => (w2.2.2.2.1.1 e he).kind)) rfl ⟨Nat.le_of_ble_eq_true rfl, Nat.le_of_ble_eq_true rfl⟩ (Nat.le_of_ble_eq_true rfl) (Nat.le_of_ble_eq_true rfl) (Nat.le_of_ble_eq_true rfl) rfl dX9_passHour_12 (fun I2 ⟨f2, g2⟩ => ?_)
  refine WP.aload_n (pc := 15) dX9_passHour_15 rfl ?_
  obtain ⟨c, hc, -, hc2⟩ := w3.1.2.1
  obtain ⟨p, hp, -, hp2⟩ := w3.1.2.2.1
  refine WP.cSw (pc := 16) (mc2 := 0) (ms2 := 0) kX9_162 (CX9_eat Γ hg g2 hc hp (by omega) hp2) rfl ⟨Nat.le_of_ble_eq_true rfl, Nat.le_of_ble_eq_true rfl⟩ (Nat.le_of_ble_eq_true rfl) (Nat.le_of_ble_eq_true rfl) (Nat.le_of_ble_eq_true rfl) rfl dX9_passHour_16 (fun I3 ⟨f3, g3⟩ => ?_)
  refine WP.iconst (pc := 19) (v := 0) dX9_passHour_19 (by decide) ?_
  refine WP.istore_n (pc := 20) dX9_passHour_20 (by decide) rfl ?_
  refine LX9_passHour Γ hm hg (s := (spEat (stOut (ovOut (hr1 s))).1, (stOut (ovOut (hr1 s))).2)) (fun e he => (w4.2.2.2.2.1.2 e he).2.2.2.2.2.2) _ 0 I3 (Nat.zero_add _) (by rw [lpM_0]; exact g3) (fun I' f4 g4 => ⟨rfl, I', rfl, (((frB.rf.up.trans f1).trans f2).trans f3).trans f4, ?_⟩)
  rw [lpM_full (fun e he => (w4.2.2.2.2.1.2 e he).tk hT)] at g4
  exact g4
theorem LX9_passMany (hm : shM σ m) (hg : aT σ a = (11, 380)) {N T : Nat} (hN : N ≤ 1000) (hT : T ≤ 2147483647) {Φ : cRes → cAS → Prop} : ∀ n i (I : Nat → Nat → Int32) (s : mS) (C : Nat), i + n = N → gAt (I a) s → C + 300 * n < 2147483648 → wf T C s → (∀ I', frB I I' a → gAt (I' a) (hrsN n s) → Φ (.inl none) (wI σ I')) →
    WP Γ (5, 117, 0, 0) MX9_passMany Φ 2 [some (.ref m), some (.ref a), some (.int (nI N)), some (.int (nI i))] [] (wI σ I) := by
  intro n
  induction n with
  | zero =>
    intro i I s C hi h hC hw H
    refine WP.iload_n (pc := 2) dX9_passMany_2 rfl ?_
    refine WP.iload_n (pc := 3) dX9_passMany_3 rfl ?_
    refine WP.icmp_ge (pc := 4) (tgt := 18) dX9_passMany_4 (by decide) (fun h1 => ?_) (fun h1 => ?_)
    · skip
      refine WP.vret (pc := 18) rfl dX9_passMany_18 ?_
      exact H I frB.rf h
    · exact absurd (by rw [show i = N by omega]; exact Int32.le_refl _) h1
  | succ n ih =>
    intro i I s C hi h hC hw H
    refine WP.iload_n (pc := 2) dX9_passMany_2 rfl ?_
    refine WP.iload_n (pc := 3) dX9_passMany_3 rfl ?_
    refine WP.icmp_ge (pc := 4) (tgt := 18) dX9_passMany_4 (by decide) (fun h1 => ?_) (fun h1 => ?_)
    · exact absurd h1 (nI_ge (by omega) (by omega))
    · have e3 : C + 300 * (n + 1) = C + 300 + 300 * n := by rw [Nat.mul_succ, Nat.add_comm (300 * n), ← Nat.add_assoc]
      rw [e3] at hC
      have hC1 := Nat.lt_of_le_of_lt (Nat.le_add_right _ _) hC
      refine WP.aload_n (pc := 7) dX9_passMany_7 rfl ?_
      refine WP.aload_n (pc := 8) dX9_passMany_8 rfl ?_
      refine WP.cVw (pc := 9) (mc2 := 0) (ms2 := 0) (ci := 9) kX9_165 (CX9_passHour Γ hm hg h hT (C := C) hC1 hw) (by decide) rfl hm.t0 rfl ⟨Nat.le_of_ble_eq_true rfl, Nat.le_of_ble_eq_true rfl⟩ (Nat.le_of_ble_eq_true rfl) (Nat.le_of_ble_eq_true rfl) (Nat.le_of_ble_eq_true rfl) rfl dX9_passMany_9 (fun I1 ⟨f1, g1⟩ => ?_)
      refine WP.iinc (pc := 12) dX9_passMany_12 rfl (nI_1 _) (by decide) rfl ?_
      refine WP.goto (pc := 15) (tgt := 2) dX9_passMany_15 (by decide) ?_
      exact ih (i + 1) I1 (hrOut s) (C + 300) (by omega) g1 hC (hrOut_wf hT hC1 hw) (fun I' f2 g2 => H I' (f1.trans f2) g2)
theorem CX9_passMany (hm : shM σ m) (hg : aT σ a = (11, 380)) {n T C : Nat} (hN : n ≤ 1000) (hT : T ≤ 2147483647) {I : Nat → Nat → Int32} {s : mS} (h : gAt (I a) s) (hC : C + 300 * n < 2147483648) (hw : wf T C s) : Ctr Γ (5, 117, 0, 0) MX9_passMany [.ref m, .ref a, .int (nI n)] (wI σ I) (rW σ (fun I' => frB I I' a ∧ gAt (I' a) (hrsN n s))) := by
  refine Ctr.go rfl (by decide) rfl rfl ?_
  refine WP.iconst (pc := 0) (v := 0) dX9_passMany_0 (by decide) ?_
  refine WP.istore_n (pc := 1) dX9_passMany_1 (by decide) rfl ?_
  exact LX9_passMany Γ hm hg hN hT n 0 I s C (by omega) h hC hw (fun I' f1 g1 => ⟨rfl, I', rfl, f1, g1⟩)
-- bids, by falling limits
theorem CX9_bidsOf (hg : aT σ a = (11, 380)) {I : Nat → Nat → Int32} {s : mS} (h : gAt (I a) s) {i T : Nat} {e : mCu} (he : s.2.2.2.1[i]? = some e) (ho : okC T e) : Ctr Γ (1, 20, 0, 0) MX9_bidsOf [.ref a, .int (nI i)] (wI σ I) (rV (some (.int (bdI e e.2.2.1))) (wI σ I)) := by
  have hi := gE_lt he
  have hl := h.2.2.2.1.2.1
  obtain ⟨c1, c2, c3, c4, c5, c6, c7⟩ := h.2.2.2.1.2.2 i e he
  obtain ⟨l, hl1, hl2, hl3⟩ := ho.2.2.2.2.1
  refine Ctr.go rfl (by decide) rfl rfl ?_
  refine WP.iload_n (pc := 0) dX9_bidsOf_0 rfl ?_
  refine WP.cS1 (pc := 1) (mc2 := 0) (ms2 := 0) kX9_111 (CX9_ofCustomer Γ i) rfl ⟨Nat.le_of_ble_eq_true rfl, Nat.le_of_ble_eq_true rfl⟩ (Nat.le_of_ble_eq_true rfl) (Nat.le_of_ble_eq_true rfl) (Nat.le_of_ble_eq_true rfl) rfl dX9_bidsOf_1 ?_
  refine WP.istore_n (pc := 4) dX9_bidsOf_4 (by decide) rfl ?_
  refine WP.aload_n (pc := 5) dX9_bidsOf_5 rfl ?_
  refine WP.iload_n (pc := 6) dX9_bidsOf_6 rfl ?_
  refine WP.iconst (pc := 7) (v := 4) dX9_bidsOf_7 (by decide) ?_
  refine WP.iaN (pc := 8) (b := 4) dX9_bidsOf_8 ?_
  refine WP.ialdv (pc := 9) hg (by omega) (by omega) (v := (e.2.2.2.2.2.1)) (c5) dX9_bidsOf_9 ?_
  refine WP.aload_n (pc := 10) dX9_bidsOf_10 rfl ?_
  refine WP.iload_n (pc := 11) dX9_bidsOf_11 rfl ?_
  refine WP.iconst (pc := 12) (v := 3) dX9_bidsOf_12 (by decide) ?_
  refine WP.iaN (pc := 13) (b := 3) dX9_bidsOf_13 ?_
  refine WP.ialdv (pc := 14) hg (by omega) (by omega) (v := (e.2.2.2.2.1)) (c4) dX9_bidsOf_14 ?_
  refine WP.idiv (pc := 15) dX9_bidsOf_15 (by rw [hl1]; exact nI_ne0 (by omega) (by omega)) ?_
  refine WP.istore_n (pc := 16) dX9_bidsOf_16 (by decide) rfl ?_
  refine WP.iload_n (pc := 17) dX9_bidsOf_17 rfl ?_
  refine WP.aload_n (pc := 18) dX9_bidsOf_18 rfl ?_
  refine WP.iload_n (pc := 19) dX9_bidsOf_19 rfl ?_
  refine WP.iconst (pc := 20) (v := 2) dX9_bidsOf_20 (by decide) ?_
  refine WP.iaN (pc := 21) (b := 2) dX9_bidsOf_21 ?_
  refine WP.ialdv (pc := 22) hg (by omega) (by omega) (v := (e.2.2.2.1)) (c3) dX9_bidsOf_22 ?_
  unfold bdI
  rw [if_pos rfl]
  refine WP.icmp_ge (pc := 23) (tgt := 30) dX9_bidsOf_23 (by decide) (fun h1 => ?_) (fun h1 => ?_)
  · rw [if_neg (Int32.not_lt.mpr h1)]
    refine WP.aload_n (pc := 30) dX9_bidsOf_30 rfl ?_
    refine WP.iload_n (pc := 31) dX9_bidsOf_31 rfl ?_
    refine WP.iconst (pc := 32) (v := 2) dX9_bidsOf_32 (by decide) ?_
    refine WP.iaN (pc := 33) (b := 2) dX9_bidsOf_33 ?_
    refine WP.ialdv (pc := 34) hg (by omega) (by omega) (v := (e.2.2.2.1)) (c3) dX9_bidsOf_34 ?_
    refine WP.iret (pc := 35) rfl dX9_bidsOf_35 ?_
    exact ⟨rfl, rfl⟩
  · rw [if_pos (Int32.not_le.mp h1)]
    refine WP.iload_n (pc := 26) dX9_bidsOf_26 rfl ?_
    refine WP.goto (pc := 27) (tgt := 35) dX9_bidsOf_27 (by decide) ?_
    refine WP.iret (pc := 35) rfl dX9_bidsOf_35 ?_
    exact ⟨rfl, rfl⟩
end T
def gbI (l : List mCu) (k v : Int32) : Nat → List mBd
  | 0 => []
  | i + 1 => match l[i]? with
    | some e => if e.2.2.1 = k ∧ e.2.2.2.2.1 = v then gbI l k v i ++ List.replicate (bdN e k) (nI i, v) else gbI l k v i
    | none => gbI l k v i
def gbT (l : List mCu) (k : Int32) (i : Nat) : Nat → List mBd
  | 0 => []
  | t + 1 => gbT l k i t ++ gbI l k (nI (99 - t)) i
theorem gbI_2 {l : List mCu} {k v : Int32} : ∀ {i : Nat} {y : mBd}, y ∈ gbI l k v i → y.2 = v := by
  intro i
  induction i with
  | zero => intro y h; cases h
  | succ i ih =>
    intro y h
    simp only [gbI] at h
    split at h
    · split at h
      · rcases List.mem_append.mp h with q | q
        · exact ih q
        · rw [List.eq_of_mem_replicate q]
      · exact ih h
    · exact ih h
theorem gbT_2 {l : List mCu} {k : Int32} {i : Nat} : ∀ {t : Nat} {y : mBd}, y ∈ gbT l k i t → ∃ u, u < t ∧ y.2 = nI (99 - u) := by
  intro t
  induction t with
  | zero => intro y h; cases h
  | succ t ih =>
    intro y h
    rcases List.mem_append.mp h with q | q
    · obtain ⟨u, h1, h2⟩ := ih q
      exact ⟨u, by omega, h2⟩
    · exact ⟨t, by omega, gbI_2 q⟩
theorem loB_nil {l : List mBd} {v : Int32} (h : ∀ y ∈ l, ¬ y.2 < v) : loB l v = [] ∧ hiB l v = l := by
  unfold loB hiB
  constructor
  · exact List.filter_eq_nil_iff.mpr fun y hy => by simpa using h y hy
  · exact List.filter_eq_self.mpr fun y hy => by simpa using h y hy
theorem hiB_nil {l : List mBd} {v : Int32} (h : ∀ y ∈ l, y.2 < v) : hiB l v = [] ∧ loB l v = l := by
  unfold loB hiB
  constructor
  · exact List.filter_eq_nil_iff.mpr fun y hy => by simpa using h y hy
  · exact List.filter_eq_self.mpr fun y hy => by simpa using h y hy
theorem hiB_app (l l' : List mBd) (v : Int32) : hiB (l ++ l') v = hiB l v ++ hiB l' v := List.filter_append ..
theorem loB_app (l l' : List mBd) (v : Int32) : loB (l ++ l') v = loB l v ++ loB l' v := List.filter_append ..
theorem bdN_ne {e : mCu} {k : Int32} (h : ¬ e.2.2.1 = k) : bdN e k = 0 := by
  unfold bdN bdI
  rw [if_neg h]
  rfl
theorem gbT_ins {l : List mCu} {k : Int32} {i L : Nat} {e : mCu} (he : l[i]? = some e) (hL : e.2.2.2.2.1 = nI L) (h1 : 1 ≤ L) (h9 : L ≤ 99) : ∀ t, t ≤ 99 → gbT l k (i + 1) t = if 99 - t < L then insM (gbT l k i t) (nI i, nI L) (bdN e k) else gbT l k i t := by
  intro t
  induction t with
  | zero =>
    intro _
    rw [if_neg (by omega)]
    rfl
  | succ t ih =>
    intro ht
    have ih := ih (by omega)
    have hlo : ∀ y ∈ gbI l k (nI (99 - t)) i, y.2 = nI (99 - t) := fun y hy => gbI_2 hy
    have hs : gbI l k (nI (99 - t)) (i + 1) = if e.2.2.1 = k ∧ nI L = nI (99 - t) then gbI l k (nI (99 - t)) i ++ List.replicate (bdN e k) (nI i, nI (99 - t)) else gbI l k (nI (99 - t)) i := by simp only [gbI, he, hL]
    show gbT l k (i + 1) t ++ gbI l k (nI (99 - t)) (i + 1) = if 99 - (t + 1) < L then insM (gbT l k i t ++ gbI l k (nI (99 - t)) i) (nI i, nI L) (bdN e k) else gbT l k i t ++ gbI l k (nI (99 - t)) i
    rw [ih, hs]
    have hE : nI L = nI (99 - t) ↔ L = 99 - t := nI_eq (by omega) (by omega)
    rcases Nat.lt_trichotomy L (99 - t) with q | q | q
    · rw [if_neg (show ¬ 99 - t < L by omega), if_neg (show ¬ 99 - (t + 1) < L by omega), if_neg (show ¬ (e.2.2.1 = k ∧ nI L = nI (99 - t)) from fun z => by have := hE.mp z.2; omega)]
    · have hA : ∀ y ∈ gbT l k i t, ¬ y.2 < nI L := fun y hy => by
        obtain ⟨u, h2, h3⟩ := gbT_2 hy
        rw [h3]
        exact nI_nlt (by omega) (by omega)
      have hB : ∀ y ∈ gbI l k (nI (99 - t)) i, ¬ y.2 < nI L := fun y hy => by
        rw [hlo y hy]
        exact nI_nlt (by omega) (by omega)
      rw [if_neg (show ¬ 99 - t < L by omega), if_pos (show 99 - (t + 1) < L by omega)]
      unfold insM
      dsimp only
      rw [hiB_app, loB_app, (loB_nil hA).1, (loB_nil hA).2, (loB_nil hB).1, (loB_nil hB).2, List.append_nil, List.append_nil]
      by_cases hk : e.2.2.1 = k
      · rw [if_pos ⟨hk, hE.mpr q⟩, ← q, List.append_assoc]
      · rw [if_neg (fun z => hk z.1), bdN_ne hk, List.replicate_zero, List.append_nil]
    · have hB : ∀ y ∈ gbI l k (nI (99 - t)) i, y.2 < nI L := fun y hy => by
        rw [hlo y hy]
        exact nI_lt (by omega) (by omega)
      rw [if_pos (show 99 - t < L by omega), if_pos (show 99 - (t + 1) < L by omega), if_neg (show ¬ (e.2.2.1 = k ∧ nI L = nI (99 - t)) from fun z => by have := hE.mp z.2; omega)]
      unfold insM
      dsimp only
      rw [hiB_app, loB_app, (hiB_nil hB).1, (hiB_nil hB).2, List.append_nil, List.append_assoc, List.append_assoc]
theorem gbT_bdF {l : List mCu} {k : Int32} {T : Nat} (hok : ∀ e ∈ l, okC T e) : ∀ i, i ≤ l.length → gbT l k i 99 = bdF l k i := by
  intro i
  induction i with
  | zero =>
    intro _
    have : ∀ t, gbT l k 0 t = [] := fun t => by
      induction t with
      | zero => rfl
      | succ t ih => show gbT l k 0 t ++ [] = []; rw [ih]; rfl
    exact this 99
  | succ i ih =>
    intro hi
    obtain ⟨e, he⟩ : ∃ e, l[i]? = some e := ⟨l[i]'(by omega), List.getElem?_eq_getElem (by omega)⟩
    obtain ⟨L, hL1, hL2, hL3⟩ := (hok e (List.mem_of_getElem? he)).2.2.2.2.1
    rw [gbT_ins he hL1 hL2 hL3 99 (Nat.le_refl _), if_pos (by omega), ih (by omega)]
    simp only [bdF, he, hL1]
