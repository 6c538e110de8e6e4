-- behind: 51
section T
variable (Γ : cG) {σ : cAS} {a m : Nat}
def cutL (L Lm : List mLf) (d : Nat) : List mLf := L.take d ++ (Lm.drop d).filter pK
theorem cutL_full {L Lm : List mLf} {d : Nat} (hl : Lm.length = L.length) (hd : L.length ≤ d) : cutL L Lm d = L := by
  unfold cutL
  rw [List.take_of_length_le hd, List.drop_of_length_le (by omega)]
  simp
theorem cutL_0 {L Lm : List mLf} : cutL L Lm 0 = Lm.filter pK := by
  unfold cutL
  simp
theorem cutL_keep {L Lm : List mLf} {d : Nat} {e : mLf} (h1 : L[d]? = some e) (h2 : Lm[d]? = some e) (hk : e.1 ≠ -1) : cutL L Lm d = cutL L Lm (d + 1) := by
  unfold cutL
  obtain ⟨w1, w2⟩ := List.getElem?_eq_some_iff.mp h2
  rw [tk_app h1, List.drop_eq_getElem_cons w1, w2, List.filter_cons, if_pos (by simp [pK, hk]), List.append_assoc]
  rfl
theorem cutL_out {L Lm : List mLf} {d : Nat} {e e' : mLf} (h1 : L[d]? = some e) (h2 : Lm[d]? = some e') (hk : e'.1 = -1) : (cutL L Lm (d + 1)).eraseIdx d = cutL L Lm d := by
  unfold cutL
  obtain ⟨w1, w2⟩ := List.getElem?_eq_some_iff.mp h2
  have hlen : (L.take d).length = d := by
    rw [List.length_take]
    have := gE_lt h1
    omega
  rw [tk_app h1, List.drop_eq_getElem_cons w1, w2, List.filter_cons, if_neg (by simp [pK, hk]), List.append_assoc, List.eraseIdx_append_of_length_le (by omega), hlen, Nat.sub_self]
  rfl
theorem cutL_len {L Lm : List mLf} {d : Nat} (hd : d ≤ L.length) : d ≤ (cutL L Lm d).length := by
  unfold cutL
  rw [List.length_append, List.length_take]
  omega
theorem LX9_tr122 (hm : shM σ m) (hg : aT σ a = (11, 380)) (ha : a ≠ m ∧ a ≠ m + 7 ∧ a ≠ m + 8 ∧ a ≠ m + 9) {k : Int32} {u : mS} {L : List mLf} (hlen : u.2.2.1.length = L.length) (hL : L.length ≤ 60) (hk : ∀ (j : Nat) (e' : mLf), u.2.2.1[j]? = some e' → ∃ e : mLf, L[j]? = some e ∧ e.1 ≠ -1 ∧ (e' = e ∨ e'.1 = -1)) {z : Nat → Int32} {Φ : cRes → cAS → Prop} : ∀ d (I : Nat → Nat → Int32), d ≤ 60 → sdR I m u → gAt (I a) (z, u.2.1, cutL L u.2.2.1 d, u.2.2.2) →
    (∀ I', frB I I' a → gAt (I' a) (z, u.2.1, u.2.2.1.filter pK, u.2.2.2) → WP Γ (1, 25, 0, 0) MX9_trade Φ 150 [some (.ref m), some (.ref a), some (.int k), none, none] [] (wI σ I')) →
    WP Γ (1, 25, 0, 0) MX9_trade Φ 122 [some (.ref m), some (.ref a), some (.int k), some (.int (nI d + Int32.ofInt (-1))), none] [] (wI σ I) := by
  intro d
  induction d with
  | zero =>
    intro I hd hs h H
    refine WP.iload_n (pc := 122) dX9_trade_122 rfl ?_
    refine WP.if_lt (pc := 123) (tgt := 150) dX9_trade_123 (by decide) (fun h1 => ?_) (fun h1 => ?_)
    · refine WP.drop 3 (H I frB.rf ?_)
      rw [← cutL_0 (L := L)]
      exact h
    · exact absurd (by decide) h1
  | succ d ih =>
    intro I hd hs h H
    have e1 : nI (d + 1) + Int32.ofInt (-1) = nI d := pk_m1 d
    rw [e1]
    have next : ∀ I', frB I I' a → gAt (I' a) (z, u.2.1, cutL L u.2.2.1 d, u.2.2.2) → WP Γ (1, 25, 0, 0) MX9_trade Φ 144 [some (.ref m), some (.ref a), some (.int k), some (.int (nI d)), none] [] (wI σ I') := fun I' f g => by
      refine WP.iinc (pc := 144) dX9_trade_144 rfl rfl (by decide) rfl ?_
      refine WP.goto (pc := 147) (tgt := 122) dX9_trade_147 (by decide) ?_
      refine ih I' (by omega) ?_ g (fun I2 f2 => H I2 (f.trans f2))
      unfold sdR
      rw [f (m + 9) (fun q => ha.2.2.2 q.symm)]
      exact hs
    refine WP.iload_n (pc := 122) dX9_trade_122 rfl ?_
    refine WP.if_lt (pc := 123) (tgt := 150) dX9_trade_123 (by decide) (fun h1 => ?_) (fun h1 => ?_)
    · exact absurd h1 (nI_pos (by omega))
    · refine WP.aload_n (pc := 126) dX9_trade_126 rfl ?_
      refine WP.gR (pc := 127) uX9 fX9_35 hm.t0 hm.r0_15 dX9_trade_127 ?_
      refine WP.iload_n (pc := 130) dX9_trade_130 rfl ?_
      refine WP.zald (pc := 131) hm.t9 (by omega) (by decide) dX9_trade_131 ?_
      rcases Nat.lt_or_ge d L.length with q | q
      · obtain ⟨e', he'⟩ : ∃ e', u.2.2.1[d]? = some e' := ⟨u.2.2.1[d]'(by omega), List.getElem?_eq_getElem (by omega)⟩
        obtain ⟨e, he, hke, hor⟩ := hk d e' he'
        have hb := hs.1 d e' he'
        rw [hb]
        refine WP.if_eq (pc := 132) (tgt := 144) dX9_trade_132 (by decide) (fun h2 => ?_) (fun h2 => ?_)
        · have hne : e'.1 ≠ -1 := fun z => by
            rw [z] at h2
            exact absurd h2 (by decide)
          have hee : e' = e := hor.resolve_right hne
          rw [hee] at he'
          exact next I frB.rf (by rw [cutL_keep he he' hke]; exact h)
        · have hm1 : e'.1 = -1 := Classical.byContradiction fun z => h2 (by rw [decide_eq_false z]; rfl)
          have hcl : d + 1 ≤ (cutL L u.2.2.1 (d + 1)).length := cutL_len (by omega)
          have h60 := h.2.2.1.2.1
          have h3c := h.2.2.1.1
          have hrm := h.2.2.1.rm (i := d) (by show d < (cutL L u.2.2.1 (d + 1)).length; omega)
          rw [show ((z, u.2.1, cutL L u.2.2.1 (d + 1), u.2.2.2) : mS).2.2.1 = cutL L u.2.2.1 (d + 1) from rfl] at hrm h60 h3c
          rw [cutL_out he he' hm1] at hrm
          obtain ⟨N, hN⟩ : ∃ N, (cutL L u.2.2.1 (d + 1)).length = N + 1 := ⟨(cutL L u.2.2.1 (d + 1)).length - 1, by omega⟩
          rw [hN] at hrm h3c
          rw [Nat.add_sub_cancel] at hrm
          refine WP.aload_n (pc := 135) dX9_trade_135 rfl ?_
          refine WP.iconst (pc := 136) (v := 3) dX9_trade_136 (by decide) ?_
          refine WP.bipush (pc := 137) (v := 110) dX9_trade_137 (by decide) ?_
          refine WP.iconst (pc := 139) (v := 3) dX9_trade_139 (by decide) ?_
          refine WP.iload_n (pc := 140) dX9_trade_140 rfl ?_
          refine WP.cSw (pc := 141) (mc2 := 0) (ms2 := 0) kX9_78 (CX9_takeOut Γ hg 3 110 3 d N (by omega) (by omega) (by omega) h3c) rfl ⟨Nat.le_of_ble_eq_true rfl, Nat.le_of_ble_eq_true rfl⟩ (Nat.le_of_ble_eq_true rfl) (Nat.le_of_ble_eq_true rfl) (Nat.le_of_ble_eq_true rfl) rfl dX9_trade_141 (fun I1 ⟨f1, g1⟩ => ?_)
          rw [← g1] at hrm
          exact next I1 f1 (h.lf (g' := I1 a) (fun k c1 c2 c3 => by rw [g1]; unfold tkR; rw [if_neg (by omega), if_neg (by omega)]) hrm)
      · have hb := hs.2 d (by omega) (by omega)
        rw [hb]
        refine WP.if_eq (pc := 132) (tgt := 144) dX9_trade_132 (by decide) (fun h2 => ?_) (fun h2 => ?_)
        · refine next I frB.rf ?_
          rw [cutL_full hlen q]
          rw [cutL_full hlen (by omega)] at h
          exact h
        · exact absurd rfl h2
theorem CX9_trade (hm : shM σ m) (hg : aT σ a = (11, 380)) (ha : a ≠ m ∧ a ≠ m + 7 ∧ a ≠ m + 8 ∧ a ≠ m + 9) {s : mS} {A T C : Nat} (hA : A ≤ 2000) (hw : wfA A T C s) {k : Int32} (hk : inR k 0 2) {I : Nat → Nat → Int32} (h : gAt (I a) s) (hau : auM I m s k) : Ctr Γ (1, 25, 0, 0) MX9_trade [.ref m, .ref a, .int k] (wI σ I) (rW σ (fun I' => frT I I' m a ∧ gAt (I' a) ((hdA s k).1, (hdA s k).2.1, (hdA s k).2.2.1.filter pK, (hdA s k).2.2.2))) := by
  have hkd : ∀ e ∈ s.2.2.1, e.1 ≠ -1 := fun e he => (hw.2.2.2.1.1 e he).kind
  have h60 : s.2.2.1.length ≤ 60 := h.2.2.1.2.1
  refine Ctr.go rfl (by decide) rfl rfl ?_
  refine WP.iconst (pc := 0) (v := 0) dX9_trade_0 (by decide) ?_
  refine WP.istore_n (pc := 1) dX9_trade_1 (by decide) rfl ?_
  refine LX9_tr2 Γ hm (a := a) 60 0 I (by omega) (fun j hj => absurd hj (by omega)) (fun I1 f1 z1 => ?_)
  have F1 : frT I I1 m a := fun b h1 _ => f1 b h1
  have hau1 := hau.frT F1 ha
  have h1 : gAt (I1 a) s := by rw [f1 a ha.2.2.2]; exact h
  refine WP.iconst (pc := 21) (v := 0) dX9_trade_21 (by decide) ?_
  refine WP.istore_n (pc := 22) dX9_trade_22 (by decide) rfl ?_
  refine LX9_tr23 Γ hm hg ha hA hw hk (plT s k) 0 I1 (by omega) hau1 ?_ ⟨fun j e he => ?_, fun j _ hj => z1 j hj⟩ ?_ (fun I2 f2 g2 s2 z2 => ?_)
  · refine gAt.ofz h1 ?_
    exact (zup_id s.1 7).symm
  · have h0 : e.1 ≠ -1 := hkd e (List.mem_of_getElem? he)
    rw [decide_eq_false h0, z1 j (by have := gE_lt he; have e0 : (sellN s k (plP s k) (plB s k) (plL s k) 0).2.2.1 = s.2.2.1 := rfl; rw [e0] at this; omega)]
    rfl
  · show s.1 7 = s.1 7 + nI 0
    exact (Int32.add_zero _).symm
  · have hln : (hdA s k).2.2.1.length = s.2.2.1.length := (sellN_len s k (plP s k) (plB s k) (plL s k) (plT s k)).2.1
    refine WP.bipush (pc := 119) (v := 59) dX9_trade_119 (by decide) ?_
    refine WP.istore_n (pc := 121) dX9_trade_121 (by decide) rfl ?_
    refine LX9_tr122 Γ hm hg ha (u := hdA s k) (L := s.2.2.1) hln h60 (fun j e' he' => ?_) (z := (tdM s (hdA s k)).1) 60 I2 (Nat.le_refl _) s2 (by rw [cutL_full hln h60]; exact g2) (fun I3 f3 g3 => ?_)
    · obtain ⟨e0, q1, q2, q3⟩ := sellN_lf (plT s k) he'
      exact ⟨e0, q1, hkd e0 (List.mem_of_getElem? q1), q3⟩
    · have hau3 := (hau1.frT f2 ha).frT (frT.ofB f3) ha
      refine WP.aload_n (pc := 150) dX9_trade_150 rfl ?_
      refine WP.bipush (pc := 151) (v := 11) dX9_trade_151 (by decide) ?_
      refine WP.dup2 (pc := 153) dX9_trade_153 rfl rfl ?_
      refine WP.ialdv (pc := 154) (k := 11) hg (by decide) (by omega) (v := (s.1 7)) (g3.1 7 (by omega)) dX9_trade_154 ?_
      refine WP.aload_n (pc := 155) dX9_trade_155 rfl ?_
      refine WP.gIv (pc := 156) (v := nI (plT s k)) uX9 fX9_133 hm.t0 (by simp [up_eq, hau3.2.2.1]) dX9_trade_156 ?_
      refine WP.iadd (pc := 159) dX9_trade_159 ?_
      refine WP.iast (pc := 160) (k := 11) hg (by decide) (by omega) dX9_trade_160 ?_
      refine WP.vret (pc := 161) rfl dX9_trade_161 ?_
      refine ⟨rfl, _, rfl, ((F1.trans f2).trans (frT.ofB f3)).trans frT.rf.upA, ?_⟩
      rw [up_row]
      have g4 := g3.z (j := 7) (by omega) (s.1 7 + nI (plT s k))
      refine gAt.ofz g4 ?_
      funext j
      show zup (zup (hdA s k).1 7 (s.1 7)) 7 (s.1 7 + nI (plT s k)) j = (hdA s k).1 j
      rw [zup_eq, zup_eq]
      by_cases q : j = 7
      · rw [if_pos q, q, z2]
      · rw [if_neg q, if_neg q]
-- customers that want no more go
def dsM (s : mS) (q : mCu → Bool) (why : Int32) (i : Nat) : mS := (zup s.1 10 (dsF s q why i).1, s.2.1, s.2.2.1, (s.2.2.2.1.take i).filter (fun e => !q e) ++ s.2.2.2.1.drop i, (dsF s q why i).2)
theorem dsM_0 (s : mS) (q : mCu → Bool) (why : Int32) : dsM s q why 0 = s := by
  show (zup s.1 10 (s.1 10), _) = _
  rw [zup_id]
  rfl
theorem dsM_full {s : mS} {q : mCu → Bool} {why : Int32} (hk : ∀ e ∈ s.2.2.2.1, e.2.1 ≠ -1) : dsM s q why s.2.2.2.1.length = dsOut s q why := by
  unfold dsM dsOut
  rw [mkD_filter hk]
  simp
theorem dsF_no {s : mS} {q : mCu → Bool} {why : Int32} (h : ∀ e ∈ s.2.2.2.1, q e = false) : ∀ i, dsF s q why i = (s.1 10, s.2.2.2.2) := by
  intro i
  induction i with
  | zero => rfl
  | succ i ih =>
    simp only [dsF]
    split
    · next e he =>
      rw [if_neg (by rw [h e (List.mem_of_getElem? he)]; decide)]
      exact ih
    · exact ih
theorem dsOut_no {s : mS} {q : mCu → Bool} {why : Int32} (h : ∀ e ∈ s.2.2.2.1, q e = false) (hk : ∀ e ∈ s.2.2.2.1, e.2.1 ≠ -1) : dsOut s q why = s := by
  unfold dsOut
  rw [mkD_filter hk, dsF_no h]
  have e1 : s.2.2.2.1.filter (fun e => !q e) = s.2.2.2.1 := List.filter_eq_self.mpr fun e he => by simp [h e he]
  rw [e1]
  show (zup s.1 10 (s.1 10), _) = _
  rw [zup_id]
def noK (s : mS) (i : Nat) : List mCu := (s.2.2.2.1.take i).filter (fun e => !noW e)
theorem LX9_hold31 (hm : shM σ m) (hg : aT σ a = (11, 380)) (ha : a ≠ m) {s : mS} {k v : Int32} (hC : ∀ e ∈ s.2.2.2.1, inR e.2.2.2.1 0 9) {Φ : cRes → cAS → Prop} : ∀ n i (I : Nat → Nat → Int32), i + n = s.2.2.2.1.length → gAt (I a) (dsM s noW 0 i) → I m 13 = v → (∀ I', frB I I' a → gAt (I' a) (dsM s noW 0 s.2.2.2.1.length) → Φ (.inl (some (.int v))) (wI σ I')) →
    WP Γ (5, 112, 0, 0) MX9_hold Φ 31 [some (.ref m), some (.ref a), some (.int k), some (.int (nI (noK s i).length))] [] (wI σ I) := by
  intro n
  induction n with
  | zero =>
    intro i I hi h hv H
    have hil : i = s.2.2.2.1.length := by omega
    have hc : I a 2 = nI (noK s i).length := by
      rw [h.2.2.2.1.1]
      unfold dsM
      rw [List.drop_of_length_le (by omega), List.append_nil]
      rfl
    refine WP.iload_n (pc := 31) dX9_hold_31 rfl ?_
    refine WP.aload_n (pc := 32) dX9_hold_32 rfl ?_
    refine WP.iconst (pc := 33) (v := 2) dX9_hold_33 (by decide) ?_
    refine WP.ialdv (pc := 34) (k := 2) hg (by decide) (by omega) (v := (nI (noK s i).length)) (hc) dX9_hold_34 ?_
    refine WP.icmp_ge (pc := 35) (tgt := 65) dX9_hold_35 (by decide) (fun h1 => ?_) (fun h1 => ?_)
    · refine WP.aload_n (pc := 65) dX9_hold_65 rfl ?_
      refine WP.gIv (pc := 66) (v := v) uX9 fX9_133 hm.t0 (by simp [up_eq, hv]) dX9_hold_66 ?_
      refine WP.iret (pc := 69) rfl dX9_hold_69 ?_
      rw [hil] at h
      exact H I frB.rf h
    · exact absurd (Int32.le_refl _) h1
  | succ n ih =>
    intro i I hi h hv H
    obtain ⟨e, he⟩ : ∃ e, s.2.2.2.1[i]? = some e := ⟨s.2.2.2.1[i]'(by omega), List.getElem?_eq_getElem (by omega)⟩
    have hm0 : (dsM s noW 0 i).2.2.2.1[(noK s i).length]? = some e := (cut_get _ _ i).trans he
    have hlt := gE_lt hm0
    have h10 := h.2.2.2.1.2.1
    have hc := h.2.2.2.1.1
    obtain ⟨b1, b2, b3, b4, b5, b6, b7⟩ := h.2.2.2.1.2.2 _ e hm0
    obtain ⟨w, hw, w1, w2⟩ := hC e (List.mem_of_getElem? he)
    have ht := tk_app he
    generalize hN : (dsM s noW 0 i).2.2.2.1.length = N at hlt h10 hc
    rw [hw] at b3
    refine WP.iload_n (pc := 31) dX9_hold_31 rfl ?_
    refine WP.aload_n (pc := 32) dX9_hold_32 rfl ?_
    refine WP.iconst (pc := 33) (v := 2) dX9_hold_33 (by decide) ?_
    refine WP.ialdv (pc := 34) (k := 2) hg (by decide) (by omega) (v := (nI N)) (hc) dX9_hold_34 ?_
    refine WP.icmp_ge (pc := 35) (tgt := 65) dX9_hold_35 (by decide) (fun h1 => ?_) (fun h1 => ?_)
    · exact absurd h1 (nI_ge (by omega) (by omega))
    · refine WP.aload_n (pc := 38) dX9_hold_38 rfl ?_
      refine WP.iload_n (pc := 39) dX9_hold_39 rfl ?_
      refine WP.cS1 (pc := 40) (mc2 := 0) (ms2 := 0) kX9_111 (CX9_ofCustomer Γ (noK s i).length) rfl ⟨Nat.le_of_ble_eq_true rfl, Nat.le_of_ble_eq_true rfl⟩ (Nat.le_of_ble_eq_true rfl) (Nat.le_of_ble_eq_true rfl) (Nat.le_of_ble_eq_true rfl) rfl dX9_hold_40 ?_
      refine WP.iconst (pc := 43) (v := 2) dX9_hold_43 (by decide) ?_
      refine WP.iaN (pc := 44) (b := 2) dX9_hold_44 ?_
      refine WP.ialdv (pc := 45) hg (by omega) (by omega) (v := (nI w)) (b3) dX9_hold_45 ?_
      refine WP.if_ne (pc := 46) (tgt := 59) dX9_hold_46 (by decide) (fun h3 => ?_) (fun h3 => ?_)
      · have hw0 : w ≠ 0 := fun q => h3 (by rw [q]; rfl)
        have hp : noW e = false := by unfold noW; rw [hw]; exact decide_eq_false (nI_nle (by omega) (by omega))
        have hf : noK s (i + 1) = noK s i ++ [e] := by unfold noK; rw [ht, List.filter_append]; simp [hp]
        have hfl : (noK s (i + 1)).length = (noK s i).length + 1 := by rw [hf]; simp
        refine WP.iinc (pc := 59) dX9_hold_59 rfl (nI_1 _) (by decide) rfl ?_
        refine WP.goto (pc := 62) (tgt := 31) dX9_hold_62 (by decide) ?_
        rw [← hfl]
        refine ih (i + 1) I (by omega) ?_ hv H
        have e1 : dsF s noW 0 (i + 1) = dsF s noW 0 i := by simp [dsF, he, hp]
        have e2 : dsM s noW 0 (i + 1) = dsM s noW 0 i := by
          unfold dsM
          rw [e1, show (s.2.2.2.1.take (i + 1)).filter (fun e => !noW e) = noK s i ++ [e] from hf, cut_nx _ _ he]
          rfl
        rw [e2]
        exact h
      · have hw0 : w = 0 := (nI_eq (b := 0) (by omega) (by decide)).mp h3
        have hp : noW e = true := by unfold noW; rw [hw, hw0]; rfl
        have hf : noK s (i + 1) = noK s i := by unfold noK; rw [ht, List.filter_append]; simp [hp]
        refine WP.aload_n (pc := 49) dX9_hold_49 rfl ?_
        refine WP.aload_n (pc := 50) dX9_hold_50 rfl ?_
        refine WP.iload_n (pc := 51) dX9_hold_51 rfl ?_
        refine WP.iconst (pc := 52) (v := 0) dX9_hold_52 (by decide) ?_
        refine WP.cVw (pc := 53) (mc2 := 0) (ms2 := 0) (ci := 9) kX9_148 (CX9_goes Γ hg h hm0 0) (by decide) rfl hm.t0 rfl ⟨Nat.le_of_ble_eq_true rfl, Nat.le_of_ble_eq_true rfl⟩ (Nat.le_of_ble_eq_true rfl) (Nat.le_of_ble_eq_true rfl) (Nat.le_of_ble_eq_true rfl) rfl dX9_hold_53 (fun I1 ⟨f1, g1⟩ => ?_)
        refine WP.goto (pc := 56) (tgt := 31) dX9_hold_56 (by decide) ?_
        rw [← hf]
        refine ih (i + 1) I1 (by omega) ?_ (by rw [f1 m (fun q => ha q.symm)]; exact hv) (fun I' f3 g3 => H I' (f1.trans f3) g3)
        have e1 : dsF s noW 0 (i + 1) = ((dsF s noW 0 i).1 + e.2.2.2.2.2.1, evAdd (dsF s noW 0 i).2 (3, e.2.1, 0)) := by simp [dsF, he, hp]
        have e3 : (dsM s noW 0 i).2.2.2.1.eraseIdx (noK s i).length = noK s i ++ s.2.2.2.1.drop (i + 1) := cut_er _ _ (by omega)
        rw [e3] at g1
        unfold dsM
        rw [e1, show (s.2.2.2.1.take (i + 1)).filter (fun e => !noW e) = noK s i from hf]
        refine gAt.ofz g1 ?_
        funext j
        show (if j = 10 then zup s.1 10 (dsF s noW 0 i).1 10 + e.2.2.2.2.2.1 else zup s.1 10 (dsF s noW 0 i).1 j) = if j = 10 then (dsF s noW 0 i).1 + e.2.2.2.2.2.1 else s.1 j
        by_cases q : j = 10
        · rw [if_pos q, if_pos q]
          rfl
        · rw [if_neg q, if_neg q]
          exact if_neg q
/-- what a held auction may have moved -/
def frH (I I' : Nat → Nat → Int32) (m a : Nat) : Prop := (∀ b, b ≠ m → b ≠ m + 7 → b ≠ m + 8 → b ≠ m + 9 → b ≠ a → I' b = I b) ∧ ∀ j, (j < 11 ∨ 14 < j) → I' m j = I m j
theorem frH.rf {I : Nat → Nat → Int32} : frH I I m a := ⟨fun _ _ _ _ _ _ => rfl, fun _ _ => rfl⟩
theorem frH.trans {I I' I'' : Nat → Nat → Int32} (h : frH I I' m a) (h' : frH I' I'' m a) : frH I I'' m a := ⟨fun b h1 h2 h3 h4 h5 => (h'.1 b h1 h2 h3 h4 h5).trans (h.1 b h1 h2 h3 h4 h5), fun j hj => (h'.2 j hj).trans (h.2 j hj)⟩
theorem frH.ofM {I I' : Nat → Nat → Int32} (h : frM I I' m) : frH I I' m a := ⟨fun b h1 h2 h3 h4 _ => h.1 b h1 h2 h3 h4, h.2⟩
theorem frH.ofT {I I' : Nat → Nat → Int32} (ha : a ≠ m) (h : frT I I' m a) : frH I I' m a := ⟨fun b _ _ _ h4 h5 => h b h4 h5, fun j _ => by rw [h m (by omega) (fun q => ha q.symm)]⟩
theorem frH.ofB {I I' : Nat → Nat → Int32} (ha : a ≠ m) (h : frB I I' a) : frH I I' m a := frH.ofT ha (frT.ofB h)
theorem CX9_hold (hm : shM σ m) (hg : aT σ a = (11, 380)) (ha : a ≠ m ∧ a ≠ m + 7 ∧ a ≠ m + 8 ∧ a ≠ m + 9) {s : mS} {A T C : Nat} (hA : A ≤ 2000) (hT : T ≤ 2147483647) (hw : wfA A T C s) {k : Int32} (hk : inR k 0 2) {I : Nat → Nat → Int32} (h : gAt (I a) s) : Ctr Γ (5, 112, 0, 0) MX9_hold [.ref m, .ref a, .int k] (wI σ I) (rP σ (fun v I' => v = nI (plT s k) ∧ frH I I' m a ∧ gAt (I' a) (hdOut s k))) := by
  have ⟨t1, t2⟩ := trN_le (plB s k) (plL s k)
  have eT : plT s k = trN (plB s k) (plL s k) := rfl
  refine Ctr.go rfl (by decide) rfl rfl ?_
  refine WP.aload_n (pc := 0) dX9_hold_0 rfl ?_
  refine WP.aload_n (pc := 1) dX9_hold_1 rfl ?_
  refine WP.iload_n (pc := 2) dX9_hold_2 rfl ?_
  refine WP.cVw (pc := 3) (mc2 := 0) (ms2 := 0) (ci := 9) kX9_142 (CX9_settle Γ hm hg ha hA hw k h) (by decide) rfl hm.t0 rfl ⟨Nat.le_of_ble_eq_true rfl, Nat.le_of_ble_eq_true rfl⟩ (Nat.le_of_ble_eq_true rfl) (Nat.le_of_ble_eq_true rfl) (Nat.le_of_ble_eq_true rfl) rfl dX9_hold_3 (fun I1 ⟨f1, a1⟩ => ?_)
  have h1 : gAt (I1 a) s := by rw [f1.1 a ha.1 ha.2.1 ha.2.2.1 ha.2.2.2]; exact h
  have hb90 := a1.1.2.1
  have loop : ∀ (u : mS) (I2 : Nat → Nat → Int32), gAt (I2 a) u → (∀ e ∈ u.2.2.2.1, inR e.2.2.2.1 0 9 ∧ e.2.1 ≠ -1) → I2 m 13 = nI (plT s k) → frH I I2 m a → hdOut s k = dsOut u noW 0 →
      WP Γ (5, 112, 0, 0) MX9_hold (rP σ (fun v I' => v = nI (plT s k) ∧ frH I I' m a ∧ gAt (I' a) (hdOut s k))) 29 [some (.ref m), some (.ref a), some (.int k), none] [] (wI σ I2) := fun u I2 g2 hu h13 F he => by
    refine WP.iconst (pc := 29) (v := 0) dX9_hold_29 (by decide) ?_
    refine WP.istore_n (pc := 30) dX9_hold_30 (by decide) rfl ?_
    refine LX9_hold31 Γ hm hg ha.1 (s := u) (v := nI (plT s k)) (fun e he => (hu e he).1) u.2.2.2.1.length 0 I2 (by omega) (by rw [dsM_0]; exact g2) h13 (fun I' f3 g3 => ⟨_, I', rfl, rfl, rfl, F.trans (frH.ofB ha.1 f3), ?_⟩)
    rw [he, ← dsM_full (fun e he => (hu e he).2)]
    exact g3
  refine WP.aload_n (pc := 6) dX9_hold_6 rfl ?_
  refine WP.gIv (pc := 7) (v := nI (plT s k)) uX9 fX9_133 hm.t0 (by simp [up_eq, a1.2.2.1]) dX9_hold_7 ?_
  refine WP.if_le (pc := 10) (tgt := 29) dX9_hold_10 (by decide) (fun h4 => ?_) (fun h4 => ?_)
  · have e0 : plT s k = 0 := Nat.eq_zero_of_not_pos fun q => nI_nle q (by omega) h4
    refine loop s I1 h1 (fun e he => ?_) a1.2.2.1 (frH.ofM f1) ?_
    · have ho := hw.2.2.2.2.1.2 e he
      exact ⟨ho.2.2.2.1.mono (by omega) (Nat.le_refl _), ho.tk hT⟩
    · unfold hdOut
      rw [if_pos e0, dsOut_no (fun e he => ?_) (fun e he => (hw.2.2.2.2.1.2 e he).tk hT)]
      obtain ⟨w, q1, q2, q3⟩ := (hw.2.2.2.2.1.2 e he).2.2.2.1
      unfold noW
      rw [q1]
      exact decide_eq_false (nI_nle (by omega) (by omega))
  · have h0 : plT s k ≠ 0 := fun q => h4 (by rw [q]; decide)
    obtain ⟨i1, i2, i3, i4, i5, i6⟩ := hdA_ok hA hw hk
    refine WP.aload_n (pc := 13) dX9_hold_13 rfl ?_
    refine WP.aload_n (pc := 14) dX9_hold_14 rfl ?_
    refine WP.iload_n (pc := 15) dX9_hold_15 rfl ?_
    refine WP.cVw (pc := 16) (mc2 := 0) (ms2 := 0) (ci := 9) kX9_145 (CX9_trade Γ hm hg ha hA hw hk h1 a1) (by decide) rfl hm.t0 rfl ⟨Nat.le_of_ble_eq_true rfl, Nat.le_of_ble_eq_true rfl⟩ (Nat.le_of_ble_eq_true rfl) (Nat.le_of_ble_eq_true rfl) (Nat.le_of_ble_eq_true rfl) rfl dX9_hold_16 (fun I2 ⟨f2, g2⟩ => ?_)
    have a2 := a1.frT f2 ha
    have h14 : I2 m 14 = plP s k := by rw [a2.2.2.2, if_neg h0]
    refine WP.aload_n (pc := 19) dX9_hold_19 rfl ?_
    refine WP.iconst (pc := 20) (v := 1) dX9_hold_20 (by decide) ?_
    refine WP.iload_n (pc := 21) dX9_hold_21 rfl ?_
    refine WP.aload_n (pc := 22) dX9_hold_22 rfl ?_
    refine WP.gIv (pc := 23) (v := plP s k) uX9 fX9_139 hm.t0 (by simp [up_eq, h14]) dX9_hold_23 ?_
    refine WP.cSw (pc := 26) (mc2 := 0) (ms2 := 0) kX9_107 (CX9_tell Γ hg g2 1 k (plP s k)) rfl ⟨Nat.le_of_ble_eq_true rfl, Nat.le_of_ble_eq_true rfl⟩ (Nat.le_of_ble_eq_true rfl) (Nat.le_of_ble_eq_true rfl) (Nat.le_of_ble_eq_true rfl) rfl dX9_hold_26 (fun I3 ⟨f3, g3⟩ => ?_)
    have a3 := a2.frT (frT.ofB f3) ha
    refine loop (hdB s k) I3 g3 (fun e he => ?_) a3.2.2.1 (((frH.ofM f1).trans (frH.ofT ha.1 f2)).trans (frH.ofB ha.1 f3)) ?_
    · have ho := i5.2 e he
      obtain ⟨t, ht, h2⟩ := ho.2.1
      exact ⟨ho.2.2.2.1, by rw [ht]; exact nI_ne_m1 (by omega)⟩
    · unfold hdOut
      rw [if_neg h0]
theorem gCs.app {g : Nat → Int32} {l : List mCu} {e : mCu} (h : gCs g l) (hl : l.length < 10) {g' : Nat → Int32} (hf : ∀ k, (k < 40 + 7 * l.length ∨ 47 + 7 * l.length ≤ k) → k ≠ 2 → g' k = g k) (h2 : g' 2 = nI (l.length + 1)) (he : gC g' l.length e) : gCs g' (l ++ [e]) := by
  refine ⟨by rw [h2]; simp, by simp; omega, fun j x hx => ?_⟩
  rcases gE_app hx with ⟨c, q⟩ | ⟨rfl, rfl⟩
  · exact (h.2.2 j x q).kp (by omega) (fun k c1 c2 => hf k (by omega) (by omega))
  · exact he
theorem CX9_join (hg : aT σ a = (11, 380)) {I : Nat → Nat → Int32} {s : mS} (h : gAt (I a) s) (hl : s.2.2.2.1.length < 10) (nm : Nat) (kind wanted limit purse patience : Int32) : Ctr Γ (1, 20, 0, 0) MX9_join [.ref a, .int (nI nm), .int kind, .int wanted, .int limit, .int purse, .int patience] (wI σ I) (rP σ (fun v I' => v = s.1 11 ∧ frB I I' a ∧ gAt (I' a) (wlC s nm kind wanted limit purse patience))) := by
  have h2 := h.2.2.2.1.1
  have h6 : I a 6 = s.1 11 := h.1 11 (by omega)
  have h8 : I a 8 = s.1 9 := h.1 9 (by omega)
  refine Ctr.go rfl (by decide) rfl rfl ?_
  refine WP.aload_n (pc := 0) dX9_join_0 rfl ?_
  refine WP.iconst (pc := 1) (v := 2) dX9_join_1 (by decide) ?_
  refine WP.ialdv (pc := 2) (k := 2) hg (by decide) (by omega) (v := (nI s.2.2.2.1.length)) (h2) dX9_join_2 ?_
  refine WP.cS1 (pc := 3) (mc2 := 0) (ms2 := 0) kX9_111 (CX9_ofCustomer Γ s.2.2.2.1.length) rfl ⟨Nat.le_of_ble_eq_true rfl, Nat.le_of_ble_eq_true rfl⟩ (Nat.le_of_ble_eq_true rfl) (Nat.le_of_ble_eq_true rfl) (Nat.le_of_ble_eq_true rfl) rfl dX9_join_3 ?_
  refine WP.istore (pc := 6) dX9_join_6 (by decide) rfl ?_
  refine WP.aload_n (pc := 8) dX9_join_8 rfl ?_
  refine WP.iload (pc := 9) dX9_join_9 rfl ?_
  refine WP.iconst (pc := 11) (v := 0) dX9_join_11 (by decide) ?_
  refine WP.ia0 (pc := 12) dX9_join_12 ?_
  refine WP.iload_n (pc := 13) dX9_join_13 rfl ?_
  refine WP.iast (pc := 14) hg (by omega) (by omega) dX9_join_14 ?_
  refine WP.aload_n (pc := 15) dX9_join_15 rfl ?_
  refine WP.iload (pc := 16) dX9_join_16 rfl ?_
  refine WP.iconst (pc := 18) (v := 1) dX9_join_18 (by decide) ?_
  refine WP.iaN (pc := 19) (b := 1) dX9_join_19 ?_
  refine WP.iload_n (pc := 20) dX9_join_20 rfl ?_
  refine WP.iast (pc := 21) hg (by omega) (by omega) dX9_join_21 ?_
  refine WP.aload_n (pc := 22) dX9_join_22 rfl ?_
  refine WP.iload (pc := 23) dX9_join_23 rfl ?_
  refine WP.iconst (pc := 25) (v := 2) dX9_join_25 (by decide) ?_
  refine WP.iaN (pc := 26) (b := 2) dX9_join_26 ?_
  refine WP.iload_n (pc := 27) dX9_join_27 rfl ?_
  refine WP.iast (pc := 28) hg (by omega) (by omega) dX9_join_28 ?_
  refine WP.aload_n (pc := 29) dX9_join_29 rfl ?_
  refine WP.iload (pc := 30) dX9_join_30 rfl ?_
  refine WP.iconst (pc := 32) (v := 3) dX9_join_32 (by decide) ?_
  refine WP.iaN (pc := 33) (b := 3) dX9_join_33 ?_
  refine WP.iload (pc := 34) dX9_join_34 rfl ?_
  refine WP.iast (pc := 36) hg (by omega) (by omega) dX9_join_36 ?_
  refine WP.aload_n (pc := 37) dX9_join_37 rfl ?_
  refine WP.iload (pc := 38) dX9_join_38 rfl ?_
  refine WP.iconst (pc := 40) (v := 4) dX9_join_40 (by decide) ?_
  refine WP.iaN (pc := 41) (b := 4) dX9_join_41 ?_
  refine WP.iload (pc := 42) dX9_join_42 rfl ?_
  refine WP.iast (pc := 44) hg (by omega) (by omega) dX9_join_44 ?_
  refine WP.aload_n (pc := 45) dX9_join_45 rfl ?_
  refine WP.iload (pc := 46) dX9_join_46 rfl ?_
  refine WP.iconst (pc := 48) (v := 5) dX9_join_48 (by decide) ?_
  refine WP.iaN (pc := 49) (b := 5) dX9_join_49 ?_
  refine WP.iload (pc := 50) dX9_join_50 rfl ?_
  refine WP.iast (pc := 52) hg (by omega) (by omega) dX9_join_52 ?_
  refine WP.aload_n (pc := 53) dX9_join_53 rfl ?_
  refine WP.iload (pc := 54) dX9_join_54 rfl ?_
  refine WP.bipush (pc := 56) (v := 6) dX9_join_56 (by decide) ?_
  refine WP.iaN (pc := 58) (b := 6) dX9_join_58 ?_
  refine WP.aload_n (pc := 59) dX9_join_59 rfl ?_
  refine WP.bipush (pc := 60) (v := 6) dX9_join_60 (by decide) ?_
  refine WP.ialdv (pc := 62) (k := 6) hg (by decide) (by omega) (v := (s.1 11)) (by simp (disch := omega) only [up_row, uw_ne]; exact h6) dX9_join_62 ?_
  refine WP.iast (pc := 63) hg (by omega) (by omega) dX9_join_63 ?_
  refine WP.aload_n (pc := 64) dX9_join_64 rfl ?_
  refine WP.iconst (pc := 65) (v := 2) dX9_join_65 (by decide) ?_
  refine WP.dup2 (pc := 66) dX9_join_66 rfl rfl ?_
  refine WP.ialdv (pc := 67) (k := 2) hg (by decide) (by omega) (v := (nI s.2.2.2.1.length)) (by simp (disch := omega) only [up_row, uw_ne]; exact h2) dX9_join_67 ?_
  refine WP.iconst (pc := 68) (v := 1) dX9_join_68 (by decide) ?_
  refine WP.iaN (pc := 69) (b := 1) dX9_join_69 ?_
  refine WP.iast (pc := 70) (k := 2) hg (by decide) (by omega) dX9_join_70 ?_
  refine WP.aload_n (pc := 71) dX9_join_71 rfl ?_
  refine WP.bipush (pc := 72) (v := 6) dX9_join_72 (by decide) ?_
  refine WP.dup2 (pc := 74) dX9_join_74 rfl rfl ?_
  refine WP.ialdv (pc := 75) (k := 6) hg (by decide) (by omega) (v := (s.1 11)) (by simp (disch := omega) only [up_row, uw_ne]; exact h6) dX9_join_75 ?_
  refine WP.iconst (pc := 76) (v := 1) dX9_join_76 (by decide) ?_
  refine WP.iadd (pc := 77) dX9_join_77 ?_
  refine WP.iast (pc := 78) (k := 6) hg (by decide) (by omega) dX9_join_78 ?_
  refine WP.aload_n (pc := 79) dX9_join_79 rfl ?_
  refine WP.bipush (pc := 80) (v := 8) dX9_join_80 (by decide) ?_
  refine WP.dup2 (pc := 82) dX9_join_82 rfl rfl ?_
  refine WP.ialdv (pc := 83) (k := 8) hg (by decide) (by omega) (v := (s.1 9)) (by simp (disch := omega) only [up_row, uw_ne]; exact h8) dX9_join_83 ?_
  refine WP.iload (pc := 84) dX9_join_84 rfl ?_
  refine WP.iadd (pc := 86) dX9_join_86 ?_
  refine WP.iast (pc := 87) (k := 8) hg (by decide) (by omega) dX9_join_87 ?_
  refine WP.aload_n (pc := 88) dX9_join_88 rfl ?_
  refine WP.bipush (pc := 89) (v := 6) dX9_join_89 (by decide) ?_
  refine WP.ialdv (pc := 91) (k := 6) hg (by decide) (by omega) (v := (s.1 11 + 1)) (by simp (disch := omega) only [up_row, uw_ne, uw_at]) dX9_join_91 ?_
  refine WP.iconst (pc := 92) (v := 1) dX9_join_92 (by decide) ?_
  refine WP.isub (pc := 93) dX9_join_93 ?_
  refine WP.iret (pc := 94) rfl dX9_join_94 ?_
  refine ⟨_, _, rfl, rfl, by rw [Int32.add_sub_cancel], frB.rf.up.up.up.up.up.up.up.up.up.up, ?_⟩
  simp only [up_row]
  have g1 : gAt (uw (uw (uw (uw (uw (uw (uw (uw (I a) (40 + 7 * s.2.2.2.1.length) (nI nm)) (40 + 7 * s.2.2.2.1.length + 1) kind) (40 + 7 * s.2.2.2.1.length + 2) wanted) (40 + 7 * s.2.2.2.1.length + 3) limit) (40 + 7 * s.2.2.2.1.length + 4) purse) (40 + 7 * s.2.2.2.1.length + 5) patience) (40 + 7 * s.2.2.2.1.length + 6) (s.1 11)) 2 (nI (s.2.2.2.1.length + 1))) (s.1, s.2.1, s.2.2.1, s.2.2.2.1 ++ [(nm, s.1 11, kind, wanted, limit, purse, patience)], s.2.2.2.2) := by
    refine h.cu (fun k c1 c2 c3 => by simp (disch := omega) only [uw_ne]) (h.2.2.2.1.app hl (fun k c1 c2 => by simp (disch := omega) only [uw_ne]) (uw_at rfl) ?_)
    refine ⟨?_, ?_, ?_, ?_, ?_, ?_, ?_⟩ <;> simp (disch := omega) only [uw_ne, uw_at]
  have g2 := (g1.z (j := 11) (by omega) (s.1 11 + 1)).z (j := 9) (by omega) (s.1 9 + purse)
  refine gAt.ofz g2 ?_
  funext j
  simp only [zup_eq]
  by_cases q9 : j = 9
  · simp [q9]
  · by_cases q11 : j = 11
    · simp [q11]
    · simp [q9, q11]
end T
