-- behind: 43
def uF (f : Nat → Int32) (n : Nat) (v : Int32) : Nat → Int32 := fun j => if j = n then v else f j
def bt (v : Int32) : Int32 := v.toInt8.toInt32
theorem bt_bt (v : Int32) : bt (bt v) = bt v := by
  unfold bt
  simp
def apB (w s : Int32) : Int32 := bt (w >>> (s &&& 31))
def apW (f : Nat → Int32) (n : Nat) (w : Int32) : Nat → Int32 := uF (uF (uF (uF f n (apB w 24)) (n + 1) (apB w 16)) (n + 2) (apB w 8)) (n + 3) (apB w 0)
def q_appendInput (m : mX) (a b c d e : Int32) : oR := if 580 < m.n then (1, 0, m) else (0, nI (m.n + 20), (mX.w_n (mX.w_f m (apW (apW (apW (apW (apW m.f m.n a) (m.n + 4) b) (m.n + 8) c) (m.n + 12) d) (m.n + 16) e)) (m.n + 20)))
def s00 : mS := mS0 (fun _ => 0)
def q_load (m : mX) : oR := if (sdRead m.f m.n s00).2.1 = 0 then (0, nI (sdRead m.f m.n s00).1.2.2.2.1.length, (mX.w_ep (mX.w_e (mX.w_n (psh m (sdRead m.f m.n s00).1) (0)) (0)) ((sdRead m.f m.n s00).2.2.1))) else (1, 0, (mX.w_ep (mX.w_e (mX.w_n m (0)) ((sdRead m.f m.n s00).2.1)) ((sdRead m.f m.n s00).2.2.1)))
def q_undo (m : mX) : oR := if m.past.length = 0 then (1, 0, m) else (0, nI (m.past.length - 1), (mX.w_past (mX.w_s m (m.past.getD (m.past.length - 1) m.s)) (m.past.take (m.past.length - 1))))
def q_save (m : mX) (i : Int32) : oR := if ixB i 2 then (1, 0, m) else (0, m.s.1 3, (mX.w_sl m (fun j => if j = i.toNatClampNeg then some m.s else m.sl j)))
def q_restore (m : mX) (i : Int32) : oR := if ixB i 2 then (1, 0, m) else match m.sl i.toNatClampNeg with
  | some s => (0, s.1 3, psh m s)
  | none => (2, 0, m)
def q_outputByte (m : mX) (i : Int32) : oR := if ixB i m.o.length then (1, 0, m) else (0, m.o.getD i.toNatClampNeg 0, m)
/-- the input alone has moved -/
def frA (I I' : Nat → Nat → Int32) (x : Nat) : Prop := (∀ a, a ≠ x → a ≠ x + 56 → I' a = I a) ∧ ∀ j, j ≠ 9 → I' x j = I x j
theorem frA.trans {I I' I'' : Nat → Nat → Int32} {x : Nat} (h : frA I I' x) (h' : frA I' I'' x) : frA I I'' x := ⟨fun a h1 h2 => (h'.1 a h1 h2).trans (h.1 a h1 h2), fun j hj => (h'.2 j hj).trans (h.2 j hj)⟩
section T
variable (Γ : cG) {σ : cAS} {x : Nat} {m : mX} {T C : Nat}
theorem LX8_ap (hx : shX σ x) {n : Nat} (hn : n < 600) {w sh : Int32} (hs : ¬ sh < 0) {r : cRm} {Φ : cRes → cAS → Prop} {I : Nat → Nat → Int32} (h9 : I x 9 = nI n) (k : ∀ I', frA I I' x → I' x 9 = nI (n + 1) → I' (x + 56) = uF (I (x + 56)) n (apB w sh) → WP Γ r MX8_appendWord Φ 3 [some (.ref x), some (.int w), some (.int (sh + Int32.ofInt (-8)))] [] (wI σ I')) : WP Γ r MX8_appendWord Φ 3 [some (.ref x), some (.int w), some (.int sh)] [] (wI σ I) := by
  refine WP.iload_n (pc := 3) dX8_appendWord_3 rfl ?_
  refine WP.if_lt (pc := 4) (tgt := 46) dX8_appendWord_4 (by decide) (fun h1 => ?_) (fun h1 => ?_)
  · exact absurd h1 hs
  · refine WP.aload_n (pc := 7) dX8_appendWord_7 rfl ?_
    refine WP.gIv (pc := 8) (v := (nI n)) uX8 fX8_69 hx.t0 (by simp [up_eq, h9]) dX8_appendWord_8 ?_
    refine WP.sipush (pc := 11) (v := 600) dX8_appendWord_11 (by decide) ?_
    refine WP.icmp_ge (pc := 14) (tgt := 46) dX8_appendWord_14 (by decide) (fun h2 => ?_) (fun h2 => ?_)
    · exact absurd h2 (nI_ge (a := n) (b := 600) (by omega) (by omega))
    · refine WP.aload_n (pc := 17) dX8_appendWord_17 rfl ?_
      refine WP.gR (pc := 18) uX8 fX8_26 hx.t0 hx.r0_3 dX8_appendWord_18 ?_
      refine WP.aload_n (pc := 21) dX8_appendWord_21 rfl ?_
      refine WP.gIv (pc := 22) (v := (nI n)) uX8 fX8_69 hx.t0 (by simp [up_eq, h9]) dX8_appendWord_22 ?_
      refine WP.iload_n (pc := 25) dX8_appendWord_25 rfl ?_
      refine WP.iload_n (pc := 26) dX8_appendWord_26 rfl ?_
      refine WP.ishr (pc := 27) dX8_appendWord_27 ?_
      refine WP.i2b (pc := 28) dX8_appendWord_28 ?_
      refine WP.bast (pc := 29) hx.t56 (by omega) (by decide) dX8_appendWord_29 ?_
      refine WP.aload_n (pc := 30) dX8_appendWord_30 rfl ?_
      refine WP.dup (pc := 31) dX8_appendWord_31 rfl ?_
      refine WP.gIv (pc := 32) (v := (nI n)) uX8 fX8_69 hx.t0 (by simp [up_eq, h9]) dX8_appendWord_32 ?_
      refine WP.iconst (pc := 35) (v := 1) dX8_appendWord_35 (by decide) ?_
      refine WP.iadd (pc := 36) dX8_appendWord_36 ?_
      rw [nI_1]
      refine WP.pI (pc := 37) uX8 fX8_69 rfl rfl hx.t0 dX8_appendWord_37 ?_
      refine WP.iinc (pc := 40) dX8_appendWord_40 rfl rfl (by decide) rfl ?_
      refine WP.goto (pc := 43) (tgt := 3) dX8_appendWord_43 (by decide) ?_
      refine k _ ⟨fun a c1 c2 => ?_, fun j hj => ?_⟩ ?_ ?_
      · funext j
        rw [up_eq, if_neg (fun z => c1 z.1), up_eq, if_neg (fun z => c2 z.1)]
      · rw [up_eq, if_neg (fun z => hj z.2), up_eq, if_neg (fun z => by omega)]
      · rw [up_eq, if_pos ⟨rfl, rfl⟩]
      · funext j
        rw [up_eq, if_neg (fun z => by omega), up_eq]
        unfold uF
        by_cases e : j = n
        · rw [if_pos ⟨rfl, e⟩, if_pos e]
          exact bt_bt _
        · rw [if_neg (fun z => e z.2), if_neg e]
theorem CX8_appendWord (hx : shX σ x) {n : Nat} (hn : n + 4 ≤ 600) (w : Int32) {I : Nat → Nat → Int32} (h9 : I x 9 = nI n) : Ctr Γ (0, 0, 0, 0) MX8_appendWord [.ref x, .int w] (wI σ I) (rW σ (fun I' => frA I I' x ∧ I' x 9 = nI (n + 4) ∧ I' (x + 56) = apW (I (x + 56)) n w)) := by
  refine Ctr.go rfl (by decide) rfl rfl ?_
  refine WP.bipush (pc := 0) (v := 24) dX8_appendWord_0 (by decide) ?_
  refine WP.istore_n (pc := 2) dX8_appendWord_2 (by decide) rfl ?_
  refine LX8_ap Γ hx (n := n) (by omega) (sh := 24) (by decide) h9 (fun I1 f1 g1 e1 => ?_)
  rw [show (24 : Int32) + Int32.ofInt (-8) = 16 by decide]
  refine LX8_ap Γ hx (n := n + 1) (by omega) (sh := 16) (by decide) g1 (fun I2 f2 g2 e2 => ?_)
  rw [show (16 : Int32) + Int32.ofInt (-8) = 8 by decide]
  refine LX8_ap Γ hx (n := n + 2) (by omega) (sh := 8) (by decide) g2 (fun I3 f3 g3 e3 => ?_)
  rw [show (8 : Int32) + Int32.ofInt (-8) = 0 by decide]
  refine LX8_ap Γ hx (n := n + 3) (by omega) (sh := 0) (by decide) g3 (fun I4 f4 g4 e4 => ?_)
  rw [show (0 : Int32) + Int32.ofInt (-8) = -8 by decide]
  refine WP.iload_n (pc := 3) dX8_appendWord_3 rfl ?_
  refine WP.if_lt (pc := 4) (tgt := 46) dX8_appendWord_4 (by decide) (fun h1 => ?_) (fun h1 => ?_)
  · refine WP.vret (pc := 46) rfl dX8_appendWord_46 ?_
    refine ⟨rfl, _, rfl, ((f1.trans f2).trans f3).trans f4, g4, ?_⟩
    rw [e4, e3, e2, e1]
    rfl
  · exact absurd (by decide) h1
theorem CX8_appendInput (hx : xAt σ x m) (a b c d e : Int32) : Ctr Γ (6, 90, 1, 6) MX8_appendInput [.ref x, .int a, .int b, .int c, .int d, .int e] σ (xO σ x [eIS] (q_appendInput m a b c d e)) := by
  have h9 : aI σ x 9 = nI m.n := hx.2.2.2.1.2.2.1
  have hn6 : m.n ≤ 600 := hx.2.2.2.1.2.2.2.1
  have hF : aI σ (x + 56) = m.f := hx.2.2.2.1.2.1
  refine Ctr.go rfl (by decide) rfl rfl ?_
  refine WP.self ?_
  unfold q_appendInput
  refine WP.aload_n (pc := 0) dX8_appendInput_0 rfl ?_
  refine WP.gIv (pc := 1) (v := (nI m.n)) uX8 fX8_69 hx.1.t0 (by simp [up_eq, h9]) dX8_appendInput_1 ?_
  refine WP.sipush (pc := 4) (v := 580) dX8_appendInput_4 (by decide) ?_
  refine WP.icmp_le (pc := 7) (tgt := 20) dX8_appendInput_7 (by decide) (fun h1 => ?_) (fun h1 => ?_)
  · have hle : m.n ≤ 580 := (nI_leI (b := 580) (by omega) (by omega)).mp h1
    rw [if_neg (by omega)]
    refine WP.aload_n (pc := 20) dX8_appendInput_20 rfl ?_
    refine WP.iload_n (pc := 21) dX8_appendInput_21 rfl ?_
    refine WP.cVw (pc := 22) (mc2 := 0) (ms2 := 0) (ci := 8) kX8_79 (CX8_appendWord Γ hx.1 (n := m.n) (by omega) a h9) (by decide) rfl hx.1.t0 rfl ⟨Nat.le_of_ble_eq_true rfl, Nat.le_of_ble_eq_true rfl⟩ (Nat.le_of_ble_eq_true rfl) (Nat.le_of_ble_eq_true rfl) (Nat.le_of_ble_eq_true rfl) rfl dX8_appendInput_22 (fun I1 ⟨f1, g1, e1⟩ => ?_)
    refine WP.aload_n (pc := 25) dX8_appendInput_25 rfl ?_
    refine WP.iload_n (pc := 26) dX8_appendInput_26 rfl ?_
    refine WP.cVw (pc := 27) (mc2 := 0) (ms2 := 0) (ci := 8) kX8_79 (CX8_appendWord Γ hx.1 (n := m.n + 4) (by omega) b g1) (by decide) rfl hx.1.t0 rfl ⟨Nat.le_of_ble_eq_true rfl, Nat.le_of_ble_eq_true rfl⟩ (Nat.le_of_ble_eq_true rfl) (Nat.le_of_ble_eq_true rfl) (Nat.le_of_ble_eq_true rfl) rfl dX8_appendInput_27 (fun I2 ⟨f2, g2, e2⟩ => ?_)
    refine WP.aload_n (pc := 30) dX8_appendInput_30 rfl ?_
    refine WP.iload_n (pc := 31) dX8_appendInput_31 rfl ?_
    refine WP.cVw (pc := 32) (mc2 := 0) (ms2 := 0) (ci := 8) kX8_79 (CX8_appendWord Γ hx.1 (n := m.n + 8) (by omega) c g2) (by decide) rfl hx.1.t0 rfl ⟨Nat.le_of_ble_eq_true rfl, Nat.le_of_ble_eq_true rfl⟩ (Nat.le_of_ble_eq_true rfl) (Nat.le_of_ble_eq_true rfl) (Nat.le_of_ble_eq_true rfl) rfl dX8_appendInput_32 (fun I3 ⟨f3, g3, e3⟩ => ?_)
    refine WP.aload_n (pc := 35) dX8_appendInput_35 rfl ?_
    refine WP.iload (pc := 36) dX8_appendInput_36 rfl ?_
    refine WP.cVw (pc := 38) (mc2 := 0) (ms2 := 0) (ci := 8) kX8_79 (CX8_appendWord Γ hx.1 (n := m.n + 12) (by omega) d g3) (by decide) rfl hx.1.t0 rfl ⟨Nat.le_of_ble_eq_true rfl, Nat.le_of_ble_eq_true rfl⟩ (Nat.le_of_ble_eq_true rfl) (Nat.le_of_ble_eq_true rfl) (Nat.le_of_ble_eq_true rfl) rfl dX8_appendInput_38 (fun I4 ⟨f4, g4, e4⟩ => ?_)
    refine WP.aload_n (pc := 41) dX8_appendInput_41 rfl ?_
    refine WP.iload (pc := 42) dX8_appendInput_42 rfl ?_
    refine WP.cVw (pc := 44) (mc2 := 0) (ms2 := 0) (ci := 8) kX8_79 (CX8_appendWord Γ hx.1 (n := m.n + 16) (by omega) e g4) (by decide) rfl hx.1.t0 rfl ⟨Nat.le_of_ble_eq_true rfl, Nat.le_of_ble_eq_true rfl⟩ (Nat.le_of_ble_eq_true rfl) (Nat.le_of_ble_eq_true rfl) (Nat.le_of_ble_eq_true rfl) rfl dX8_appendInput_44 (fun I5 ⟨f5, g5, e5⟩ => ?_)
    refine WP.aload_n (pc := 47) dX8_appendInput_47 rfl ?_
    refine WP.gIv (pc := 48) (v := (nI (m.n + 20))) uX8 fX8_69 hx.1.t0 (by simp [up_eq, g5]) dX8_appendInput_48 ?_
    refine WP.iret (pc := 51) rfl dX8_appendInput_51 ?_
    have F := (((f1.trans f2).trans f3).trans f4).trans f5
    have hf : fr (aI σ) I5 x 62 := fun a ha => F.1 a (by omega) (by omega)
    refine xO.ret2 (hx.mv hf (hx.2.2.1.ext (fun a c1 c2 => F.1 a (by omega) (by omega))) ?_ rfl) (kpM.mv hf)
    obtain ⟨b1, b2, b3, b4, b5, b6, b7, b8, b9, b10, b11, b12⟩ := hx.2.2.2.1
    exact ⟨fun j' hj' => by rw [F.1 _ (by omega) (by omega)]; exact b1 j' hj', by rw [e5, e4, e3, e2, e1, hF], g5, by show m.n + 20 ≤ 600; omega, by rw [F.2 _ (by omega)]; exact b5, b6, by rw [F.2 _ (by omega)]; exact b7, by rw [F.2 _ (by omega)]; exact b8, b9, fun i v hv => by rw [F.1 _ (by omega) (by omega)]; exact b10 i v hv, by rw [F.2 _ (by omega)]; exact b11, b12⟩
  · have hgt : 580 < m.n := Nat.not_le.mp fun q => h1 (nI_le (b := 580) q (by omega))
    rw [if_pos hgt]
    refine WP.throwS (pc := 10) rfl tX8_appendInput_10 ⟨by decide, by decide, by decide, by decide⟩ dX8_appendInput_10 dX8_appendInput_13 dX8_appendInput_14 dX8_appendInput_16 dX8_appendInput_19 (fun n hn => ?_)
    exact xO.exc hx hn rfl
theorem CX8_outputByte (hx : xAt σ x m) (i : Int32) : Ctr Γ (6, 90, 1, 6) MX8_outputByte [.ref x, .int i] σ (xO σ x [nE] (q_outputByte m i)) := by
  obtain ⟨-, -, -, -, -, -, -, h10, hl, ho, -, -⟩ := hx.2.2.2.1
  refine Ctr.go rfl (by decide) rfl rfl ?_
  refine WP.self ?_
  unfold q_outputByte
  refine WP.iload_n (pc := 0) dX8_outputByte_0 rfl ?_
  have hbad : ixB i m.o.length → WP Γ (6, 90, 1, 6) MX8_outputByte (xO σ x [nE] (if ixB i m.o.length then (1, 0, m) else (0, m.o.getD i.toNatClampNeg 0, m))) 12 [some (.ref x), some (.int i)] [] (wI σ (aI σ)) := fun hb => by
    rw [if_pos hb]
    refine WP.throwN (pc := 12) rfl tNS_334 ⟨by decide, by decide, by decide, by decide⟩ dX8_outputByte_12 dX8_outputByte_15 dX8_outputByte_16 dX8_outputByte_19 dX8_outputByte_22 (fun n hn => ?_)
    exact xO.exc hx hn rfl
  refine WP.if_lt (pc := 1) (tgt := 12) dX8_outputByte_1 (by decide) (fun h1 => ?_) (fun h1 => ?_)
  · exact hbad (Or.inl h1)
  · refine WP.iload_n (pc := 4) dX8_outputByte_4 rfl ?_
    refine WP.aload_n (pc := 5) dX8_outputByte_5 rfl ?_
    refine WP.gIv (pc := 6) (v := (nI m.o.length)) uX8 fX8_320 hx.1.t0 (by simp [up_eq, h10]) dX8_outputByte_6 ?_
    refine WP.icmp_lt (pc := 9) (tgt := 23) dX8_outputByte_9 (by decide) (fun h2 => ?_) (fun h2 => ?_)
    · have hb : ¬ ixB i m.o.length := fun q => q.elim h1 (Int32.not_le.mpr h2)
      rw [if_neg hb]
      obtain ⟨j, rfl, hj⟩ := ixN hb (by omega)
      refine WP.aload_n (pc := 23) dX8_outputByte_23 rfl ?_
      refine WP.gR (pc := 24) uX8 fX8_39 hx.1.t0 hx.1.r0_5 dX8_outputByte_24 ?_
      refine WP.iload_n (pc := 27) dX8_outputByte_27 rfl ?_
      refine WP.bald (pc := 28) hx.1.t59 (by omega) (by decide) dX8_outputByte_28 ?_
      rw [ho j _ (gD_of 0 hj), nI_clamp (by omega)]
      refine WP.iret (pc := 29) rfl dX8_outputByte_29 ?_
      exact xO.ret hx
    · exact hbad (Or.inr (Int32.not_lt.mp h2))
theorem CX8_undo (hx : xAt σ x m) : Ctr Γ (6, 104, 1, 6) MX8_undo [.ref x] σ (xO σ x [eIS] (q_undo m)) := by
  have h8 : aI σ x 8 = nI m.past.length := hx.2.2.2.1.2.2.2.2.2.2.2.2.2.2.1
  have hl8 : m.past.length ≤ 8 := hx.2.2.2.1.2.2.2.2.2.2.2.2.2.2.2
  refine Ctr.go rfl (by decide) rfl rfl ?_
  refine WP.self ?_
  unfold q_undo
  refine WP.aload_n (pc := 0) dX8_undo_0 rfl ?_
  refine WP.gIv (pc := 1) (v := (nI m.past.length)) uX8 fX8_342 hx.1.t0 (by simp [up_eq, h8]) dX8_undo_1 ?_
  refine WP.if_le (pc := 4) (tgt := 30) dX8_undo_4 (by decide) (fun h1 => ?_) (fun h1 => ?_)
  · have h0 : m.past.length = 0 := by
      rcases Nat.eq_zero_or_pos m.past.length with q | q
      · exact q
      · exact absurd h1 (nI_nle q (by omega))
    rw [if_pos h0]
    refine WP.null (pc := 30) dX8_undo_30 ?_
    refine WP.astore_nN (pc := 31) dX8_undo_31 (by decide) rfl ?_
    refine WP.aload_nN (pc := 32) dX8_undo_32 rfl ?_
    refine WP.ifnonnullN (pc := 33) dX8_undo_33 ?_
    refine WP.throwSW (pc := 36) rfl tX8_undo_36 ⟨by decide, by decide, by decide, by decide⟩ dX8_undo_36 dX8_undo_39 dX8_undo_40 dX8_undo_43 dX8_undo_46 (fun n hn => ?_)
    exact xO.exc hx hn rfl
  · have h0 : m.past.length ≠ 0 := fun q => by
      rw [q] at h1
      exact h1 (by decide)
    rw [if_neg h0]
    refine WP.aload_n (pc := 7) dX8_undo_7 rfl ?_
    refine WP.gIv (pc := 8) (v := (nI m.past.length)) uX8 fX8_342 hx.1.t0 (by simp [up_eq, h8]) dX8_undo_8 ?_
    refine WP.bipush (pc := 11) (v := 8) dX8_undo_11 (by decide) ?_
    refine WP.icmp_gt (pc := 13) (tgt := 30) dX8_undo_13 (by decide) (fun h2 => ?_) (fun h2 => ?_)
    · exact absurd h2 (nI_nlt (a := 8) (by omega) (by omega))
    · have hg : m.past[m.past.length - 1]? = some (m.past.getD (m.past.length - 1) m.s) := gD_of m.s (by omega)
      generalize m.past.getD (m.past.length - 1) m.s = s at hg
      have ho : occ m (m.past.length - 1) = some s := by
        unfold occ
        rw [if_pos (by omega), hg]
      obtain ⟨q, hq, hst⟩ := hx.2.2.2.2.2.1 _ (by omega) s ho
      obtain ⟨r1, r2, r3⟩ := hx.2.2.2.2.1.1 _ (by omega) q hq
      have hq' : aR σ (x + 61) (m.past.length - 1) = some q := by
        unfold plc at hq
        rw [if_pos (by omega)] at hq
        exact hq
      refine WP.aload_n (pc := 16) dX8_undo_16 rfl ?_
      refine WP.gR (pc := 17) uX8 fX8_46 hx.1.t0 hx.1.r0_7 dX8_undo_17 ?_
      refine WP.aload_n (pc := 20) dX8_undo_20 rfl ?_
      refine WP.gIv (pc := 21) (v := (nI m.past.length)) uX8 fX8_342 hx.1.t0 (by simp [up_eq, h8]) dX8_undo_21 ?_
      refine WP.iconst (pc := 24) (v := 1) dX8_undo_24 (by decide) ?_
      refine WP.isub (pc := 25) dX8_undo_25 ?_
      refine (?_ : WP Γ _ MX8_undo _ 26 _ [.int (nI m.past.length - nI 1), .ref (x + 61)] _)
      rw [pk_sub (by omega)]
      refine WP.aald (pc := 26) hx.1.t61 (by omega) (by decide) dX8_undo_26 ?_
      rw [hq']
      refine WP.goto (pc := 27) (tgt := 31) dX8_undo_27 (by decide) ?_
      refine WP.astore_n (pc := 31) dX8_undo_31 (by decide) rfl ?_
      refine WP.aload_n (pc := 32) dX8_undo_32 rfl ?_
      refine WP.ifnonnull (pc := 33) (tgt := 47) dX8_undo_33 (by decide) ?_
      refine WP.aload_n (pc := 47) dX8_undo_47 rfl ?_
      refine WP.gR (pc := 48) uX8 fX8_10 hx.1.t0 hx.1.r0_0 dX8_undo_48 ?_
      refine WP.aload_n (pc := 51) dX8_undo_51 rfl ?_
      refine WP.cVw (pc := 52) (mc2 := 1) (ms2 := 6) (ci := 5) kX8_104 (CX5_copyFrom Γ hx.1.a r1 (by omega) hst) (by decide) rfl hx.1.a.t0 rfl ⟨Nat.le_of_ble_eq_true rfl, Nat.le_of_ble_eq_true rfl⟩ (Nat.le_of_ble_eq_true rfl) (Nat.le_of_ble_eq_true rfl) (Nat.le_of_ble_eq_true rfl) rfl dX8_undo_52 (fun I1 ⟨f1, g1⟩ => ?_)
      have h82 : I1 x 8 = nI m.past.length := by
        rw [f1 x (by omega)]
        exact h8
      refine WP.aload_n (pc := 55) dX8_undo_55 rfl ?_
      refine WP.dup (pc := 56) dX8_undo_56 rfl ?_
      refine WP.gIv (pc := 57) (v := (nI m.past.length)) uX8 fX8_342 hx.1.t0 (by simp [up_eq, h82]) dX8_undo_57 ?_
      refine WP.iconst (pc := 60) (v := 1) dX8_undo_60 (by decide) ?_
      refine WP.isub (pc := 61) dX8_undo_61 ?_
      refine (?_ : WP Γ _ MX8_undo _ 62 _ [.int (nI m.past.length - nI 1), .ref x] _)
      rw [pk_sub (by omega)]
      refine WP.pI (pc := 62) uX8 fX8_342 rfl rfl hx.1.t0 dX8_undo_62 ?_
      refine WP.aload_n (pc := 65) dX8_undo_65 rfl ?_
      refine WP.gI (pc := 66) uX8 fX8_342 hx.1.t0 dX8_undo_66 ?_
      refine WP.iret (pc := 69) rfl dX8_undo_69 ?_
      rw [show (up I1 x 8 (nI (m.past.length - 1))) x 8 = nI (m.past.length - 1) by simp [up_eq]]
      have hf : fr (aI σ) (up I1 x 8 (nI (m.past.length - 1))) x 62 := (f1.mono (by omega) (by omega)).trans (fr_up1.mono (by omega) (by omega))
      have e : ∀ a, a ≠ x → (a < x + 1 ∨ x + 26 ≤ a) → (up I1 x 8 (nI (m.past.length - 1))) a = aI σ a := fun a ha hr => by
        rw [← f1 a (by omega)]
        funext j
        rw [up_eq, if_neg (fun z => ha z.1)]
      have ex : ∀ j, j ≠ 8 → (up I1 x 8 (nI (m.past.length - 1))) x j = aI σ x j := fun j hj => by
        rw [up_eq, if_neg (fun z => hj z.2), f1 x (by omega)]
      obtain ⟨a1, a2, a3, a4, a5, a6, a7⟩ := hx
      refine xO.ret2 ⟨a1.of rfl rfl, a2, g1.ext (fun a c1 c2 => by funext j; show (up I1 x 8 (nI (m.past.length - 1))) a j = _; rw [up_eq, if_neg (fun z => by omega)]), ?_, a5.of rfl rfl (Nat.le_refl _), fun k hk s' hs' => ?_, fun k c1 c2 c3 => ?_⟩ (kpM.mv hf)
      · refine fl_past a4 (fun a ha => e a (by omega) (by omega)) ?_ ?_ ex rfl rfl rfl rfl rfl
        · show (up I1 x 8 (nI (m.past.length - 1))) x 8 = _
          rw [up_eq, if_pos ⟨rfl, rfl⟩]
          show _ = nI (m.past.take (m.past.length - 1)).length
          rw [List.length_take, Nat.min_eq_left (by omega)]
        · show (m.past.take (m.past.length - 1)).length ≤ 8
          rw [List.length_take]
          omega
      · have hs2 : occ m k = some s' := by
          unfold occ at hs' ⊢
          by_cases c : k < 8
          · rw [if_pos c] at hs' ⊢
            have hs3 : (m.past.take (m.past.length - 1))[k]? = some s' := hs'
            rw [List.getElem?_take] at hs3
            split at hs3
            · exact hs3
            · cases hs3
          · rw [if_neg c] at hs' ⊢
            exact hs'
        obtain ⟨q', hq2, hst'⟩ := a6 k hk s' hs2
        obtain ⟨-, d2, -⟩ := a5.1 k hk q' hq2
        exact ⟨q', hq2, hst'.ext (fun a c1 c2 => e a (by omega) (by omega))⟩
      · refine a7 k c1 c2 ?_
        unfold occ at c3 ⊢
        rw [if_neg (by omega)] at c3 ⊢
        exact c3
theorem LX8_save30 {σ0 : cAS} {q j : Nat} (hk0 : kpM σ0 σ x) (h : xBut σ x (8 + j) m) (hj : j < 2) (hq : plc σ x (8 + j) = some q) {mc ms : Nat} {V : Int32} (hV : V = m.s.1 3) {i : Int32} {Es : List String} : WP Γ (8, 131, mc, ms) MX8_save (xO σ0 x Es (0, V, (mX.w_sl m (fun j' => if j' = j then some m.s else m.sl j')))) 30 [some (.ref x), some (.int i), some (.ref q)] [] σ := by
  have hx := h.1
  obtain ⟨r1, r2, r3⟩ := h.2.2.2.2.1.1 _ (by omega) q hq
  refine WP.self ?_
  refine WP.aload_n (pc := 30) dX8_save_30 rfl ?_
  refine WP.aload_n (pc := 31) dX8_save_31 rfl ?_
  refine WP.gR (pc := 32) uX8 fX8_10 hx.t0 hx.r0_0 dX8_save_32 ?_
  refine WP.cVw (pc := 35) (mc2 := 0) (ms2 := 0) (ci := 5) kX8_104 (CX5_copyFrom Γ r1 hx.a (by omega) h.2.2.1) (by decide) rfl r1.t0 rfl ⟨Nat.le_of_ble_eq_true rfl, Nat.le_of_ble_eq_true rfl⟩ (Nat.zero_le _) (Nat.zero_le _) (Nat.le_of_ble_eq_true rfl) rfl dX8_save_35 (fun I1 ⟨f1, g1⟩ => ?_)
  have h3 : I1 (x + 1) 5 = m.s.1 3 := by
    rw [f1 (x + 1) (by omega)]
    exact h.2.2.1.gz.1
  refine WP.aload_n (pc := 38) dX8_save_38 rfl ?_
  refine WP.gR (pc := 39) uX8 fX8_10 hx.t0 hx.r0_0 dX8_save_39 ?_
  refine WP.gIv (pc := 42) (v := (m.s.1 3)) uX5 fX8_117 hx.a.t0 (by simp [up_eq, h3]) dX8_save_42 ?_
  refine WP.iret (pc := 45) rfl dX8_save_45 ?_
  rw [hV]
  have hw := h.wr (m' := (mX.w_sl m (fun j' => if j' = j then some m.s else m.sl j'))) (I := I1) (s := m.s) (by omega) hq (fun a ha hr => f1 a hr) g1 rfl (fl_past h.2.2.2.1 (fun a ha => f1 a (by omega)) (by
      rw [f1 x (by omega)]
      exact h.2.2.2.1.2.2.2.2.2.2.2.2.2.2.1) h.2.2.2.1.2.2.2.2.2.2.2.2.2.2.2 (fun j' hj' => by rw [f1 x (by omega)]) rfl rfl rfl rfl rfl) (fun k' hk' => by
      unfold occ
      by_cases c : k' < 8
      · rw [if_pos c, if_pos c, if_neg (by omega)]
      · rw [if_neg c, if_neg c]
        show (if k' - 8 = j then some m.s else m.sl (k' - 8)) = _
        by_cases c2 : k' = 8 + j
        · rw [if_pos (by omega), if_pos c2]
        · rw [if_neg (by omega), if_neg c2])
  exact xO.ret2 hw.1 (hk0.trans hw.2)
theorem CX8_save (hx : xAt σ x m) (i : Int32) : Ctr Γ (8, 131, 26, 410) MX8_save [.ref x, .int i] σ (xO σ x [eIO] (q_save m i)) := by
  refine Ctr.go rfl (by decide) rfl rfl ?_
  unfold q_save
  refine WP.iload_n (pc := 0) dX8_save_0 rfl ?_
  refine WP.cSt (pc := 1) (mc2 := 25) (ms2 := 404) kX8_337 (CX8_needSlot Γ i) rfl ⟨Nat.le_of_ble_eq_true rfl, Nat.le_of_ble_eq_true rfl⟩ (Nat.le_of_ble_eq_true rfl) (Nat.le_of_ble_eq_true rfl) (Nat.le_of_ble_eq_true rfl) rfl dX8_save_1 rfl (fun hb n hn => ?_) (fun hb => ?_)
  · rw [if_pos hb]
    exact xO.exc hx hn rfl
  · rw [if_neg hb]
    obtain ⟨j, rfl, hj⟩ := ixN hb (by decide)
    rw [show (nI j).toNatClampNeg = j from nI_clamp (by omega)]
    have hp : plc σ x (8 + j) = aR σ (x + 60) j := by
      unfold plc
      rw [if_neg (by omega), show 8 + j - 8 = j by omega]
    refine WP.self ?_
    refine WP.aload_n (pc := 4) dX8_save_4 rfl ?_
    refine WP.gR (pc := 5) uX8 fX8_42 hx.1.t0 hx.1.r0_6 dX8_save_5 ?_
    refine WP.iload_n (pc := 8) dX8_save_8 rfl ?_
    refine WP.aald (pc := 9) hx.1.t60 (by omega) (by decide) dX8_save_9 ?_
    cases hq : aR σ (x + 60) j with
    | some q =>
      refine WP.astore_n (pc := 10) dX8_save_10 (by decide) rfl ?_
      refine WP.aload_n (pc := 11) dX8_save_11 rfl ?_
      refine WP.ifnonnull (pc := 12) (tgt := 30) dX8_save_12 (by decide) ?_
      exact LX8_save30 Γ kpM.rf (hx.but _) hj (hp.trans hq) rfl
    | none =>
      obtain ⟨b1, b2, b3⟩ := hx.al (k := 8 + j) (by omega) (hp.trans hq)
      refine WP.astore_nN (pc := 10) dX8_save_10 (by decide) rfl ?_
      refine WP.aload_nN (pc := 11) dX8_save_11 rfl ?_
      refine WP.ifnonnullN (pc := 12) dX8_save_12 ?_
      refine WP.new (pc := 15) (mc := 24) (ms := 391) (ci := 5) uX5 (by decide) nX8_7 nI5 nJ5 nD5 dX8_save_15 ?_
      refine (?_ : WP Γ (8, 131, 24, 391) MX8_save _ 18 _ [.ref (aN σ)] (sA σ 6 13))
      refine WP.dup (pc := 18) dX8_save_18 rfl ?_
      refine WP.cIN0 (pc := 19) (mc2 := 0) (ms2 := 0) kX8_9 (CX5_init Γ (σ := sA σ 6 13) sA_new sA_newL) rfl ⟨Nat.le_of_ble_eq_true rfl, Nat.le_of_ble_eq_true rfl⟩ (Nat.le_of_ble_eq_true rfl) (Nat.le_of_ble_eq_true rfl) (Nat.le_of_ble_eq_true rfl) rfl dX8_save_19 ?_
      refine WP.astore_n (pc := 22) dX8_save_22 (by decide) rfl ?_
      refine WP.self ?_
      have hN := hx.2.1
      have hx2 : shX (nwS σ) x := hx.1.ofs (fun a c1 c2 => (nwS_old (by omega)).1) (fun a c1 c2 => (nwS_old (by omega)).2.2.1)
      refine WP.aload_n (pc := 23) dX8_save_23 rfl ?_
      refine WP.gR (pc := 24) uX8 fX8_42 hx2.t0 hx2.r0_6 dX8_save_24 ?_
      refine WP.iload_n (pc := 27) dX8_save_27 rfl ?_
      refine WP.aload_n (pc := 28) dX8_save_28 rfl ?_
      refine WP.aastore (pc := 29) (nv := 13) (n := 2) (v := aN σ) hx2.t60 nwS_shS.t0 (cVin (by omega) (by decide)) dX8_save_29 ?_
      rw [cClamp (n := 2) hj (by decide)]
      have e : sR (wI (nwS σ) (aI (nwS σ))) (x + 60) j (some (aN σ)) = stR (nwS σ) x (8 + j) (some (aN σ)) := by
        unfold stR
        rw [if_neg (show ¬ 8 + j < 8 by omega), if_neg (show ¬ 8 + j < 8 by omega), show 8 + j - 8 = j by omega]
        rfl
      rw [e]
      exact LX8_save30 Γ b3 b1 hj b2 rfl
theorem CX8_restore (hx : xAt σ x m) (i : Int32) : Ctr Γ (8, 131, 27, 416) MX8_restore [.ref x, .int i] σ (xO σ x [eIO, eIS] (q_restore m i)) := by
  refine Ctr.go rfl (by decide) rfl rfl ?_
  unfold q_restore
  refine WP.iload_n (pc := 0) dX8_restore_0 rfl ?_
  refine WP.cSt (pc := 1) (mc2 := 26) (ms2 := 410) kX8_337 (CX8_needSlot Γ i) rfl ⟨Nat.le_of_ble_eq_true rfl, Nat.le_of_ble_eq_true rfl⟩ (Nat.le_of_ble_eq_true rfl) (Nat.le_of_ble_eq_true rfl) (Nat.le_of_ble_eq_true rfl) rfl dX8_restore_1 rfl (fun hb n hn => ?_) (fun hb => ?_)
  · rw [if_pos hb]
    exact xO.exc hx hn rfl
  · rw [if_neg hb]
    obtain ⟨j, rfl, hj⟩ := ixN hb (by decide)
    rw [nI_clamp (by omega)]
    have hp : ∀ υ, plc υ x (8 + j) = aR υ (x + 60) j := fun υ => by
      unfold plc
      rw [if_neg (by omega), show 8 + j - 8 = j by omega]
    have hoc : occ m (8 + j) = m.sl j := by
      unfold occ
      rw [if_neg (by omega), show 8 + j - 8 = j by omega]
    refine WP.self ?_
    refine WP.aload_n (pc := 4) dX8_restore_4 rfl ?_
    refine WP.gR (pc := 5) uX8 fX8_42 hx.1.t0 hx.1.r0_6 dX8_restore_5 ?_
    refine WP.iload_n (pc := 8) dX8_restore_8 rfl ?_
    refine WP.aald (pc := 9) hx.1.t60 (by omega) (by decide) dX8_restore_9 ?_
    cases hs : m.sl j with
    | none =>
      have hq : aR σ (x + 60) j = none := (hp σ).symm.trans (hx.2.2.2.2.2.2 (8 + j) (by omega) (by omega) (hoc.trans hs))
      rw [hq]
      refine WP.astore_nN (pc := 10) dX8_restore_10 (by decide) rfl ?_
      refine WP.aload_nN (pc := 11) dX8_restore_11 rfl ?_
      refine WP.ifnonnullN (pc := 12) dX8_restore_12 ?_
      refine WP.throwSW (pc := 15) rfl tX8_restore_15 ⟨by decide, by decide, by decide, by decide⟩ dX8_restore_15 dX8_restore_18 dX8_restore_19 dX8_restore_22 dX8_restore_25 (fun n hn => ?_)
      exact xO.exc hx hn rfl
    | some s =>
      obtain ⟨q, hq, -⟩ := hx.2.2.2.2.2.1 (8 + j) (by omega) s (hoc.trans hs)
      rw [hp] at hq
      rw [hq]
      refine WP.astore_n (pc := 10) dX8_restore_10 (by decide) rfl ?_
      refine WP.aload_n (pc := 11) dX8_restore_11 rfl ?_
      refine WP.ifnonnull (pc := 12) (tgt := 26) dX8_restore_12 (by decide) ?_
      refine WP.aload_n (pc := 26) dX8_restore_26 rfl ?_
      refine WP.cVo2 (pc := 27) (mc2 := 1) (ms2 := 6) (ci := 8) kX8_101 (CX8_remember Γ hx) (by decide) rfl hx.1.t0 rfl ⟨Nat.le_of_ble_eq_true rfl, Nat.le_of_ble_eq_true rfl⟩ (Nat.le_of_ble_eq_true rfl) (Nat.le_of_ble_eq_true rfl) (Nat.le_of_ble_eq_true rfl) rfl dX8_restore_27 (fun τ ⟨hτ, kτ, rτ⟩ => ?_)
      obtain ⟨q', hq2, hst⟩ := hτ.2.2.2.2.2.1 (8 + j) (by omega) s (by
        unfold occ
        rw [if_neg (by omega), show 8 + j - 8 = j by omega]
        exact hs)
      have rτ : aR τ (x + 60) = aR σ (x + 60) := rτ
      rw [hp, rτ, hq] at hq2
      cases hq2
      obtain ⟨r1, r2, r3⟩ := hτ.2.2.2.2.1.1 (8 + j) (by omega) q (by rw [hp, rτ, hq])
      refine WP.self ?_
      refine WP.aload_n (pc := 30) dX8_restore_30 rfl ?_
      refine WP.gR (pc := 31) uX8 fX8_10 hτ.1.t0 hτ.1.r0_0 dX8_restore_31 ?_
      refine WP.aload_n (pc := 34) dX8_restore_34 rfl ?_
      refine WP.cVw (pc := 35) (mc2 := 1) (ms2 := 6) (ci := 5) kX8_104 (CX5_copyFrom Γ hτ.1.a r1 (by omega) hst) (by decide) rfl hτ.1.a.t0 rfl ⟨Nat.le_of_ble_eq_true rfl, Nat.le_of_ble_eq_true rfl⟩ (Nat.le_of_ble_eq_true rfl) (Nat.le_of_ble_eq_true rfl) (Nat.le_of_ble_eq_true rfl) rfl dX8_restore_35 (fun I1 ⟨f1, g1⟩ => ?_)
      have h5 : I1 (x + 1) 5 = s.1 3 := g1.gz.1
      refine WP.aload_n (pc := 38) dX8_restore_38 rfl ?_
      refine WP.gR (pc := 39) uX8 fX8_10 hτ.1.t0 hτ.1.r0_0 dX8_restore_39 ?_
      refine WP.gIv (pc := 42) (v := (s.1 3)) uX5 fX8_117 hτ.1.a.t0 (by simp [up_eq, h5]) dX8_restore_42 ?_
      refine WP.iret (pc := 45) rfl dX8_restore_45 ?_
      obtain ⟨h1, h2⟩ := hτ.st f1 g1
      exact xO.ret2 h1 (kτ.trans h2)
end T
