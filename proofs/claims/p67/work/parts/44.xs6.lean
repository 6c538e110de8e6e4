-- behind: 43
def uF (f : Nat → Int32) (n : Nat) (v : Int32) : Nat → Int32 := fun j => if j = n then v else f j
def bt (v : Int32) : Int32 := v.toInt8.toInt32
theorem bt_bt (v : Int32) : bt (bt v) = bt v := by
  unfold bt
  simp
def apB (w s : Int32) : Int32 := bt (w >>> (s &&& 31))
def apW (f : Nat → Int32) (n : Nat) (w : Int32) : Nat → Int32 := uF (uF (uF (uF f n (apB w 24)) (n + 1) (apB w 16)) (n + 2) (apB w 8)) (n + 3) (apB w 0)
def q_appendInput (m : mX) (a b c d e : Int32) : oR := if 580 < m.n then (1, 0, m) else (0, nI (m.n + 20), (mX.w_n (mX.w_f m (apW (apW (apW (apW (apW m.f m.n a) (m.n + 4) b) (m.n + 8) c) (m.n + 12) d) (m.n + 16) e)) (m.n + 20)))
def s00 : mS := mS0 (fun _ => 0)
def q_load (m : mX) : oR := if (sdRead m.f m.n s00).2.1 = 0 then (0, nI (sdRead m.f m.n s00).1.2.2.2.1.length, (mX.w_ep (mX.w_e (mX.w_n (psh m (sdRead m.f m.n s00).1) (0)) (0)) ((sdRead m.f m.n s00).2.2.1))) else (1, 0, (mX.w_ep (mX.w_e (mX.w_n m (0)) ((sdRead m.f m.n s00).2.1)) ((sdRead m.f m.n s00).2.2.1)))
def q_undo (m : mX) : oR := if m.past.length = 0 then (1, 0, m) else (0, nI (m.past.length - 1), (mX.w_past (mX.w_s m (m.past.getD (m.past.length - 1) m.s)) (m.past.take (m.past.length - 1))))
def q_save (m : mX) (i : Int32) : oR := if ixB i 2 then (1, 0, m) else (0, m.s.1 3, (mX.w_sl m (fun j => if j = i.toNatClampNeg then some m.s else m.sl j)))
def q_restore (m : mX) (i : Int32) : oR := if ixB i 2 then (1, 0, m) else match m.sl i.toNatClampNeg with
  | some s => (0, s.1 3, psh m s)
  | none => (2, 0, m)
def q_outputByte (m : mX) (i : Int32) : oR := if ixB i m.o.length then (1, 0, m) else (0, m.o.getD i.toNatClampNeg 0, m)
/-- the input alone has moved -/
def frA (I I' : Nat → Nat → Int32) (x : Nat) : Prop := (∀ a, a ≠ x → a ≠ x + 56 → I' a = I a) ∧ ∀ j, j ≠ 9 → I' x j = I x j
theorem frA.trans {I I' I'' : Nat → Nat → Int32} {x : Nat} (h : frA I I' x) (h' : frA I' I'' x) : frA I I'' x := ⟨fun a h1 h2 => (h'.1 a h1 h2).trans (h.1 a h1 h2), fun j hj => (h'.2 j hj).trans (h.2 j hj)⟩
section T
variable (Γ : cG) {σ : cAS} {x : Nat} {m : mX} {T C : Nat}
theorem LX8_ap (hx : shX σ x) {n : Nat} (hn : n < 600) {w sh : Int32} (hs : ¬ sh < 0) {r : cRm} {Φ : cRes → cAS → Prop} {I : Nat → Nat → Int32} (h9 : I x 9 = nI n) (k : ∀ I', frA I I' x → I' x 9 = nI (n + 1) → I' (x + 56) = uF (I (x + 56)) n (apB w sh) → WP Γ r MX8_appendWord Φ 3 [some (.ref x), some (.int w), some (.int (sh + Int32.ofInt (-8)))] [] (wI σ I')) : WP Γ r MX8_appendWord Φ 3 [some (.ref x), some (.int w), some (.int sh)] [] (wI σ I) := by
  refine WP.iload_n (pc := 3) dX8_appendWord_3 rfl ?_
  refine WP.if_lt (pc := 4) (tgt := 46) dX8_appendWord_4 (by decide) (fun h1 => ?_) (fun h1 => ?_)
  · exact absurd h1 hs
  · refine WP.aload_n (pc := 7) dX8_appendWord_7 rfl ?_
    refine WP.gIv (pc := 8) (v := (nI n)) uX8 fX8_69 hx.t0 (by simp [up_eq, h9]) dX8_appendWord_8 ?_
    refine WP.sipush (pc := 11) (v := 600) dX8_appendWord_11 (by decide) ?_
    refine WP.icmp_ge (pc := 14) (tgt := 46) dX8_appendWord_14 (by decide) (fun h2 => ?_) (fun h2 => ?_)
    · exact absurd h2 (nI_ge (a := n) (b := 600) (by omega) (by omega))
    · refine WP.aload_n (pc := 17) dX8_appendWord_17 rfl ?_
      refine WP.gR (pc := 18) uX8 fX8_26 hx.t0 hx.r0_3 dX8_appendWord_18 ?_
      refine WP.aload_n (pc := 21) dX8_appendWord_21 rfl ?_
      refine WP.gIv (pc := 22) (v := (nI n)) uX8 fX8_69 hx.t0 (by simp [up_eq, h9]) dX8_appendWord_22 ?_
      refine WP.iload_n (pc := 25) dX8_appendWord_25 rfl ?_
      refine WP.iload_n (pc := 26) dX8_appendWord_26 rfl ?_
      refine WP.ishr (pc := 27) dX8_appendWord_27 ?_
      refine WP.i2b (pc := 28) dX8_appendWord_28 ?_
      refine WP.bast (pc := 29) hx.t56 (by omega) (by decide) dX8_appendWord_29 ?_
      refine WP.aload_n (pc := 30) dX8_appendWord_30 rfl ?_
      refine WP.dup (pc := 31) dX8_appendWord_31 rfl ?_
      refine WP.gIv (pc := 32) (v := (nI n)) uX8 fX8_69 hx.t0 (by simp [up_eq, h9]) dX8_appendWord_32 ?_
      refine WP.iconst (pc := 35) (v := 1) dX8_appendWord_35 (by decide) ?_
      refine WP.iadd (pc := 36) dX8_appendWord_36 ?_
      rw [nI_1]
      refine WP.pI (pc := 37) uX8 fX8_69 rfl rfl hx.t0 dX8_appendWord_37 ?_
      refine WP.iinc (pc := 40) dX8_appendWord_40 rfl rfl (by decide) rfl ?_
      refine WP.goto (pc := 43) (tgt := 3) dX8_appendWord_43 (by decide) ?_
      refine k _ ⟨fun a c1 c2 => ?_, fun j hj => ?_⟩ ?_ ?_
      · funext j
        rw [up_eq, if_neg (fun z => c1 z.1), up_eq, if_neg (fun z => c2 z.1)]
      · rw [up_eq, if_neg (fun z => hj z.2), up_eq, if_neg (fun z => by omega)]
      · rw [up_eq, if_pos ⟨rfl, rfl⟩]
      · funext j
        rw [up_eq, if_neg (fun z => by omega), up_eq]
        unfold uF
        by_cases e : j = n
        · rw [if_pos ⟨rfl, e⟩, if_pos e]
          exact bt_bt _
        · rw [if_neg (fun z => e z.2), if_neg e]
theorem CX8_appendWord (hx : shX σ x) {n : Nat} (hn : n + 4 ≤ 600) (w : Int32) {I : Nat → Nat → Int32} (h9 : I x 9 = nI n) : Ctr Γ (0, 0, 0, 0) MX8_appendWord [.ref x, .int w] (wI σ I) (rW σ (fun I' => frA I I' x ∧ I' x 9 = nI (n + 4) ∧ I' (x + 56) = apW (I (x + 56)) n w)) := by
  refine Ctr.go rfl (by decide) rfl rfl ?_
  refine WP.bipush (pc := 0) (v := 24) dX8_appendWord_0 (by decide) ?_
  refine WP.istore_n (pc := 2) dX8_appendWord_2 (by decide) rfl ?_
  refine LX8_ap Γ hx (n := n) (by omega) (sh := 24) (by decide) h9 (fun I1 f1 g1 e1 => ?_)
  rw [show (24 : Int32) + Int32.ofInt (-8) = 16 by decide]
  refine LX8_ap Γ hx (n := n + 1) (by omega) (sh := 16) (by decide) g1 (fun I2 f2 g2 e2 => ?_)
  rw [show (16 : Int32) + Int32.ofInt (-8) = 8 by decide]
  refine LX8_ap Γ hx (n := n + 2) (by omega) (sh := 8) (by decide) g2 (fun I3 f3 g3 e3 => ?_)
  rw [show (8 : Int32) + Int32.ofInt (-8) = 0 by decide]
  refine LX8_ap Γ hx (n := n + 3) (by omega) (sh := 0) (by decide) g3 (fun I4 f4 g4 e4 => ?_)
  rw [show (0 : Int32) + Int32.ofInt (-8) = -8 by decide]
  refine WP.iload_n (pc := 3) dX8_appendWord_3 rfl ?_
  refine WP.if_lt (pc := 4) (tgt := 46) dX8_appendWord_4 (by decide) (fun h1 => ?_) (fun h1 => ?_)
  · refine WP.vret (pc := 46) rfl dX8_appendWord_46 ?_
    refine ⟨rfl, _, rfl, ((f1.trans f2).trans f3).trans f4, g4, ?_⟩
    rw [e4, e3, e2, e1]
    rfl
  · exact absurd (by decide) h1
theorem CX8_appendInput (hx : xAt σ x m) (a b c d e : Int32) : Ctr Γ (6, 90, 1, 6) MX8_appendInput [.ref x, .int a, .int b, .int c, .int d, .int e] σ (xO σ x [eIS] (q_appendInput m a b c d e)) := by
  have h9 : aI σ x 9 = nI m.n := hx.2.2.2.1.2.2.1
  have hn6 : m.n ≤ 600 := hx.2.2.2.1.2.2.2.1
  have hF : aI σ (x + 56) = m.f := hx.2.2.2.1.2.1
  refine Ctr.go rfl (by decide) rfl rfl ?_
  refine WP.self ?_
  unfold q_appendInput
  refine WP.aload_n (pc := 0) dX8_appendInput_0 rfl ?_
  refine WP.gIv (pc := 1) (v := (nI m.n)) uX8 fX8_69 hx.1.t0 (by simp [up_eq, h9]) dX8_appendInput_1 ?_
  refine WP.sipush (pc := 4) (v := 580) dX8_appendInput_4 (by decide) ?_
  refine WP.icmp_le (pc := 7) (tgt := 20) dX8_appendInput_7 (by decide) (fun h1 => ?_) (fun h1 => ?_)
  · have hle : m.n ≤ 580 := (nI_leI (b := 580) (by omega) (by omega)).mp h1
    rw [if_neg (by omega)]
    refine WP.aload_n (pc := 20) dX8_appendInput_20 rfl ?_
    refine WP.iload_n (pc := 21) dX8_appendInput_21 rfl ?_
    refine WP.cVw (pc := 22) (mc2 := 0) (ms2 := 0) (ci := 8) kX8_79 (CX8_appendWord Γ hx.1 (n := m.n) (by omega) a h9) (by decide) rfl hx.1.t0 rfl ⟨Nat.le_of_ble_eq_true rfl, Nat.le_of_ble_eq_true rfl⟩ (Nat.le_of_ble_eq_true rfl) (Nat.le_of_ble_eq_true rfl) (Nat.le_of_ble_eq_true rfl) rfl dX8_appendInput_22 (fun I1 ⟨f1, g1, e1⟩ => ?_)
    refine WP.aload_n (pc := 25) dX8_appendInput_25 rfl ?_
    refine WP.iload_n (pc := 26) dX8_appendInput_26 rfl ?_
    refine WP.cVw (pc := 27) (mc2 := 0) (ms2 := 0) (ci := 8) kX8_79 (CX8_appendWord Γ hx.1 (n := m.n + 4) (by omega) b g1) (by decide) rfl hx.1.t0 rfl ⟨Nat.le_of_ble_eq_true rfl, Nat.le_of_ble_eq_true rfl⟩ (Nat.le_of_ble_eq_true rfl) (Nat.le_of_ble_eq_true rfl) (Nat.le_of_ble_eq_true rfl) rfl dX8_appendInput_27 (fun I2 ⟨f2, g2, e2⟩ => ?_)
    refine WP.aload_n (pc := 30) dX8_appendInput_30 rfl ?_
    refine WP.iload_n (pc := 31) dX8_appendInput_31 rfl ?_
    refine WP.cVw (pc := 32) (mc2 := 0) (ms2 := 0) (ci := 8) kX8_79 (CX8_appendWord Γ hx.1 (n := m.n + 8) (by omega) c g2) (by decide) rfl hx.1.t0 rfl ⟨Nat.le_of_ble_eq_true rfl, Nat.le_of_ble_eq_true rfl⟩ (Nat.le_of_ble_eq_true rfl) (Nat.le_of_ble_eq_true rfl) (Nat.le_of_ble_eq_true rfl) rfl dX8_appendInput_32 (fun I3 ⟨f3, g3, e3⟩ => ?_)
    refine WP.aload_n (pc := 35) dX8_appendInput_35 rfl ?_
    refine WP.iload (pc := 36) dX8_appendInput_36 rfl ?_
    refine WP.cVw (pc := 38) (mc2 := 0) (ms2 := 0) (ci := 8) kX8_79 (CX8_appendWord Γ hx.1 (n := m.n + 12) (by omega) d g3) (by decide) rfl hx.1.t0 rfl ⟨Nat.le_of_ble_eq_true rfl, Nat.le_of_ble_eq_true rfl⟩ (Nat.le_of_ble_eq_true rfl) (Nat.le_of_ble_eq_true rfl) (Nat.le_of_ble_eq_true rfl) rfl dX8_appendInput_38 (fun I4 ⟨f4, g4, e4⟩ => ?_)
    refine WP.aload_n (pc := 41) dX8_appendInput_41 rfl ?_
    refine WP.iload (pc := 42) dX8_appendInput_42 rfl ?_
    refine WP.cVw (pc := 44) (mc2 := 0) (ms2 := 0) (ci := 8) kX8_79 (CX8_appendWord Γ hx.1 (n := m.n + 16) (by omega) e g4) (by decide) rfl hx.1.t0 rfl ⟨Nat.le_of_ble_eq_true rfl, Nat.le_of_ble_eq_true rfl⟩ (Nat.le_of_ble_eq_true rfl) (Nat.le_of_ble_eq_true rfl) (Nat.le_of_ble_eq_true rfl) rfl dX8_appendInput_44 (fun I5 ⟨f5, g5, e5⟩ => ?_)
    refine WP.aload_n (pc := 47) dX8_appendInput_47 rfl ?_
    refine WP.gIv (pc := 48) (v := (nI (m.n + 20))) uX8 fX8_69 hx.1.t0 (by simp [up_eq, g5]) dX8_appendInput_48 ?_
    refine WP.iret (pc := 51) rfl dX8_appendInput_51 ?_
    have F := (((f1.trans f2).trans f3).trans f4).trans f5
    have hf : fr (aI σ) I5 x 62 := fun a ha => F.1 a (by omega) (by omega)
    refine xO.ret2 (hx.mv hf (hx.2.2.1.ext (fun a c1 c2 => F.1 a (by omega) (by omega))) ?_ rfl) (kpM.mv hf)
    obtain ⟨b1, b2, b3, b4, b5, b6, b7, b8, b9, b10, b11, b12⟩ := hx.2.2.2.1
    exact ⟨fun j' hj' => by rw [F.1 _ (by omega) (by omega)]; exact b1 j' hj', by rw [e5, e4, e3, e2, e1, hF], g5, by show m.n + 20 ≤ 600; omega, by rw [F.2 _ (by omega)]; exact b5, b6, by rw [F.2 _ (by omega)]; exact b7, by rw [F.2 _ (by omega)]; exact b8, b9, fun i v hv => by rw [F.1 _ (by omega) (by omega)]; exact b10 i v hv, by rw [F.2 _ (by omega)]; exact b11, b12⟩
  · have hgt : 580 < m.n := Nat.not_le.mp fun q => h1 (nI_le (b := 580) q (by omega))
    rw [if_pos hgt]
    refine WP.throwS (pc := 10) rfl tX8_appendInput_10 ⟨by decide, by decide, by decide, by decide⟩ dX8_appendInput_10 dX8_appendInput_13 dX8_appendInput_14 dX8_appendInput_16 dX8_appendInput_19 (fun n hn => ?_)
    exact xO.exc hx hn rfl
end T
