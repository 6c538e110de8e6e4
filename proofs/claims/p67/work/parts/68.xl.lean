-- behind: 44 32 33 30 43
-- the base prices that a reading finds don't matter, unless the first statement fails
theorem bsS_ext {z z' : Nat → Int32} {r w o : Int32} : bsS (mS0 z) r w o = bsS (mS0 z') r w o := by
  unfold bsS mS0
  refine Prod.ext (funext fun j => ?_) rfl
  show zup (zup (zup _ 0 r) 1 w) 2 o j = zup (zup (zup _ 0 r) 1 w) 2 o j
  unfold zup
  by_cases h2 : j = 2
  · rw [if_pos h2, if_pos h2]
  · rw [if_neg h2, if_neg h2]
    by_cases h1 : j = 1
    · rw [if_pos h1, if_pos h1]
    · rw [if_neg h1, if_neg h1]
      by_cases h0 : j = 0
      · rw [if_pos h0, if_pos h0]
      · rw [if_neg h0, if_neg h0]
        show (if j < 3 then _ else _) = (if j < 3 then _ else _)
        rw [if_neg (by omega), if_neg (by omega)]
theorem sdMarket_ext {f : Nat → Int32} {n : Nat} {l : mLd} (z z' : Nat → Int32) : (sdMarket f n (mS0 z) l).2 = (sdMarket f n (mS0 z') l).2 ∧ ((sdMarket f n (mS0 z) l).2.1 = 0 → sdMarket f n (mS0 z) l = sdMarket f n (mS0 z') l) := by
  unfold sdMarket
  refine ⟨rfl, fun h => ?_⟩
  refine Prod.ext ?_ rfl
  show (if _ then _ else _) = (if _ then _ else _)
  have h' : (ldSemi f n (ldNum f n 1 99 (ldNum f n 1 99 (ldNum f n 1 99 (ldX f n l)).2).2).2).1 = 0 := h
  rw [if_pos h', if_pos h']
  exact bsS_ext
theorem sdLoop_err {f : Nat → Int32} {n : Nat} : ∀ m (p : mS × mLd), p.2.1 ≠ 0 → sdLoop f n m p = p
  | 0, _, _ => rfl
  | m + 1, p, h => by
    unfold sdLoop
    rw [if_neg (fun q => h q.1)]
theorem sdRead_ext {f : Nat → Int32} {n : Nat} (z z' : Nat → Int32) : (sdRead f n (mS0 z)).2 = (sdRead f n (mS0 z')).2 ∧ ((sdRead f n (mS0 z)).2.1 = 0 → sdRead f n (mS0 z) = sdRead f n (mS0 z')) := by
  unfold sdRead
  by_cases hw : wdI f (ld0 f n).2.2 1 = true
  · rw [if_pos hw, if_pos hw]
    obtain ⟨a, b⟩ := sdMarket_ext (f := f) (n := n) (l := ld0 f n) z z'
    by_cases he : (sdMarket f n (mS0 z) (ld0 f n)).2.1 = 0
    · rw [b he]
      exact ⟨rfl, fun _ => rfl⟩
    · rw [sdLoop_err n _ he, sdLoop_err n _ (a ▸ he)]
      exact ⟨a, fun q => absurd q he⟩
  · rw [if_neg hw, if_neg hw]
    have h1 : ∀ s : mS, ((s, ldF 1 (ld0 f n)) : mS × mLd).2.1 ≠ 0 := fun s => by
      show (1 : Nat) ≠ 0
      decide
    rw [sdLoop_err n _ (h1 _), sdLoop_err n _ (h1 _)]
    exact ⟨rfl, fun q => absurd q (h1 _)⟩
section T
variable (Γ : cG) {σ : cAS} {x : Nat} {m : mX} {T C : Nat}
theorem CX8_load (hx : xAt σ x m) : Ctr Γ (9, 199, 27, 416) MX8_load [.ref x] σ (xO σ x [eIA] (q_load m)) := by
  obtain ⟨fb, ff, fn, fn', fe, fe', fp, fo, fo', foo, fq, fq'⟩ := hx.2.2.2.1
  refine Ctr.go rfl (by decide) rfl rfl ?_
  refine WP.self ?_
  refine WP.aload_n (pc := 0) dX8_load_0 rfl ?_
  refine WP.gR (pc := 1) uX8 fX8_35 hx.1.t0 hx.1.r0_4 dX8_load_1 ?_
  refine WP.aload_n (pc := 4) dX8_load_4 rfl ?_
  refine WP.gIv (pc := 5) (v := (nI m.n)) uX8 fX8_69 hx.1.t0 (by simp [up_eq, fn]) dX8_load_5 ?_
  refine WP.aload_n (pc := 8) dX8_load_8 rfl ?_
  refine WP.gR (pc := 9) uX8 fX8_16 hx.1.t0 hx.1.r0_1 dX8_load_9 ?_
  refine WP.cVw (pc := 12) (mc2 := 27) (ms2 := 416) (ci := 4) kX8_61 (CX4_read Γ hx.1 hx.1.b (by omega) fn' fb) (by decide) rfl hx.1.t57 rfl ⟨Nat.le_of_ble_eq_true rfl, Nat.le_of_ble_eq_true rfl⟩ (Nat.le_of_ble_eq_true rfl) (Nat.le_of_ble_eq_true rfl) (Nat.le_of_ble_eq_true rfl) rfl dX8_load_12 (fun I1 ⟨f1, g1, g2⟩ => ?_)
  rw [ff] at g1 g2
  obtain ⟨x1, x2⟩ := sdRead_ext (f := m.f) (n := m.n) (fun j => aI σ (x + 26 + 1) j) (fun _ => 0)
  have hw := sdRead_wf (T := 0) (C := 0) (f := m.f) fn' (mS0_wf (z := fun j => aI σ (x + 26 + 1) j) fb)
  have hbs := g1.bs hw
  rw [x1] at g2 x2
  change (sdRead m.f m.n s00).2.1 = 0 → sdRead m.f m.n (mS0 (fun j => aI σ (x + 26 + 1) j)) = sdRead m.f m.n s00 at x2
  have ge : I1 (x + 57) 2 = nI (sdRead m.f m.n s00).2.1 := g2.1
  have gp : I1 (x + 57) 3 = (sdRead m.f m.n s00).2.2.1 := g2.2.1
  have hle : (sdRead m.f m.n s00).2.1 ≤ 6 := g2.2.2.2.2
  clear g2 x1
  generalize sdRead m.f m.n (mS0 (fun j => aI σ (x + 26 + 1) j)) = Q at *
  unfold q_load
  generalize sdRead m.f m.n s00 = P at *
  refine WP.aload_n (pc := 15) dX8_load_15 rfl ?_
  refine WP.iconst (pc := 16) (v := 0) dX8_load_16 (by decide) ?_
  refine WP.pI (pc := 17) uX8 fX8_69 rfl rfl hx.1.t0 dX8_load_17 ?_
  refine WP.aload_n (pc := 20) dX8_load_20 rfl ?_
  refine WP.aload_n (pc := 21) dX8_load_21 rfl ?_
  refine WP.gR (pc := 22) uX8 fX8_35 hx.1.t0 hx.1.r0_4 dX8_load_22 ?_
  refine WP.gIv (pc := 25) (v := (nI P.2.1)) uX4 fX8_87 hx.1.t57 (by simp [up_eq, ge]) dX8_load_25 ?_
  refine WP.pI (pc := 28) uX8 fX8_90 rfl rfl hx.1.t0 dX8_load_28 ?_
  refine WP.aload_n (pc := 31) dX8_load_31 rfl ?_
  refine WP.aload_n (pc := 32) dX8_load_32 rfl ?_
  refine WP.gR (pc := 33) uX8 fX8_35 hx.1.t0 hx.1.r0_4 dX8_load_33 ?_
  refine WP.gIv (pc := 36) (v := P.2.2.1) uX4 fX8_93 hx.1.t57 (by simp [up_eq, gp]) dX8_load_36 ?_
  refine WP.pI (pc := 39) uX8 fX8_65 rfl rfl hx.1.t0 dX8_load_39 ?_
  refine WP.aload_n (pc := 42) dX8_load_42 rfl ?_
  refine WP.gI (pc := 43) uX8 fX8_90 hx.1.t0 dX8_load_43 ?_
  have hf : ∀ J : Nat → Nat → Int32, (∀ a, a ≠ x → J a = I1 a) → fr (aI σ) J x 62 := fun J hJ a ha => by rw [hJ a (by omega), f1 a (by omega) (by omega)]
  have fx : I1 x = aI σ x := f1 x (by omega) (by omega)
  have hN : ∀ c : Nat, c ≤ 6 → ∀ J : Nat → Nat → Int32, (∀ a, a ≠ x → J a = I1 a) → (∀ j, j ≠ 9 → j ≠ 11 → j ≠ 12 → J x j = I1 x j) → J x 9 = 0 → J x 11 = nI c → J x 12 = P.2.2.1 → xAt (wI σ J) x (mX.w_ep (mX.w_e (mX.w_n m 0) c) P.2.2.1) := fun c hc J hJ h0 h9 h11 h12 => by
    refine hx.mv (hf J hJ) (hx.2.2.1.ext (fun a c1 c2 => ?_)) ⟨fun j hj => ?_, ?_, h9, Nat.zero_le _, h11, hc, h12, ?_, fo', fun i v hv => ?_, ?_, fq'⟩ rfl
    · rw [hJ a (by omega), f1 a (by omega) (by omega)]
    · rw [hJ _ (by omega)]
      exact hbs j hj
    · rw [hJ _ (by omega), f1 _ (by omega) (by omega)]
      exact ff
    · rw [h0 10 (by decide) (by decide) (by decide), fx]
      exact fo
    · rw [hJ _ (by omega), f1 _ (by omega) (by omega)]
      exact foo i v hv
    · rw [h0 8 (by decide) (by decide) (by decide), fx]
      exact fq
  generalize hJ : up (up (up I1 x 9 0) x 11 (nI P.2.1)) x 12 P.2.2.1 = J
  have j0 : ∀ a, a ≠ x → J a = I1 a := fun a ha => by
    rw [← hJ]
    funext j
    simp [up_eq, ha]
  have j1 : ∀ j, j ≠ 9 → j ≠ 11 → j ≠ 12 → J x j = I1 x j := fun j a b c => by
    rw [← hJ]
    simp [up_eq, a, b, c]
  have j9 : J x 9 = 0 := by
    rw [← hJ]
    simp [up_eq]
  have j11 : J x 11 = nI P.2.1 := by
    rw [← hJ]
    simp [up_eq]
  have j12 : J x 12 = P.2.2.1 := by
    rw [← hJ]
    simp [up_eq]
  have hX := hN P.2.1 hle J j0 j1 j9 j11 j12
  clear hN hJ
  by_cases h0 : P.2.1 = 0
  · rw [if_pos h0]
    rw [x2 h0] at g1
    rw [h0] at hX
    have g1' : stAt J (x + 26) P.1 := g1.ext (fun a c1 c2 => j0 a (by omega))
    refine WP.if_eq (pc := 46) (tgt := 59) dX8_load_46 (by decide) (fun h2 => ?_) (fun h2 => ?_)
    · refine WP.aload_n (pc := 59) dX8_load_59 rfl ?_
      refine WP.cVo3 (pc := 60) (mc2 := 1) (ms2 := 6) (ci := 8) kX8_101 (CX8_remember Γ hX) (by decide) rfl hX.1.t0 rfl ⟨Nat.le_of_ble_eq_true rfl, Nat.le_of_ble_eq_true rfl⟩ (Nat.le_of_ble_eq_true rfl) (Nat.le_of_ble_eq_true rfl) (Nat.le_of_ble_eq_true rfl) rfl dX8_load_60 (fun τ ⟨hτ, kτ, rτ, sτ⟩ => ?_)
      refine WP.self ?_
      have g3 : stAt (aI τ) (x + 26) P.1 := g1'.ext (fun a c1 c2 => sτ a c1 (by omega))
      refine WP.aload_n (pc := 63) dX8_load_63 rfl ?_
      refine WP.gR (pc := 64) uX8 fX8_10 hτ.1.t0 hτ.1.r0_0 dX8_load_64 ?_
      refine WP.aload_n (pc := 67) dX8_load_67 rfl ?_
      refine WP.gR (pc := 68) uX8 fX8_16 hτ.1.t0 hτ.1.r0_1 dX8_load_68 ?_
      refine WP.cVw (pc := 71) (mc2 := 0) (ms2 := 0) (ci := 5) kX8_104 (CX5_copyFrom Γ hτ.1.a hτ.1.b (by omega) g3) (by decide) rfl hτ.1.a.t0 rfl ⟨Nat.le_of_ble_eq_true rfl, Nat.le_of_ble_eq_true rfl⟩ (Nat.le_of_ble_eq_true rfl) (Nat.le_of_ble_eq_true rfl) (Nat.le_of_ble_eq_true rfl) rfl dX8_load_71 (fun I2 ⟨f2, g4⟩ => ?_)
      have g5 : I2 (x + 1 + 13) 0 = nI P.1.2.2.2.1.length := g4.2.2.2.1.1
      refine WP.aload_n (pc := 74) dX8_load_74 rfl ?_
      refine WP.gR (pc := 75) uX8 fX8_10 hτ.1.t0 hτ.1.r0_0 dX8_load_75 ?_
      refine WP.gR (pc := 78) uX5 fX8_108 hτ.1.a.t0 hτ.1.a.r0_3 dX8_load_78 ?_
      refine WP.gI (pc := 81) uX2 fX8_112 hτ.1.a.t13 dX8_load_81 ?_
      rw [show I2 (x + 1 + 13) 0 = nI P.1.2.2.2.1.length from g5]
      refine WP.iret (pc := 84) rfl dX8_load_84 ?_
      obtain ⟨h1, h2⟩ := hτ.st f2 g4
      exact xO.ret2 h1 ((kpM.mv (hf J j0)).trans (kτ.trans h2))
    · exact absurd (by rw [j11, h0]; rfl) h2
  · rw [if_neg h0]
    refine WP.if_eq (pc := 46) (tgt := 59) dX8_load_46 (by decide) (fun h2 => ?_) (fun h2 => ?_)
    · exact absurd ((nI_eq (b := 0) (by omega) (by omega)).mp (j11.symm.trans h2)) h0
    · refine WP.throwS (pc := 49) rfl tX8_load_49 ⟨by decide, by decide, by decide, by decide⟩ dX8_load_49 dX8_load_52 dX8_load_53 dX8_load_55 dX8_load_58 (fun n hn => ?_)
      exact ⟨rfl, hX.ex hn, (kpM.mv (hf J j0)).trans (kpM.ex hn)⟩
end T
