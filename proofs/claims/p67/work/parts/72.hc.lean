section T
variable (Γ : cG) {σ : cAS} {x h N : Nat} {m : mX} {S : hBd}
def hZ (z : Nat → Int32) (S : hBd) : Prop := S.1 9 = z 3 ∧ ∀ j, j < 3 → S.2.1 j = z j
theorem rsvN_2 {b A : Nat} (hb : b ≤ 99) : b / 2 ^ (A / 4) = rsvN 2 b A := by
  unfold rsvN
  rw [if_neg (by decide), if_neg (by decide)]
  split
  · next h =>
    have h2 : 2 ^ 8 ≤ 2 ^ (A / 4) := Nat.pow_le_pow_right (by decide) (by omega)
    exact Nat.div_eq_of_lt (by omega)
  · rfl
theorem LH_res {r : cRm} {Φ : cRes → cAS → Prop} {e : mLf} {a A b : Nat} (hA : A ≤ 2000) (hb : b ≤ 99) (k : Φ (.inl (some (.int (nI (b / 2 ^ (A / 4)))))) σ) : ∀ d i, i + d = A / 4 + 1 → 1 ≤ i → WP Γ r MX9_reserve Φ 70 [some (.ref h), some (.ref a), some (.int (nI A)), some (.int (nI (b / 2 ^ (i - 1)))), some (.int (nI (4 * i)))] [] σ := by
  intro d
  induction d with
  | zero =>
    intro i h1 h2
    refine WP.iload (pc := 70) dX9_reserve_70 rfl ?_
    refine WP.iload_n (pc := 72) dX9_reserve_72 rfl ?_
    refine WP.icmp_gt (pc := 73) (tgt := 86) dX9_reserve_73 (by decide) (fun c => ?_) (fun c => ?_)
    · refine WP.iload_n (pc := 86) dX9_reserve_86 rfl ?_
      refine WP.iret (pc := 87) rfl dX9_reserve_87 ?_
      rw [show i - 1 = A / 4 by omega]
      exact k
    · exact absurd (nI_ge (a := A) (b := 4 * i) (by omega) (by omega)) (fun z => c (by first | exact nI_lt (by omega) (by omega)))
  | succ d ih =>
    intro i h1 h2
    refine WP.iload (pc := 70) dX9_reserve_70 rfl ?_
    refine WP.iload_n (pc := 72) dX9_reserve_72 rfl ?_
    refine WP.icmp_gt (pc := 73) (tgt := 86) dX9_reserve_73 (by decide) (fun c => ?_) (fun c => ?_)
    · exact absurd c (nI_nlt (by omega) (by omega))
    · have hq : b / 2 ^ (i - 1) ≤ 99 := Nat.le_trans (Nat.div_le_self _ _) hb
      refine WP.iload_n (pc := 76) dX9_reserve_76 rfl ?_
      refine WP.iconst (pc := 77) (v := 2) dX9_reserve_77 (by decide) ?_
      refine WP.idN (pc := 78) (b := 2) rfl (by omega) (by omega) (by omega) dX9_reserve_78 ?_
      rw [show b / 2 ^ (i - 1) / 2 = b / 2 ^ (i + 1 - 1) by
        rw [show i + 1 - 1 = (i - 1) + 1 by omega, Nat.pow_succ, Nat.div_div_eq_div_mul]]
      refine WP.istore_n (pc := 79) dX9_reserve_79 (by decide) rfl ?_
      refine WP.iinc (pc := 80) (v := nI (4 * (i + 1))) dX9_reserve_80 rfl (by show nI (4 * i) + nI 4 = _; rw [nI_add]; rfl) (by decide) rfl ?_
      refine WP.goto (pc := 83) (tgt := 70) dX9_reserve_83 (by decide) ?_
      exact ih (i + 1) (by omega) (by omega)
theorem CH_reserve (hj : hJ σ x m h N S) {e : mLf} {a T C A nb : Nat} {z : Nat → Int32} (a2 : aT σ a = (11, 3)) (a3 : aI σ a = rw3 e) (hz : okZ T C z) (hA : A ≤ 2000) (he : okL A z nb e) (hZ' : hZ z S) : Ctr Γ (1, 24, 0, 0) MX9_reserve [.ref h, .ref a] σ (rV (some (.int (rsE z e))) σ) := by
  obtain ⟨j, b, e1, hj3, hb, hb9, hv⟩ := rsE_N hz hA he
  obtain ⟨h9, hbs⟩ := hZ'
  have hag := he.2.2.1
  have hagA := he.2.2.2
  generalize ag z e = G at hv hag hagA
  rw [hv]
  have hbj := (hbs j hj3).trans hb
  refine Ctr.go rfl (by decide) rfl rfl ?_
  refine WP.aload_n (pc := 0) dX9_reserve_0 rfl ?_
  refine WP.gIs (pc := 1) uX9 fX9_81 hj.t0 (v := (z 3)) ((hj.fI 9).trans (h9)) dX9_reserve_1 ?_
  refine WP.aload_n (pc := 4) dX9_reserve_4 rfl ?_
  refine WP.iconst (pc := 5) (v := 2) dX9_reserve_5 (by decide) ?_
  refine WP.ialdS (pc := 6) (k := 2) a2 (by decide) (by decide) (v := e.2.2) (congrFun a3 2) dX9_reserve_6 ?_
  refine WP.isub (pc := 7) dX9_reserve_7 ?_
  rw [hag]
  refine WP.istore_n (pc := 8) dX9_reserve_8 (by decide) rfl ?_
  refine WP.aload_n (pc := 9) dX9_reserve_9 rfl ?_
  refine WP.gRs (pc := 10) uX9 fX9_7 hj.t0 hj.r0_0 dX9_reserve_10 ?_
  refine WP.aload_n (pc := 13) dX9_reserve_13 rfl ?_
  refine WP.iconst (pc := 14) (v := 0) dX9_reserve_14 (by decide) ?_
  refine WP.ialdS (pc := 15) (k := 0) a2 (by decide) (by decide) (v := (nI j)) ((congrFun a3 0).trans (e1)) dX9_reserve_15 ?_
  refine WP.ialdS (pc := 16) hj.t1 (by omega) (by decide) (v := (nI b)) ((hj.bI _).trans (hbj)) dX9_reserve_16 ?_
  refine WP.istore_n (pc := 17) dX9_reserve_17 (by decide) rfl ?_
  refine WP.aload_n (pc := 18) dX9_reserve_18 rfl ?_
  refine WP.iconst (pc := 19) (v := 0) dX9_reserve_19 (by decide) ?_
  refine WP.ialdS (pc := 20) (k := 0) a2 (by decide) (by decide) (v := (nI j)) ((congrFun a3 0).trans (e1)) dX9_reserve_20 ?_
  rcases (show j = 0 ∨ j = 1 ∨ j = 2 by omega) with rfl | rfl | rfl
  · refine WP.if_ne (pc := 21) (tgt := 47) dX9_reserve_21 (by decide) (fun c => ?_) (fun c => ?_)
    · exact absurd rfl c
    · refine WP.iload_n (pc := 24) dX9_reserve_24 rfl ?_
      refine WP.bipush (pc := 25) (v := 24) dX9_reserve_25 (by decide) ?_
      refine WP.icmp_gt (pc := 27) (tgt := 34) dX9_reserve_27 (by decide) (fun c2 => ?_) (fun c2 => ?_)
      · refine WP.iconst (pc := 34) (v := 0) dX9_reserve_34 (by decide) ?_
        refine WP.iload_n (pc := 35) dX9_reserve_35 rfl ?_
        refine WP.iconst (pc := 36) (v := 2) dX9_reserve_36 (by decide) ?_
        refine WP.iload_n (pc := 37) dX9_reserve_37 rfl ?_
        refine WP.bipush (pc := 38) (v := 24) dX9_reserve_38 (by decide) ?_
        have hg : 24 ≤ G := by
          rcases Nat.lt_or_ge G 24 with q | q
          · exact absurd c2 (nI_nlt (a := 24) (b := G) (by omega) (by omega))
          · exact q
        refine WP.isub (pc := 40) dX9_reserve_40 ?_
        rw [show nI G - 24 = nI (G - 24) from pk_sub (b := 24) hg]
        refine WP.imul (pc := 41) dX9_reserve_41 ?_
        rw [show 2 * nI (G - 24) = nI (2 * (G - 24)) from pk_mul 2 _]
        refine WP.isub (pc := 42) dX9_reserve_42 ?_
        refine WP.mmax (pc := 43) kX9_84 (by decide) (by decide) dX9_reserve_43 ?_
        rw [imax0 (by omega) (by omega)]
        refine WP.iret (pc := 46) rfl dX9_reserve_46 ⟨?_, rfl⟩
        unfold rsvN
        rw [if_pos rfl]
        split
        · next q => rw [show G - 24 = 0 by omega]; rfl
        · rfl
      · refine WP.iload_n (pc := 30) dX9_reserve_30 rfl ?_
        refine WP.goto (pc := 31) (tgt := 46) dX9_reserve_31 (by decide) ?_
        refine WP.iret (pc := 46) rfl dX9_reserve_46 ⟨?_, rfl⟩
        unfold rsvN
        rw [if_pos rfl, if_pos]
        rcases Nat.lt_or_ge 24 G with q | q
        · exact absurd (nI_lt (a := 24) (b := G) q (by omega)) c2
        · exact q
  · skip
    refine WP.if_ne (pc := 21) (tgt := 47) dX9_reserve_21 (by decide) (fun c => ?_) (fun c => ?_)
    · refine WP.aload_n (pc := 47) dX9_reserve_47 rfl ?_
      refine WP.iconst (pc := 48) (v := 0) dX9_reserve_48 (by decide) ?_
      refine WP.ialdS (pc := 49) (k := 0) a2 (by decide) (by decide) (v := (nI 1)) ((congrFun a3 0).trans (e1)) dX9_reserve_49 ?_
      refine WP.iconst (pc := 50) (v := 1) dX9_reserve_50 (by decide) ?_
      refine WP.icmp_ne (pc := 51) (tgt := 67) dX9_reserve_51 (by decide) (fun c2 => ?_) (fun c2 => ?_)
      · exact absurd rfl c2
      · refine WP.iconst (pc := 54) (v := 0) dX9_reserve_54 (by decide) ?_
        refine WP.iload_n (pc := 55) dX9_reserve_55 rfl ?_
        refine WP.iload_n (pc := 56) dX9_reserve_56 rfl ?_
        refine WP.iload_n (pc := 57) dX9_reserve_57 rfl ?_
        refine WP.imN (pc := 58) rfl rfl dX9_reserve_58 ?_
        refine WP.bipush (pc := 59) (v := 20) dX9_reserve_59 (by decide) ?_
        have hm : b * G ≤ 99 * 2000 := Nat.mul_le_mul hb9 (by omega)
        refine WP.idN (pc := 61) (a := b * G) (b := 20) rfl (by omega) (by omega) (by omega) dX9_reserve_61 ?_
        refine WP.isub (pc := 62) dX9_reserve_62 ?_
        refine WP.mmax (pc := 63) kX9_84 (by decide) (by decide) dX9_reserve_63 ?_
        rw [imax0 (by omega) (by omega)]
        exact WP.iret (pc := 66) rfl dX9_reserve_66 ⟨rfl, rfl⟩
    · exact absurd c (by decide)
  · skip
    refine WP.if_ne (pc := 21) (tgt := 47) dX9_reserve_21 (by decide) (fun c => ?_) (fun c => ?_)
    · refine WP.aload_n (pc := 47) dX9_reserve_47 rfl ?_
      refine WP.iconst (pc := 48) (v := 0) dX9_reserve_48 (by decide) ?_
      refine WP.ialdS (pc := 49) (k := 0) a2 (by decide) (by decide) (v := (nI 2)) ((congrFun a3 0).trans (e1)) dX9_reserve_49 ?_
      refine WP.iconst (pc := 50) (v := 1) dX9_reserve_50 (by decide) ?_
      refine WP.icmp_ne (pc := 51) (tgt := 67) dX9_reserve_51 (by decide) (fun c2 => ?_) (fun c2 => ?_)
      · refine WP.iconst (pc := 67) (v := 4) dX9_reserve_67 (by decide) ?_
        refine WP.istore (pc := 68) dX9_reserve_68 (by decide) rfl ?_
        have := LH_res Γ (σ := σ) (h := h) (e := e) (a := a) (A := G) (b := b) (r := (1, 24, 0, 0)) (Φ := rV (some (.int (nI (rsvN 2 b G)))) σ) (by omega) hb9 (by rw [rsvN_2 hb9]; exact ⟨rfl, rfl⟩) (G / 4) 1 (by omega) (by omega)
        rw [show b / 2 ^ (1 - 1) = b by simp] at this
        exact this
      · exact absurd c2 (by decide)
    · exact absurd c (by decide)
end T
