section T
variable (Γ : cG) {σ : cAS} {B0 b v m : Nat} {l : List Nat}
theorem dgs_1 {x : Nat} (h : x < 10) : dgs x = [48 + x] := if_pos h
theorem dgs_2 {x : Nat} (h : ¬ x < 10) (h2 : x < 100) : dgs x = [48 + x / 10, 48 + x % 10] := by unfold dgs; rw [if_neg h, if_pos h2]
theorem dgs_3 {x : Nat} (h : ¬ x < 10) (h2 : ¬ x < 100) : dgs x = [48 + x / 100, 48 + x / 10 % 10, 48 + x % 10] := by unfold dgs; rw [if_neg h, if_neg h2]
theorem ng_ng (x : Int32) : -(-x) = x := by simp
/-- one digit, or two, of a row of digits -/
theorem LJ6_tail {x n q : Nat} (hx : x < 100) (hv : aT σ v = (12, m)) (hm : m ≤ 1000) (hq : q = n + (dgs x).length) (hqm : q ≤ m) {Φ : cRes → cAS → Prop}
    (k : ∀ τ, wrS σ τ v n (dgs x) → Φ (.inl (some (.int (nI n)))) τ) : WP Γ (0, 0, 0, 0) MJ6_getChars_ba4f3 Φ 72 [some (.int (-nI x)), none, some (.ref v), none, none, some (.int (nI q)), some (.int 0)] [] σ := by
  obtain ⟨f1, f2⟩ := gc_fact2 x hx
  have hlen := (dgs_fact x (by omega)).1
  have hq1 : 1 ≤ q := by
    rw [hq, hlen]
    split <;> (try split) <;> omega
  obtain ⟨q', rfl⟩ : ∃ q', q = q' + 1 := ⟨q - 1, by omega⟩
  have b1 := by_fact (48 + x % 10) (by omega)
  have b2 := by_fact (48 + x / 10) (by omega)
  refine WP.aload_n (pc := 72) dJ6_getChars_ba4f3_72 rfl ?_
  refine WP.iinc (pc := 73) dJ6_getChars_ba4f3_73 rfl (pk_m1 _) (by decide) rfl ?_
  refine WP.iload (pc := 76) dJ6_getChars_ba4f3_76 rfl ?_
  refine WP.gstO (pc := 78) sJ6_83 dJ6_getChars_ba4f3_78 ?_
  refine WP.iload_n (pc := 81) dJ6_getChars_ba4f3_81 rfl ?_
  refine WP.ineg (pc := 82) dJ6_getChars_ba4f3_82 ?_
  rw [ng_ng]
  refine WP.digO (pc := 83) hx dJ6_getChars_ba4f3_83 ?_
  refine WP.bastore (pc := 84) hv (vp_in_nI (by omega) (by omega)) dJ6_getChars_ba4f3_84 ?_
  rw [nI_clamp (by omega), b1.2.1]
  refine WP.iload_n (pc := 85) dJ6_getChars_ba4f3_85 rfl ?_
  refine WP.bipush (pc := 86) (v := (-9)) dJ6_getChars_ba4f3_86 (by decide) ?_
  refine WP.icmp_ge (pc := 88) (tgt := 104) dJ6_getChars_ba4f3_88 (by decide) (fun h => ?_) (fun h => ?_)
  · have hx1 : x < 10 := Nat.lt_of_not_le (fun q => f2 (by omega) h)
    refine WP.iload (pc := 104) dJ6_getChars_ba4f3_104 rfl ?_
    refine WP.if_eq (pc := 106) (tgt := 118) dJ6_getChars_ba4f3_106 (by decide) (fun _ => ?_) (fun h => absurd rfl h)
    refine WP.iload (pc := 118) dJ6_getChars_ba4f3_118 rfl ?_
    have e : q' = n := by rw [hlen, if_pos hx1] at hq; omega
    subst e
    refine WP.iret (pc := 120) rfl dJ6_getChars_ba4f3_120 ?_
    refine k _ ⟨rfl, rfl, rfl, rfl, fun d hd => funext fun i => by rw [aI_sI, if_neg (fun z => hd z.1)], fun i => ?_⟩
    rw [aI_sI, dgs_1 hx1]
    by_cases ei : i = q'
    · rw [if_pos ⟨rfl, ei⟩, if_pos ⟨by omega, by show i < q' + 1; omega⟩, ei, Nat.sub_self, Nat.mod_eq_of_lt hx1]
      rfl
    · rw [if_neg (fun z => ei z.2), if_neg (fun z => by have := z.2; simp only [List.length_cons, List.length_nil] at this; omega)]
  · have hx1 : ¬ x < 10 := fun q => h (f1 q)
    obtain ⟨q2, rfl⟩ : ∃ q2, q' = q2 + 1 := ⟨q' - 1, by rw [hlen, if_neg hx1, if_pos hx] at hq; omega⟩
    have e : q2 = n := by rw [hlen, if_neg hx1, if_pos hx] at hq; omega
    subst e
    refine WP.aload_n (pc := 91) dJ6_getChars_ba4f3_91 rfl ?_
    refine WP.iinc (pc := 92) dJ6_getChars_ba4f3_92 rfl (pk_m1 _) (by decide) rfl ?_
    refine WP.iload (pc := 95) dJ6_getChars_ba4f3_95 rfl ?_
    refine WP.gstT (pc := 97) sJ6_87 dJ6_getChars_ba4f3_97 ?_
    refine WP.iload_n (pc := 100) dJ6_getChars_ba4f3_100 rfl ?_
    refine WP.ineg (pc := 101) dJ6_getChars_ba4f3_101 ?_
    rw [ng_ng]
    refine WP.digT (pc := 102) hx dJ6_getChars_ba4f3_102 ?_
    refine WP.bastore (pc := 103) (show aT _ v = (12, m) from hv) (vp_in_nI (by omega) (by omega)) dJ6_getChars_ba4f3_103 ?_
    rw [nI_clamp (by omega), b2.2.1]
    refine WP.iload (pc := 104) dJ6_getChars_ba4f3_104 rfl ?_
    refine WP.if_eq (pc := 106) (tgt := 118) dJ6_getChars_ba4f3_106 (by decide) (fun _ => ?_) (fun h => absurd rfl h)
    refine WP.iload (pc := 118) dJ6_getChars_ba4f3_118 rfl ?_
    refine WP.iret (pc := 120) rfl dJ6_getChars_ba4f3_120 ?_
    refine k _ ⟨rfl, rfl, rfl, rfl, fun d hd => funext fun i => by rw [aI_sI, if_neg (fun z => hd z.1), aI_sI, if_neg (fun z => hd z.1)], fun i => ?_⟩
    rw [aI_sI, aI_sI, dgs_2 hx1 hx]
    by_cases ei : i = q2
    · rw [if_pos ⟨rfl, ei⟩, if_pos ⟨by omega, by show i < q2 + 2; omega⟩, ei, Nat.sub_self]
      rfl
    · rw [if_neg (fun z => ei z.2)]
      by_cases ei2 : i = q2 + 1
      · rw [if_pos ⟨rfl, ei2⟩, if_pos ⟨by omega, by show i < q2 + 2; omega⟩, ei2, show q2 + 1 - q2 = 1 by omega]
        rfl
      · rw [if_neg (fun z => ei2 z.2), if_neg (fun z => by have := z.2; simp only [List.length_cons, List.length_nil] at this; omega)]
theorem CJ6_getChars {x n q : Nat} (hx : x < 1000) (hv : aT σ v = (12, m)) (hm : m ≤ 1000) (hq : q = n + (dgs x).length) (hqm : q ≤ m) : Ctr Γ (0, 0, 0, 0) MJ6_getChars_ba4f3 [.int (nI x), .int (nI q), .ref v] σ (rS (fun w τ => w = some (.int (nI n)) ∧ wrS σ τ v n (dgs x))) := by
  obtain ⟨f1, f2⟩ := gc_fact x hx
  refine Ctr.go rfl (by decide) rfl rfl ?_
  refine WP.iload_n (pc := 0) dJ6_getChars_ba4f3_0 rfl ?_
  refine WP.istore (pc := 1) dJ6_getChars_ba4f3_1 (by decide) rfl ?_
  refine WP.iload_n (pc := 3) dJ6_getChars_ba4f3_3 rfl ?_
  refine WP.if_ge (pc := 4) (tgt := 11) dJ6_getChars_ba4f3_4 (by decide) (fun h0 => ?_) (fun h0 => ?_)
  rotate_left
  · exact absurd (nI_pos' (by omega)) h0
  refine WP.iconst (pc := 11) (v := 0) dJ6_getChars_ba4f3_11 (by decide) ?_
  refine WP.istore (pc := 12) dJ6_getChars_ba4f3_12 (by decide) rfl ?_
  refine WP.iload (pc := 14) dJ6_getChars_ba4f3_14 rfl ?_
  refine WP.if_ne (pc := 16) (tgt := 22) dJ6_getChars_ba4f3_16 (by decide) (fun h0 => ?_) (fun h0 => ?_)
  · exact absurd rfl h0
  refine WP.iload_n (pc := 19) dJ6_getChars_ba4f3_19 rfl ?_
  refine WP.ineg (pc := 20) dJ6_getChars_ba4f3_20 ?_
  refine WP.istore_n (pc := 21) dJ6_getChars_ba4f3_21 (by decide) rfl ?_
  refine WP.iload_n (pc := 22) dJ6_getChars_ba4f3_22 rfl ?_
  refine WP.bipush (pc := 23) (v := (-100)) dJ6_getChars_ba4f3_23 (by decide) ?_
  refine WP.icmp_gt (pc := 25) (tgt := 72) dJ6_getChars_ba4f3_25 (by decide) (fun h => ?_) (fun h => ?_)
  · have hx1 : x < 100 := Nat.lt_of_not_le (fun z => (f2 (by omega)).1 h)
    refine WP.drop 1 ?_
    refine LJ6_tail Γ hx1 hv hm hq hqm (fun τ g => ?_)
    exact ⟨_, rfl, rfl, g⟩
  · have hx1 : ¬ x < 100 := fun z => h (f1 z)
    obtain ⟨-, e1, e2, e3⟩ := f2 hx1
    have hlen := (dgs_fact x hx).1
    rw [if_neg (by omega), if_neg hx1] at hlen
    obtain ⟨q', rfl⟩ : ∃ q', q = q' + 2 := ⟨q - 2, by omega⟩
    have b1 := by_fact (48 + x % 100 % 10) (by omega)
    have b2 := by_fact (48 + x % 100 / 10) (by omega)
    refine WP.iload_n (pc := 28) dJ6_getChars_ba4f3_28 rfl ?_
    refine WP.bipush (pc := 29) (v := 100) dJ6_getChars_ba4f3_29 (by decide) ?_
    refine WP.idiv (pc := 31) dJ6_getChars_ba4f3_31 (by decide) ?_
    rw [show -nI x / 100 = -nI (x / 100) from e1]
    refine WP.istore_n (pc := 32) dJ6_getChars_ba4f3_32 (by decide) rfl ?_
    refine WP.iload_n (pc := 33) dJ6_getChars_ba4f3_33 rfl ?_
    refine WP.bipush (pc := 34) (v := 100) dJ6_getChars_ba4f3_34 (by decide) ?_
    refine WP.imul (pc := 36) dJ6_getChars_ba4f3_36 ?_
    refine WP.iload_n (pc := 37) dJ6_getChars_ba4f3_37 rfl ?_
    refine WP.isub (pc := 38) dJ6_getChars_ba4f3_38 ?_
    rw [show -nI (x / 100) * 100 - -nI x = nI (x % 100) from e2]
    refine WP.istore (pc := 39) dJ6_getChars_ba4f3_39 (by decide) rfl ?_
    refine WP.iload_n (pc := 41) dJ6_getChars_ba4f3_41 rfl ?_
    refine WP.istore_n (pc := 42) dJ6_getChars_ba4f3_42 (by decide) rfl ?_
    refine WP.aload_n (pc := 43) dJ6_getChars_ba4f3_43 rfl ?_
    refine WP.iinc (pc := 44) dJ6_getChars_ba4f3_44 rfl (pk_m1 _) (by decide) rfl ?_
    refine WP.iload (pc := 47) dJ6_getChars_ba4f3_47 rfl ?_
    refine WP.gstO (pc := 49) sJ6_83 dJ6_getChars_ba4f3_49 ?_
    refine WP.iload (pc := 52) dJ6_getChars_ba4f3_52 rfl ?_
    refine WP.digO (pc := 54) (i := x % 100) (by omega) dJ6_getChars_ba4f3_54 ?_
    refine WP.bastore (pc := 55) hv (vp_in_nI (by omega) (by omega)) dJ6_getChars_ba4f3_55 ?_
    rw [nI_clamp (by omega), b1.2.1]
    refine WP.aload_n (pc := 56) dJ6_getChars_ba4f3_56 rfl ?_
    refine WP.iinc (pc := 57) dJ6_getChars_ba4f3_57 rfl (pk_m1 _) (by decide) rfl ?_
    refine WP.iload (pc := 60) dJ6_getChars_ba4f3_60 rfl ?_
    refine WP.gstT (pc := 62) sJ6_87 dJ6_getChars_ba4f3_62 ?_
    refine WP.iload (pc := 65) dJ6_getChars_ba4f3_65 rfl ?_
    refine WP.digT (pc := 67) (i := x % 100) (by omega) dJ6_getChars_ba4f3_67 ?_
    refine WP.bastore (pc := 68) (show aT _ v = (12, m) from hv) (vp_in_nI (by omega) (by omega)) dJ6_getChars_ba4f3_68 ?_
    rw [nI_clamp (by omega), b2.2.1]
    refine WP.goto (pc := 69) (tgt := 22) dJ6_getChars_ba4f3_69 (by decide) ?_
    refine WP.iload_n (pc := 22) dJ6_getChars_ba4f3_22 rfl ?_
    refine WP.bipush (pc := 23) (v := (-100)) dJ6_getChars_ba4f3_23 (by decide) ?_
    refine WP.icmp_gt (pc := 25) (tgt := 72) dJ6_getChars_ba4f3_25 (by decide) (fun _ => ?_) (fun h => absurd e3 h)
    have e5 : (dgs (x / 100)).length = 1 := by
      rw [dgs_1 (by omega)]
      rfl
    refine WP.drop 1 ?_
    refine WP.drop 3 ?_
    refine WP.drop 4 ?_
    have hv2 : aT (sI (sI σ v (q' + 1) (nI (48 + x % 100 % 10))) v q' (nI (48 + x % 100 / 10))) v = (12, m) := hv
    refine LJ6_tail Γ (n := n) (q := q') (x := x / 100) (by omega) hv2 hm (by rw [e5]; omega) (by omega) (fun τ g => ?_)
    refine ⟨_, rfl, rfl, ?_⟩
    obtain ⟨g1, g2, g3, g4, g5, g6⟩ := g
    refine ⟨g1, g2, g3, g4, fun d hd => (g5 d hd).trans (funext fun i => by rw [aI_sI, if_neg (fun z => hd z.1), aI_sI, if_neg (fun z => hd z.1)]), fun i => ?_⟩
    rw [g6, aI_sI, aI_sI, dgs_1 (show x / 100 < 10 by omega), dgs_3 (by omega) hx1]
    have eq' : q' = n + 1 := by omega
    subst eq'
    by_cases c0 : i = n
    · rw [if_pos ⟨by omega, by show i < n + 1; omega⟩, if_pos ⟨by omega, by show i < n + 3; omega⟩, c0, Nat.sub_self]
      rfl
    · rw [if_neg (fun z => by have := z.2; simp only [List.length_cons, List.length_nil] at this; omega)]
      by_cases c1 : i = n + 1
      · rw [if_pos ⟨rfl, c1⟩, if_pos ⟨by omega, by show i < n + 3; omega⟩, c1, show n + 1 - n = 1 by omega, show x % 100 / 10 = x / 10 % 10 by omega]
        rfl
      · rw [if_neg (fun z => c1 z.2)]
        by_cases c2 : i = n + 2
        · rw [if_pos ⟨rfl, c2⟩, if_pos ⟨by omega, by show i < n + 3; omega⟩, c2, show n + 2 - n = 2 by omega, show x % 100 % 10 = x % 10 by omega]
          rfl
        · rw [if_neg (fun z => c2 z.2), if_neg (fun z => by have := z.2; simp only [List.length_cons, List.length_nil] at this; omega)]
theorem CJ5_appendI {x : Nat} (h : sbC σ B0 b l v m) (hx : x < 1000) (hm : m ≤ 200) (hm2 : 2 ≤ m) : Ctr Γ (5, 140, 1, 402) MJ5_append_c97b9 [.ref b, .int (nI x)] σ (rS (sbO σ B0 b (l ++ dgs x) (gwN (l.length + (dgs x).length) m))) := by
  obtain ⟨a1, a2, a3, a4, a5, a6, a7, a8, a9, a10, a11, a12⟩ := id h
  have hlen := (dgs_fact x hx).1
  have hl3 : (dgs x).length ≤ 3 := by rw [hlen]; split <;> (try split) <;> omega
  refine Ctr.go rfl (by decide) rfl rfl ?_
  refine WP.aload_n (pc := 0) dJ5_append_c97b9_0 rfl ?_
  refine WP.gIs (pc := 1) uX15 fJ5_79 a5 a9 dJ5_append_c97b9_1 ?_
  refine WP.istore_n (pc := 4) dJ5_append_c97b9_4 (by decide) rfl ?_
  refine WP.iload_n (pc := 5) dJ5_append_c97b9_5 rfl ?_
  refine WP.iload_n (pc := 6) dJ5_append_c97b9_6 rfl ?_
  refine WP.cS1 (pc := 7) (mc2 := 1) (ms2 := 402) kJ5_245 (CJ6_stringSize Γ hx) rfl ⟨Nat.le_of_ble_eq_true rfl, Nat.le_of_ble_eq_true rfl⟩ (Nat.le_of_ble_eq_true rfl) (Nat.le_of_ble_eq_true rfl) (Nat.le_of_ble_eq_true rfl) rfl dJ5_append_c97b9_7 ?_
  refine WP.iadd (pc := 10) dJ5_append_c97b9_10 ?_
  rw [nI_add]
  refine WP.istore_n (pc := 11) dJ5_append_c97b9_11 (by decide) rfl ?_
  refine WP.aload_n (pc := 12) dJ5_append_c97b9_12 rfl ?_
  refine WP.iload_n (pc := 13) dJ5_append_c97b9_13 rfl ?_
  refine WP.cUs (pc := 14) (mc2 := 0) (ms2 := 0) (ci := 15) kJ5_100 (CJ5_ensure Γ h hm (by omega)) (by decide) rfl a5 rfl ⟨Nat.le_of_ble_eq_true rfl, Nat.le_of_ble_eq_true rfl⟩ (Nat.le_of_ble_eq_true rfl) (Nat.le_of_ble_eq_true rfl) (Nat.le_of_ble_eq_true rfl) rfl dJ5_append_c97b9_14 (fun w τ ⟨hw, ⟨v', hs⟩, hk⟩ => ?_)
  subst hw
  have hs0 := hs
  obtain ⟨b1, b2, b3, b4, b5, b6, b7, b8, b9, b10, b11, b12⟩ := hs
  have hg : l.length + (dgs x).length ≤ gwN (l.length + (dgs x).length) m := by unfold gwN; split <;> omega
  have hg2 : gwN (l.length + (dgs x).length) m ≤ 1000 := by unfold gwN; split <;> omega
  refine WP.aload_n (pc := 17) dJ5_append_c97b9_17 rfl ?_
  refine WP.cU1 (pc := 18) (mc2 := 0) (ms2 := 0) (ci := 15) kJ5_83 (CJ5_isLatin1 Γ b5 b8) (by decide) rfl b5 rfl ⟨Nat.le_of_ble_eq_true rfl, Nat.le_of_ble_eq_true rfl⟩ (Nat.le_of_ble_eq_true rfl) (Nat.le_of_ble_eq_true rfl) (Nat.le_of_ble_eq_true rfl) rfl dJ5_append_c97b9_18 ?_
  refine WP.if_eq (pc := 21) (tgt := 37) dJ5_append_c97b9_21 (by decide) (fun h => absurd h (by decide)) (fun _ => ?_)
  refine WP.iload_n (pc := 24) dJ5_append_c97b9_24 rfl ?_
  refine WP.iload_n (pc := 25) dJ5_append_c97b9_25 rfl ?_
  refine WP.aload_n (pc := 26) dJ5_append_c97b9_26 rfl ?_
  refine WP.gRs (pc := 27) uX15 fJ5_15 b5 b7 dJ5_append_c97b9_27 ?_
  refine WP.cSs (pc := 30) (mc2 := 0) (ms2 := 0) kJ5_248 (CJ6_getChars Γ hx b6 hg2 rfl hg) rfl ⟨Nat.le_of_ble_eq_true rfl, Nat.le_of_ble_eq_true rfl⟩ (Nat.le_of_ble_eq_true rfl) (Nat.le_of_ble_eq_true rfl) (Nat.le_of_ble_eq_true rfl) rfl dJ5_append_c97b9_30 (fun w υ ⟨hw, hw2⟩ => ?_)
  subst hw
  refine WP.pop (pc := 33) dJ5_append_c97b9_33 rfl ?_
  refine WP.goto (pc := 34) (tgt := 48) dJ5_append_c97b9_34 (by decide) ?_
  refine WP.aload_n (pc := 48) dJ5_append_c97b9_48 rfl ?_
  refine WP.iload_n (pc := 49) dJ5_append_c97b9_49 rfl ?_
  refine WP.putI (pc := 50) uX15 fJ5_79 rfl rfl (show aT υ b = (16, 4) from by rw [hw2.1]; exact b5) dJ5_append_c97b9_50 ?_
  refine WP.aload_n (pc := 53) dJ5_append_c97b9_53 rfl ?_
  refine WP.aret (pc := 54) rfl (Or.inl ⟨_, rfl⟩) dJ5_append_c97b9_54 ?_
  obtain ⟨g1, g2⟩ := hs0.app (dgs_fact x hx).2 hg hw2
  exact ⟨_, rfl, rfl, ⟨v', g1⟩, hk.trans g2⟩
theorem CJ4_appendI {x : Nat} (h : sbC σ B0 b l v m) (hx : x < 1000) (hm : m ≤ 200) (hm2 : 2 ≤ m) : Ctr Γ (6, 170, 1, 402) MJ4_append_bf812 [.ref b, .int (nI x)] σ (rS (sbO σ B0 b (l ++ dgs x) (gwN (l.length + (dgs x).length) m))) := by
  refine Ctr.go rfl (by decide) rfl rfl ?_
  refine WP.aload_n (pc := 0) dJ4_append_bf812_0 rfl ?_
  refine WP.iload_n (pc := 1) dJ4_append_bf812_1 rfl ?_
  refine WP.cPs (pc := 2) (mc2 := 0) (ms2 := 0) (ci := 15) kJ4_53 (CJ5_appendI Γ h hx hm hm2) (by decide) h.2.2.2.2.1 rfl ⟨Nat.le_of_ble_eq_true rfl, Nat.le_of_ble_eq_true rfl⟩ (Nat.le_of_ble_eq_true rfl) (Nat.le_of_ble_eq_true rfl) (Nat.le_of_ble_eq_true rfl) rfl dJ4_append_bf812_2 (fun w τ ⟨hw, hs⟩ => ?_)
  subst hw
  refine WP.pop (pc := 5) dJ4_append_bf812_5 rfl ?_
  refine WP.aload_n (pc := 6) dJ4_append_bf812_6 rfl ?_
  exact WP.aret (pc := 7) rfl (Or.inl ⟨_, rfl⟩) dJ4_append_bf812_7 ⟨_, rfl, rfl, hs⟩
end T
