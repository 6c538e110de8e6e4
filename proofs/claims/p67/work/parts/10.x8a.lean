def rsv (kind base age : Int32) : Int32 :=
  if kind = 0 then (let fallen := if age ≤ 24 then base else base - 2 * (age - 24); if fallen < 0 then 0 else fallen)
  else if kind = 1 then (let fallen := base - base * age / 20; if fallen < 0 then 0 else fallen)
  else (if 7 < age / 4 then 0 else base >>> (age / 4 &&& 31))
def fndI (f : Nat → Int32) (v : Int32) : Nat → Nat → Int32
  | 0, _ => -1
  | n + 1, i => if f i = v then nI i else fndI f v n (i + 1)
def smI (f : Nat → Int32) : Nat → Int32
  | 0 => 0
  | n + 1 => smI f n + f n
def isLet (x : Int32) : Bool := decide (97 ≤ x) && decide (x ≤ 122)
def isDig (x : Int32) : Bool := decide (48 ≤ x) && decide (x ≤ 57)
def bI (b : Bool) : Int32 := if b then 1 else 0
def ltAt (name pos : Int32) : Int32 := name >>> (8 * pos &&& 31) &&& 255
def nmLen (name : Int32) : Nat → Nat → Nat
  | 0, i => i
  | n + 1, i => if ltAt name (nI i) = 0 then i else nmLen name n (i + 1)
def pkA (f : Nat → Int32) (s : Nat) : Nat → Int32
  | 0 => 0
  | n + 1 => pkA f s n ||| f (s + n) <<< (8 * nI n &&& 31)
def allL (f : Nat → Int32) (s : Nat) : Nat → Bool
  | 0 => true
  | n + 1 => allL f s n && isLet (f (s + n))
def pkN (f : Nat → Int32) (s n : Nat) : Int32 := if 1 ≤ n ∧ n ≤ 4 ∧ allL f s n = true then pkA f s n else -1
section T
variable (Γ : cG) (σ : cAS) (I : Nat → Nat → Int32)
theorem CX8_reserve (kind base age : Int32) : Ctr Γ (0, 0, 0, 0) MX8_reserve [.int kind, .int base, .int age] σ (rV (some (.int (rsv kind base age))) σ) := by
  refine Ctr.go rfl (by decide) rfl rfl ?_
  refine WP.iload_n (pc := 0) dX8_reserve_0 rfl ?_
  refine WP.if_ne (pc := 1) (tgt := 33) dX8_reserve_1 (by decide) (fun h => ?_) (fun h => ?_)
  · refine WP.iload_n (pc := 33) dX8_reserve_33 rfl ?_
    refine WP.iconst (pc := 34) (v := 1) dX8_reserve_34 (by decide) ?_
    refine WP.icmp_ne (pc := 35) (tgt := 57) dX8_reserve_35 (by decide) (fun h1 => ?_) (fun h1 => ?_)
    · refine WP.iload_n (pc := 57) dX8_reserve_57 rfl ?_
      refine WP.iconst (pc := 58) (v := 4) dX8_reserve_58 (by decide) ?_
      refine WP.idiv (pc := 59) dX8_reserve_59 (by decide) ?_
      refine WP.istore_n (pc := 60) dX8_reserve_60 (by decide) rfl ?_
      refine WP.iload_n (pc := 61) dX8_reserve_61 rfl ?_
      refine WP.bipush (pc := 62) (v := 7) dX8_reserve_62 (by decide) ?_
      refine WP.icmp_le (pc := 64) (tgt := 71) dX8_reserve_64 (by decide) (fun h2 => ?_) (fun h2 => ?_)
      · refine WP.iload_n (pc := 71) dX8_reserve_71 rfl ?_
        refine WP.iload_n (pc := 72) dX8_reserve_72 rfl ?_
        refine WP.ishr (pc := 73) dX8_reserve_73 ?_
        refine WP.iret (pc := 74) rfl dX8_reserve_74 ?_
        exact ⟨by simp [rsv, h, h1, Int32.not_lt.mpr h2], rfl⟩
      · refine WP.iconst (pc := 67) (v := 0) dX8_reserve_67 (by decide) ?_
        refine WP.goto (pc := 68) (tgt := 74) dX8_reserve_68 (by decide) ?_
        refine WP.iret (pc := 74) rfl dX8_reserve_74 ?_
        exact ⟨by simp [rsv, h, h1, Int32.not_le.mp h2], rfl⟩
    · refine WP.iload_n (pc := 38) dX8_reserve_38 rfl ?_
      refine WP.iload_n (pc := 39) dX8_reserve_39 rfl ?_
      refine WP.iload_n (pc := 40) dX8_reserve_40 rfl ?_
      refine WP.imul (pc := 41) dX8_reserve_41 ?_
      refine WP.bipush (pc := 42) (v := 20) dX8_reserve_42 (by decide) ?_
      refine WP.idiv (pc := 44) dX8_reserve_44 (by decide) ?_
      refine WP.isub (pc := 45) dX8_reserve_45 ?_
      refine WP.istore_n (pc := 46) dX8_reserve_46 (by decide) rfl ?_
      refine WP.iload_n (pc := 47) dX8_reserve_47 rfl ?_
      refine WP.if_ge (pc := 48) (tgt := 55) dX8_reserve_48 (by decide) (fun h2 => ?_) (fun h2 => ?_)
      · refine WP.iload_n (pc := 55) dX8_reserve_55 rfl ?_
        refine WP.iret (pc := 56) rfl dX8_reserve_56 ?_
        exact ⟨by simp [rsv, h1, Int32.not_lt.mpr h2], rfl⟩
      · refine WP.iconst (pc := 51) (v := 0) dX8_reserve_51 (by decide) ?_
        refine WP.goto (pc := 52) (tgt := 56) dX8_reserve_52 (by decide) ?_
        refine WP.iret (pc := 56) rfl dX8_reserve_56 ?_
        exact ⟨by simp [rsv, h1, Int32.not_le.mp h2], rfl⟩
  · subst h
    refine WP.iload_n (pc := 4) dX8_reserve_4 rfl ?_
    refine WP.bipush (pc := 5) (v := 24) dX8_reserve_5 (by decide) ?_
    refine WP.icmp_gt (pc := 7) (tgt := 14) dX8_reserve_7 (by decide) (fun h1 => ?_) (fun h1 => ?_)
    · refine WP.iload_n (pc := 14) dX8_reserve_14 rfl ?_
      refine WP.iconst (pc := 15) (v := 2) dX8_reserve_15 (by decide) ?_
      refine WP.iload_n (pc := 16) dX8_reserve_16 rfl ?_
      refine WP.bipush (pc := 17) (v := 24) dX8_reserve_17 (by decide) ?_
      refine WP.isub (pc := 19) dX8_reserve_19 ?_
      refine WP.imul (pc := 20) dX8_reserve_20 ?_
      refine WP.isub (pc := 21) dX8_reserve_21 ?_
      refine WP.istore_n (pc := 22) dX8_reserve_22 (by decide) rfl ?_
      refine WP.iload_n (pc := 23) dX8_reserve_23 rfl ?_
      refine WP.if_ge (pc := 24) (tgt := 31) dX8_reserve_24 (by decide) (fun h2 => ?_) (fun h2 => ?_)
      · refine WP.iload_n (pc := 31) dX8_reserve_31 rfl ?_
        refine WP.iret (pc := 32) rfl dX8_reserve_32 ?_
        exact ⟨by simp [rsv, Int32.not_le.mpr h1, Int32.not_lt.mpr h2], rfl⟩
      · refine WP.iconst (pc := 27) (v := 0) dX8_reserve_27 (by decide) ?_
        refine WP.goto (pc := 28) (tgt := 32) dX8_reserve_28 (by decide) ?_
        refine WP.iret (pc := 32) rfl dX8_reserve_32 ?_
        exact ⟨by simp [rsv, Int32.not_le.mpr h1, Int32.not_le.mp h2], rfl⟩
    · refine WP.iload_n (pc := 10) dX8_reserve_10 rfl ?_
      refine WP.goto (pc := 11) (tgt := 22) dX8_reserve_11 (by decide) ?_
      refine WP.istore_n (pc := 22) dX8_reserve_22 (by decide) rfl ?_
      refine WP.iload_n (pc := 23) dX8_reserve_23 rfl ?_
      refine WP.if_ge (pc := 24) (tgt := 31) dX8_reserve_24 (by decide) (fun h2 => ?_) (fun h2 => ?_)
      · refine WP.iload_n (pc := 31) dX8_reserve_31 rfl ?_
        refine WP.iret (pc := 32) rfl dX8_reserve_32 ?_
        exact ⟨by simp [rsv, Int32.not_lt.mp h1, Int32.not_lt.mpr h2], rfl⟩
      · refine WP.iconst (pc := 27) (v := 0) dX8_reserve_27 (by decide) ?_
        refine WP.goto (pc := 28) (tgt := 32) dX8_reserve_28 (by decide) ?_
        refine WP.iret (pc := 32) rfl dX8_reserve_32 ?_
        exact ⟨by simp [rsv, Int32.not_lt.mp h1, Int32.not_le.mp h2], rfl⟩
theorem LX8_find {r : cRm} {Φ : cRes → cAS → Prop} {a N c : Nat} (h0 : aT σ a = (11, N)) (hN : N ≤ 1000) (hc : c ≤ N) (v : Int32) : ∀ n i, i + n = c → Φ (.inl (some (.int (fndI (I a) v n i)))) (wI σ I) → WP Γ r MX8_find Φ 2 [some (.ref a), some (.int (nI c)), some (.int v), some (.int (nI i))] [] (wI σ I) := by
  intro n
  induction n with
  | zero =>
    intro i hi H
    refine WP.iload_n (pc := 2) dX8_find_2 rfl ?_
    refine WP.iload_n (pc := 3) dX8_find_3 rfl ?_
    refine WP.icmp_ge (pc := 4) (tgt := 28) dX8_find_4 (by decide) (fun h => ?_) (fun h => ?_)
    · refine WP.iconst (pc := 28) (v := (-1)) dX8_find_28 (by decide) ?_
      refine WP.iret (pc := 29) rfl dX8_find_29 ?_
      exact H
    · exact absurd (by rw [show c = i by omega]; exact Int32.le_refl _) h
  | succ n ih =>
    intro i hi H
    refine WP.iload_n (pc := 2) dX8_find_2 rfl ?_
    refine WP.iload_n (pc := 3) dX8_find_3 rfl ?_
    refine WP.icmp_ge (pc := 4) (tgt := 28) dX8_find_4 (by decide) (fun h => ?_) (fun h => ?_)
    · exact absurd h (nI_ge (by omega) (by omega))
    · refine WP.iload_n (pc := 7) dX8_find_7 rfl ?_
      refine WP.aload_n (pc := 8) dX8_find_8 rfl ?_
      refine WP.alen (pc := 9) (kd := 11) (by decide) (by decide) h0 dX8_find_9 ?_
      refine WP.icmp_ge (pc := 10) (tgt := 28) dX8_find_10 (by decide) (fun h1 => ?_) (fun h1 => ?_)
      · exact absurd h1 (nI_ge (by omega) (by omega))
      · refine WP.aload_n (pc := 13) dX8_find_13 rfl ?_
        refine WP.iload_n (pc := 14) dX8_find_14 rfl ?_
        refine WP.iald (pc := 15) h0 (by omega) (by omega) dX8_find_15 ?_
        refine WP.iload_n (pc := 16) dX8_find_16 rfl ?_
        refine WP.icmp_ne (pc := 17) (tgt := 22) dX8_find_17 (by decide) (fun h2 => ?_) (fun h2 => ?_)
        · refine WP.iinc (pc := 22) dX8_find_22 rfl (nI_1 _) (by decide) rfl ?_
          refine WP.goto (pc := 25) (tgt := 2) dX8_find_25 (by decide) ?_
          exact ih (i + 1) (by omega) (by simpa [fndI, h2] using H)
        · refine WP.iload_n (pc := 20) dX8_find_20 rfl ?_
          refine WP.iret (pc := 21) rfl dX8_find_21 ?_
          simpa [fndI, h2] using H
theorem CX8_find {a N c : Nat} (h0 : aT σ a = (11, N)) (hN : N ≤ 1000) (hc : c ≤ N) (v : Int32) : Ctr Γ (0, 0, 0, 0) MX8_find [.ref a, .int (nI c), .int v] (wI σ I) (rV (some (.int (fndI (I a) v c 0))) (wI σ I)) := by
  refine Ctr.go rfl (by decide) rfl rfl ?_
  refine WP.iconst (pc := 0) (v := 0) dX8_find_0 (by decide) ?_
  refine WP.istore_n (pc := 1) dX8_find_1 (by decide) rfl ?_
  exact LX8_find Γ σ I h0 hN hc v c 0 (by omega) ⟨rfl, rfl⟩
theorem LX8_sum {r : cRm} {Φ : cRes → cAS → Prop} {a N c : Nat} (h0 : aT σ a = (11, N)) (hN : N ≤ 1000) (hc : c ≤ N) : ∀ n i, i + n = c → Φ (.inl (some (.int (smI (I a) c)))) (wI σ I) → WP Γ r MX8_sum Φ 4 [some (.ref a), some (.int (nI c)), some (.int (smI (I a) i)), some (.int (nI i))] [] (wI σ I) := by
  intro n
  induction n with
  | zero =>
    intro i hi H
    refine WP.iload_n (pc := 4) dX8_sum_4 rfl ?_
    refine WP.iload_n (pc := 5) dX8_sum_5 rfl ?_
    refine WP.icmp_ge (pc := 6) (tgt := 27) dX8_sum_6 (by decide) (fun h => ?_) (fun h => ?_)
    · refine WP.iload_n (pc := 27) dX8_sum_27 rfl ?_
      refine WP.iret (pc := 28) rfl dX8_sum_28 ?_
      rw [show i = c by omega]
      exact H
    · exact absurd (by rw [show c = i by omega]; exact Int32.le_refl _) h
  | succ n ih =>
    intro i hi H
    refine WP.iload_n (pc := 4) dX8_sum_4 rfl ?_
    refine WP.iload_n (pc := 5) dX8_sum_5 rfl ?_
    refine WP.icmp_ge (pc := 6) (tgt := 27) dX8_sum_6 (by decide) (fun h => ?_) (fun h => ?_)
    · exact absurd h (nI_ge (by omega) (by omega))
    · refine WP.iload_n (pc := 9) dX8_sum_9 rfl ?_
      refine WP.aload_n (pc := 10) dX8_sum_10 rfl ?_
      refine WP.alen (pc := 11) (kd := 11) (by decide) (by decide) h0 dX8_sum_11 ?_
      refine WP.icmp_ge (pc := 12) (tgt := 27) dX8_sum_12 (by decide) (fun h1 => ?_) (fun h1 => ?_)
      · exact absurd h1 (nI_ge (by omega) (by omega))
      · refine WP.iload_n (pc := 15) dX8_sum_15 rfl ?_
        refine WP.aload_n (pc := 16) dX8_sum_16 rfl ?_
        refine WP.iload_n (pc := 17) dX8_sum_17 rfl ?_
        refine WP.iald (pc := 18) h0 (by omega) (by omega) dX8_sum_18 ?_
        refine WP.iadd (pc := 19) dX8_sum_19 ?_
        refine WP.istore_n (pc := 20) dX8_sum_20 (by decide) rfl ?_
        refine WP.iinc (pc := 21) dX8_sum_21 rfl (nI_1 _) (by decide) rfl ?_
        refine WP.goto (pc := 24) (tgt := 4) dX8_sum_24 (by decide) ?_
        exact ih (i + 1) (by omega) H
theorem CX8_sum {a N c : Nat} (h0 : aT σ a = (11, N)) (hN : N ≤ 1000) (hc : c ≤ N) : Ctr Γ (0, 0, 0, 0) MX8_sum [.ref a, .int (nI c)] (wI σ I) (rV (some (.int (smI (I a) c))) (wI σ I)) := by
  refine Ctr.go rfl (by decide) rfl rfl ?_
  refine WP.iconst (pc := 0) (v := 0) dX8_sum_0 (by decide) ?_
  refine WP.istore_n (pc := 1) dX8_sum_1 (by decide) rfl ?_
  refine WP.iconst (pc := 2) (v := 0) dX8_sum_2 (by decide) ?_
  refine WP.istore_n (pc := 3) dX8_sum_3 (by decide) rfl ?_
  exact LX8_sum Γ σ I h0 hN hc c 0 (by omega) ⟨rfl, rfl⟩
theorem CX8_copyRow {a0 a N : Nat} (h0 : aT σ a0 = (11, N)) (h1 : aT σ a = (11, N)) (hN : N ≤ 1000) : Ctr Γ (1, 40, 0, 0) MX8_copyRow [.ref a0, .ref a] (wI σ I) (rV none (wI σ (cpy I a0 a 0 0 N))) := by
  refine Ctr.go rfl (by decide) rfl rfl ?_
  refine WP.aload_n (pc := 0) dX8_copyRow_0 rfl ?_
  refine WP.alen (pc := 1) (kd := 11) (by decide) (by decide) h0 dX8_copyRow_1 ?_
  refine WP.aload_n (pc := 2) dX8_copyRow_2 rfl ?_
  refine WP.alen (pc := 3) (kd := 11) (by decide) (by decide) h1 dX8_copyRow_3 ?_
  refine WP.icmp_ge (pc := 4) (tgt := 12) dX8_copyRow_4 (by decide) (fun h => ?_) (fun h => ?_)
  · refine WP.aload_n (pc := 12) dX8_copyRow_12 rfl ?_
    refine WP.alen (pc := 13) (kd := 11) (by decide) (by decide) h1 dX8_copyRow_13 ?_
    refine WP.istore_n (pc := 14) dX8_copyRow_14 (by decide) rfl ?_
    refine WP.aload_n (pc := 15) dX8_copyRow_15 rfl ?_
    refine WP.iconst (pc := 16) (v := 0) dX8_copyRow_16 (by decide) ?_
    refine WP.aload_n (pc := 17) dX8_copyRow_17 rfl ?_
    refine WP.iconst (pc := 18) (v := 0) dX8_copyRow_18 (by decide) ?_
    refine WP.iload_n (pc := 19) dX8_copyRow_19 rfl ?_
    refine WP.cpy (pc := 20) (sp := 0) (dp := 0) aX8_373 h0 h1 (by omega) (by omega) (by first | decide | omega) (by first | decide | omega) aN1 aN2 aN3 (Nat.le_of_ble_eq_true rfl) (Nat.le_of_ble_eq_true rfl) dX8_copyRow_20 ?_
    refine WP.vret (pc := 23) rfl dX8_copyRow_23 ?_
    exact ⟨rfl, rfl⟩
  · exact absurd (Int32.le_refl _) h
theorem CX8_isLetter (x : Int32) : Ctr Γ (0, 0, 0, 0) MX8_isLetter [.int x] σ (rV (some (.int (bI (isLet x)))) σ) := by
  refine Ctr.go rfl (by decide) rfl rfl ?_
  refine WP.iload_n (pc := 0) dX8_isLetter_0 rfl ?_
  refine WP.bipush (pc := 1) (v := 97) dX8_isLetter_1 (by decide) ?_
  refine WP.icmp_lt (pc := 3) (tgt := 16) dX8_isLetter_3 (by decide) (fun h => ?_) (fun h => ?_)
  · refine WP.iconst (pc := 16) (v := 0) dX8_isLetter_16 (by decide) ?_
    refine WP.zret (pc := 17) rfl (by decide) dX8_isLetter_17 ?_
    exact ⟨by simp [bI, isLet, Int32.not_le.mpr h], rfl⟩
  · refine WP.iload_n (pc := 6) dX8_isLetter_6 rfl ?_
    refine WP.bipush (pc := 7) (v := 122) dX8_isLetter_7 (by decide) ?_
    refine WP.icmp_gt (pc := 9) (tgt := 16) dX8_isLetter_9 (by decide) (fun h1 => ?_) (fun h1 => ?_)
    · refine WP.iconst (pc := 16) (v := 0) dX8_isLetter_16 (by decide) ?_
      refine WP.zret (pc := 17) rfl (by decide) dX8_isLetter_17 ?_
      exact ⟨by simp [bI, isLet, Int32.not_le.mpr h1], rfl⟩
    · refine WP.iconst (pc := 12) (v := 1) dX8_isLetter_12 (by decide) ?_
      refine WP.goto (pc := 13) (tgt := 17) dX8_isLetter_13 (by decide) ?_
      refine WP.zret (pc := 17) rfl (by decide) dX8_isLetter_17 ?_
      exact ⟨by simp [bI, isLet, Int32.not_lt.mp h, Int32.not_lt.mp h1], rfl⟩
theorem CX8_isDigit (x : Int32) : Ctr Γ (0, 0, 0, 0) MX8_isDigit [.int x] σ (rV (some (.int (bI (isDig x)))) σ) := by
  refine Ctr.go rfl (by decide) rfl rfl ?_
  refine WP.iload_n (pc := 0) dX8_isDigit_0 rfl ?_
  refine WP.bipush (pc := 1) (v := 48) dX8_isDigit_1 (by decide) ?_
  refine WP.icmp_lt (pc := 3) (tgt := 16) dX8_isDigit_3 (by decide) (fun h => ?_) (fun h => ?_)
  · refine WP.iconst (pc := 16) (v := 0) dX8_isDigit_16 (by decide) ?_
    refine WP.zret (pc := 17) rfl (by decide) dX8_isDigit_17 ?_
    exact ⟨by simp [bI, isDig, Int32.not_le.mpr h], rfl⟩
  · refine WP.iload_n (pc := 6) dX8_isDigit_6 rfl ?_
    refine WP.bipush (pc := 7) (v := 57) dX8_isDigit_7 (by decide) ?_
    refine WP.icmp_gt (pc := 9) (tgt := 16) dX8_isDigit_9 (by decide) (fun h1 => ?_) (fun h1 => ?_)
    · refine WP.iconst (pc := 16) (v := 0) dX8_isDigit_16 (by decide) ?_
      refine WP.zret (pc := 17) rfl (by decide) dX8_isDigit_17 ?_
      exact ⟨by simp [bI, isDig, Int32.not_le.mpr h1], rfl⟩
    · refine WP.iconst (pc := 12) (v := 1) dX8_isDigit_12 (by decide) ?_
      refine WP.goto (pc := 13) (tgt := 17) dX8_isDigit_13 (by decide) ?_
      refine WP.zret (pc := 17) rfl (by decide) dX8_isDigit_17 ?_
      exact ⟨by simp [bI, isDig, Int32.not_lt.mp h, Int32.not_lt.mp h1], rfl⟩
theorem LX8_packName {Φ : cRes → cAS → Prop} {a N s m : Nat} (h0 : aT σ a = (12, N)) (hN : N ≤ 1000) (he : s + m ≤ N) : ∀ n i, i + n = m → allL (I a) s i = true → (∀ x, (x = if allL (I a) s m = true then pkA (I a) s m else -1) → Φ (.inl (some (.int x))) (wI σ I)) → WP Γ (1, 20, 0, 0) MX8_packName Φ 29 [some (.ref a), some (.int (nI s)), some (.int (nI (s + m))), some (.int (pkA (I a) s i)), some (.int (nI (s + i)))] [] (wI σ I) := by
  intro n
  have hno : ∀ i, i ≤ m → allL (I a) s i = false → allL (I a) s m = false := by
    intro i hi h
    induction m with
    | zero => rw [show i = 0 by omega] at h; exact h
    | succ m ihm =>
      rcases Nat.lt_or_ge i (m + 1) with q | q
      · unfold allL
        rw [ihm (by omega) (by omega)]
        rfl
      · rw [show i = m + 1 by omega] at h; exact h
  induction n with
  | zero =>
    intro i hi hA H
    rw [show i = m by omega] at hA ⊢
    refine WP.iload (pc := 29) dX8_packName_29 rfl ?_
    refine WP.iload_n (pc := 31) dX8_packName_31 rfl ?_
    refine WP.icmp_ge (pc := 32) (tgt := 68) dX8_packName_32 (by decide) (fun h => ?_) (fun h => ?_)
    · refine WP.iload_n (pc := 68) dX8_packName_68 rfl ?_
      refine WP.iret (pc := 69) rfl dX8_packName_69 ?_
      exact H _ (by rw [if_pos hA])
    · exact absurd (Int32.le_refl _) h
  | succ n ih =>
    intro i hi hA H
    refine WP.iload (pc := 29) dX8_packName_29 rfl ?_
    refine WP.iload_n (pc := 31) dX8_packName_31 rfl ?_
    refine WP.icmp_ge (pc := 32) (tgt := 68) dX8_packName_32 (by decide) (fun h => ?_) (fun h => ?_)
    · exact absurd h (nI_ge (by omega) (by omega))
    · refine WP.aload_n (pc := 35) dX8_packName_35 rfl ?_
      refine WP.iload (pc := 36) dX8_packName_36 rfl ?_
      refine WP.bald (pc := 38) h0 (by omega) (by omega) dX8_packName_38 ?_
      refine WP.cS1 (pc := 39) (mc2 := 0) (ms2 := 0) kX8_370 (CX8_isLetter Γ _ _) rfl ⟨Nat.le_of_ble_eq_true rfl, Nat.le_of_ble_eq_true rfl⟩ (Nat.le_of_ble_eq_true rfl) (Nat.le_of_ble_eq_true rfl) (Nat.le_of_ble_eq_true rfl) rfl dX8_packName_39 ?_
      refine WP.if_ne (pc := 42) (tgt := 47) dX8_packName_42 (by decide) (fun h1 => ?_) (fun h1 => ?_)
      · have h2 : isLet (I a (s + i)) = true := by
          cases h3 : isLet (I a (s + i))
          · rw [h3] at h1; exact absurd rfl h1
          · rfl
        refine WP.iload_n (pc := 47) dX8_packName_47 rfl ?_
        refine WP.aload_n (pc := 48) dX8_packName_48 rfl ?_
        refine WP.iload (pc := 49) dX8_packName_49 rfl ?_
        refine WP.bald (pc := 51) h0 (by omega) (by omega) dX8_packName_51 ?_
        refine WP.bipush (pc := 52) (v := 8) dX8_packName_52 (by decide) ?_
        refine WP.iload (pc := 54) dX8_packName_54 rfl ?_
        refine WP.iload_n (pc := 56) dX8_packName_56 rfl ?_
        refine WP.isub (pc := 57) dX8_packName_57 ?_
        refine WP.imul (pc := 58) dX8_packName_58 ?_
        refine WP.ishl (pc := 59) dX8_packName_59 ?_
        refine WP.ior (pc := 60) dX8_packName_60 ?_
        refine WP.istore_n (pc := 61) dX8_packName_61 (by decide) rfl ?_
        refine WP.iinc (pc := 62) dX8_packName_62 rfl (nI_1 _) (by decide) rfl ?_
        refine WP.goto (pc := 65) (tgt := 29) dX8_packName_65 (by decide) ?_
        refine (?_ : WP Γ _ MX8_packName Φ 29 [some (.ref a), some (.int (nI s)), some (.int (nI (s + m))), some (.int (pkA (I a) s i ||| I a (s + i) <<< (8 * (nI (s + i) - nI s) &&& 31))), some (.int (nI (s + i + 1)))] [] (wI σ I))
        rw [pk_sub (by omega), show s + i - s = i by omega]
        exact ih (i + 1) (by omega) (by unfold allL; rw [hA, h2]; rfl) H
      · refine WP.iconst (pc := 45) (v := (-1)) dX8_packName_45 (by decide) ?_
        refine WP.iret (pc := 46) rfl dX8_packName_46 ?_
        have h2 : isLet (I a (s + i)) = false := by
          cases h3 : isLet (I a (s + i))
          · rfl
          · rw [h3] at h1; exact absurd h1 (by decide)
        exact H _ (by rw [hno (i + 1) (by omega) (by unfold allL; rw [hA, h2]; rfl)]; rfl)
theorem CX8_packName {a N s m : Nat} (h0 : aT σ a = (12, N)) (hN : N ≤ 1000) (he : s + m ≤ N) : Ctr Γ (1, 20, 0, 0) MX8_packName [.ref a, .int (nI s), .int (nI (s + m))] (wI σ I) (rV (some (.int (pkN (I a) s m))) (wI σ I)) := by
  refine Ctr.go rfl (by decide) rfl rfl ?_
  refine WP.iload_n (pc := 0) dX8_packName_0 rfl ?_
  refine WP.if_lt (pc := 1) (tgt := 22) dX8_packName_1 (by decide) (fun h => ?_) (fun h => ?_)
  · exact absurd h (nI_pos (by omega))
  · refine WP.iload_n (pc := 4) dX8_packName_4 rfl ?_
    refine WP.aload_n (pc := 5) dX8_packName_5 rfl ?_
    refine WP.alen (pc := 6) (kd := 12) (σ := wI σ I) (by decide) (by decide) h0 dX8_packName_6 ?_
    refine WP.icmp_gt (pc := 7) (tgt := 22) dX8_packName_7 (by decide) (fun h1 => ?_) (fun h1 => ?_)
    · exact absurd h1 (nI_nlt (by omega) (by omega))
    · refine WP.iload_n (pc := 10) dX8_packName_10 rfl ?_
      refine WP.iload_n (pc := 11) dX8_packName_11 rfl ?_
      refine WP.icmp_le (pc := 12) (tgt := 22) dX8_packName_12 (by decide) (fun h2 => ?_) (fun h2 => ?_)
      · refine WP.iconst (pc := 22) (v := (-1)) dX8_packName_22 (by decide) ?_
        refine WP.iret (pc := 23) rfl dX8_packName_23 ?_
        have : m = 0 := by
          have := (nI_leI (by omega) (by omega)).mp h2
          omega
        subst this
        exact ⟨rfl, rfl⟩
      · refine WP.iload_n (pc := 15) dX8_packName_15 rfl ?_
        refine WP.iload_n (pc := 16) dX8_packName_16 rfl ?_
        refine WP.isub (pc := 17) dX8_packName_17 ?_
        refine WP.iconst (pc := 18) (v := 4) dX8_packName_18 (by decide) ?_
        refine (?_ : WP Γ _ MX8_packName _ 19 _ [.int 4, .int (nI (s + m) - nI s)] (wI σ I))
        rw [pk_sub (by omega), show s + m - s = m by omega]
        have hm1 : 1 ≤ m := by
          rcases Nat.lt_or_ge 0 m with q | q
          · exact q
          · rw [show m = 0 by omega] at h2
            exact absurd (Int32.le_refl _) h2
        refine WP.icmp_le (pc := 19) (tgt := 24) dX8_packName_19 (by decide) (fun h3 => ?_) (fun h3 => ?_)
        · refine WP.iconst (pc := 24) (v := 0) dX8_packName_24 (by decide) ?_
          refine WP.istore_n (pc := 25) dX8_packName_25 (by decide) rfl ?_
          refine WP.iload_n (pc := 26) dX8_packName_26 rfl ?_
          refine WP.istore (pc := 27) dX8_packName_27 (by decide) rfl ?_
          have hm4 : m ≤ 4 := (nI_leI (by omega) (by omega)).mp h3
          exact LX8_packName Γ σ I h0 hN he m 0 (by omega) rfl (fun x hx => ⟨by rw [hx]; simp [pkN, hm1, hm4], rfl⟩)
        · refine WP.iconst (pc := 22) (v := (-1)) dX8_packName_22 (by decide) ?_
          refine WP.iret (pc := 23) rfl dX8_packName_23 ?_
          have hm4 : ¬ m ≤ 4 := fun q => h3 (nI_le (b := 4) q (by omega))
          exact ⟨by simp [pkN, hm4], rfl⟩
end T
