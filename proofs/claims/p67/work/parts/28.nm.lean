-- behind: 24
-- names: as the class packs them, as the model numbers them
def lc (f : Nat → Int32) (s k : Nat) : Nat := (f (s + k)).toNatClampNeg
def pkP (f : Nat → Int32) (s : Nat) : Nat → Nat
  | 0 => 0
  | n + 1 => 2 ^ (8 * n) * lc f s n + pkP f s n
def nmC (f : Nat → Int32) (s m k : Nat) : Nat := if k < m then lc f s k - 96 else 0
def nmF (f : Nat → Int32) (s m : Nat) : Nat := ((nmC f s m 0 * 27 + nmC f s m 1) * 27 + nmC f s m 2) * 27 + nmC f s m 3
theorem isLet_lc {x : Int32} (h : isLet x = true) : ∃ c, x = nI c ∧ 97 ≤ c ∧ c ≤ 122 := by
  unfold isLet at h
  rw [Bool.and_eq_true, decide_eq_true_eq, decide_eq_true_eq] at h
  obtain ⟨j, hj, rfl⟩ := nI_of2 (x := x) (M := 122) (n := 122) (by decide) (Int32.not_lt.mpr (Int32.le_trans (by decide) h.1)) h.2
  exact ⟨j, rfl, (nI_leI (a := 97) (by omega) (by omega)).mp h.1, hj⟩
theorem allL_get {f : Nat → Int32} {s : Nat} : ∀ {m k}, allL f s m = true → k < m → ∃ c, f (s + k) = nI c ∧ lc f s k = c ∧ 97 ≤ c ∧ c ≤ 122
  | 0, k, _, h => absurd h (Nat.not_lt_zero _)
  | m + 1, k, h, hk => by
    unfold allL at h
    rw [Bool.and_eq_true] at h
    rcases Nat.lt_or_ge k m with q | q
    · exact allL_get h.1 q
    · have : k = m := by omega
      subst this
      obtain ⟨c, e, h1, h2⟩ := isLet_lc h.2
      exact ⟨c, e, by unfold lc; rw [e, nI_clamp (by omega)], h1, h2⟩
theorem nI_or (a b : Nat) : nI a ||| nI b = nI (a ||| b) := by
  apply Int32.toBitVec_inj.mp
  show BitVec.ofNat 32 a ||| BitVec.ofNat 32 b = BitVec.ofNat 32 (a ||| b)
  exact (BitVec.ofNat_or).symm
theorem pkA_P {f : Nat → Int32} {s : Nat} : ∀ m, m ≤ 4 → allL f s m = true → pkA f s m = nI (pkP f s m) ∧ pkP f s m < 2 ^ (8 * m)
  | 0, _, _ => ⟨rfl, Nat.one_pos⟩
  | m + 1, hm, h => by
    obtain ⟨c, e, e2, h1, h2⟩ := allL_get h (Nat.lt_succ_self m)
    unfold allL at h
    rw [Bool.and_eq_true] at h
    obtain ⟨i1, i2⟩ := pkA_P m (by omega) h.1
    have hs : ∀ q, q ≤ 3 → ((8 * nI q &&& 31).toBitVec.smod 32).toNat = 8 * q := by decide +kernel
    have hc : 2 ^ (8 * m) * c < 2 ^ (8 * (m + 1)) := by
      rw [show 8 * (m + 1) = 8 * m + 8 by omega, Nat.pow_add]
      exact (Nat.mul_lt_mul_left (Nat.two_pow_pos _)).mpr (by omega)
    have hp : 2 ^ (8 * (m + 1)) ≤ 2 ^ 32 := Nat.pow_le_pow_right (by decide) (by omega)
    refine ⟨?_, ?_⟩
    · show pkA f s m ||| f (s + m) <<< (8 * nI m &&& 31) = nI (2 ^ (8 * m) * lc f s m + pkP f s m)
      rw [e, i1, e2, pk_shlN _ (8 * m) (hs m (by omega)) (by rw [Nat.mul_comm]; omega), nI_or, Nat.or_comm, Nat.mul_comm c, Nat.two_pow_add_eq_or_of_lt i2]
    · show 2 ^ (8 * m) * lc f s m + pkP f s m < _
      rw [e2, show 8 * (m + 1) = 8 * m + 8 by omega, Nat.pow_add]
      have h3 : 2 ^ (8 * m) * (c + 1) ≤ 2 ^ (8 * m) * 2 ^ 8 := Nat.mul_le_mul_left _ (by omega)
      rw [Nat.mul_add] at h3
      omega
theorem nmD_of {a b c d : Nat} (ha : a < 27) (hb : b < 27) (hc : c < 27) (hd : d < 27) : nmD (((a * 27 + b) * 27 + c) * 27 + d) 0 = a ∧ nmD (((a * 27 + b) * 27 + c) * 27 + d) 1 = b ∧ nmD (((a * 27 + b) * 27 + c) * 27 + d) 2 = c ∧ nmD (((a * 27 + b) * 27 + c) * 27 + d) 3 = d := by
  unfold nmD
  refine ⟨?_, ?_, ?_, ?_⟩
  · show _ / 19683 % 27 = a
    omega
  · show _ / 729 % 27 = b
    omega
  · show _ / 27 % 27 = c
    omega
  · show _ / 1 % 27 = d
    omega
theorem pkN_nm {f : Nat → Int32} {s m : Nat} (h : pkN f s m ≠ -1) : pkN f s m = nmA (nmF f s m) ∧ nmOk (nmF f s m) := by
  unfold pkN at h ⊢
  by_cases hq : 1 ≤ m ∧ m ≤ 4 ∧ allL f s m = true
  · rw [if_pos hq]
    obtain ⟨h1, h4, hl⟩ := hq
    rw [(pkA_P m h4 hl).1]
    have hC : ∀ k, nmC f s m k < 27 ∧ (k < m → nmC f s m k + 96 = lc f s k ∧ nmC f s m k ≠ 0) ∧ (m ≤ k → nmC f s m k = 0) := fun k => by
      unfold nmC
      by_cases q : k < m
      · obtain ⟨c, -, e2, l1, l2⟩ := allL_get hl q
        rw [if_pos q, e2]
        exact ⟨by omega, fun _ => by omega, fun _ => by omega⟩
      · rw [if_neg q]
        exact ⟨by omega, fun _ => by omega, fun _ => rfl⟩
    obtain ⟨d0, d1, d2, d3⟩ := nmD_of (hC 0).1 (hC 1).1 (hC 2).1 (hC 3).1
    have e0 : nmB (nmF f s m) 0 = if 0 < m then lc f s 0 else 0 := by
      unfold nmB nmF
      rw [d0]
      have := hC 0
      split <;> split <;> omega
    have e1 : nmB (nmF f s m) 1 = if 1 < m then lc f s 1 else 0 := by
      unfold nmB nmF
      rw [d1]
      have := hC 1
      split <;> split <;> omega
    have e2 : nmB (nmF f s m) 2 = if 2 < m then lc f s 2 else 0 := by
      unfold nmB nmF
      rw [d2]
      have := hC 2
      split <;> split <;> omega
    have e3 : nmB (nmF f s m) 3 = if 3 < m then lc f s 3 else 0 := by
      unfold nmB nmF
      rw [d3]
      have := hC 3
      split <;> split <;> omega
    refine ⟨?_, ?_⟩
    · unfold nmA
      rw [e0, e1, e2, e3]
      congr 1
      rcases (by omega : m = 1 ∨ m = 2 ∨ m = 3 ∨ m = 4) with rfl | rfl | rfl | rfl <;> simp [pkP] <;> omega
    · have a0 := (hC 0).1
      have a1 := (hC 1).1
      have a2 := (hC 2).1
      have a3 := (hC 3).1
      unfold nmOk nmF
      omega
  · rw [if_neg hq] at h
    exact absurd rfl h
theorem nmD_lt (n k : Nat) : nmD n k < 27 := Nat.mod_lt _ (by decide)
theorem nmB_lt (n k : Nat) : nmB n k < 123 := by
  unfold nmB
  have := nmD_lt n k
  split <;> omega
theorem nmA_bound (n : Nat) : nmB n 0 + 256 * nmB n 1 + 65536 * nmB n 2 + 16777216 * nmB n 3 < 2 ^ 31 := by
  have h0 := nmB_lt n 0
  have h1 := nmB_lt n 1
  have h2 := nmB_lt n 2
  have h3 := nmB_lt n 3
  omega
theorem nmA_ne (n : Nat) : nmA n ≠ -1 := nI_ne_m1 (nmA_bound n)
theorem nmB_D {n m k : Nat} (h : nmB n k = nmB m k) : nmD n k = nmD m k := by
  unfold nmB at h
  split at h <;> split at h <;> omega
theorem nmA_inj {n m : Nat} (hn : nmOk n) (hm : nmOk m) (h : nmA n = nmA m) : n = m := by
  have e := (nI_eq (nmA_bound n) (nmA_bound m)).mp h
  have b0 := nmB_lt n 0
  have b1 := nmB_lt n 1
  have b2 := nmB_lt n 2
  have c0 := nmB_lt m 0
  have c1 := nmB_lt m 1
  have c2 := nmB_lt m 2
  have e0 := nmB_D (show nmB n 0 = nmB m 0 by omega)
  have e1 := nmB_D (show nmB n 1 = nmB m 1 by omega)
  have e2 := nmB_D (show nmB n 2 = nmB m 2 by omega)
  have e3 := nmB_D (show nmB n 3 = nmB m 3 by omega)
  unfold nmD at e0 e1 e2 e3
  unfold nmOk at hn hm
  simp only [show 27 ^ (3 - 0) = 19683 from rfl, show 27 ^ (3 - 1) = 729 from rfl, show 27 ^ (3 - 2) = 27 from rfl, show 27 ^ (3 - 3) = 1 from rfl] at e0 e1 e2 e3
  omega
