-- behind: 23
-- over JvmDerived.FloatLaws
-- quotients of ints are numbers
section FPL
theorem nn64 {r : UInt64} (h : Jvm.FP.Core.val64 r ≠ .nan) : vf_n64 r := by
  unfold vf_n64
  rw [UInt64.le_iff_toNat_le, UInt64.toNat_and]
  have e : (0x7fffffffffffffff : UInt64).toNat = 2 ^ 63 - 1 := by decide
  rw [e, Nat.and_two_pow_sub_one_eq_mod]
  have e2 : (0x7ff0000000000000 : UInt64).toNat = 2047 * 2 ^ 52 := by decide
  rw [e2]
  rcases Nat.lt_or_ge (2047 * 2 ^ 52) (r.toNat % 2 ^ 63) with q | q
  · exfalso
    apply h
    have hE : Jvm.FP.Core.fieldE Jvm.FP.Core.b64 r.toNat = 2047 := by
      show r.toNat / 2 ^ 52 % 2 ^ 11 = 2047
      have h1 : r.toNat < 2 ^ 64 := r.toNat_lt
      omega
    have hT : Jvm.FP.Core.fieldT Jvm.FP.Core.b64 r.toNat ≠ 0 := by
      show r.toNat % 2 ^ 52 ≠ 0
      have h1 : r.toNat < 2 ^ 64 := r.toNat_lt
      omega
    unfold Jvm.FP.Core.val64 Jvm.FP.Core.decode
    rw [if_pos (show Jvm.FP.Core.fieldE Jvm.FP.Core.b64 r.toNat = Jvm.FP.Core.b64.exps - 1 from hE), if_neg hT]
  · exact q
theorem nn32 {r : UInt32} (h : Jvm.FP.Core.val32 r ≠ .nan) : vf_n32 r := by
  unfold vf_n32
  rw [UInt32.le_iff_toNat_le, UInt32.toNat_and]
  have e : (0x7fffffff : UInt32).toNat = 2 ^ 31 - 1 := by decide
  rw [e, Nat.and_two_pow_sub_one_eq_mod]
  have e2 : (0x7f800000 : UInt32).toNat = 255 * 2 ^ 23 := by decide
  rw [e2]
  rcases Nat.lt_or_ge (255 * 2 ^ 23) (r.toNat % 2 ^ 31) with q | q
  · exfalso
    apply h
    have hE : Jvm.FP.Core.fieldE Jvm.FP.Core.b32 r.toNat = 255 := by
      show r.toNat / 2 ^ 23 % 2 ^ 8 = 255
      have h1 : r.toNat < 2 ^ 32 := r.toNat_lt
      omega
    have hT : Jvm.FP.Core.fieldT Jvm.FP.Core.b32 r.toNat ≠ 0 := by
      show r.toNat % 2 ^ 23 ≠ 0
      have h1 : r.toNat < 2 ^ 32 := r.toNat_lt
      omega
    unfold Jvm.FP.Core.val32 Jvm.FP.Core.decode
    rw [if_pos (show Jvm.FP.Core.fieldE Jvm.FP.Core.b32 r.toNat = Jvm.FP.Core.b32.exps - 1 from hE), if_neg hT]
  · exact q
theorem roundRatio_num {f : Jvm.FP.Core.Fmt} {s : Bool} {A B : Nat} {e : Int} : Jvm.FP.Core.roundRatio f s A B e ≠ .nan := by
  unfold Jvm.FP.Core.roundRatio Jvm.FP.Core.roundAt Jvm.FP.Core.settle Jvm.FP.Core.bound
  split
  · simp
  · split
    · split <;> simp
    · split <;> simp
theorem quo_num {f : Jvm.FP.Core.Fmt} {x : Jvm.FP.Core.Datum} {i : Int} {y : Jvm.FP.Core.Datum} (hx : x ≠ .nan) (hy : Jvm.FP.Core.Whole i y) (hi : i ≠ 0) : Jvm.FP.Core.quotient f x y ≠ .nan := by
  cases y with
  | nan => exact hy.elim
  | inf t => exact hy.elim
  | fin t d r =>
    have hd : d ≠ 0 := fun q => hi ((Jvm.FP.Core.whole_zero hy).mp q)
    cases x with
    | nan => exact absurd rfl hx
    | inf s => simp [Jvm.FP.Core.quotient]
    | fin s c q =>
      unfold Jvm.FP.Core.quotient
      dsimp only
      rw [if_neg hd]
      exact roundRatio_num
theorem round_num {f : Jvm.FP.Core.Fmt} {i : Int} : Jvm.FP.Core.round f (Jvm.FP.Core.ofInt i) ≠ .nan := roundRatio_num
theorem div_n64 (a b : Int32) (hb : b ≠ 0) : vf_n64 (Jvm.FP.ddiv (Jvm.FP.i2d a) (Jvm.FP.i2d b)) := by
  apply nn64
  show Jvm.FP.Core.val64 (Jvm.FP.Core.ddiv (Jvm.FP.Core.i2d a) (Jvm.FP.Core.i2d b)) ≠ .nan
  rw [Jvm.FP.Core.val64_ddiv]
  refine quo_num (i := b.toInt) ?_ (Jvm.FP.Core.i2d_int b) (fun q => hb (Int32.toInt_inj.mp q))
  rw [Jvm.FP.Core.val64_i2d]
  exact round_num
theorem div_n32 (a : Int32) {b : Nat} (h0 : b ≠ 0) (hb : b ≤ 16777216) : vf_n32 (Jvm.FP.fdiv (Jvm.FP.i2f a) (Jvm.FP.i2f (nI b))) := by
  apply nn32
  show Jvm.FP.Core.val32 (Jvm.FP.Core.fdiv (Jvm.FP.Core.i2f a) (Jvm.FP.Core.i2f (nI b))) ≠ .nan
  rw [Jvm.FP.Core.val32_fdiv]
  have hw : Jvm.FP.Core.Whole (nI b).toInt (Jvm.FP.Core.val32 (Jvm.FP.Core.i2f (nI b))) := by
    rw [Jvm.FP.Core.val32_i2f]
    refine Jvm.FP.Core.whole_round Jvm.FP.Core.good_b32 Jvm.FP.Core.wide_b32 ?_ (Jvm.FP.Core.whole_ofInt _)
    rw [nI_toInt (by omega)]
    show (b : Int).natAbs ≤ 2 ^ 24
    omega
  refine quo_num ?_ hw (by rw [nI_toInt (by omega)]; omega)
  rw [Jvm.FP.Core.val32_i2f]
  exact round_num
theorem order_self {d : Jvm.FP.Core.Datum} (h : d ≠ .nan) : Jvm.FP.Core.order d d = some .eq := by
  cases d with
  | nan => exact absurd rfl h
  | inf s => simp [Jvm.FP.Core.order]
  | fin s c q => simp [Jvm.FP.Core.order]
theorem dcmp_self {r : UInt64} (h : vf_n64 r) : Jvm.FP.dcmp r r = some .eq := by
  show Jvm.FP.Core.order (Jvm.FP.Core.val64 r) (Jvm.FP.Core.val64 r) = _
  refine order_self fun q => ?_
  unfold vf_n64 at h
  rw [UInt64.le_iff_toNat_le, UInt64.toNat_and] at h
  have e : (0x7fffffffffffffff : UInt64).toNat = 2 ^ 63 - 1 := by decide
  rw [e, Nat.and_two_pow_sub_one_eq_mod] at h
  have e2 : (0x7ff0000000000000 : UInt64).toNat = 2047 * 2 ^ 52 := by decide
  rw [e2] at h
  have h1 : r.toNat < 2 ^ 64 := r.toNat_lt
  unfold Jvm.FP.Core.val64 Jvm.FP.Core.decode at q
  split at q
  · next hE =>
    split at q
    · cases q
    · next hT =>
      have hE' : r.toNat / 2 ^ 52 % 2 ^ 11 = 2047 := hE
      have hT' : r.toNat % 2 ^ 52 ≠ 0 := hT
      omega
  · split at q <;> cases q
theorem num32 {r : UInt32} (h : vf_n32 r) : Jvm.FP.Core.val32 r ≠ .nan := by
  intro q
  unfold vf_n32 at h
  rw [UInt32.le_iff_toNat_le, UInt32.toNat_and] at h
  have e : (0x7fffffff : UInt32).toNat = 2 ^ 31 - 1 := by decide
  rw [e, Nat.and_two_pow_sub_one_eq_mod] at h
  have e2 : (0x7f800000 : UInt32).toNat = 255 * 2 ^ 23 := by decide
  rw [e2] at h
  have h1 : r.toNat < 2 ^ 32 := r.toNat_lt
  unfold Jvm.FP.Core.val32 Jvm.FP.Core.decode at q
  split at q
  · next hE =>
    split at q
    · cases q
    · next hT =>
      have hE' : r.toNat / 2 ^ 23 % 2 ^ 8 = 255 := hE
      have hT' : r.toNat % 2 ^ 23 ≠ 0 := hT
      omega
  · split at q <;> cases q
theorem f2d_num {r : UInt32} (h : vf_n32 r) : vf_n64 (Jvm.FP.f2d r) := by
  have h1 := num32 h
  apply nn64
  have e : Jvm.FP.f2d r = Jvm.FP.Core.f2d r := by
    show (if Jvm.FP.Core.fIsNaN r then _ else _) = _
    rw [if_neg]
    intro q
    have q' : Jvm.FP.Core.decode Jvm.FP.Core.b32 r.toNat = .nan := by simpa [Jvm.FP.Core.fIsNaN, Jvm.FP.Core.isNaN] using q
    exact h1 q'
  rw [e]
  show Jvm.FP.Core.val64 (Jvm.FP.Core.f2d r) ≠ .nan
  rw [Jvm.FP.Core.val64_f2d]
  cases hv : Jvm.FP.Core.val32 r with
  | nan => exact absurd hv h1
  | inf s => simp [Jvm.FP.Core.round]
  | fin s c q => exact roundRatio_num
end FPL
