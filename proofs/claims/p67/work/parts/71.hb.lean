section RS
variable {Γ : cG} {r : cRm} {M : cM} {Φ : cRes → cAS → Prop} {pc : Nat} {L : List (Option Value)} {st : List Value} {σ : cAS}
theorem WP.ialdS {a n k : Nat} {v : Int32} (ht : aT σ a = (11, n)) (hk : k < n) (hn : n ≤ 2147483647) (hv : aI σ a k = v) (d : decode (mC M) pc = .ok (.iaload, 1)) (kk : WP Γ r M Φ (pc + 1) L (.int v :: st) σ) : WP Γ r M Φ pc L (.int (nI k) :: .ref a :: st) σ := by
  refine WP.iaload ht (cVin hk hn) d ?_
  rw [cClamp hk hn, hv]
  exact kk
theorem WP.zaldS {a n k : Nat} {v : Int32} (ht : aT σ a = (13, n)) (hk : k < n) (hn : n ≤ 2147483647) (hv : aI σ a k = v) (d : decode (mC M) pc = .ok (.baload, 1)) (kk : WP Γ r M Φ (pc + 1) L (.int v :: st) σ) : WP Γ r M Φ pc L (.int (nI k) :: .ref a :: st) σ := by
  refine WP.zaload ht (cVin hk hn) d ?_
  rw [cClamp hk hn, hv]
  exact kk
theorem WP.iastS {a n k : Nat} {x : Int32} (ht : aT σ a = (11, n)) (hk : k < n) (hn : n ≤ 2147483647) (d : decode (mC M) pc = .ok (.iastore, 1)) (kk : WP Γ r M Φ (pc + 1) L st (sI σ a k x)) : WP Γ r M Φ pc L (.int x :: .int (nI k) :: .ref a :: st) σ := by
  refine WP.iastore ht (cVin hk hn) d ?_
  rw [cClamp hk hn]
  exact kk
theorem WP.zastS {a n k : Nat} {x : Int32} (ht : aT σ a = (13, n)) (hk : k < n) (hn : n ≤ 2147483647) (hx : narrow .boolean (.int x) = .int x) (d : decode (mC M) pc = .ok (.bastore, 1)) (kk : WP Γ r M Φ (pc + 1) L st (sI σ a k x)) : WP Γ r M Φ pc L (.int x :: .int (nI k) :: .ref a :: st) σ := by
  refine WP.zastore ht (cVin hk hn) hx d ?_
  rw [cClamp hk hn]
  exact kk
theorem WP.aaldS {a n k b : Nat} (ht : aT σ a = (14, n)) (hk : k < n) (hn : n ≤ 2147483647) (hv : aR σ a k = some b) (d : decode (mC M) pc = .ok (.aaload, 1)) (kk : WP Γ r M Φ (pc + 1) L (.ref b :: st) σ) : WP Γ r M Φ pc L (.int (nI k) :: .ref a :: st) σ := by
  refine WP.aaloadQ ht (cVin hk hn) d ?_
  rw [cClamp hk hn, hv]
  exact kk
theorem WP.aastS {a n k v nv : Nat} (ht : aT σ a = (14, n)) (hv : aT σ v = (11, nv)) (hk : k < n) (hn : n ≤ 2147483647) (d : decode (mC M) pc = .ok (.aastore, 1)) (kk : WP Γ r M Φ (pc + 1) L st (sR σ a k (some v))) : WP Γ r M Φ pc L (.ref v :: .int (nI k) :: .ref a :: st) σ := by
  refine WP.aastoreQ ht hv (cVin hk hn) d ?_
  rw [cClamp hk hn]
  exact kk
theorem imax0 {a b : Nat} (h1 : a < 2 ^ 30) (h2 : b < 2 ^ 30) : (if (0 : Int32) < nI a - nI b then nI a - nI b else 0) = nI (a - b) := by
  rcases Nat.lt_or_ge b a with q | q
  · rw [pk_sub (by omega), if_pos (show (0 : Int32) < nI (a - b) from nI_lt (a := 0) (b := a - b) (by omega) (by omega))]
  · rcases Nat.eq_or_lt_of_le q with e | e
    · rw [e, pk_sub (Nat.le_refl _), Nat.sub_self]
      rfl
    · have hs : nI a - nI b < 0 := pk_sneg h2 e
      have hn : ¬ (0 : Int32) < nI a - nI b := fun z => by
        rw [Int32.lt_iff_toInt_lt] at z hs
        omega
      rw [if_neg hn, show a - b = 0 by omega]
      rfl
end RS
