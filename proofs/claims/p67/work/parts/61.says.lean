-- says: a text goes into the input buffer
def bb (l : List Nat) (p : Nat) : Nat := if p < l.length then l.getD p 0 else 32
theorem bb_lt {l : List Nat} (h : ∀ c ∈ l, c < 128) (p : Nat) : bb l p < 128 := by
  unfold bb
  split
  · next hp =>
    rw [List.getD_eq_getElem?_getD, List.getElem?_eq_getElem hp]
    exact h _ (List.getElem_mem hp)
  · decide
def pw (l : List Nat) (b : Nat) : Nat → Nat
  | 0 => 0
  | n + 1 => pw l b n * 256 + bb l (b + n)
theorem nI_sh8 {a c : Nat} (ha : a < 8388608) (hc : c < 256) : nI a <<< ((8 : Int32) &&& 31) ||| nI c = nI (a * 256 + c) := by
  rw [pk_shlN (n := a) ((8 : Int32) &&& 31) 8 (by decide) (by omega), nI_or]
  congr 1
  have h := Nat.shiftLeft_add_eq_or_of_lt (i := 8) (b := c) (by omega) a
  rw [Nat.shiftLeft_eq] at h
  exact h.symm
theorem bt_nI {M c : Nat} (hM : M < 2147483648) (h : M % 256 = c) (hc : c < 128) : bt (nI M) = nI c := by
  unfold bt
  apply Int32.toInt_inj.mp
  rw [Int8.toInt_toInt32, Int32.toInt_toInt8, nI_toInt hM, nI_toInt (by omega)]
  rw [Int.bmod_def]
  split <;> omega
theorem apB_nI {M k c : Nat} {s : Int32} (hs : ((s &&& 31).toBitVec.smod 32).toNat = k) (hM : M < 2147483648) (h : M / 2 ^ k % 256 = c) (hc : c < 128) : apB (nI M) s = nI c := by
  unfold apB
  rw [pk_shrN hM (s &&& 31) k hs]
  exact bt_nI (Nat.lt_of_le_of_lt (Nat.div_le_self _ _) hM) h hc
theorem apW_at {f : Nat → Int32} {n : Nat} {l : List Nat} {b : Nat} (h : ∀ c ∈ l, c < 128) (i : Nat) : apW f n (nI (pw l b 4)) i = if n ≤ i ∧ i < n + 4 then nI (bb l (b + (i - n))) else f i := by
  have b0 := bb_lt h (b + 0)
  have b1 := bb_lt h (b + 1)
  have b2 := bb_lt h (b + 2)
  have b3 := bb_lt h (b + 3)
  have hp : pw l b 4 = ((bb l (b + 0) * 256 + bb l (b + 1)) * 256 + bb l (b + 2)) * 256 + bb l (b + 3) := by
    simp [pw]
  have hM : pw l b 4 < 2147483648 := by rw [hp]; omega
  have e0 : apB (nI (pw l b 4)) 24 = nI (bb l (b + 0)) := apB_nI (k := 24) (by decide) hM (by rw [hp]; omega) b0
  have e1 : apB (nI (pw l b 4)) 16 = nI (bb l (b + 1)) := apB_nI (k := 16) (by decide) hM (by rw [hp]; omega) b1
  have e2 : apB (nI (pw l b 4)) 8 = nI (bb l (b + 2)) := apB_nI (k := 8) (by decide) hM (by rw [hp]; omega) b2
  have e3 : apB (nI (pw l b 4)) 0 = nI (bb l (b + 3)) := apB_nI (k := 0) (by decide) hM (by rw [hp]; omega) b3
  unfold apW
  rw [e0, e1, e2, e3]
  unfold uF
  by_cases c3 : i = n + 3
  · rw [if_pos c3, if_pos (by omega), show i - n = 3 by omega]
  · rw [if_neg c3]
    by_cases c2 : i = n + 2
    · rw [if_pos c2, if_pos (by omega), show i - n = 2 by omega]
    · rw [if_neg c2]
      by_cases c1 : i = n + 1
      · rw [if_pos c1, if_pos (by omega), show i - n = 1 by omega]
      · rw [if_neg c1]
        by_cases c0 : i = n
        · rw [if_pos c0, if_pos (by omega), show i - n = 0 by omega]
        · rw [if_neg c0, if_neg (by omega)]
abbrev ap5 (f : Nat → Int32) (n : Nat) (l : List Nat) (b : Nat) : Nat → Int32 := apW (apW (apW (apW (apW f n (nI (pw l b 4))) (n + 4) (nI (pw l (b + 4) 4))) (n + 8) (nI (pw l (b + 8) 4))) (n + 12) (nI (pw l (b + 12) 4))) (n + 16) (nI (pw l (b + 16) 4))
theorem ap5_at {f : Nat → Int32} {n : Nat} {l : List Nat} (h : ∀ c ∈ l, c < 128) {i : Nat} (hi : i < n + 20) : ap5 f n l n i = if n ≤ i then nI (bb l i) else f i := by
  unfold ap5
  rw [apW_at h, apW_at h, apW_at h, apW_at h, apW_at h]
  by_cases c0 : n ≤ i
  · rw [if_pos c0]
    by_cases d4 : n + 16 ≤ i
    · rw [if_pos (by omega), show n + 16 + (i - (n + 16)) = i by omega]
    · rw [if_neg (by omega)]
      by_cases d3 : n + 12 ≤ i
      · rw [if_pos (by omega), show n + 12 + (i - (n + 12)) = i by omega]
      · rw [if_neg (by omega)]
        by_cases d2 : n + 8 ≤ i
        · rw [if_pos (by omega), show n + 8 + (i - (n + 8)) = i by omega]
        · rw [if_neg (by omega)]
          by_cases d1 : n + 4 ≤ i
          · rw [if_pos (by omega), show n + 4 + (i - (n + 4)) = i by omega]
          · rw [if_neg (by omega), if_pos (by omega), show n + (i - n) = i by omega]
  · rw [if_neg (by omega), if_neg (by omega), if_neg (by omega), if_neg (by omega), if_neg (by omega), if_neg c0]
/-- only one cell's numbers have moved -/
def kpO (σ τ : cAS) (c : Nat) : Prop := aT τ = aT σ ∧ aR τ = aR σ ∧ aL τ = aL σ ∧ aN τ = aN σ ∧ ∀ d, d ≠ c → aI τ d = aI σ d
theorem kpO.rf {σ : cAS} {c : Nat} : kpO σ σ c := ⟨rfl, rfl, rfl, rfl, fun _ _ => rfl⟩
theorem kpO.trans {σ τ υ : cAS} {c : Nat} (h : kpO σ τ c) (h' : kpO τ υ c) : kpO σ υ c := ⟨h'.1.trans h.1, h'.2.1.trans h.2.1, h'.2.2.1.trans h.2.2.1, h'.2.2.2.1.trans h.2.2.2.1, fun d hd => (h'.2.2.2.2 d hd).trans (h.2.2.2.2 d hd)⟩
theorem kpO_sI {σ : cAS} {c k : Nat} {v : Int32} : kpO σ (sI σ c k v) c := ⟨rfl, rfl, rfl, rfl, fun d hd => funext fun j => by rw [aI_sI, if_neg (show ¬ (d = c ∧ j = k) from fun q => hd q.1)]⟩
theorem kpO_fre {σ τ : cAS} {x a c : Nat} (h : kpO σ τ c) (hf : fre σ x a) : fre τ x a := ⟨hf.1, by rw [h.2.2.2.1]; exact hf.2.1, fun k hk q hq => hf.2.2 k hk q (by
  unfold plc at hq ⊢
  rw [h.2.1] at hq
  exact hq)⟩
theorem kpO.X {σ τ : cAS} {x c : Nat} (h : kpO σ τ c) (hc : fre σ x c) : kpX σ τ x := ⟨Nat.le_of_eq h.2.2.2.1.symm, fun a _ hf => ⟨by rw [h.1], h.2.2.2.2 a (fun q => hf (q ▸ hc)), by rw [h.2.1], by rw [h.2.2.1]⟩⟩
/-- a cell that is younger than σ is written -/
theorem kpM.yng {σ τ υ : cAS} {x c : Nat} (h : kpM σ τ x) (hc : aN σ ≤ c) (ho : kpO τ υ c) : kpM σ υ x := fun a hf => by
  obtain ⟨f1, a1, a2, a3, a4⟩ := h a hf
  exact ⟨kpO_fre ho f1, by rw [ho.1]; exact a1, by rw [ho.2.2.2.2 a (by have := hf.2.1; omega)]; exact a2, by rw [ho.2.1]; exact a3, by rw [ho.2.2.1]; exact a4⟩
theorem kpM_sA {σ : cAS} {x kd n : Nat} (hx : x + 62 ≤ aN σ) : kpM σ (sA σ kd n) x := fun a hf => by
  have ha := hf.2.1
  refine ⟨kpX_fre (kpX.sA (x := x)) hx hf, ?_⟩
  exact ⟨by rw [aT_sA, if_neg (by omega)], funext fun j => by rw [aI_sA, if_neg (by omega)], funext fun j => by rw [aR_sA, if_neg (by omega)], funext fun j => by show (if a = aN σ then _ else _) = _; rw [if_neg (by omega)]; rfl⟩
/-- a String that is nobody's -/
def strF (σ : cAS) (x a : Nat) (l : List Nat) : Prop := strB σ 0 a l ∧ fre σ x a ∧ ∀ u, aR σ a 0 = some u → fre σ x u
theorem strF.kp {σ τ : cAS} {x a : Nat} {l : List Nat} (h : strF σ x a l) (hk : kpM σ τ x) : strF τ x a l := by
  obtain ⟨⟨h1, h2, h3, u, h4, h5, h6, h7⟩, f1, f2⟩ := h
  obtain ⟨g0, g1, g2, g3, -⟩ := hk a f1
  obtain ⟨k0, k1, k2, k3, -⟩ := hk u (f2 u h5)
  refine ⟨⟨⟨Nat.zero_le _, g0.2.1⟩, by rw [g1]; exact h2, by rw [g2]; exact h3, u, ⟨Nat.zero_le _, k0.2.1⟩, by rw [g3]; exact h5, by rw [k1]; exact h6, fun i c hc => by rw [k2]; exact h7 i c hc⟩, g0, fun v hv => ?_⟩
  rw [g3, h5] at hv
  cases hv
  exact k0
theorem strB.O {σ τ : cAS} {B0 a c n : Nat} {l : List Nat} (h : strB σ B0 a l) (hc : aT σ c = (11, n)) (ho : kpO σ τ c) : strB τ B0 a l := by
  obtain ⟨h1, h2, h3, u, h4, h5, h6, h7⟩ := h
  have ha : a ≠ c := fun q => by rw [q, hc] at h2; cases h2
  have hu : u ≠ c := fun q => by rw [q, hc] at h6; cases h6
  exact ⟨by rw [ho.2.2.2.1]; exact h1, by rw [ho.1]; exact h2, by rw [ho.2.2.2.2 a ha]; exact h3, u, by rw [ho.2.2.2.1]; exact h4, by rw [ho.2.1]; exact h5, by rw [ho.1]; exact h6, fun i d hd => by rw [ho.2.2.2.2 u hu]; exact h7 i d hd⟩
theorem strB.lt {σ : cAS} {B0 a : Nat} {l : List Nat} (h : strB σ B0 a l) : ∀ c ∈ l, c < 128 := fun c hc => by
  obtain ⟨h1, h2, h3, u, h4, h5, h6, h7⟩ := h
  obtain ⟨i, hi⟩ := List.getElem?_of_mem hc
  exact (h7 i c hi).1
def cl4 (k q : Nat) : Nat := if k ≤ 4 * q then 0 else if 4 * q + 4 ≤ k then 4 else k - 4 * q
section T
variable (Γ : cG) {σ : cAS} {x a : Nat} {l : List Nat} {Φ : cRes → cAS → Prop} {mc ms : Nat}
theorem LL_in {i c5 : Nat} (hl : l.length ≤ 200) (hi : i ≤ 200) :
    ∀ d k, k + d = 20 → ∀ σ, aT σ c5 = (11, 5) → strB σ 0 a l → (∀ q, q < 5 → aI σ c5 q = nI (pw l (i + 4 * q) (cl4 k q))) →
    (∀ τ, kpO σ τ c5 → (∀ q, q < 5 → aI τ c5 q = nI (pw l (i + 4 * q) 4)) → WP Γ (10, 260, mc, ms) ML_says Φ 70 [some (.ref x), some (.ref a), some (.int (nI i)), some (.ref c5), some (.int (nI 20))] [] τ) →
    WP Γ (10, 260, mc, ms) ML_says Φ 17 [some (.ref x), some (.ref a), some (.int (nI i)), some (.ref c5), some (.int (nI k))] [] σ := by
  intro d
  induction d with
  | zero =>
    intro k hk σ hT hS hI kk
    have hk : k = 20 := by omega
    subst hk
    refine WP.iload (pc := 17) dL_says_17 rfl ?_
    refine WP.bipush (pc := 19) (v := 20) dL_says_19 (by decide) ?_
    refine WP.icmp_ge (pc := 21) (tgt := 70) dL_says_21 (by decide) (fun _ => ?_) (fun h => absurd (by decide) h)
    exact kk σ kpO.rf (fun q hq => by
      have := hI q hq
      rw [this, show cl4 20 q = 4 from by unfold cl4; rw [if_neg (by omega), if_pos (by omega)]])
  | succ d ih =>
    intro k hk σ hT hS hI kk
    have hlt := hS.lt
    have hq5 : k / 4 < 5 := by omega
    refine WP.iload (pc := 17) dL_says_17 rfl ?_
    refine WP.bipush (pc := 19) (v := 20) dL_says_19 (by decide) ?_
    refine WP.icmp_ge (pc := 21) (tgt := 70) dL_says_21 (by decide) (fun h => absurd h (show ¬ nI 20 ≤ nI k from nI_ge (by omega) (by omega))) (fun _ => ?_)
    refine WP.aload_n (pc := 24) dL_says_24 rfl ?_
    refine WP.iload (pc := 25) dL_says_25 rfl ?_
    refine WP.iconst (pc := 27) (v := 4) dL_says_27 (by decide) ?_
    refine WP.idN (pc := 28) (a := k) (b := 4) rfl (by omega) (by omega) (by omega) dL_says_28 ?_
    refine WP.aload_n (pc := 29) dL_says_29 rfl ?_
    refine WP.iload (pc := 30) dL_says_30 rfl ?_
    refine WP.iconst (pc := 32) (v := 4) dL_says_32 (by decide) ?_
    refine WP.idN (pc := 33) (a := k) (b := 4) rfl (by omega) (by omega) (by omega) dL_says_33 ?_
    refine WP.iaload (pc := 34) hT (cVin hq5 (by omega)) dL_says_34 ?_
    rw [cClamp hq5 (by omega), hI _ hq5]
    refine WP.bipush (pc := 35) (v := 8) dL_says_35 (by decide) ?_
    refine WP.ishl (pc := 37) dL_says_37 ?_
    refine WP.iload_n (pc := 38) dL_says_38 rfl ?_
    refine WP.iload (pc := 39) dL_says_39 rfl ?_
    refine WP.iaN (pc := 41) (a := i) (b := k) rfl rfl dL_says_41 ?_
    refine WP.aload_n (pc := 42) dL_says_42 rfl ?_
    refine WP.cV1 (pc := 43) (mc2 := mc) (ms2 := ms) (ci := 16) kL_8 (CS_length Γ hS) (by decide) rfl hS.2.1 rfl ⟨Nat.le_of_ble_eq_true rfl, Nat.le_of_ble_eq_true rfl⟩ (by omega) (by omega) (Nat.le_of_ble_eq_true rfl) rfl dL_says_43 ?_
    have hcl : cl4 k (k / 4) = k % 4 := by unfold cl4; split <;> (try split) <;> omega
    have hik : i + 4 * (k / 4) + k % 4 = i + k := by omega
    have hpw : pw l (i + 4 * (k / 4)) (cl4 k (k / 4)) < 8388608 := by
      rw [hcl]
      have b0 := bb_lt hlt (i + 4 * (k / 4) + 0)
      have b1 := bb_lt hlt (i + 4 * (k / 4) + 1)
      have b2 := bb_lt hlt (i + 4 * (k / 4) + 2)
      rcases (show k % 4 = 0 ∨ k % 4 = 1 ∨ k % 4 = 2 ∨ k % 4 = 3 by omega) with e | e | e | e <;> rw [e] <;> simp only [pw] <;> omega
    have hstep : pw l (i + 4 * (k / 4)) (cl4 k (k / 4)) * 256 + bb l (i + k) = pw l (i + 4 * (k / 4)) (cl4 (k + 1) (k / 4)) := by
      have e1 : cl4 (k + 1) (k / 4) = cl4 k (k / 4) + 1 := by unfold cl4; split <;> split <;> (try split) <;> (try split) <;> omega
      rw [e1, hcl]
      show _ = pw l (i + 4 * (k / 4)) (k % 4) * 256 + bb l (i + 4 * (k / 4) + k % 4)
      rw [hik]
    have hfin : WP Γ (10, 260, mc, ms) ML_says Φ 62 [some (.ref x), some (.ref a), some (.int (nI i)), some (.ref c5), some (.int (nI k))] [.int (nI (bb l (i + k))), .int (nI (pw l (i + 4 * (k / 4)) (cl4 k (k / 4))) <<< ((8 : Int32) &&& 31)), .int (nI (k / 4)), .ref c5] σ := by
      refine WP.ior (pc := 62) dL_says_62 ?_
      rw [nI_sh8 hpw (by have := bb_lt hlt (i + k); omega), hstep]
      refine WP.iastore (pc := 63) hT (cVin hq5 (by omega)) dL_says_63 ?_
      rw [cClamp hq5 (by omega)]
      refine WP.iinc (pc := 64) dL_says_64 rfl (nI_1 _) (by decide) rfl ?_
      refine WP.goto (pc := 67) (tgt := 17) dL_says_67 (by decide) ?_
      refine ih (k + 1) (by omega) _ hT (hS.O hT kpO_sI) (fun q hq => ?_) (fun τ ho hτ => kk τ (kpO_sI.trans ho) hτ)
      rw [aI_sI]
      by_cases e : q = k / 4
      · rw [if_pos ⟨rfl, e⟩, e]
      · rw [if_neg (fun z => e z.2), hI q hq, show cl4 (k + 1) q = cl4 k q from by unfold cl4; split <;> split <;> (try split) <;> (try split) <;> omega]
    by_cases hp : i + k < l.length
    · refine WP.icmp_ge (pc := 46) (tgt := 60) dL_says_46 (by decide) (fun h => absurd h (nI_ge hp (by omega))) (fun _ => ?_)
      refine WP.aload_n (pc := 49) dL_says_49 rfl ?_
      refine WP.iload_n (pc := 50) dL_says_50 rfl ?_
      refine WP.iload (pc := 51) dL_says_51 rfl ?_
      refine WP.iaN (pc := 53) (a := i) (b := k) rfl rfl dL_says_53 ?_
      have hc : l[i + k]? = some (bb l (i + k)) := by
        unfold bb
        rw [if_pos hp, List.getD_eq_getElem?_getD, List.getElem?_eq_getElem hp]
        rfl
      refine WP.cV1 (pc := 54) (mc2 := mc) (ms2 := ms) (ci := 16) kL_14 (CS_charAt Γ hS (by omega) hc) (by decide) rfl hS.2.1 rfl ⟨Nat.le_of_ble_eq_true rfl, Nat.le_of_ble_eq_true rfl⟩ (by omega) (by omega) (Nat.le_of_ble_eq_true rfl) rfl dL_says_54 ?_
      refine WP.goto (pc := 57) (tgt := 62) dL_says_57 (by decide) ?_
      exact hfin
    · refine WP.icmp_ge (pc := 46) (tgt := 60) dL_says_46 (by decide) (fun _ => ?_) (fun h => absurd (nI_le (by omega) (by omega)) h)
      refine WP.bipush (pc := 60) (v := 32) dL_says_60 (by decide) ?_
      have e : bb l (i + k) = 32 := by unfold bb; rw [if_neg hp]
      rw [e] at hfin
      exact hfin
end T
