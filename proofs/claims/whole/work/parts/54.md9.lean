-- behind: 53
section PU
def ldC (b : Bool) (c : Nat) (l : mLd) : mLd := if l.1 = 0 ∧ b = false then ldF c l else l
def ldN (f : Nat → Int32) (n : Nat) (l : mLd) : mLd := if l.1 = 0 then ldX f n l else l
theorem runW_all {p : Int32 → Bool} {f : Nat → Int32} : ∀ m a k, a ≤ k → k < runW p f m a → p (f k) = true
  | 0, a, k, h1, h2 => by
    have : k < a := h2
    omega
  | m + 1, a, k, h1, h2 => by
    unfold runW at h2
    split at h2
    · next hp =>
      rcases Nat.lt_or_eq_of_le h1 with q | q
      · exact runW_all m (a + 1) k q h2
      · rw [← q]
        exact hp
    · omega
theorem tkN_dig {f : Nat → Int32} {n e : Nat} (h : (tkN f n e).1 = 2) : ∀ k, k < (tkN f n e).2.2 → isDig (f ((tkN f n e).2.1 + k)) = true := by
  intro k hk
  unfold tkN at h hk ⊢
  dsimp only at h hk ⊢
  generalize runW isSp f (n - e) e = a at *
  split at h
  · exact absurd (show (0 : Nat) = 2 from h) (by decide)
  · next h1 =>
    rw [if_neg h1] at hk ⊢
    split at h
    · exact absurd (show (1 : Nat) = 2 from h) (by decide)
    · next h2 =>
      rw [if_neg h2] at hk ⊢
      split at h
      · next h3 =>
        rw [if_pos h3] at hk ⊢
        have hk : k < runW isDig f (n - a) a - a := hk
        exact runW_all (n - a) a (a + k) (by omega) (by omega)
      · exact absurd (show (3 : Nat) = 2 from h) (by decide)
theorem isDig_c {x : Int32} (h : isDig x = true) : ∃ c, x = nI c ∧ 48 ≤ c ∧ c ≤ 57 := by
  unfold isDig at h
  rw [Bool.and_eq_true, decide_eq_true_eq, decide_eq_true_eq] at h
  obtain ⟨j, hj, rfl⟩ := nI_of2 (x := x) (M := 57) (n := 57) (by decide) (Int32.not_lt.mpr (Int32.le_trans (by decide) h.1)) h.2
  exact ⟨j, rfl, (nI_leI (a := 48) (by omega) (by omega)).mp h.1, hj⟩
def vlR (a b : Nat) : Prop := (a = b ∧ a < 100000) ∨ (a = 100000 ∧ 100000 ≤ b ∧ b < 1000000000)
theorem vl_rel {f : Nat → Int32} : ∀ m i a b, (∀ k, k < m → isDig (f (i + k)) = true) → vlR a b → ∃ a' b', vlA f m i (nI a) = nI a' ∧ vlM f m i (nI b) = nI b' ∧ vlR a' b'
  | 0, i, a, b, _, h => ⟨a, b, rfl, rfl, h⟩
  | m + 1, i, a, b, hd, h => by
    obtain ⟨c, hc, h1, h2⟩ := isDig_c (hd 0 (by omega))
    have hd' : ∀ k, k < m → isDig (f (i + 1 + k)) = true := fun k hk => by
      have := hd (k + 1) (by omega)
      rwa [show i + (k + 1) = i + 1 + k by omega] at this
    rw [Nat.add_zero] at hc
    have ha : a ≤ 100000 := by rcases h with ⟨-, q⟩ | ⟨q, -⟩ <;> omega
    have e1 : nI a * 10 + f i - 48 = nI (a * 10 + (c - 48)) := by
      rw [hc, show (10 : Int32) = nI 10 from rfl, pk_mul, nI_add, show (48 : Int32) = nI 48 from rfl, pk_sub (by omega)]
      congr 1
      omega
    have e2 : 10 * nI b + f i - 48 = nI (10 * b + (c - 48)) := by
      rw [hc, show (10 : Int32) = nI 10 from rfl, pk_mul, nI_add, show (48 : Int32) = nI 48 from rfl, pk_sub (by omega)]
      congr 1
      omega
    have e3 : (if 100000 < nI a * 10 + f i - 48 then (100000 : Int32) else nI a * 10 + f i - 48) = nI (if 100000 < a * 10 + (c - 48) then 100000 else a * 10 + (c - 48)) := by
      rw [e1]
      by_cases q : 100000 < a * 10 + (c - 48)
      · rw [if_pos (show (100000 : Int32) < _ from nI_lt (a := 100000) q (by omega)), if_pos q]
        rfl
      · rw [if_neg (show ¬ (100000 : Int32) < _ from nI_nlt (b := a * 10 + (c - 48)) (a := 100000) (by omega) (by omega)), if_neg q]
    have hb : b < 1000000000 := by rcases h with ⟨q, q2⟩ | ⟨-, -, q⟩ <;> omega
    have e4 : (if 99999999 < nI b then nI b else 10 * nI b + f i - 48) = nI (if 99999999 < b then b else 10 * b + (c - 48)) := by
      rw [e2]
      by_cases q : 99999999 < b
      · rw [if_pos (show (99999999 : Int32) < _ from nI_lt (a := 99999999) q (by omega)), if_pos q]
      · rw [if_neg (show ¬ (99999999 : Int32) < _ from nI_nlt (b := b) (a := 99999999) (by omega) (by omega)), if_neg q]
    unfold vlA vlM
    rw [e3, e4]
    refine vl_rel m (i + 1) _ _ hd' ?_
    rcases h with ⟨rfl, q⟩ | ⟨rfl, q1, q2⟩
    · by_cases w : 100000 < a * 10 + (c - 48)
      · rw [if_pos w]
        split
        · exact Or.inr ⟨rfl, by omega, by omega⟩
        · exact Or.inr ⟨rfl, by omega, by omega⟩
      · rw [if_neg w, if_neg (by omega)]
        rcases Nat.lt_or_ge (a * 10 + (c - 48)) 100000 with z | z
        · exact Or.inl ⟨by omega, z⟩
        · exact Or.inr ⟨by omega, by omega, by omega⟩
    · rw [if_pos (by omega)]
      split
      · exact Or.inr ⟨rfl, by omega, by omega⟩
      · exact Or.inr ⟨rfl, by omega, by omega⟩
theorem vl_in {f : Nat → Int32} {n e lo hi : Nat} (h : (tkN f n e).1 = 2) (hh : hi ≤ 999) (hlo : lo ≤ hi) : ((nI lo ≤ vlM f (tkN f n e).2.2 (tkN f n e).2.1 0 ∧ vlM f (tkN f n e).2.2 (tkN f n e).2.1 0 ≤ nI hi) ↔ ¬ (vlA f (tkN f n e).2.2 (tkN f n e).2.1 0 < nI lo ∨ nI hi < vlA f (tkN f n e).2.2 (tkN f n e).2.1 0)) ∧ (vlM f (tkN f n e).2.2 (tkN f n e).2.1 0 ≤ nI hi → vlM f (tkN f n e).2.2 (tkN f n e).2.1 0 = vlA f (tkN f n e).2.2 (tkN f n e).2.1 0) := by
  obtain ⟨a, b, h1, h2, h3⟩ := vl_rel (f := f) (tkN f n e).2.2 (tkN f n e).2.1 0 0 (tkN_dig h) (Or.inl ⟨rfl, by decide⟩)
  rw [show vlA f (tkN f n e).2.2 (tkN f n e).2.1 0 = nI a from h1, show vlM f (tkN f n e).2.2 (tkN f n e).2.1 0 = nI b from h2]
  have hab : b < 1000000000 ∧ a ≤ 100000 := by rcases h3 with ⟨q, q2⟩ | ⟨q0, q1, q⟩ <;> omega
  rw [nI_leI (by omega) (by omega), nI_leI (by omega) (by omega), nI_ltI (by omega) (by omega), nI_ltI (by omega) (by omega), nI_eq (by omega) (by omega)]
  rcases h3 with ⟨rfl, q2⟩ | ⟨rfl, q1, q⟩
  · constructor
    · omega
    · intro _
      rfl
  · constructor <;> omega
theorem num_eq {f : Nat → Int32} {n e lo hi : Nat} {l : mLd} (hl : l.2.2 = tkN f n e) (hh : hi ≤ 999) (hlo : lo ≤ hi) {V : Int32} (hV : l.2.2.1 = 2 → V = vlM f l.2.2.2.2 l.2.2.2.1 0) :
    ldN f n (ldC (decide (nI lo ≤ V) && decide (V ≤ nI hi)) 2 (ldC (decide (l.2.2.1 = 2)) 1 l)) = (ldNum f n (nI lo) (nI hi) l).2 ∧ (if (ldC (decide (nI lo ≤ V) && decide (V ≤ nI hi)) 2 (ldC (decide (l.2.2.1 = 2)) 1 l)).1 = 0 then V else nI lo) = if (ldNum f n (nI lo) (nI hi) l).2.1 = 0 then (ldNum f n (nI lo) (nI hi) l).1 else nI lo := by
  unfold ldNum
  by_cases h0 : l.1 = 0
  · by_cases h2 : l.2.2.1 = 2
    · have hv := hV h2
      have hin := vl_in (f := f) (n := n) (e := e) (lo := lo) (hi := hi) (by rw [← hl]; exact h2) hh hlo
      rw [← hl] at hin
      have e1 : ldC (decide (l.2.2.1 = 2)) 1 l = l := by
        unfold ldC
        rw [if_neg (by simp [h2])]
      rw [e1, if_pos h0, if_pos h2]
      by_cases hb : nI lo ≤ V ∧ V ≤ nI hi
      · have e2 : ldC (decide (nI lo ≤ V) && decide (V ≤ nI hi)) 2 l = l := by
          unfold ldC
          rw [if_neg (by simp [hb])]
        rw [e2]
        rw [hv] at hb
        have e3 := hin.1.mp hb
        have e4 : vlM f l.2.2.2.2 l.2.2.2.1 0 = ldNumV f l := hin.2 hb.2
        have e5 : ¬ (ldNumV f l < nI lo ∨ nI hi < ldNumV f l) := e3
        rw [if_neg e5, if_pos h0]
        refine ⟨by unfold ldN; rw [if_pos h0], ?_⟩
        rw [if_pos (show (ldX f n l).1 = 0 from h0), hv, e4]
      · have e2 : ldC (decide (nI lo ≤ V) && decide (V ≤ nI hi)) 2 l = ldF 2 l := by
          unfold ldC
          rw [if_pos ⟨h0, by rw [Bool.and_eq_false_iff, decide_eq_false_iff_not, decide_eq_false_iff_not]; exact Classical.not_and_iff_not_or_not.mp hb⟩]
        rw [e2]
        rw [hv] at hb
        have e5 : ldNumV f l < nI lo ∨ nI hi < ldNumV f l := Classical.byContradiction fun z => hb (hin.1.mpr z)
        rw [if_pos e5, if_neg (show ¬ (ldF 2 l).1 = 0 by show ¬ 2 = 0; decide), if_neg (show ¬ (ldF 2 l).1 = 0 by show ¬ 2 = 0; decide)]
        exact ⟨by unfold ldN; rw [if_neg (show ¬ (ldF 2 l).1 = 0 by show ¬ 2 = 0; decide)], rfl⟩
    · have e1 : ldC (decide (l.2.2.1 = 2)) 1 l = ldF 1 l := by
        unfold ldC
        rw [if_pos ⟨h0, decide_eq_false h2⟩]
      have n1 : ¬ (ldF 1 l).1 = 0 := by show ¬ 1 = 0; decide
      have e2 : ∀ b, ldC b 2 (ldF 1 l) = ldF 1 l := fun b => by
        unfold ldC
        rw [if_neg (fun z => n1 z.1)]
      rw [e1, e2, if_pos h0, if_neg h2, if_neg n1, if_neg n1]
      exact ⟨by unfold ldN; rw [if_neg n1], rfl⟩
  · have e1 : ∀ b c, ldC b c l = l := fun b c => by
      unfold ldC
      rw [if_neg (fun z => h0 z.1)]
    rw [e1, e1, if_neg h0, if_neg h0, if_neg h0]
    exact ⟨by unfold ldN; rw [if_neg h0], rfl⟩
theorem ldC_t {c : Nat} {l : mLd} : ldC true c l = l := if_neg (fun z => absurd z.2 (by decide))
theorem ldC_f {c : Nat} {l : mLd} (h : l.1 = 0) : ldC false c l = ldF c l := if_pos ⟨h, rfl⟩
theorem ldC_n {c : Nat} {b : Bool} {l : mLd} (h : ¬ l.1 = 0) : ldC b c l = l := if_neg (fun z => h z.1)
theorem ldN_0 {f : Nat → Int32} {n : Nat} {l : mLd} (h : l.1 = 0) : ldN f n l = ldX f n l := if_pos h
theorem ldN_n {f : Nat → Int32} {n : Nat} {l : mLd} (h : ¬ l.1 = 0) : ldN f n l = l := if_neg h
theorem ldF_n {c : Nat} {l : mLd} (h : c ≠ 0) : ¬ (ldF c l).1 = 0 := h
theorem semi_eq {f : Nat → Int32} {n : Nat} {l : mLd} : ldN f n (ldC (smI' f l.2.2) 1 l) = ldSemi f n l := by
  unfold ldSemi
  by_cases h0 : l.1 = 0
  · rw [if_pos h0]
    cases hs : smI' f l.2.2
    · rw [ldC_f h0, ldN_n (ldF_n (by decide)), if_neg (by decide)]
    · rw [ldC_t, ldN_0 h0, if_pos rfl]
  · rw [ldC_n h0, ldN_n h0, if_neg h0]
theorem kind_eq {f : Nat → Int32} {n : Nat} {l : mLd} : ldN f n (ldC (decide (ldKindV f l ≠ -1)) 1 l) = (ldKind f n l).2 := by
  unfold ldKind
  by_cases h0 : l.1 = 0
  · rw [if_pos h0]
    dsimp only
    by_cases hk : ldKindV f l = -1
    · rw [decide_eq_false (fun z => z hk), ldC_f h0, ldN_n (ldF_n (by decide)), if_pos hk]
    · rw [decide_eq_true hk, ldC_t, ldN_0 h0, if_neg hk]
  · rw [ldC_n h0, ldN_n h0, if_neg h0]
def nmP (f : Nat → Int32) (s m : Nat) : Nat → Nat
  | 0 => 0
  | i + 1 => nmP f s m i * 27 + nmC f s m i
theorem nmP_4 (f : Nat → Int32) (s m : Nat) : nmP f s m 4 = nmF f s m := by
  simp [nmP, nmF]
theorem allL_no {f : Nat → Int32} {s m i : Nat} (h : ¬ isLet (f (s + i)) = true) (hi : i < m) : ¬ allL f s m = true := fun q => by
  obtain ⟨c, h1, -, h2, h3⟩ := allL_get q hi
  apply h
  unfold isLet
  rw [h1, Bool.and_eq_true]
  exact ⟨decide_eq_true (nI_le (a := 97) h2 (by omega)), decide_eq_true (nI_le (b := 122) h3 (by decide))⟩
theorem cTB_lt : ∀ j, j < 34 → ∀ i, i < cTL j → ∃ b, b < 128 ∧ cTB j i = nI b := by
  have key : ∀ j, j < 34 → ∀ i, i < cTL j → (cTC.getD j []).getD i 0 < 128 := by decide +kernel
  intro j hj i hi
  exact ⟨_, key j hj i hi, rfl⟩
end PU
/-- only the reading of the text has moved -/
def frK (I I' : Nat → Nat → Int32) (m : Nat) : Prop := (∀ b, b ≠ m → I' b = I b) ∧ ∀ j, (j < 18 ∨ 24 < j) → I' m j = I m j
section F
variable {I I' I'' : Nat → Nat → Int32} {m : Nat}
theorem frK.rf : frK I I m := ⟨fun _ _ => rfl, fun _ _ => rfl⟩
theorem frK.trans (h : frK I I' m) (h' : frK I' I'' m) : frK I I'' m := ⟨fun b h1 => (h'.1 b h1).trans (h.1 b h1), fun j hj => (h'.2 j hj).trans (h.2 j hj)⟩
theorem frK.up {j : Nat} {v : Int32} (h : frK I I' m) (hj : 18 ≤ j ∧ j ≤ 24) : frK I (up I' m j v) m := ⟨fun b h1 => (up_ne h1).trans (h.1 b h1), fun i hi => by rw [up_eq, if_neg (by omega)]; exact h.2 i hi⟩
theorem frK.ofV (h : frV I I' m) : frK I I' m := ⟨h.1, fun j hj => h.2 j (by omega)⟩
theorem frK.ofj {j1 j2 : Nat} (h : fr_j I I' m j1 j2) (h1 : 18 ≤ j1 ∧ j1 ≤ 24) (h2 : 18 ≤ j2 ∧ j2 ≤ 24) : frK I I' m := ⟨h.1, fun j hj => h.2 j (by omega) (by omega)⟩
end F
def mlAt (I : Nat → Nat → Int32) (m : Nat) (f : Nat → Int32) (n : Nat) (l : mLd) : Prop := I m 17 = nI n ∧ n ≤ 600 ∧ tx f (I (m + 10)) n ∧ I m 23 = nI l.1 ∧ I m 24 = l.2.1 ∧ tkM I m f l.2.2 ∧ (∃ e, e ≤ n ∧ l.2.2 = tkN f n e) ∧ l.1 ≤ 6
theorem mlAt.ok {I : Nat → Nat → Int32} {m n : Nat} {f : Nat → Int32} {l : mLd} (h : mlAt I m f n l) : tkOk n l.2.2 := by
  obtain ⟨-, -, -, -, -, -, ⟨e, he, ht⟩, -⟩ := h
  rw [ht]
  exact tkN_tk he
theorem mlAt.other {I I' : Nat → Nat → Int32} {m n : Nat} {f : Nat → Int32} {l : mLd} (h : mlAt I m f n l) (h1 : ∀ j, 17 ≤ j → j ≤ 24 → I' m j = I m j) (h2 : I' (m + 10) = I (m + 10)) : mlAt I' m f n l := by
  unfold mlAt tkM
  rw [h1 17 (by omega) (by omega), h1 18 (by omega) (by omega), h1 19 (by omega) (by omega), h1 20 (by omega) (by omega), h1 21 (by omega) (by omega), h1 22 (by omega) (by omega), h1 23 (by omega) (by omega), h1 24 (by omega) (by omega), h2]
  exact h
section T
variable (Γ : cG) {σ : cAS} {m : Nat} {f : Nat → Int32} {n : Nat}
theorem CX9_check (hm : shM σ m) {I : Nat → Nat → Int32} {l : mLd} (h : mlAt I m f n l) (b : Bool) (c : Nat) (hc : 1 ≤ c ∧ c ≤ 6) : Ctr Γ (0, 0, 0, 0) MX9_check [.ref m, .int (bI b), .int (nI c)] (wI σ I) (rP σ (fun _ I' => fr_j I I' m 23 24 ∧ mlAt I' m f n (ldC b c l))) := by
  obtain ⟨h17, hn, ht, h23, h24, ⟨t19, t20, t18, t22, t21⟩, he, h6⟩ := h
  have fin : ∀ I', fr_j I I' m 23 24 → mlAt I' m f n (ldC b c l) → WP Γ (0, 0, 0, 0) MX9_check (rP σ (fun _ I' => fr_j I I' m 23 24 ∧ mlAt I' m f n (ldC b c l))) 24 [some (.ref m), some (.int (bI b)), some (.int (nI c))] [] (wI σ I') := fun I' f1 g1 => by
    refine WP.aload_n (pc := 24) dX9_check_24 rfl ?_
    refine WP.gI (pc := 25) uX9 fX9_180 hm.t0 dX9_check_25 ?_
    refine WP.if_ne (pc := 28) (tgt := 35) dX9_check_28 (by decide) (fun h1 => ?_) (fun h1 => ?_)
    · refine WP.iconst (pc := 35) (v := 0) dX9_check_35 (by decide) ?_
      refine WP.zret (pc := 36) rfl (by decide) dX9_check_36 ?_
      exact ⟨_, I', rfl, rfl, f1, g1⟩
    · refine WP.iconst (pc := 31) (v := 1) dX9_check_31 (by decide) ?_
      refine WP.goto (pc := 32) (tgt := 36) dX9_check_32 (by decide) ?_
      refine WP.zret (pc := 36) rfl (by decide) dX9_check_36 ?_
      exact ⟨_, I', rfl, rfl, f1, g1⟩
  have same : ¬ (l.1 = 0 ∧ b = false) → mlAt I m f n (ldC b c l) := fun q => by
    unfold ldC
    rw [if_neg q]
    exact ⟨h17, hn, ht, h23, h24, ⟨t19, t20, t18, t22, t21⟩, he, h6⟩
  refine Ctr.go rfl (by decide) rfl rfl ?_
  refine WP.aload_n (pc := 0) dX9_check_0 rfl ?_
  refine WP.gIv (pc := 1) (v := nI l.1) uX9 fX9_180 hm.t0 (by simp [up_eq, h23]) dX9_check_1 ?_
  refine WP.if_ne (pc := 4) (tgt := 24) dX9_check_4 (by decide) (fun h1 => ?_) (fun h1 => ?_)
  · exact fin I fr_j.rf (same fun q => h1 (by rw [q.1]; rfl))
  · have h0 : l.1 = 0 := (nI_eq (b := 0) (by omega) (by decide)).mp h1
    refine WP.iload_n (pc := 7) dX9_check_7 rfl ?_
    refine WP.if_ne (pc := 8) (tgt := 24) dX9_check_8 (by decide) (fun h2 => ?_) (fun h2 => ?_)
    · exact fin I fr_j.rf (same fun q => h2 (by rw [q.2]; rfl))
    · have hb : b = false := by
        cases b
        · rfl
        · exact absurd h2 (by decide)
      refine WP.aload_n (pc := 11) dX9_check_11 rfl ?_
      refine WP.iload_n (pc := 12) dX9_check_12 rfl ?_
      refine WP.pI (pc := 13) uX9 fX9_180 rfl rfl hm.t0 dX9_check_13 ?_
      refine WP.aload_n (pc := 16) dX9_check_16 rfl ?_
      refine WP.aload_n (pc := 17) dX9_check_17 rfl ?_
      refine WP.gIv (pc := 18) (v := nI l.2.2.2.1) uX9 fX9_192 hm.t0 (by simp [up_eq, t19]) dX9_check_18 ?_
      refine WP.pI (pc := 21) uX9 fX9_41 rfl rfl hm.t0 dX9_check_21 ?_
      refine fin _ fr_j.rf.u1.u2 ?_
      unfold ldC
      rw [if_pos ⟨h0, hb⟩]
      refine ⟨by simp [up_eq, h17], hn, by rw [up_ne (by omega), up_ne (by omega)]; exact ht, by simp [up_eq]; rfl, by simp [up_eq]; rfl, ⟨by simp [up_eq, t19]; rfl, by simp [up_eq, t20]; rfl, by simp [up_eq, t18]; rfl, by simp [up_eq, t22]; rfl, fun z => by simp [up_eq, t21 z]; rfl⟩, he, hc.2⟩
theorem CX9_next (hm : shM σ m) {I : Nat → Nat → Int32} {l : mLd} (h : mlAt I m f n l) : Ctr Γ (3, 63, 0, 0) MX9_next [.ref m] (wI σ I) (rW σ (fun I' => frK I I' m ∧ mlAt I' m f n (ldN f n l))) := by
  have hk := h.ok
  obtain ⟨h17, hn, ht, h23, h24, htk, he, h6⟩ := id h
  refine Ctr.go rfl (by decide) rfl rfl ?_
  refine WP.aload_n (pc := 0) dX9_next_0 rfl ?_
  refine WP.gIv (pc := 1) (v := nI l.1) uX9 fX9_180 hm.t0 (by simp [up_eq, h23]) dX9_next_1 ?_
  refine WP.if_ne (pc := 4) (tgt := 11) dX9_next_4 (by decide) (fun h1 => ?_) (fun h1 => ?_)
  · skip
    refine WP.vret (pc := 11) rfl dX9_next_11 ?_
    refine ⟨rfl, I, rfl, frK.rf, ?_⟩
    unfold ldN
    rw [if_neg (fun q => h1 (by rw [q]; rfl))]
    exact h
  · have h0 : l.1 = 0 := (nI_eq (b := 0) (by omega) (by decide)).mp h1
    refine WP.aload_n (pc := 7) dX9_next_7 rfl ?_
    refine WP.cVw (pc := 8) (mc2 := 0) (ms2 := 0) (ci := 9) kX9_209 (CX9_advance Γ hm hn hk.2.1 h17 ht htk.2.2.1) (by decide) rfl hm.t0 rfl ⟨Nat.le_of_ble_eq_true rfl, Nat.le_of_ble_eq_true rfl⟩ (Nat.le_of_ble_eq_true rfl) (Nat.le_of_ble_eq_true rfl) (Nat.le_of_ble_eq_true rfl) rfl dX9_next_8 (fun I1 ⟨f1, g1⟩ => ?_)
    refine WP.vret (pc := 11) rfl dX9_next_11 ?_
    refine ⟨rfl, I1, rfl, frK.ofV f1, ?_⟩
    rw [ldN_0 h0]
    exact ⟨by rw [f1.2 17 (by omega)]; exact h17, hn, by rw [f1.1 (m + 10) (by omega)]; exact ht, by rw [f1.2 23 (by omega)]; exact h23, by rw [f1.2 24 (by omega)]; exact h24, g1, ⟨_, hk.2.1, rfl⟩, h6⟩
theorem CX9_number (hm : shM σ m) {I : Nat → Nat → Int32} {l : mLd} (h : mlAt I m f n l) {lo hi : Nat} (hh : hi ≤ 999) (hlo : lo ≤ hi) : Ctr Γ (4, 83, 0, 0) MX9_number [.ref m, .int (nI lo), .int (nI hi)] (wI σ I) (rP σ (fun v I' => v = (if (ldNum f n (nI lo) (nI hi) l).2.1 = 0 then (ldNum f n (nI lo) (nI hi) l).1 else nI lo) ∧ frK I I' m ∧ mlAt I' m f n (ldNum f n (nI lo) (nI hi) l).2)) := by
  have hok := h.ok
  obtain ⟨h17, hn, ht, h23, h24, htk, ⟨e, he1, he2⟩, h6⟩ := id h
  obtain ⟨q1, q2⟩ := num_eq (f := f) (n := n) (lo := lo) (hi := hi) he2 hh hlo htk.2.2.2.2
  have tail : ∀ I1, fr_j I I1 m 23 24 → mlAt I1 m f n (ldC (decide (l.2.2.1 = 2)) 1 l) → WP Γ (4, 83, 0, 0) MX9_number (rP σ (fun v I' => v = (if (ldNum f n (nI lo) (nI hi) l).2.1 = 0 then (ldNum f n (nI lo) (nI hi) l).1 else nI lo) ∧ frK I I' m ∧ mlAt I' m f n (ldNum f n (nI lo) (nI hi) l).2)) 19 [some (.ref m), some (.int (nI lo)), some (.int (nI hi)), none] [] (wI σ I1) := fun I1 f1 g1 => by
    have v1 : I1 m 21 = I m 21 := f1.2 21 (by omega) (by omega)
    refine WP.aload_n (pc := 19) dX9_number_19 rfl ?_
    refine WP.aload_n (pc := 20) dX9_number_20 rfl ?_
    refine WP.gIv (pc := 21) (v := (I m 21)) uX9 fX9_198 hm.t0 (by simp [up_eq, v1]) dX9_number_21 ?_
    refine WP.iload_n (pc := 24) dX9_number_24 rfl ?_
    refine WP.iload_n (pc := 25) dX9_number_25 rfl ?_
    refine WP.cS1 (pc := 26) (mc2 := 0) (ms2 := 0) kX9_183 (CX9_isBetween Γ (I m 21) (nI lo) (nI hi)) rfl ⟨Nat.le_of_ble_eq_true rfl, Nat.le_of_ble_eq_true rfl⟩ (Nat.le_of_ble_eq_true rfl) (Nat.le_of_ble_eq_true rfl) (Nat.le_of_ble_eq_true rfl) rfl dX9_number_26 ?_
    refine WP.iconst (pc := 29) (v := 2) dX9_number_29 (by decide) ?_
    refine WP.cVp (pc := 30) (mc2 := 0) (ms2 := 0) (ci := 9) kX9_212 (CX9_check Γ hm g1 (decide (nI lo ≤ I m 21) && decide (I m 21 ≤ nI hi)) 2 (by omega)) (by decide) rfl hm.t0 rfl ⟨Nat.le_of_ble_eq_true rfl, Nat.le_of_ble_eq_true rfl⟩ (Nat.le_of_ble_eq_true rfl) (Nat.le_of_ble_eq_true rfl) (Nat.le_of_ble_eq_true rfl) rfl dX9_number_30 (fun v2 I2 ⟨f2, g2⟩ => ?_)
    have v2' : I2 m 21 = I m 21 := (f2.2 21 (by omega) (by omega)).trans v1
    have c2 := g2.2.2.2.1
    have c6 := g2.2.2.2.2.2.2.2
    have fin : ∀ w, w = (if (ldC (decide (nI lo ≤ I m 21) && decide (I m 21 ≤ nI hi)) 2 (ldC (decide (l.2.2.1 = 2)) 1 l)).1 = 0 then I m 21 else nI lo) → WP Γ (4, 83, 0, 0) MX9_number (rP σ (fun v I' => v = (if (ldNum f n (nI lo) (nI hi) l).2.1 = 0 then (ldNum f n (nI lo) (nI hi) l).1 else nI lo) ∧ frK I I' m ∧ mlAt I' m f n (ldNum f n (nI lo) (nI hi) l).2)) 49 [some (.ref m), some (.int (nI lo)), some (.int (nI hi)), none] [.int w] (wI σ I2) := fun w hw => by
      refine WP.istore_n (pc := 49) dX9_number_49 (by decide) rfl ?_
      refine WP.aload_n (pc := 50) dX9_number_50 rfl ?_
      refine WP.cVw (pc := 51) (mc2 := 0) (ms2 := 0) (ci := 9) kX9_215 (CX9_next Γ hm g2) (by decide) rfl hm.t0 rfl ⟨Nat.le_of_ble_eq_true rfl, Nat.le_of_ble_eq_true rfl⟩ (Nat.le_of_ble_eq_true rfl) (Nat.le_of_ble_eq_true rfl) (Nat.le_of_ble_eq_true rfl) rfl dX9_number_51 (fun I3 ⟨f3, g3⟩ => ?_)
      refine WP.iload_n (pc := 54) dX9_number_54 rfl ?_
      refine WP.iret (pc := 55) rfl dX9_number_55 ?_
      refine ⟨_, I3, rfl, rfl, hw.trans q2, ((frK.ofj f1 (by omega) (by omega)).trans (frK.ofj f2 (by omega) (by omega))).trans f3, ?_⟩
      rw [← q1]
      exact g3
    refine WP.pop (pc := 33) dX9_number_33 rfl ?_
    refine WP.aload_n (pc := 34) dX9_number_34 rfl ?_
    refine WP.gIv (pc := 35) (v := nI (ldC (decide (nI lo ≤ I m 21) && decide (I m 21 ≤ nI hi)) 2 (ldC (decide (l.2.2.1 = 2)) 1 l)).1) uX9 fX9_180 hm.t0 (by simp [up_eq, c2]) dX9_number_35 ?_
    refine WP.if_ne (pc := 38) (tgt := 48) dX9_number_38 (by decide) (fun h1 => ?_) (fun h1 => ?_)
    · refine WP.iload_n (pc := 48) dX9_number_48 rfl ?_
      exact fin _ (by rw [if_neg (fun q => h1 (by rw [q]; rfl))])
    · refine WP.aload_n (pc := 41) dX9_number_41 rfl ?_
      refine WP.gIv (pc := 42) (v := (I m 21)) uX9 fX9_198 hm.t0 (by simp [up_eq, v2']) dX9_number_42 ?_
      refine WP.goto (pc := 45) (tgt := 49) dX9_number_45 (by decide) ?_
      exact fin _ (by rw [if_pos ((nI_eq (b := 0) (by omega) (by decide)).mp h1)])
  have h3 := hok.1
  have tk2 : tkm l.2.2.1 ≤ 3 ∧ (tkm l.2.2.1 = 2 ↔ l.2.2.1 = 2) := by
    unfold tkm
    split
    · omega
    · split <;> omega
  refine Ctr.go rfl (by decide) rfl rfl ?_
  refine WP.aload_n (pc := 0) dX9_number_0 rfl ?_
  refine WP.aload_n (pc := 1) dX9_number_1 rfl ?_
  refine WP.gIv (pc := 2) (v := nI (tkm l.2.2.1)) uX9 fX9_201 hm.t0 (by simp [up_eq, htk.2.1]) dX9_number_2 ?_
  refine WP.iconst (pc := 5) (v := 2) dX9_number_5 (by decide) ?_
  refine WP.icmp_ne (pc := 6) (tgt := 13) dX9_number_6 (by decide) (fun h1 => ?_) (fun h1 => ?_)
  · have e1 : decide (l.2.2.1 = 2) = false := decide_eq_false fun q => h1 (by rw [tk2.2.mpr q]; rfl)
    refine WP.iconst (pc := 13) (v := 0) dX9_number_13 (by decide) ?_
    refine WP.iconst (pc := 14) (v := 1) dX9_number_14 (by decide) ?_
    rw [e1] at tail
    refine WP.cVp (pc := 15) (mc2 := 0) (ms2 := 0) (ci := 9) kX9_212 (CX9_check Γ hm h false 1 (by omega)) (by decide) rfl hm.t0 rfl ⟨Nat.le_of_ble_eq_true rfl, Nat.le_of_ble_eq_true rfl⟩ (Nat.le_of_ble_eq_true rfl) (Nat.le_of_ble_eq_true rfl) (Nat.le_of_ble_eq_true rfl) rfl dX9_number_15 (fun v1 I1 ⟨f1, g1⟩ => ?_)
    refine WP.pop (pc := 18) dX9_number_18 rfl ?_
    exact tail I1 f1 g1
  · have e1 : decide (l.2.2.1 = 2) = true := decide_eq_true (tk2.2.mp ((nI_eq (b := 2) (by omega) (by decide)).mp h1))
    refine WP.iconst (pc := 9) (v := 1) dX9_number_9 (by decide) ?_
    refine WP.goto (pc := 10) (tgt := 14) dX9_number_10 (by decide) ?_
    refine WP.iconst (pc := 14) (v := 1) dX9_number_14 (by decide) ?_
    rw [e1] at tail
    refine WP.cVp (pc := 15) (mc2 := 0) (ms2 := 0) (ci := 9) kX9_212 (CX9_check Γ hm h true 1 (by omega)) (by decide) rfl hm.t0 rfl ⟨Nat.le_of_ble_eq_true rfl, Nat.le_of_ble_eq_true rfl⟩ (Nat.le_of_ble_eq_true rfl) (Nat.le_of_ble_eq_true rfl) (Nat.le_of_ble_eq_true rfl) rfl dX9_number_15 (fun v1 I1 ⟨f1, g1⟩ => ?_)
    refine WP.pop (pc := 18) dX9_number_18 rfl ?_
    exact tail I1 f1 g1
theorem CX9_semicolon (hm : shM σ m) {I : Nat → Nat → Int32} {l : mLd} (h : mlAt I m f n l) : Ctr Γ (1, 22, 0, 0) MX9_semicolon [.ref m] (wI σ I) (rW σ (fun I' => fr_j I I' m 23 24 ∧ mlAt I' m f n (ldC (smI' f l.2.2) 1 l))) := by
  have hok := h.ok
  obtain ⟨h17, hn, ht, h23, h24, htk, he, h6⟩ := id h
  have h3 := hok.1
  have tk2 : tkm l.2.2.1 ≤ 3 ∧ (tkm l.2.2.1 = 1 ↔ l.2.2.1 = 3) := by
    unfold tkm
    split
    · omega
    · split <;> omega
  refine Ctr.go rfl (by decide) rfl rfl ?_
  have no : smI' f l.2.2 = false → WP Γ (1, 22, 0, 0) MX9_semicolon (rW σ (fun I' => fr_j I I' m 23 24 ∧ mlAt I' m f n (ldC (smI' f l.2.2) 1 l))) 27 [some (.ref m)] [.ref m] (wI σ I) := fun q => by
    rw [q]
    refine WP.iconst (pc := 27) (v := 0) dX9_semicolon_27 (by decide) ?_
    refine WP.iconst (pc := 28) (v := 1) dX9_semicolon_28 (by decide) ?_
    refine WP.cVp (pc := 29) (mc2 := 0) (ms2 := 0) (ci := 9) kX9_212 (CX9_check Γ hm h false 1 (by omega)) (by decide) rfl hm.t0 rfl ⟨Nat.le_of_ble_eq_true rfl, Nat.le_of_ble_eq_true rfl⟩ (Nat.le_of_ble_eq_true rfl) (Nat.le_of_ble_eq_true rfl) (Nat.le_of_ble_eq_true rfl) rfl dX9_semicolon_29 (fun v1 I1 ⟨f1, g1⟩ => ?_)
    refine WP.pop (pc := 32) dX9_semicolon_32 rfl ?_
    refine WP.vret (pc := 33) rfl dX9_semicolon_33 ?_
    exact ⟨rfl, I1, rfl, f1, g1⟩
  refine WP.aload_n (pc := 0) dX9_semicolon_0 rfl ?_
  refine WP.aload_n (pc := 1) dX9_semicolon_1 rfl ?_
  refine WP.gIv (pc := 2) (v := nI (tkm l.2.2.1)) uX9 fX9_201 hm.t0 (by simp [up_eq, htk.2.1]) dX9_semicolon_2 ?_
  refine WP.iconst (pc := 5) (v := 1) dX9_semicolon_5 (by decide) ?_
  refine WP.icmp_ne (pc := 6) (tgt := 27) dX9_semicolon_6 (by decide) (fun h1 => ?_) (fun h1 => ?_)
  · exact no (by
      unfold smI'
      rw [decide_eq_false (fun q => h1 (by rw [tk2.2.mpr q]; rfl))]
      rfl)
  · have t3 := tk2.2.mp ((nI_eq (b := 1) (by omega) (by decide)).mp h1)
    have hlen := hok.2.2 (by omega)
    have hle := hok.2.1
    obtain ⟨c, hc, hg, hf⟩ := ht l.2.2.2.1 (by omega)
    refine WP.aload_n (pc := 9) dX9_semicolon_9 rfl ?_
    refine WP.gR (pc := 10) uX9 fX9_38 hm.t0 hm.r0_16 dX9_semicolon_10 ?_
    refine WP.aload_n (pc := 13) dX9_semicolon_13 rfl ?_
    refine WP.gIv (pc := 14) (v := nI l.2.2.2.1) uX9 fX9_192 hm.t0 (by simp [up_eq, htk.1]) dX9_semicolon_14 ?_
    refine WP.ialdv (pc := 17) hm.t10 (by omega) (by decide) (v := (nI c)) (hg) dX9_semicolon_17 ?_
    refine WP.bipush (pc := 18) (v := 59) dX9_semicolon_18 (by decide) ?_
    refine WP.icmp_ne (pc := 20) (tgt := 27) dX9_semicolon_20 (by decide) (fun h2 => ?_) (fun h2 => ?_)
    · exact no (by
        unfold smI'
        rw [decide_eq_false (p := f l.2.2.2.1 = 59) (fun q => h2 ((sx_59 c hc).mpr (by rw [← hf]; exact q))), Bool.and_false])
    · have q : smI' f l.2.2 = true := by
        unfold smI'
        rw [decide_eq_true t3, decide_eq_true (p := f l.2.2.2.1 = 59) (by rw [hf]; exact (sx_59 c hc).mp h2)]
        rfl
      rw [q]
      refine WP.iconst (pc := 23) (v := 1) dX9_semicolon_23 (by decide) ?_
      refine WP.goto (pc := 24) (tgt := 28) dX9_semicolon_24 (by decide) ?_
      refine WP.iconst (pc := 28) (v := 1) dX9_semicolon_28 (by decide) ?_
      refine WP.cVp (pc := 29) (mc2 := 0) (ms2 := 0) (ci := 9) kX9_212 (CX9_check Γ hm h true 1 (by omega)) (by decide) rfl hm.t0 rfl ⟨Nat.le_of_ble_eq_true rfl, Nat.le_of_ble_eq_true rfl⟩ (Nat.le_of_ble_eq_true rfl) (Nat.le_of_ble_eq_true rfl) (Nat.le_of_ble_eq_true rfl) rfl dX9_semicolon_29 (fun v1 I1 ⟨f1, g1⟩ => ?_)
      refine WP.pop (pc := 32) dX9_semicolon_32 rfl ?_
      refine WP.vret (pc := 33) rfl dX9_semicolon_33 ?_
      exact ⟨rfl, I1, rfl, f1, g1⟩
theorem CX9_finish (hm : shM σ m) {I : Nat → Nat → Int32} {l : mLd} (h : mlAt I m f n l) : Ctr Γ (4, 83, 0, 0) MX9_finish [.ref m] (wI σ I) (rW σ (fun I' => frK I I' m ∧ mlAt I' m f n (ldSemi f n l))) := by
  refine Ctr.go rfl (by decide) rfl rfl ?_
  refine WP.aload_n (pc := 0) dX9_finish_0 rfl ?_
  refine WP.cVw (pc := 1) (mc2 := 0) (ms2 := 0) (ci := 9) kX9_218 (CX9_semicolon Γ hm h) (by decide) rfl hm.t0 rfl ⟨Nat.le_of_ble_eq_true rfl, Nat.le_of_ble_eq_true rfl⟩ (Nat.le_of_ble_eq_true rfl) (Nat.le_of_ble_eq_true rfl) (Nat.le_of_ble_eq_true rfl) rfl dX9_finish_1 (fun I1 ⟨f1, g1⟩ => ?_)
  refine WP.aload_n (pc := 4) dX9_finish_4 rfl ?_
  refine WP.cVw (pc := 5) (mc2 := 0) (ms2 := 0) (ci := 9) kX9_215 (CX9_next Γ hm g1) (by decide) rfl hm.t0 rfl ⟨Nat.le_of_ble_eq_true rfl, Nat.le_of_ble_eq_true rfl⟩ (Nat.le_of_ble_eq_true rfl) (Nat.le_of_ble_eq_true rfl) (Nat.le_of_ble_eq_true rfl) rfl dX9_finish_5 (fun I2 ⟨f2, g2⟩ => ?_)
  refine WP.vret (pc := 8) rfl dX9_finish_8 ?_
  refine ⟨rfl, I2, rfl, (frK.ofj f1 (by omega) (by omega)).trans f2, ?_⟩
  rw [semi_eq] at g2
  exact g2
theorem LX9_is (hm : shM σ m) {j : Nat} (hj : j < 34) {I : Nat → Nat → Int32} {l : mLd} (h : mlAt I m f n l) (hw : l.2.2.1 = 1) (hl : cTL j = l.2.2.2.2) : ∀ d i, i + d = cTL j → eqW f l.2.2.2.1 j i = true → WP Γ (5, 106, 0, 0) MX9_is (rV (some (.int (bI (wdI f l.2.2 j)))) (wI σ I)) 23 [some (.ref m), some (.ref (gK Γ j)), some (.int (nI i))] [] (wI σ I) := by
  have hok := h.ok
  have hle := hok.2.1
  obtain ⟨h17, hn, ht, h23, h24, htk, he, h6⟩ := id h
  have h22 : I m 22 = nI (cTL j) := by rw [htk.2.2.2.1, if_pos hw, hl]
  have hwd : wdI f l.2.2 j = eqW f l.2.2.2.1 j (cTL j) := by
    unfold wdI
    rw [decide_eq_true hw, decide_eq_true hl]
    rfl
  intro d
  induction d with
  | zero =>
    intro i hi heq
    refine WP.iload_n (pc := 23) dX9_is_23 rfl ?_
    refine WP.aload_n (pc := 24) dX9_is_24 rfl ?_
    refine WP.gIv (pc := 25) (v := nI (cTL j)) uX9 fX9_195 hm.t0 (by simp [up_eq, h22]) dX9_is_25 ?_
    have e : i = cTL j := by omega
    refine WP.icmp_ge (pc := 28) (tgt := 58) dX9_is_28 (by decide) (fun h1 => ?_) (fun h1 => ?_)
    · refine WP.iconst (pc := 58) (v := 1) dX9_is_58 (by decide) ?_
      refine WP.zret (pc := 59) rfl (by decide) dX9_is_59 ?_
      rw [hwd, ← e, heq]
      exact ⟨rfl, rfl⟩
    · exact absurd (by rw [e]; exact Int32.le_refl _) h1
  | succ d ih =>
    intro i hi heq
    obtain ⟨c, hc, hg, hf⟩ := ht (l.2.2.2.1 + i) (by omega)
    obtain ⟨b, hb, hcb⟩ := cTB_lt j hj i (by omega)
    have hiff := sx_eq hb c hc
    refine WP.iload_n (pc := 23) dX9_is_23 rfl ?_
    refine WP.aload_n (pc := 24) dX9_is_24 rfl ?_
    refine WP.gIv (pc := 25) (v := nI (cTL j)) uX9 fX9_195 hm.t0 (by simp [up_eq, h22]) dX9_is_25 ?_
    refine WP.icmp_ge (pc := 28) (tgt := 58) dX9_is_28 (by decide) (fun h1 => ?_) (fun h1 => ?_)
    · exact absurd h1 (nI_ge (by omega) (by omega))
    · refine WP.aload_n (pc := 31) dX9_is_31 rfl ?_
      refine WP.gR (pc := 32) uX9 fX9_38 hm.t0 hm.r0_16 dX9_is_32 ?_
      refine WP.aload_n (pc := 35) dX9_is_35 rfl ?_
      refine WP.gIv (pc := 36) (v := nI l.2.2.2.1) uX9 fX9_192 hm.t0 (by simp [up_eq, htk.1]) dX9_is_36 ?_
      refine WP.iload_n (pc := 39) dX9_is_39 rfl ?_
      refine WP.iaN (pc := 40) dX9_is_40 ?_
      refine WP.ialdv (pc := 41) hm.t10 (by omega) (by decide) (v := (nI c)) (hg) dX9_is_41 ?_
      refine WP.aload_n (pc := 42) dX9_is_42 rfl ?_
      refine WP.iload_n (pc := 43) dX9_is_43 rfl ?_
      refine WP.cVS (pc := 44) (mc2 := 0) (ms2 := 0) hj kX9_71 (CJ_charAt Γ _ hj (i := i) (by omega)) rfl rfl ⟨Nat.le_of_ble_eq_true rfl, Nat.le_of_ble_eq_true rfl⟩ (Nat.le_of_ble_eq_true rfl) (Nat.le_of_ble_eq_true rfl) (Nat.le_of_ble_eq_true rfl) rfl dX9_is_44 ?_
      rw [hcb]
      refine WP.icmp_eq (pc := 47) (tgt := 52) dX9_is_47 (by decide) (fun h2 => ?_) (fun h2 => ?_)
      · refine WP.iinc (pc := 52) dX9_is_52 rfl (nI_1 _) (by decide) rfl ?_
        refine WP.goto (pc := 55) (tgt := 23) dX9_is_55 (by decide) ?_
        refine ih (i + 1) (by omega) ?_
        unfold eqW
        rw [heq, hcb, hf, hiff.mp h2, decide_eq_true rfl]
        rfl
      · refine WP.iconst (pc := 50) (v := 0) dX9_is_50 (by decide) ?_
        refine WP.zret (pc := 51) rfl (by decide) dX9_is_51 ?_
        rw [hwd, eqW_no (i := i) (fun q => h2 (hiff.mpr (by rw [← hf, ← q]; exact hcb))) _ (by omega)]
        exact ⟨rfl, rfl⟩
theorem CX9_is (hm : shM σ m) {j : Nat} (hj : j < 34) {I : Nat → Nat → Int32} {l : mLd} (h : mlAt I m f n l) : Ctr Γ (5, 106, 0, 0) MX9_is [.ref m, .ref (gK Γ j)] (wI σ I) (rV (some (.int (bI (wdI f l.2.2 j)))) (wI σ I)) := by
  have hok := h.ok
  have hle := hok.2.1
  obtain ⟨h17, hn, ht, h23, h24, htk, he, h6⟩ := id h
  have h3 := hok.1
  have hc := cTL_le j hj
  have tk2 : tkm l.2.2.1 ≤ 3 ∧ (tkm l.2.2.1 = 3 ↔ l.2.2.1 = 1) := by
    unfold tkm
    split
    · omega
    · split <;> omega
  refine Ctr.go rfl (by decide) rfl rfl ?_
  refine WP.aload_n (pc := 0) dX9_is_0 rfl ?_
  refine WP.gIv (pc := 1) (v := nI (tkm l.2.2.1)) uX9 fX9_201 hm.t0 (by simp [up_eq, htk.2.1]) dX9_is_1 ?_
  refine WP.iconst (pc := 4) (v := 3) dX9_is_4 (by decide) ?_
  refine WP.icmp_ne (pc := 5) (tgt := 19) dX9_is_5 (by decide) (fun h1 => ?_) (fun h1 => ?_)
  · refine WP.iconst (pc := 19) (v := 0) dX9_is_19 (by decide) ?_
    refine WP.zret (pc := 20) rfl (by decide) dX9_is_20 ?_
    unfold wdI
    rw [decide_eq_false (fun q => h1 (by rw [tk2.2.mpr q]; rfl))]
    exact ⟨rfl, rfl⟩
  · have t1 := tk2.2.mp ((nI_eq (b := 3) (by omega) (by decide)).mp h1)
    refine WP.aload_n (pc := 8) dX9_is_8 rfl ?_
    refine WP.gIv (pc := 9) (v := nI (if l.2.2.1 = 1 then l.2.2.2.2 else 0)) uX9 fX9_195 hm.t0 (by simp [up_eq, htk.2.2.2.1]) dX9_is_9 ?_
    refine WP.aload_n (pc := 12) dX9_is_12 rfl ?_
    refine WP.cVS (pc := 13) (mc2 := 0) (ms2 := 0) hj kX9_65 (CJ_length Γ _ hj) rfl rfl ⟨Nat.le_of_ble_eq_true rfl, Nat.le_of_ble_eq_true rfl⟩ (Nat.le_of_ble_eq_true rfl) (Nat.le_of_ble_eq_true rfl) (Nat.le_of_ble_eq_true rfl) rfl dX9_is_13 ?_
    rw [if_pos t1]
    refine WP.icmp_eq (pc := 16) (tgt := 21) dX9_is_16 (by decide) (fun h2 => ?_) (fun h2 => ?_)
    · have hl : cTL j = l.2.2.2.2 := ((nI_eq (by omega) (by omega)).mp h2).symm
      refine WP.iconst (pc := 21) (v := 0) dX9_is_21 (by decide) ?_
      refine WP.istore_n (pc := 22) dX9_is_22 (by decide) rfl ?_
      exact LX9_is Γ hm hj h t1 hl (cTL j) 0 (by omega) rfl
    · refine WP.iconst (pc := 19) (v := 0) dX9_is_19 (by decide) ?_
      refine WP.zret (pc := 20) rfl (by decide) dX9_is_20 ?_
      unfold wdI
      rw [decide_eq_false (p := cTL j = l.2.2.2.2) (fun q => h2 (by rw [q])), Bool.and_false]
      exact ⟨rfl, rfl⟩
end T
