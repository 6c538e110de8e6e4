-- behind: 54
section R
variable {Γ : cG} {r : cRm} {M : cM} {Φ : cRes → cAS → Prop} {pc : Nat} {L : List (Option Value)} {st : List Value} {σ : cAS}
theorem WP.ldcSW {index j : Nat} {tx : String} (hq : ((mY M).cls, index, tx, j) ∈ cSTR) (d : decode (mC M) pc = .ok (.ldc_w index, 3)) (k : WP Γ r M Φ (pc + 3) L (.ref (gK Γ j) :: st) σ) : WP Γ r M Φ pc L st σ := by
  intro p e R s m args below meth c H locs cells slots ls hO hS
  have hZ := hO.w.2.2.2.2.2.1 _ hq
  have hb := hO.2.1
  intro T hT X
  obtain ⟨t, a1, b1⟩ := k p e R s m args below meth c H locs cells slots ls hO hS T hT X
  exact ⟨t, X.ldcStringW hO.1 hO.2.2.2.1 (text := tx) (a := gK Γ j) hZ.1 hZ.2 (g := F0 m pc ls st) rfl (by rw [hb]; exact d) t a1, b1⟩
end R
theorem cTC_23 : ∀ j, j < 11 → 1 ≤ j → cTC.getD (j + 23) [] = cTC.getD j [] := by decide +kernel
theorem wdI_23 {f : Nat → Int32} {t : Nat × Nat × Nat} {j : Nat} (h1 : 1 ≤ j) (h2 : j ≤ 10) : wdI f t (j + 23) = wdI f t j := by
  have e := cTC_23 j (by omega) h1
  have eB : ∀ i, cTB (j + 23) i = cTB j i := fun i => by unfold cTB; rw [e]
  have eL : cTL (j + 23) = cTL j := by unfold cTL; rw [e]
  have eW : ∀ m, eqW f t.2.1 (j + 23) m = eqW f t.2.1 j m := fun m => by
    induction m with
    | zero => rfl
    | succ m ih => unfold eqW; rw [ih, eB]
  unfold wdI
  rw [eL, eW]
def nmV (f : Nat → Int32) (s k : Nat) : Int32 := if pkN f s k = -1 then -1 else nI (nmF f s k)
theorem nmV_no {f : Nat → Int32} {s k : Nat} (h : ¬ (1 ≤ k ∧ k ≤ 4 ∧ allL f s k = true)) : nmV f s k = -1 := if_pos (if_neg h)
section T
variable (Γ : cG) {σ : cAS} {m a : Nat} {f : Nat → Int32} {n : Nat}
theorem LX9_nameFrom (hm : shM σ m) {s k : Nat} (hk : 1 ≤ k ∧ k ≤ 4) (hs : s + k ≤ n) (hn : n ≤ 600) {I : Nat → Nat → Int32} (ht : tx f (I (m + 10)) n) : ∀ d i, i + d = 4 → (∀ q, q < i → q < k → isLet (f (s + q)) = true) →
    WP Γ (2, 42, 0, 0) MX9_nameFrom (rV (some (.int (nmV f s k))) (wI σ I)) 16 [some (.ref m), some (.int (nI s)), some (.int (nI k)), some (.int (nI (nmP f s k i))), some (.int (nI i))] [] (wI σ I) := by
  intro d
  induction d with
  | zero =>
    intro i hi hall
    refine WP.iload (pc := 16) dX9_nameFrom_16 rfl ?_
    refine WP.iconst (pc := 18) (v := 4) dX9_nameFrom_18 (by decide) ?_
    refine WP.icmp_ge (pc := 19) (tgt := 79) dX9_nameFrom_19 (by decide) (fun h1 => ?_) (fun h1 => ?_)
    · refine WP.iload_n (pc := 79) dX9_nameFrom_79 rfl ?_
      refine WP.iret (pc := 80) rfl dX9_nameFrom_80 ?_
      have hA : allL f s k = true := by
        have : ∀ q, q ≤ k → allL f s q = true := fun q => by
          induction q with
          | zero => intro _; rfl
          | succ q ih =>
            intro hq
            unfold allL
            rw [ih (by omega), hall q (by omega) (by omega)]
            rfl
        exact this k (Nat.le_refl _)
      have hne : pkN f s k ≠ -1 := by
        unfold pkN
        rw [if_pos ⟨hk.1, hk.2, hA⟩]
        obtain ⟨p1, p2⟩ := pkA_P k hk.2 hA
        rw [p1]
        exact nI_ne_m1 (by
          have h4 : k = 1 ∨ k = 2 ∨ k = 3 ∨ k = 4 := by omega
          obtain ⟨c, -, e2, l1, l2⟩ := allL_get hA (k := k - 1) (by omega)
          rcases h4 with rfl | rfl | rfl | rfl
          · exact Nat.lt_trans p2 (by decide)
          · exact Nat.lt_trans p2 (by decide)
          · exact Nat.lt_trans p2 (by decide)
          · have p3 := (pkA_P 3 (by decide) (by unfold allL at hA; rw [Bool.and_eq_true] at hA; exact hA.1)).2
            show 2 ^ (8 * 3) * lc f s 3 + pkP f s 3 < _
            have e3 : lc f s 3 = c := e2
            rw [e3]
            have e4 : 2 ^ (8 * 3) = 16777216 := by decide
            rw [e4] at p3 ⊢
            omega)
      unfold nmV
      rw [if_neg hne, ← nmP_4, show i = 4 by omega]
      exact ⟨rfl, rfl⟩
    · exact absurd (nI_le (a := 4) (by omega) (by omega)) h1
  | succ d ih =>
    intro i hi hall
    have next : ∀ v, v = nI (nmC f s k i) → (i < k → isLet (f (s + i)) = true) → WP Γ (2, 42, 0, 0) MX9_nameFrom (rV (some (.int (nmV f s k))) (wI σ I)) 71 [some (.ref m), some (.int (nI s)), some (.int (nI k)), some (.int (nI (nmP f s k i))), some (.int (nI i))] [.int v, .int (nI (nmP f s k i * 27))] (wI σ I) := fun v hv hl => by
      rw [hv]
      refine WP.iaN (pc := 71) dX9_nameFrom_71 ?_
      refine WP.istore_n (pc := 72) dX9_nameFrom_72 (by decide) rfl ?_
      refine WP.iinc (pc := 73) dX9_nameFrom_73 rfl (nI_1 _) (by decide) rfl ?_
      refine WP.goto (pc := 76) (tgt := 16) dX9_nameFrom_76 (by decide) ?_
      exact ih (i + 1) (by omega) (fun q q1 q2 => by
        rcases Nat.lt_or_ge q i with z | z
        · exact hall q z q2
        · rw [show q = i by omega] at q2 ⊢
          exact hl q2)
    refine WP.iload (pc := 16) dX9_nameFrom_16 rfl ?_
    refine WP.iconst (pc := 18) (v := 4) dX9_nameFrom_18 (by decide) ?_
    refine WP.icmp_ge (pc := 19) (tgt := 79) dX9_nameFrom_19 (by decide) (fun h1 => ?_) (fun h1 => ?_)
    · exact absurd h1 (nI_ge (b := 4) (by omega) (by omega))
    · refine WP.iload (pc := 22) dX9_nameFrom_22 rfl ?_
      refine WP.iload_n (pc := 24) dX9_nameFrom_24 rfl ?_
      have mul : ∀ (hl : i < k → isLet (f (s + i)) = true), WP Γ (2, 42, 0, 0) MX9_nameFrom (rV (some (.int (nmV f s k))) (wI σ I)) 45 [some (.ref m), some (.int (nI s)), some (.int (nI k)), some (.int (nI (nmP f s k i))), some (.int (nI i))] [] (wI σ I) := fun hl => by
        refine WP.iload_n (pc := 45) dX9_nameFrom_45 rfl ?_
        refine WP.bipush (pc := 46) (v := 27) dX9_nameFrom_46 (by decide) ?_
        refine WP.imN (pc := 48) (b := 27) dX9_nameFrom_48 ?_
        refine WP.iload (pc := 49) dX9_nameFrom_49 rfl ?_
        refine WP.iload_n (pc := 51) dX9_nameFrom_51 rfl ?_
        rcases Nat.lt_or_ge i k with q | q
        · refine WP.icmp_ge (pc := 52) (tgt := 70) dX9_nameFrom_52 (by decide) (fun h3 => ?_) (fun h3 => ?_)
          · exact absurd h3 (nI_ge (by omega) (by omega))
          · obtain ⟨c, hc, hg, hf⟩ := ht (s + i) (by omega)
            obtain ⟨g1, g2, g3⟩ := sx_letE hc (by rw [← hf]; exact hl q)
            have el : lc f s i = c := by unfold lc; rw [hf, g1, nI_clamp (by omega)]
            refine WP.aload_n (pc := 55) dX9_nameFrom_55 rfl ?_
            refine WP.gR (pc := 56) uX9 fX9_38 hm.t0 hm.r0_16 dX9_nameFrom_56 ?_
            refine WP.iload_n (pc := 59) dX9_nameFrom_59 rfl ?_
            refine WP.iload (pc := 60) dX9_nameFrom_60 rfl ?_
            refine WP.iaN (pc := 62) dX9_nameFrom_62 ?_
            refine WP.ialdv (pc := 63) hm.t10 (by omega) (by decide) (v := (nI c)) (hg) dX9_nameFrom_63 ?_
            refine WP.bipush (pc := 64) (v := 96) dX9_nameFrom_64 (by decide) ?_
            refine WP.isub (pc := 66) dX9_nameFrom_66 ?_
            refine WP.goto (pc := 67) (tgt := 71) dX9_nameFrom_67 (by decide) ?_
            refine next _ ?_ (fun _ => hl q)
            unfold nmC
            rw [if_pos q, el, show (96 : Int32) = nI 96 from rfl, pk_sub (by omega)]
        · refine WP.icmp_ge (pc := 52) (tgt := 70) dX9_nameFrom_52 (by decide) (fun h3 => ?_) (fun h3 => ?_)
          · refine WP.iconst (pc := 70) (v := 0) dX9_nameFrom_70 (by decide) ?_
            refine next _ ?_ (fun z => absurd z (by omega))
            unfold nmC
            rw [if_neg (by omega)]
            rfl
          · exact absurd (nI_le q (by omega)) h3
      refine WP.icmp_ge (pc := 25) (tgt := 45) dX9_nameFrom_25 (by decide) (fun h2 => ?_) (fun h2 => ?_)
      · exact mul (fun q => absurd h2 (nI_ge q (by omega)))
      · have hik : i < k := Nat.not_le.mp fun q => h2 (nI_le q (by omega))
        obtain ⟨c, hc, hg, hf⟩ := ht (s + i) (by omega)
        refine WP.aload_n (pc := 28) dX9_nameFrom_28 rfl ?_
        refine WP.gR (pc := 29) uX9 fX9_38 hm.t0 hm.r0_16 dX9_nameFrom_29 ?_
        refine WP.iload_n (pc := 32) dX9_nameFrom_32 rfl ?_
        refine WP.iload (pc := 33) dX9_nameFrom_33 rfl ?_
        refine WP.iaN (pc := 35) dX9_nameFrom_35 ?_
        refine WP.ialdv (pc := 36) hm.t10 (by omega) (by decide) (v := (nI c)) (hg) dX9_nameFrom_36 ?_
        refine WP.cS1 (pc := 37) (mc2 := 0) (ms2 := 0) kX9_204 (CX9_isLetter Γ (nI c)) rfl ⟨Nat.le_of_ble_eq_true rfl, Nat.le_of_ble_eq_true rfl⟩ (Nat.le_of_ble_eq_true rfl) (Nat.le_of_ble_eq_true rfl) (Nat.le_of_ble_eq_true rfl) rfl dX9_nameFrom_37 ?_
        rw [sx_let c hc, ← hf]
        refine WP.if_ne (pc := 40) (tgt := 45) dX9_nameFrom_40 (by decide) (fun h3 => ?_) (fun h3 => ?_)
        · exact mul (fun _ => Classical.byContradiction fun z => h3 (by rw [Bool.not_eq_true] at z; rw [z]; rfl))
        · have hp : ¬ isLet (f (s + i)) = true := fun z => by rw [z] at h3; exact absurd h3 (by decide)
          refine WP.iconst (pc := 43) (v := (-1)) dX9_nameFrom_43 (by decide) ?_
          refine WP.iret (pc := 44) rfl dX9_nameFrom_44 ?_
          rw [nmV_no (fun z => allL_no hp hik z.2.2)]
          exact ⟨rfl, rfl⟩
theorem CX9_nameFrom (hm : shM σ m) {s k : Nat} (hs : s + k ≤ n) (hn : n ≤ 600) {I : Nat → Nat → Int32} (ht : tx f (I (m + 10)) n) : Ctr Γ (2, 42, 0, 0) MX9_nameFrom [.ref m, .int (nI s), .int (nI k)] (wI σ I) (rV (some (.int (nmV f s k))) (wI σ I)) := by
  refine Ctr.go rfl (by decide) rfl rfl ?_
  refine WP.iload_n (pc := 0) dX9_nameFrom_0 rfl ?_
  refine WP.iconst (pc := 1) (v := 1) dX9_nameFrom_1 (by decide) ?_
  refine WP.iconst (pc := 2) (v := 4) dX9_nameFrom_2 (by decide) ?_
  refine WP.cS1 (pc := 3) (mc2 := 0) (ms2 := 0) kX9_183 (CX9_isBetween Γ (nI k) 1 4) rfl ⟨Nat.le_of_ble_eq_true rfl, Nat.le_of_ble_eq_true rfl⟩ (Nat.le_of_ble_eq_true rfl) (Nat.le_of_ble_eq_true rfl) (Nat.le_of_ble_eq_true rfl) rfl dX9_nameFrom_3 ?_
  by_cases hk : 1 ≤ k ∧ k ≤ 4
  · rw [decide_eq_true (show (1 : Int32) ≤ nI k from nI_le (a := 1) hk.1 (by omega)), decide_eq_true (show nI k ≤ (4 : Int32) from nI_le (b := 4) hk.2 (by omega))]
    refine WP.if_ne (pc := 6) (tgt := 11) dX9_nameFrom_6 (by decide) (fun h1 => ?_) (fun h1 => ?_)
    · refine WP.iconst (pc := 11) (v := 0) dX9_nameFrom_11 (by decide) ?_
      refine WP.istore_n (pc := 12) dX9_nameFrom_12 (by decide) rfl ?_
      refine WP.iconst (pc := 13) (v := 0) dX9_nameFrom_13 (by decide) ?_
      refine WP.istore (pc := 14) dX9_nameFrom_14 (by decide) rfl ?_
      exact LX9_nameFrom Γ hm hk hs hn ht 4 0 (by omega) (fun q q1 _ => absurd q1 (Nat.not_lt_zero _))
    · exact absurd h1 (by decide)
  · have e0 : (decide ((1 : Int32) ≤ nI k) && decide (nI k ≤ (4 : Int32))) = false := by
      rw [Bool.and_eq_false_iff, decide_eq_false_iff_not, decide_eq_false_iff_not]
      have h1 := nI_leI (a := 1) (b := k) (by omega) (by omega)
      have h2 := nI_leI (a := k) (b := 4) (by omega) (by omega)
      exact Classical.not_and_iff_not_or_not.mp fun z => hk ⟨h1.mp z.1, h2.mp z.2⟩
    rw [e0]
    refine WP.if_ne (pc := 6) (tgt := 11) dX9_nameFrom_6 (by decide) (fun h1 => ?_) (fun h1 => ?_)
    · exact absurd rfl h1
    · refine WP.iconst (pc := 9) (v := (-1)) dX9_nameFrom_9 (by decide) ?_
      refine WP.iret (pc := 10) rfl dX9_nameFrom_10 ?_
      rw [nmV_no (fun z => hk ⟨z.1, z.2.1⟩)]
      exact ⟨rfl, rfl⟩
theorem LX9_bakerNamed (hg : aT σ a = (11, 380)) {I : Nat → Nat → Int32} {l : List mBk} (h : gBs (I a) l) {v w : Int32} (hv : ∀ e ∈ l, (nI e.1 = v ↔ nmA e.1 = w)) : ∀ d i, i + d = l.length → bkIx l w = fndI (fun i => match l[i]? with | some e => nmA e.1 | none => 0) w d i →
    WP Γ (1, 20, 0, 0) MX9_bakerNamed (rV (some (.int (bkIx l w))) (wI σ I)) 2 [some (.ref a), some (.int v), some (.int (nI i))] [] (wI σ I) := by
  have hl := h.2.1
  intro d
  induction d with
  | zero =>
    intro i hi hb
    refine WP.iload_n (pc := 2) dX9_bakerNamed_2 rfl ?_
    refine WP.aload_n (pc := 3) dX9_bakerNamed_3 rfl ?_
    refine WP.iconst (pc := 4) (v := 1) dX9_bakerNamed_4 (by decide) ?_
    refine WP.ialdv (pc := 5) (k := 1) hg (by decide) (by omega) (v := (nI l.length)) (h.1) dX9_bakerNamed_5 ?_
    refine WP.icmp_ge (pc := 6) (tgt := 29) dX9_bakerNamed_6 (by decide) (fun h1 => ?_) (fun h1 => ?_)
    · refine WP.iconst (pc := 29) (v := (-1)) dX9_bakerNamed_29 (by decide) ?_
      refine WP.iret (pc := 30) rfl dX9_bakerNamed_30 ?_
      rw [hb]
      exact ⟨rfl, rfl⟩
    · exact absurd (by rw [show i = l.length by omega]; exact Int32.le_refl _) h1
  | succ d ih =>
    intro i hi hb
    obtain ⟨e, he⟩ : ∃ e, l[i]? = some e := ⟨l[i]'(by omega), List.getElem?_eq_getElem (by omega)⟩
    obtain ⟨c1, c2, c3, c4, c5, c6⟩ := h.2.2.1 i e he
    have hq := hv e (List.mem_of_getElem? he)
    unfold fndI at hb
    rw [he] at hb
    dsimp only at hb
    refine WP.iload_n (pc := 2) dX9_bakerNamed_2 rfl ?_
    refine WP.aload_n (pc := 3) dX9_bakerNamed_3 rfl ?_
    refine WP.iconst (pc := 4) (v := 1) dX9_bakerNamed_4 (by decide) ?_
    refine WP.ialdv (pc := 5) (k := 1) hg (by decide) (by omega) (v := (nI l.length)) (h.1) dX9_bakerNamed_5 ?_
    refine WP.icmp_ge (pc := 6) (tgt := 29) dX9_bakerNamed_6 (by decide) (fun h1 => ?_) (fun h1 => ?_)
    · exact absurd h1 (nI_ge (by omega) (by omega))
    · refine WP.aload_n (pc := 9) dX9_bakerNamed_9 rfl ?_
      refine WP.iload_n (pc := 10) dX9_bakerNamed_10 rfl ?_
      refine WP.cS1 (pc := 11) (mc2 := 0) (ms2 := 0) kX9_100 (CX9_ofBaker Γ i) rfl ⟨Nat.le_of_ble_eq_true rfl, Nat.le_of_ble_eq_true rfl⟩ (Nat.le_of_ble_eq_true rfl) (Nat.le_of_ble_eq_true rfl) (Nat.le_of_ble_eq_true rfl) rfl dX9_bakerNamed_11 ?_
      refine WP.iconst (pc := 14) (v := 0) dX9_bakerNamed_14 (by decide) ?_
      refine WP.ia0 (pc := 15) dX9_bakerNamed_15 ?_
      refine WP.ialdv (pc := 16) hg (by omega) (by omega) (v := (nI e.1)) (c1) dX9_bakerNamed_16 ?_
      refine WP.iload_n (pc := 17) dX9_bakerNamed_17 rfl ?_
      refine WP.icmp_ne (pc := 18) (tgt := 23) dX9_bakerNamed_18 (by decide) (fun h2 => ?_) (fun h2 => ?_)
      · refine WP.iinc (pc := 23) dX9_bakerNamed_23 rfl (nI_1 _) (by decide) rfl ?_
        refine WP.goto (pc := 26) (tgt := 2) dX9_bakerNamed_26 (by decide) ?_
        rw [if_neg (fun z => h2 (hq.mpr z))] at hb
        exact ih (i + 1) (by omega) hb
      · refine WP.iload_n (pc := 21) dX9_bakerNamed_21 rfl ?_
        refine WP.iret (pc := 22) rfl dX9_bakerNamed_22 ?_
        rw [if_pos (hq.mp h2)] at hb
        rw [hb]
        exact ⟨rfl, rfl⟩
theorem CX9_bakerNamed (hg : aT σ a = (11, 380)) {I : Nat → Nat → Int32} {l : List mBk} (h : gBs (I a) l) {v w : Int32} (hv : ∀ e ∈ l, (nI e.1 = v ↔ nmA e.1 = w)) : Ctr Γ (1, 20, 0, 0) MX9_bakerNamed [.ref a, .int v] (wI σ I) (rV (some (.int (bkIx l w))) (wI σ I)) := by
  refine Ctr.go rfl (by decide) rfl rfl ?_
  refine WP.iconst (pc := 0) (v := 0) dX9_bakerNamed_0 (by decide) ?_
  refine WP.istore_n (pc := 1) dX9_bakerNamed_1 (by decide) rfl ?_
  exact LX9_bakerNamed Γ hg h hv l.length 0 (by omega) rfl
theorem fndI_no {g : Nat → Int32} {v : Int32} : ∀ n i, i + n < 2147483648 → (fndI g v n i = -1 ↔ ∀ k, k < n → ¬ g (i + k) = v)
  | 0, i, _ => by
    constructor
    · intro _ k hk
      exact absurd hk (Nat.not_lt_zero _)
    · intro _
      rfl
  | n + 1, i, hn => by
    unfold fndI
    by_cases q : g i = v
    · rw [if_pos q]
      constructor
      · intro z
        exact absurd z (nI_ne_m1 (by omega))
      · intro z
        exact absurd q (z 0 (by omega))
    · rw [if_neg q, fndI_no n (i + 1) (by omega)]
      constructor
      · intro z k hk
        rcases Nat.eq_zero_or_pos k with rfl | p
        · exact q
        · have := z (k - 1) (by omega)
          rwa [show i + 1 + (k - 1) = i + k by omega] at this
      · intro z k hk
        have := z (k + 1) (by omega)
        rwa [show i + (k + 1) = i + 1 + k by omega] at this
theorem bkIx_any {l : List mBk} {w : Int32} (hl : l.length ≤ 4) : bkIx l w = -1 ↔ l.any (fun e => decide (nmA e.1 = w)) = false := by
  unfold bkIx
  rw [fndI_no _ _ (by omega), List.any_eq_false]
  constructor
  · intro h e he
    obtain ⟨k, hk⟩ := List.getElem?_of_mem he
    have := h k (gE_lt hk)
    rw [Nat.zero_add, hk] at this
    simpa using this
  · intro h k hk
    rw [Nat.zero_add, List.getElem?_eq_getElem hk]
    have := h _ (List.getElem_mem hk)
    simpa using this
theorem LX9_isTaken (hg : aT σ a = (11, 380)) {I : Nat → Nat → Int32} {l : List mCu} (h : gCs (I a) l) {v w : Int32} (hv : ∀ e ∈ l, (nI e.1 = v ↔ nmA e.1 = w)) {b0 : Bool} : ∀ d i, i + d = l.length →
    WP Γ (2, 42, 0, 0) MX9_isTaken (rV (some (.int (bI (b0 || l.any (fun e => decide (nmA e.1 = w)))))) (wI σ I)) 17 [some (.ref a), some (.int v), some (.int (bI (b0 || (l.take i).any (fun e => decide (nmA e.1 = w))))), some (.int (nI i))] [] (wI σ I) := by
  have hl := h.2.1
  intro d
  induction d with
  | zero =>
    intro i hi
    refine WP.iload_n (pc := 17) dX9_isTaken_17 rfl ?_
    refine WP.aload_n (pc := 18) dX9_isTaken_18 rfl ?_
    refine WP.iconst (pc := 19) (v := 2) dX9_isTaken_19 (by decide) ?_
    refine WP.ialdv (pc := 20) (k := 2) hg (by decide) (by omega) (v := (nI l.length)) (h.1) dX9_isTaken_20 ?_
    refine WP.icmp_ge (pc := 21) (tgt := 52) dX9_isTaken_21 (by decide) (fun h1 => ?_) (fun h1 => ?_)
    · refine WP.iload_n (pc := 52) dX9_isTaken_52 rfl ?_
      refine WP.zret (pc := 53) rfl (by unfold bI; split <;> rfl) dX9_isTaken_53 ?_
      rw [List.take_of_length_le (by omega)]
      exact ⟨rfl, rfl⟩
    · exact absurd (by rw [show i = l.length by omega]; exact Int32.le_refl _) h1
  | succ d ih =>
    intro i hi
    obtain ⟨e, he⟩ : ∃ e, l[i]? = some e := ⟨l[i]'(by omega), List.getElem?_eq_getElem (by omega)⟩
    obtain ⟨c1, c2, c3, c4, c5, c6, c7⟩ := h.2.2 i e he
    have hq := hv e (List.mem_of_getElem? he)
    have hs : (l.take (i + 1)).any (fun e => decide (nmA e.1 = w)) = ((l.take i).any (fun e => decide (nmA e.1 = w)) || decide (nmA e.1 = w)) := by
      rw [tk_app he, List.any_append]
      simp
    refine WP.iload_n (pc := 17) dX9_isTaken_17 rfl ?_
    refine WP.aload_n (pc := 18) dX9_isTaken_18 rfl ?_
    refine WP.iconst (pc := 19) (v := 2) dX9_isTaken_19 (by decide) ?_
    refine WP.ialdv (pc := 20) (k := 2) hg (by decide) (by omega) (v := (nI l.length)) (h.1) dX9_isTaken_20 ?_
    refine WP.icmp_ge (pc := 21) (tgt := 52) dX9_isTaken_21 (by decide) (fun h1 => ?_) (fun h1 => ?_)
    · exact absurd h1 (nI_ge (by omega) (by omega))
    · refine WP.iload_n (pc := 24) dX9_isTaken_24 rfl ?_
      generalize hB : (b0 || (l.take i).any (fun e => decide (nmA e.1 = w))) = B
      have hs2 : (b0 || (l.take (i + 1)).any (fun e => decide (nmA e.1 = w))) = (B || decide (nmA e.1 = w)) := by rw [hs, ← Bool.or_assoc, hB]
      refine WP.if_ne (pc := 25) (tgt := 40) dX9_isTaken_25 (by decide) (fun h2 => ?_) (fun h2 => ?_)
      · have hb : B = true := by
          cases B
          · exact absurd rfl h2
          · rfl
        refine WP.iconst (pc := 40) (v := 1) dX9_isTaken_40 (by decide) ?_
        refine WP.goto (pc := 41) (tgt := 45) dX9_isTaken_41 (by decide) ?_
        refine WP.istore_n (pc := 45) dX9_isTaken_45 (by decide) rfl ?_
        refine WP.iinc (pc := 46) dX9_isTaken_46 rfl (nI_1 _) (by decide) rfl ?_
        refine WP.goto (pc := 49) (tgt := 17) dX9_isTaken_49 (by decide) ?_
        have := ih (i + 1) (by omega)
        rw [hs2, hb] at this
        exact this
      · have hb : B = false := by
          cases B
          · rfl
          · exact absurd h2 (by decide)
        refine WP.aload_n (pc := 28) dX9_isTaken_28 rfl ?_
        refine WP.iload_n (pc := 29) dX9_isTaken_29 rfl ?_
        refine WP.cS1 (pc := 30) (mc2 := 0) (ms2 := 0) kX9_111 (CX9_ofCustomer Γ i) rfl ⟨Nat.le_of_ble_eq_true rfl, Nat.le_of_ble_eq_true rfl⟩ (Nat.le_of_ble_eq_true rfl) (Nat.le_of_ble_eq_true rfl) (Nat.le_of_ble_eq_true rfl) rfl dX9_isTaken_30 ?_
        refine WP.iconst (pc := 33) (v := 0) dX9_isTaken_33 (by decide) ?_
        refine WP.ia0 (pc := 34) dX9_isTaken_34 ?_
        refine WP.ialdv (pc := 35) hg (by omega) (by omega) (v := (nI e.1)) (c1) dX9_isTaken_35 ?_
        refine WP.iload_n (pc := 36) dX9_isTaken_36 rfl ?_
        refine WP.icmp_ne (pc := 37) (tgt := 44) dX9_isTaken_37 (by decide) (fun h3 => ?_) (fun h3 => ?_)
        · refine WP.iconst (pc := 44) (v := 0) dX9_isTaken_44 (by decide) ?_
          refine WP.istore_n (pc := 45) dX9_isTaken_45 (by decide) rfl ?_
          refine WP.iinc (pc := 46) dX9_isTaken_46 rfl (nI_1 _) (by decide) rfl ?_
          refine WP.goto (pc := 49) (tgt := 17) dX9_isTaken_49 (by decide) ?_
          have := ih (i + 1) (by omega)
          rw [hs2, hb, decide_eq_false (fun z => h3 (hq.mpr z))] at this
          exact this
        · refine WP.iconst (pc := 40) (v := 1) dX9_isTaken_40 (by decide) ?_
          refine WP.goto (pc := 41) (tgt := 45) dX9_isTaken_41 (by decide) ?_
          refine WP.istore_n (pc := 45) dX9_isTaken_45 (by decide) rfl ?_
          refine WP.iinc (pc := 46) dX9_isTaken_46 rfl (nI_1 _) (by decide) rfl ?_
          refine WP.goto (pc := 49) (tgt := 17) dX9_isTaken_49 (by decide) ?_
          have := ih (i + 1) (by omega)
          rw [hs2, hb, decide_eq_true (hq.mp h3)] at this
          exact this
theorem CX9_isTaken (hg : aT σ a = (11, 380)) {I : Nat → Nat → Int32} {s : mS} (h : gAt (I a) s) {v w : Int32} (hv1 : ∀ e ∈ s.2.1, (nI e.1 = v ↔ nmA e.1 = w)) (hv2 : ∀ e ∈ s.2.2.2.1, (nI e.1 = v ↔ nmA e.1 = w)) : Ctr Γ (2, 42, 0, 0) MX9_isTaken [.ref a, .int v] (wI σ I) (rV (some (.int (bI (hasN s w)))) (wI σ I)) := by
  have hb := bkIx_any (w := w) h.2.1.2.1
  refine Ctr.go rfl (by decide) rfl rfl ?_
  refine WP.aload_n (pc := 0) dX9_isTaken_0 rfl ?_
  refine WP.iload_n (pc := 1) dX9_isTaken_1 rfl ?_
  refine WP.cS1 (pc := 2) (mc2 := 0) (ms2 := 0) kX9_221 (CX9_bakerNamed Γ hg h.2.1 hv1) rfl ⟨Nat.le_of_ble_eq_true rfl, Nat.le_of_ble_eq_true rfl⟩ (Nat.le_of_ble_eq_true rfl) (Nat.le_of_ble_eq_true rfl) (Nat.le_of_ble_eq_true rfl) rfl dX9_isTaken_2 ?_
  refine WP.iconst (pc := 5) (v := (-1)) dX9_isTaken_5 (by decide) ?_
  refine WP.icmp_eq (pc := 6) (tgt := 13) dX9_isTaken_6 (by decide) (fun h1 => ?_) (fun h1 => ?_)
  · refine WP.iconst (pc := 13) (v := 0) dX9_isTaken_13 (by decide) ?_
    refine WP.istore_n (pc := 14) dX9_isTaken_14 (by decide) rfl ?_
    refine WP.iconst (pc := 15) (v := 0) dX9_isTaken_15 (by decide) ?_
    refine WP.istore_n (pc := 16) dX9_isTaken_16 (by decide) rfl ?_
    have := LX9_isTaken Γ hg h.2.2.2.1 hv2 (b0 := false) s.2.2.2.1.length 0 (by omega)
    unfold hasN
    rw [hb.mp h1]
    exact this
  · refine WP.iconst (pc := 9) (v := 1) dX9_isTaken_9 (by decide) ?_
    refine WP.goto (pc := 10) (tgt := 14) dX9_isTaken_10 (by decide) ?_
    refine WP.istore_n (pc := 14) dX9_isTaken_14 (by decide) rfl ?_
    refine WP.iconst (pc := 15) (v := 0) dX9_isTaken_15 (by decide) ?_
    refine WP.istore_n (pc := 16) dX9_isTaken_16 (by decide) rfl ?_
    have := LX9_isTaken Γ hg h.2.2.2.1 hv2 (b0 := true) s.2.2.2.1.length 0 (by omega)
    unfold hasN
    have hn : s.2.1.any (fun e => decide (nmA e.1 = w)) = true := Classical.byContradiction fun z => h1 (hb.mpr (by simpa using z))
    rw [hn]
    exact this
theorem CX9_kind (hm : shM σ m) {I : Nat → Nat → Int32} {l : mLd} (h : mlAt I m f n l) : Ctr Γ (6, 128, 0, 0) MX9_kind [.ref m] (wI σ I) (rP σ (fun v I' => v = ldKindV f l ∧ frK I I' m ∧ mlAt I' m f n (ldKind f n l).2)) := by
  have fin : ∀ v, v = ldKindV f l → WP Γ (6, 128, 0, 0) MX9_kind (rP σ (fun v I' => v = ldKindV f l ∧ frK I I' m ∧ mlAt I' m f n (ldKind f n l).2)) 40 [some (.ref m), none] [.int v] (wI σ I) := fun v hv => by
    refine WP.istore_n (pc := 40) dX9_kind_40 (by decide) rfl ?_
    have last : ∀ I1, fr_j I I1 m 23 24 → mlAt I1 m f n (ldC (decide (ldKindV f l ≠ -1)) 1 l) → WP Γ (6, 128, 0, 0) MX9_kind (rP σ (fun v I' => v = ldKindV f l ∧ frK I I' m ∧ mlAt I' m f n (ldKind f n l).2)) 57 [some (.ref m), some (.int v)] [] (wI σ I1) := fun I1 f1 g1 => by
      refine WP.aload_n (pc := 57) dX9_kind_57 rfl ?_
      refine WP.cVw (pc := 58) (mc2 := 0) (ms2 := 0) (ci := 9) kX9_215 (CX9_next Γ hm g1) (by decide) rfl hm.t0 rfl ⟨Nat.le_of_ble_eq_true rfl, Nat.le_of_ble_eq_true rfl⟩ (Nat.le_of_ble_eq_true rfl) (Nat.le_of_ble_eq_true rfl) (Nat.le_of_ble_eq_true rfl) rfl dX9_kind_58 (fun I2 ⟨f2, g2⟩ => ?_)
      refine WP.iload_n (pc := 61) dX9_kind_61 rfl ?_
      refine WP.iret (pc := 62) rfl dX9_kind_62 ?_
      rw [kind_eq] at g2
      exact ⟨_, I2, rfl, rfl, hv, (frK.ofj f1 (by omega) (by omega)).trans f2, g2⟩
    refine WP.aload_n (pc := 41) dX9_kind_41 rfl ?_
    refine WP.iload_n (pc := 42) dX9_kind_42 rfl ?_
    refine WP.iconst (pc := 43) (v := (-1)) dX9_kind_43 (by decide) ?_
    refine WP.icmp_eq (pc := 44) (tgt := 51) dX9_kind_44 (by decide) (fun h1 => ?_) (fun h1 => ?_)
    · refine WP.iconst (pc := 51) (v := 0) dX9_kind_51 (by decide) ?_
      refine WP.iconst (pc := 52) (v := 1) dX9_kind_52 (by decide) ?_
      have e1 : decide (ldKindV f l ≠ -1) = false := decide_eq_false fun z => z (hv ▸ h1)
      rw [e1] at last
      refine WP.cVp (pc := 53) (mc2 := 0) (ms2 := 0) (ci := 9) kX9_212 (CX9_check Γ hm h false 1 (by omega)) (by decide) rfl hm.t0 rfl ⟨Nat.le_of_ble_eq_true rfl, Nat.le_of_ble_eq_true rfl⟩ (Nat.le_of_ble_eq_true rfl) (Nat.le_of_ble_eq_true rfl) (Nat.le_of_ble_eq_true rfl) rfl dX9_kind_53 (fun v1 I1 ⟨f1, g1⟩ => ?_)
      refine WP.pop (pc := 56) dX9_kind_56 rfl ?_
      exact last I1 f1 g1
    · refine WP.iconst (pc := 47) (v := 1) dX9_kind_47 (by decide) ?_
      refine WP.goto (pc := 48) (tgt := 52) dX9_kind_48 (by decide) ?_
      refine WP.iconst (pc := 52) (v := 1) dX9_kind_52 (by decide) ?_
      have e1 : decide (ldKindV f l ≠ -1) = true := decide_eq_true fun z => h1 (hv.trans z)
      rw [e1] at last
      refine WP.cVp (pc := 53) (mc2 := 0) (ms2 := 0) (ci := 9) kX9_212 (CX9_check Γ hm h true 1 (by omega)) (by decide) rfl hm.t0 rfl ⟨Nat.le_of_ble_eq_true rfl, Nat.le_of_ble_eq_true rfl⟩ (Nat.le_of_ble_eq_true rfl) (Nat.le_of_ble_eq_true rfl) (Nat.le_of_ble_eq_true rfl) rfl dX9_kind_53 (fun v1 I1 ⟨f1, g1⟩ => ?_)
      refine WP.pop (pc := 56) dX9_kind_56 rfl ?_
      exact last I1 f1 g1
  refine Ctr.go rfl (by decide) rfl rfl ?_
  refine WP.aload_n (pc := 0) dX9_kind_0 rfl ?_
  refine WP.ldcS (pc := 1) (j := 27) (tx := "rye") (by decide) dX9_kind_1 ?_
  refine WP.cV1 (pc := 3) (mc2 := 0) (ms2 := 0) (ci := 9) kX9_234 (CX9_is Γ hm (j := 4 + 23) (by decide) h) (by decide) rfl hm.t0 rfl ⟨Nat.le_of_ble_eq_true rfl, Nat.le_of_ble_eq_true rfl⟩ (Nat.le_of_ble_eq_true rfl) (Nat.le_of_ble_eq_true rfl) (Nat.le_of_ble_eq_true rfl) rfl dX9_kind_3 ?_
  rw [wdI_23 (by decide) (by decide)]
  have h4 : ldKindV f l = if wdI f l.2.2 4 = true then 0 else if wdI f l.2.2 5 = true then 1 else if wdI f l.2.2 6 = true then 2 else -1 := rfl
  refine WP.if_eq (pc := 6) (tgt := 13) dX9_kind_6 (by decide) (fun h1 => ?_) (fun h1 => ?_)
  · have n4 : ¬ wdI f l.2.2 4 = true := fun z => by rw [z] at h1; exact absurd h1 (by decide)
    rw [if_neg n4] at h4
    refine WP.aload_n (pc := 13) dX9_kind_13 rfl ?_
    refine WP.ldcS (pc := 14) (j := 28) (tx := "wheat") (by decide) dX9_kind_14 ?_
    refine WP.cV1 (pc := 16) (mc2 := 0) (ms2 := 0) (ci := 9) kX9_234 (CX9_is Γ hm (j := 5 + 23) (by decide) h) (by decide) rfl hm.t0 rfl ⟨Nat.le_of_ble_eq_true rfl, Nat.le_of_ble_eq_true rfl⟩ (Nat.le_of_ble_eq_true rfl) (Nat.le_of_ble_eq_true rfl) (Nat.le_of_ble_eq_true rfl) rfl dX9_kind_16 ?_
    rw [wdI_23 (by decide) (by decide)]
    refine WP.if_eq (pc := 19) (tgt := 26) dX9_kind_19 (by decide) (fun h2 => ?_) (fun h2 => ?_)
    · have n5 : ¬ wdI f l.2.2 5 = true := fun z => by rw [z] at h2; exact absurd h2 (by decide)
      rw [if_neg n5] at h4
      refine WP.aload_n (pc := 26) dX9_kind_26 rfl ?_
      refine WP.ldcS (pc := 27) (j := 29) (tx := "roll") (by decide) dX9_kind_27 ?_
      refine WP.cV1 (pc := 29) (mc2 := 0) (ms2 := 0) (ci := 9) kX9_234 (CX9_is Γ hm (j := 6 + 23) (by decide) h) (by decide) rfl hm.t0 rfl ⟨Nat.le_of_ble_eq_true rfl, Nat.le_of_ble_eq_true rfl⟩ (Nat.le_of_ble_eq_true rfl) (Nat.le_of_ble_eq_true rfl) (Nat.le_of_ble_eq_true rfl) rfl dX9_kind_29 ?_
      rw [wdI_23 (by decide) (by decide)]
      refine WP.if_eq (pc := 32) (tgt := 39) dX9_kind_32 (by decide) (fun h3 => ?_) (fun h3 => ?_)
      · have n6 : ¬ wdI f l.2.2 6 = true := fun z => by rw [z] at h3; exact absurd h3 (by decide)
        rw [if_neg n6] at h4
        refine WP.iconst (pc := 39) (v := (-1)) dX9_kind_39 (by decide) ?_
        exact fin _ h4.symm
      · have n6 : wdI f l.2.2 6 = true := Classical.byContradiction fun z => h3 (by rw [Bool.not_eq_true] at z; rw [z]; rfl)
        rw [if_pos n6] at h4
        refine WP.iconst (pc := 35) (v := 2) dX9_kind_35 (by decide) ?_
        refine WP.goto (pc := 36) (tgt := 40) dX9_kind_36 (by decide) ?_
        exact fin _ h4.symm
    · have n5 : wdI f l.2.2 5 = true := Classical.byContradiction fun z => h2 (by rw [Bool.not_eq_true] at z; rw [z]; rfl)
      rw [if_pos n5] at h4
      refine WP.iconst (pc := 22) (v := 1) dX9_kind_22 (by decide) ?_
      refine WP.goto (pc := 23) (tgt := 40) dX9_kind_23 (by decide) ?_
      exact fin _ h4.symm
  · have n4 : wdI f l.2.2 4 = true := Classical.byContradiction fun z => h1 (by rw [Bool.not_eq_true] at z; rw [z]; rfl)
    rw [if_pos n4] at h4
    refine WP.iconst (pc := 9) (v := 0) dX9_kind_9 (by decide) ?_
    refine WP.goto (pc := 10) (tgt := 40) dX9_kind_10 (by decide) ?_
    exact fin _ h4.symm
end T
