-- what is appended
section T
variable (Γ : cG) {σ : cAS} {B0 b v m : Nat} {l : List Nat}
theorem gE_app2 {α : Type} {l r : List α} {e : α} {i : Nat} (h : (l ++ r)[i]? = some e) : (i < l.length ∧ l[i]? = some e) ∨ (l.length ≤ i ∧ r[i - l.length]? = some e) := by
  rcases Nat.lt_or_ge i l.length with q | q
  · rw [List.getElem?_append_left q] at h
    exact Or.inl ⟨q, h⟩
  · rw [List.getElem?_append_right q] at h
    exact Or.inr ⟨q, h⟩
/-- a stretch of the bytes is written -/
def wrS (σ τ : cAS) (v n : Nat) (ds : List Nat) : Prop := aT τ = aT σ ∧ aR τ = aR σ ∧ aL τ = aL σ ∧ aN τ = aN σ ∧ (∀ b, b ≠ v → aI τ b = aI σ b) ∧ ∀ i, aI τ v i = if n ≤ i ∧ i < n + ds.length then nI (ds.getD (i - n) 0) else aI σ v i
theorem sbC.app {τ : cAS} {ds : List Nat} (h : sbC σ B0 b l v m) (hds : ∀ c ∈ ds, c < 128) (hfit : l.length + ds.length ≤ m) (g : wrS σ τ v l.length ds) : sbC (sI τ b 3 (nI (l.length + ds.length))) B0 b (l ++ ds) v m ∧ kpB σ (sI τ b 3 (nI (l.length + ds.length))) B0 := by
  obtain ⟨a1, a2, a3, a4, a5, a6, a7, a8, a9, a10, a11, a12⟩ := h
  obtain ⟨g1, g2, g3, g4, g5, g6⟩ := g
  have hbv : b ≠ v := fun q => by rw [q, a6] at a5; cases a5
  have hv : ∀ i, aI (sI τ b 3 (nI (l.length + ds.length))) v i = if l.length ≤ i ∧ i < l.length + ds.length then nI (ds.getD (i - l.length) 0) else aI σ v i := fun i => by
    rw [aI_sI, if_neg (fun q => hbv q.1.symm), g6]
  refine ⟨⟨a1, a2, by show b < aN τ; rw [g4]; exact a3, by show v < aN τ; rw [g4]; exact a4, by rw [aT_sI, g1]; exact a5, by rw [aT_sI, g1]; exact a6, by rw [aR_sI, g2]; exact a7, by rw [aI_sI, if_neg (by omega), g5 b hbv]; exact a8, by rw [aI_sI, if_pos ⟨rfl, rfl⟩, List.length_append], by rw [List.length_append]; exact hfit, fun i c hc => ?_, fun i hi => ?_⟩, ⟨by show aN σ ≤ aN τ; rw [g4]; exact Nat.le_refl _, fun d hd => ⟨by rw [aT_sI, g1], funext fun j => by rw [aI_sI, if_neg (fun q => by have := q.1; omega), g5 d (by omega)], by rw [aR_sI, g2], by rw [aL_sI, g3]⟩⟩⟩
  · rcases gE_app2 hc with ⟨h1, h2⟩ | ⟨h1, h2⟩
    · obtain ⟨c1, c2⟩ := a11 i c h2
      exact ⟨c1, by rw [hv, if_neg (by omega)]; exact c2⟩
    · have hl := (List.getElem?_eq_some_iff.mp h2).1
      refine ⟨hds c (List.mem_of_getElem? h2), ?_⟩
      rw [hv, if_pos (by omega), List.getD_eq_getElem?_getD, h2]
      rfl
  · rw [hv]
    by_cases e : l.length ≤ i ∧ i < l.length + ds.length
    · rw [if_pos e]
      refine ⟨_, ?_, rfl⟩
      have hl : i - l.length < ds.length := by omega
      rw [List.getD_eq_getElem?_getD, List.getElem?_eq_getElem hl]
      exact hds _ (List.getElem_mem hl)
    · rw [if_neg e]
      exact a12 i hi
/-- the builder with a text behind -/
def sbO (σ : cAS) (B0 b : Nat) (l' : List Nat) (m' : Nat) : Option Value → cAS → Prop := fun w τ => w = some (.ref b) ∧ (∃ v', sbC τ B0 b l' v' m') ∧ kpB σ τ B0
theorem CJ1_canEncode {c : Nat} (hc : c < 128) : Ctr Γ (0, 0, 0, 0) MJ1_canEncode_fc78d [.int (nI c)] σ (rV (some (.int 1)) σ) := by
  refine Ctr.go rfl (by decide) rfl rfl ?_
  refine WP.iload_n (pc := 0) dJ1_canEncode_fc78d_0 rfl ?_
  refine WP.sipush (pc := 1) (v := 255) dJ1_canEncode_fc78d_1 (by decide) ?_
  refine WP.icmp_gt (pc := 4) (tgt := 11) dJ1_canEncode_fc78d_4 (by decide) (fun h => ?_) (fun h => ?_)
  · exact absurd h (by_fact c hc).2.2.1
  · refine WP.iconst (pc := 7) (v := 1) dJ1_canEncode_fc78d_7 (by decide) ?_
    refine WP.goto (pc := 8) (tgt := 12) dJ1_canEncode_fc78d_8 (by decide) ?_
    refine WP.zret (pc := 12) rfl (by decide) dJ1_canEncode_fc78d_12 ?_
    exact ⟨rfl, rfl⟩
theorem CJ5_appendC {c : Nat} (h : sbC σ B0 b l v m) (hc : c < 128) (hm : m ≤ 200) : Ctr Γ (5, 140, 1, 402) MJ5_append_3fe6f [.ref b, .int (nI c)] σ (rS (sbO σ B0 b (l ++ [c]) (gwN (l.length + 1) m))) := by
  obtain ⟨a1, a2, a3, a4, a5, a6, a7, a8, a9, a10, a11, a12⟩ := id h
  refine Ctr.go rfl (by decide) rfl rfl ?_
  refine WP.aload_n (pc := 0) dJ5_append_3fe6f_0 rfl ?_
  refine WP.aload_n (pc := 1) dJ5_append_3fe6f_1 rfl ?_
  refine WP.gIs (pc := 2) uX15 fJ5_79 a5 a9 dJ5_append_3fe6f_2 ?_
  refine WP.iconst (pc := 5) (v := 1) dJ5_append_3fe6f_5 (by decide) ?_
  refine WP.iadd (pc := 6) dJ5_append_3fe6f_6 ?_
  rw [nI_1]
  refine WP.cUs (pc := 7) (mc2 := 0) (ms2 := 0) (ci := 15) kJ5_100 (CJ5_ensure Γ h hm (by omega)) (by decide) rfl a5 rfl ⟨Nat.le_of_ble_eq_true rfl, Nat.le_of_ble_eq_true rfl⟩ (Nat.le_of_ble_eq_true rfl) (Nat.le_of_ble_eq_true rfl) (Nat.le_of_ble_eq_true rfl) rfl dJ5_append_3fe6f_7 (fun w τ ⟨hw, ⟨v', hs⟩, hk⟩ => ?_)
  subst hw
  have hs0 := hs
  obtain ⟨b1, b2, b3, b4, b5, b6, b7, b8, b9, b10, b11, b12⟩ := hs
  have hg : l.length + 1 ≤ gwN (l.length + 1) m := by unfold gwN; split <;> omega
  refine WP.aload_n (pc := 10) dJ5_append_3fe6f_10 rfl ?_
  refine WP.cU1 (pc := 11) (mc2 := 0) (ms2 := 0) (ci := 15) kJ5_83 (CJ5_isLatin1 Γ b5 b8) (by decide) rfl b5 rfl ⟨Nat.le_of_ble_eq_true rfl, Nat.le_of_ble_eq_true rfl⟩ (Nat.le_of_ble_eq_true rfl) (Nat.le_of_ble_eq_true rfl) (Nat.le_of_ble_eq_true rfl) rfl dJ5_append_3fe6f_11 ?_
  refine WP.if_eq (pc := 14) (tgt := 45) dJ5_append_3fe6f_14 (by decide) (fun h => absurd h (by decide)) (fun _ => ?_)
  refine WP.iload_n (pc := 17) dJ5_append_3fe6f_17 rfl ?_
  refine WP.cS1 (pc := 18) (mc2 := 0) (ms2 := 0) kJ5_191 (CJ1_canEncode Γ hc) rfl ⟨Nat.le_of_ble_eq_true rfl, Nat.le_of_ble_eq_true rfl⟩ (Nat.le_of_ble_eq_true rfl) (Nat.le_of_ble_eq_true rfl) (Nat.le_of_ble_eq_true rfl) rfl dJ5_append_3fe6f_18 ?_
  refine WP.if_eq (pc := 21) (tgt := 45) dJ5_append_3fe6f_21 (by decide) (fun h => absurd h (by decide)) (fun _ => ?_)
  refine WP.aload_n (pc := 24) dJ5_append_3fe6f_24 rfl ?_
  refine WP.gRs (pc := 25) uX15 fJ5_15 b5 b7 dJ5_append_3fe6f_25 ?_
  refine WP.aload_n (pc := 28) dJ5_append_3fe6f_28 rfl ?_
  refine WP.dup (pc := 29) dJ5_append_3fe6f_29 rfl ?_
  refine WP.gIs (pc := 30) uX15 fJ5_79 b5 b9 dJ5_append_3fe6f_30 ?_
  refine WP.dup_x1 (pc := 33) dJ5_append_3fe6f_33 rfl rfl ?_
  refine WP.iconst (pc := 34) (v := 1) dJ5_append_3fe6f_34 (by decide) ?_
  refine WP.iadd (pc := 35) dJ5_append_3fe6f_35 ?_
  rw [show nI l.length + 1 = nI (l.length + 1) from nI_1 _]
  refine WP.putI (pc := 36) uX15 fJ5_79 rfl rfl b5 dJ5_append_3fe6f_36 ?_
  refine WP.iload_n (pc := 39) dJ5_append_3fe6f_39 rfl ?_
  refine WP.i2b (pc := 40) dJ5_append_3fe6f_40 ?_
  rw [(by_fact c hc).2.1]
  have hin : vp_in (nI l.length) (gwN (l.length + 1) m) := vp_in_nI (by omega) (by unfold gwN; split <;> omega)
  refine WP.bastore (pc := 41) (show aT _ v' = (12, gwN (l.length + 1) m) from b6) hin dJ5_append_3fe6f_41 ?_
  rw [nI_clamp (by omega), (by_fact c hc).2.1]
  refine WP.goto (pc := 42) (tgt := 75) dJ5_append_3fe6f_42 (by decide) ?_
  refine WP.aload_n (pc := 75) dJ5_append_3fe6f_75 rfl ?_
  refine WP.aret (pc := 76) rfl (Or.inl ⟨_, rfl⟩) dJ5_append_3fe6f_76 ?_
  have hbv : b ≠ v' := fun q => by rw [q, b6] at b5; cases b5
  have e : sI (sI τ b 3 (nI (l.length + 1))) v' l.length (nI c) = sI (sI τ v' l.length (nI c)) b 3 (nI (l.length + 1)) := by
    unfold sI
    congr 2
    funext d i
    dsimp only
    by_cases h1 : d = b ∧ i = 3
    · rw [if_neg (fun q => hbv (h1.1.symm.trans q.1)), if_pos h1, if_pos h1]
    · rw [if_neg h1, if_neg h1]
  rw [e]
  obtain ⟨g1, g2⟩ := hs0.app (τ := sI τ v' l.length (nI c)) (ds := [c]) (fun d hd => by rw [List.mem_singleton.mp hd]; exact hc) hg ⟨rfl, rfl, rfl, rfl, fun d hd => funext fun i => by rw [aI_sI, if_neg (fun q => hd q.1)], fun i => by
    rw [aI_sI]
    by_cases e : i = l.length
    · rw [if_pos ⟨rfl, e⟩, if_pos ⟨by omega, by show i < l.length + 1; omega⟩, e, Nat.sub_self]
      rfl
    · rw [if_neg (fun q => e q.2), if_neg (fun q => by have := q.2; simp only [List.length_cons, List.length_nil] at this; omega)]⟩
  exact ⟨_, rfl, rfl, ⟨v', g1⟩, hk.trans g2⟩
theorem CJ4_appendC {c : Nat} (h : sbC σ B0 b l v m) (hc : c < 128) (hm : m ≤ 200) : Ctr Γ (6, 170, 1, 402) MJ4_append_cf468 [.ref b, .int (nI c)] σ (rS (sbO σ B0 b (l ++ [c]) (gwN (l.length + 1) m))) := by
  refine Ctr.go rfl (by decide) rfl rfl ?_
  refine WP.aload_n (pc := 0) dJ4_append_cf468_0 rfl ?_
  refine WP.iload_n (pc := 1) dJ4_append_cf468_1 rfl ?_
  refine WP.cPs (pc := 2) (mc2 := 0) (ms2 := 0) (ci := 15) kJ4_50 (CJ5_appendC Γ h hc hm) (by decide) h.2.2.2.2.1 rfl ⟨Nat.le_of_ble_eq_true rfl, Nat.le_of_ble_eq_true rfl⟩ (Nat.le_of_ble_eq_true rfl) (Nat.le_of_ble_eq_true rfl) (Nat.le_of_ble_eq_true rfl) rfl dJ4_append_cf468_2 (fun w τ ⟨hw, hs⟩ => ?_)
  subst hw
  refine WP.pop (pc := 5) dJ4_append_cf468_5 rfl ?_
  refine WP.aload_n (pc := 6) dJ4_append_cf468_6 rfl ?_
  exact WP.aret (pc := 7) rfl (Or.inl ⟨_, rfl⟩) dJ4_append_cf468_7 ⟨_, rfl, rfl, hs⟩
-- numbers below 1000
def dgs (x : Nat) : List Nat := if x < 10 then [48 + x] else if x < 100 then [48 + x / 10, 48 + x % 10] else [48 + x / 100, 48 + x / 10 % 10, 48 + x % 10]
theorem dgs_fact : ∀ x, x < 1000 → (dgs x).length = (if x < 10 then 1 else if x < 100 then 2 else 3) ∧ ∀ c ∈ dgs x, c < 128 := by decide +kernel
theorem gc_fact : ∀ x, x < 1000 → (x < 100 → (-100 : Int32) < -nI x) ∧ (¬ x < 100 → ¬ (-100 : Int32) < -nI x ∧ (-nI x) / 100 = -nI (x / 100) ∧ (-nI (x / 100)) * 100 - (-nI x) = nI (x % 100) ∧ (-100 : Int32) < -nI (x / 100)) := by decide +kernel
theorem gc_fact2 : ∀ x, x < 100 → (x < 10 → (-9 : Int32) ≤ -nI x) ∧ (¬ x < 10 → ¬ (-9 : Int32) ≤ -nI x) := by decide +kernel
theorem ss_fact : ∀ x, x < 1000 → (x < 10 → ¬ (-nI x) ≤ (-10 : Int32)) ∧ (¬ x < 10 → (-nI x) ≤ (-10 : Int32)) ∧ (x < 100 → ¬ (-nI x) ≤ (-100 : Int32)) ∧ (¬ x < 100 → (-nI x) ≤ (-100 : Int32)) ∧ ¬ (-nI x) ≤ (-1000 : Int32) := by decide +kernel
theorem CJ6_stringSize {x : Nat} (hx : x < 1000) : Ctr Γ (0, 0, 0, 0) MJ6_stringSize_0f7a4 [.int (nI x)] σ (rV (some (.int (nI (dgs x).length))) σ) := by
  obtain ⟨f1, f2, f3, f4, f5⟩ := ss_fact x hx
  refine Ctr.go rfl (by decide) rfl rfl ?_
  refine WP.iconst (pc := 0) (v := 1) dJ6_stringSize_0f7a4_0 (by decide) ?_
  refine WP.istore_n (pc := 1) dJ6_stringSize_0f7a4_1 (by decide) rfl ?_
  refine WP.iload_n (pc := 2) dJ6_stringSize_0f7a4_2 rfl ?_
  refine WP.if_lt (pc := 3) (tgt := 11) dJ6_stringSize_0f7a4_3 (by decide) (fun h => ?_) (fun h => ?_)
  · exact absurd h (nI_pos (by omega))
  refine WP.iconst (pc := 6) (v := 0) dJ6_stringSize_0f7a4_6 (by decide) ?_
  refine WP.istore_n (pc := 7) dJ6_stringSize_0f7a4_7 (by decide) rfl ?_
  refine WP.iload_n (pc := 8) dJ6_stringSize_0f7a4_8 rfl ?_
  refine WP.ineg (pc := 9) dJ6_stringSize_0f7a4_9 ?_
  refine WP.istore_n (pc := 10) dJ6_stringSize_0f7a4_10 (by decide) rfl ?_
  refine WP.bipush (pc := 11) (v := (-10)) dJ6_stringSize_0f7a4_11 (by decide) ?_
  refine WP.istore_n (pc := 13) dJ6_stringSize_0f7a4_13 (by decide) rfl ?_
  refine WP.iconst (pc := 14) (v := 1) dJ6_stringSize_0f7a4_14 (by decide) ?_
  refine WP.istore_n (pc := 15) dJ6_stringSize_0f7a4_15 (by decide) rfl ?_
  refine WP.iload_n (pc := 16) dJ6_stringSize_0f7a4_16 rfl ?_
  refine WP.bipush (pc := 17) (v := 10) dJ6_stringSize_0f7a4_17 (by decide) ?_
  refine WP.icmp_ge (pc := 19) (tgt := 42) dJ6_stringSize_0f7a4_19 (by decide) (fun h => ?_) (fun h => ?_)
  · exact absurd h (by decide)
  refine WP.iload_n (pc := 22) dJ6_stringSize_0f7a4_22 rfl ?_
  refine WP.iload_n (pc := 23) dJ6_stringSize_0f7a4_23 rfl ?_
  refine WP.icmp_le (pc := 24) (tgt := 31) dJ6_stringSize_0f7a4_24 (by decide) (fun h1 => ?_) (fun h1 => ?_)
  · have hx1 : ¬ x < 10 := fun q => f1 q h1
    refine WP.bipush (pc := 31) (v := 10) dJ6_stringSize_0f7a4_31 (by decide) ?_
    refine WP.iload_n (pc := 33) dJ6_stringSize_0f7a4_33 rfl ?_
    refine WP.imul (pc := 34) dJ6_stringSize_0f7a4_34 ?_
    refine WP.istore_n (pc := 35) dJ6_stringSize_0f7a4_35 (by decide) rfl ?_
    refine WP.iinc (pc := 36) dJ6_stringSize_0f7a4_36 rfl (nI_1 _) (by decide) rfl ?_
    refine WP.goto (pc := 39) (tgt := 16) dJ6_stringSize_0f7a4_39 (by decide) ?_
    refine WP.iload_n (pc := 16) dJ6_stringSize_0f7a4_16 rfl ?_
    refine WP.bipush (pc := 17) (v := 10) dJ6_stringSize_0f7a4_17 (by decide) ?_
    refine WP.icmp_ge (pc := 19) (tgt := 42) dJ6_stringSize_0f7a4_19 (by decide) (fun h => ?_) (fun h => ?_)
    · exact absurd h (by decide)
    refine WP.iload_n (pc := 22) dJ6_stringSize_0f7a4_22 rfl ?_
    refine WP.iload_n (pc := 23) dJ6_stringSize_0f7a4_23 rfl ?_
    refine WP.icmp_le (pc := 24) (tgt := 31) dJ6_stringSize_0f7a4_24 (by decide) (fun h2 => ?_) (fun h2 => ?_)
    · have hx2 : ¬ x < 100 := fun q => f3 q h2
      refine WP.bipush (pc := 31) (v := 10) dJ6_stringSize_0f7a4_31 (by decide) ?_
      refine WP.iload_n (pc := 33) dJ6_stringSize_0f7a4_33 rfl ?_
      refine WP.imul (pc := 34) dJ6_stringSize_0f7a4_34 ?_
      refine WP.istore_n (pc := 35) dJ6_stringSize_0f7a4_35 (by decide) rfl ?_
      refine WP.iinc (pc := 36) dJ6_stringSize_0f7a4_36 rfl (nI_1 _) (by decide) rfl ?_
      refine WP.goto (pc := 39) (tgt := 16) dJ6_stringSize_0f7a4_39 (by decide) ?_
      refine WP.iload_n (pc := 16) dJ6_stringSize_0f7a4_16 rfl ?_
      refine WP.bipush (pc := 17) (v := 10) dJ6_stringSize_0f7a4_17 (by decide) ?_
      refine WP.icmp_ge (pc := 19) (tgt := 42) dJ6_stringSize_0f7a4_19 (by decide) (fun h => ?_) (fun h => ?_)
      · exact absurd h (by decide)
      refine WP.iload_n (pc := 22) dJ6_stringSize_0f7a4_22 rfl ?_
      refine WP.iload_n (pc := 23) dJ6_stringSize_0f7a4_23 rfl ?_
      refine WP.icmp_le (pc := 24) (tgt := 31) dJ6_stringSize_0f7a4_24 (by decide) (fun h3 => ?_) (fun h3 => ?_)
      · exact absurd h3 f5
      · refine WP.iload_n (pc := 27) dJ6_stringSize_0f7a4_27 rfl ?_
        refine WP.iload_n (pc := 28) dJ6_stringSize_0f7a4_28 rfl ?_
        refine WP.iadd (pc := 29) dJ6_stringSize_0f7a4_29 ?_
        refine WP.iret (pc := 30) rfl dJ6_stringSize_0f7a4_30 ?_
        exact ⟨by rw [(dgs_fact x hx).1, if_neg hx1, if_neg hx2]; rfl, rfl⟩
    · have hx2 : x < 100 := by
        refine Nat.lt_of_not_le (fun q => h2 (f4 (by omega)))
      refine WP.iload_n (pc := 27) dJ6_stringSize_0f7a4_27 rfl ?_
      refine WP.iload_n (pc := 28) dJ6_stringSize_0f7a4_28 rfl ?_
      refine WP.iadd (pc := 29) dJ6_stringSize_0f7a4_29 ?_
      refine WP.iret (pc := 30) rfl dJ6_stringSize_0f7a4_30 ?_
      exact ⟨by rw [(dgs_fact x hx).1, if_neg hx1, if_pos hx2]; rfl, rfl⟩
  · have hx1 : x < 10 := Nat.lt_of_not_le (fun q => h1 (f2 (by omega)))
    refine WP.iload_n (pc := 27) dJ6_stringSize_0f7a4_27 rfl ?_
    refine WP.iload_n (pc := 28) dJ6_stringSize_0f7a4_28 rfl ?_
    refine WP.iadd (pc := 29) dJ6_stringSize_0f7a4_29 ?_
    refine WP.iret (pc := 30) rfl dJ6_stringSize_0f7a4_30 ?_
    exact ⟨by rw [(dgs_fact x hx).1, if_pos hx1]; rfl, rfl⟩
end T
