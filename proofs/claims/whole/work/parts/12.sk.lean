section T
variable (Γ : cG) {σ : cAS} {b : Nat}
theorem skAt.app {I : Nat → Nat → Int32} {l : List mLf} {e : mLf} (h : skAt I b l) (hl : l.length < 60) : skAt (up (up (up (up I (b + 10) l.length e.1) (b + 11) l.length e.2.1) (b + 12) l.length e.2.2) (b + 9) 0 (nI (l.length + 1))) b (l ++ [e]) := by
  refine ⟨by simp [up_eq], by simp; omega, fun i x hx => ?_⟩
  rcases gE_app hx with ⟨h1, h2⟩ | ⟨rfl, rfl⟩
  · obtain ⟨a1, a2, a3⟩ := h.2.2 i x h2
    have : i ≠ l.length := by omega
    simp [up_eq, this, a1, a2, a3]
  · simp [up_eq]
theorem LX6_add (hs : shS σ b) {r : cRm} {Φ : cRes → cAS → Prop} (kind baker hour : Int32) : ∀ n i m (I : Nat → Nat → Int32) (l : List mLf), i + n = m → m ≤ 60 → l.length + n ≤ 60 → skAt I b l → (∀ I', fr I I' (b + 9) 4 → skAt I' b (l ++ List.replicate n (kind, baker, hour)) → Φ (.inl none) (wI σ I')) →
    WP Γ r MX6_add Φ 3 [some (.ref (b + 9)), some (.int (nI m)), some (.int kind), some (.int baker), some (.int hour), some (.int (nI i))] [] (wI σ I) := by
  intro n
  induction n with
  | zero =>
    intro i m I l hi hm hl h H
    refine WP.iload (pc := 3) dX6_add_3 rfl ?_
    refine WP.iload_n (pc := 5) dX6_add_5 rfl ?_
    refine WP.icmp_ge (pc := 6) (tgt := 65) dX6_add_6 (by decide) (fun h1 => ?_) (fun h1 => ?_)
    · skip
      refine WP.vret (pc := 65) rfl dX6_add_65 ?_
      exact H I fr.rf (by simpa using h)
    · exact absurd (by rw [show m = i by omega]; exact Int32.le_refl _) h1
  | succ n ih =>
    intro i m I l hi hm hl h H
    have hc := h.1
    refine WP.iload (pc := 3) dX6_add_3 rfl ?_
    refine WP.iload_n (pc := 5) dX6_add_5 rfl ?_
    refine WP.icmp_ge (pc := 6) (tgt := 65) dX6_add_6 (by decide) (fun h1 => ?_) (fun h1 => ?_)
    · exact absurd h1 (nI_ge (by omega) (by omega))
    · refine WP.aload_n (pc := 9) dX6_add_9 rfl ?_
      refine WP.gIv (pc := 10) (v := (nI l.length)) uX6 fX6_21 hs.t9 (by simp [up_eq, hc]) dX6_add_10 ?_
      refine WP.bipush (pc := 13) (v := 60) dX6_add_13 (by decide) ?_
      refine WP.icmp_ge (pc := 15) (tgt := 65) dX6_add_15 (by decide) (fun h2 => ?_) (fun h2 => ?_)
      · exact absurd h2 (nI_ge (b := 60) (by omega) (by omega))
      · refine WP.aload_n (pc := 18) dX6_add_18 rfl ?_
        refine WP.gR (pc := 19) uX6 fX6_9 hs.t9 hs.r9_1 dX6_add_19 ?_
        refine WP.aload_n (pc := 22) dX6_add_22 rfl ?_
        refine WP.gIv (pc := 23) (v := (nI l.length)) uX6 fX6_21 hs.t9 (by simp [up_eq, hc]) dX6_add_23 ?_
        refine WP.iload_n (pc := 26) dX6_add_26 rfl ?_
        refine WP.iast (pc := 27) hs.t10 (by omega) (by decide) dX6_add_27 ?_
        refine WP.aload_n (pc := 28) dX6_add_28 rfl ?_
        refine WP.gR (pc := 29) uX6 fX6_15 hs.t9 hs.r9_2 dX6_add_29 ?_
        refine WP.aload_n (pc := 32) dX6_add_32 rfl ?_
        refine WP.gIv (pc := 33) (v := (nI l.length)) uX6 fX6_21 hs.t9 (by simp [up_eq, hc]) dX6_add_33 ?_
        refine WP.iload_n (pc := 36) dX6_add_36 rfl ?_
        refine WP.iast (pc := 37) hs.t11 (by omega) (by decide) dX6_add_37 ?_
        refine WP.aload_n (pc := 38) dX6_add_38 rfl ?_
        refine WP.gR (pc := 39) uX6 fX6_18 hs.t9 hs.r9_3 dX6_add_39 ?_
        refine WP.aload_n (pc := 42) dX6_add_42 rfl ?_
        refine WP.gIv (pc := 43) (v := (nI l.length)) uX6 fX6_21 hs.t9 (by simp [up_eq, hc]) dX6_add_43 ?_
        refine WP.iload (pc := 46) dX6_add_46 rfl ?_
        refine WP.iast (pc := 48) hs.t12 (by omega) (by decide) dX6_add_48 ?_
        refine WP.aload_n (pc := 49) dX6_add_49 rfl ?_
        refine WP.dup (pc := 50) dX6_add_50 rfl ?_
        refine WP.gIv (pc := 51) (v := (nI l.length)) uX6 fX6_21 hs.t9 (by simp [up_eq, hc]) dX6_add_51 ?_
        refine WP.iconst (pc := 54) (v := 1) dX6_add_54 (by decide) ?_
        refine WP.iadd (pc := 55) dX6_add_55 ?_
        rw [nI_1]
        refine WP.pI (pc := 56) uX6 fX6_21 rfl rfl hs.t9 dX6_add_56 ?_
        refine WP.iinc (pc := 59) dX6_add_59 rfl (nI_1 _) (by decide) rfl ?_
        refine WP.goto (pc := 62) (tgt := 3) dX6_add_62 (by decide) ?_
        refine ih (i + 1) m _ (l ++ [(kind, baker, hour)]) (by omega) hm (by simp; omega) (skAt.app (e := (kind, baker, hour)) h (by omega)) (fun I' hf hk => H I' (fr.trans (((fr.rf.up (by omega) (by omega)).up (by omega) (by omega)).up (by omega) (by omega) |>.up (by omega) (by omega)) hf) ?_)
        rw [List.append_assoc] at hk
        exact hk
theorem CX6_add (hs : shS σ b) {I : Nat → Nat → Int32} {l : List mLf} {n : Nat} (kind baker hour : Int32) (hl : l.length + n ≤ 60) (h : skAt I b l) : Ctr Γ (0, 0, 0, 0) MX6_add [.ref (b + 9), .int (nI n), .int kind, .int baker, .int hour] (wI σ I) (rW σ (fun I' => fr I I' (b + 9) 4 ∧ skAt I' b (l ++ List.replicate n (kind, baker, hour)))) := by
  refine Ctr.go rfl (by decide) rfl rfl ?_
  refine WP.iconst (pc := 0) (v := 0) dX6_add_0 (by decide) ?_
  refine WP.istore (pc := 1) dX6_add_1 (by decide) rfl ?_
  exact LX6_add Γ hs kind baker hour n 0 n I l (by omega) (by omega) hl h (fun I' a c => ⟨rfl, I', rfl, a, c⟩)
end T
