section CSB
variable {Γ : cG} {r : cRm} {M : cM} {Φ : cRes → cAS → Prop} {pc : Nat} {L : List (Option Value)} {st : List Value} {σ : cAS}
theorem WP.gIs {index ci k n a : Nat} {v : Int32} (hU : ∀ w ∈ u_ws (cCl ci).1 (cCl ci).2.1 (cCl ci).2.2, w ∈ cALL) (lk : cFl (mY M).cls index ci k false) (ht : aT σ a = (ci + 1, n)) (hv : aI σ a k = v) (d : decode (mC M) pc = .ok (.getfield index, 3)) (kk : WP Γ r M Φ (pc + 3) L (.int v :: st) σ) : WP Γ r M Φ pc L (.ref a :: st) σ := by
  refine WP.getf hU lk ht d ?_
  rw [cV_int lk.2.2.1, hv]
  exact kk
theorem WP.gRs {index ci k n a b : Nat} (hU : ∀ w ∈ u_ws (cCl ci).1 (cCl ci).2.1 (cCl ci).2.2, w ∈ cALL) (lk : cFl (mY M).cls index ci k true) (ht : aT σ a = (ci + 1, n)) (hv : aR σ a k = some b) (d : decode (mC M) pc = .ok (.getfield index, 3)) (kk : WP Γ r M Φ (pc + 3) L (.ref b :: st) σ) : WP Γ r M Φ pc L (.ref a :: st) σ := by
  refine WP.getf hU lk ht d ?_
  rw [cV_ref lk.2.2.1, hv]
  exact kk
theorem WP.less {f lo mc ms mc2 ms2 : Nat} (h1 : mc2 ≤ mc) (h2 : ms2 ≤ ms) (k : WP Γ (f, lo, mc2, ms2) M Φ pc L st σ) : WP Γ (f, lo, mc, ms) M Φ pc L st σ := by
  intro p e R s m args below meth c H locs cells slots ls hO hS
  obtain ⟨⟨a1, a2, a3, a4⟩, b⟩ := hS
  dsimp only at a3 a4
  exact k p e R s m args below meth c H locs cells slots ls hO ⟨⟨a1, a2, by dsimp only; omega, by dsimp only; omega⟩, b⟩
theorem WP.mmax {f lo mc ms index : Nat} {x y : Int32} (lk : cKS (mY M).cls index MJ9_max_7cf53 2) (hf : 1 ≤ f) (hlo : (st.map fun v => v.category).sum + 13 ≤ lo) (d : decode (mC M) pc = .ok (.invokestatic index, 3)) (k : WP Γ (f, lo, mc, ms) M Φ (pc + 3) L (.int (if x < y then y else x) :: st) σ) : WP Γ (f, lo, mc, ms) M Φ pc L (.int y :: .int x :: st) σ := by
  intro p e R s m args below meth c H locs cells slots ls hO hS
  have ha := hS.1
  dsimp only at ha
  exact va_mmax hO.1 hO.2.1 (hO.2.2.1.trans hS.2.2.2.1.1.symm) hO.2.2.2.1 (cHts hO _ lk.2.2.1) (cHts hO _ lk.2.2.2.1) (cHts hO _ lk.2.2.2.2.1) (cHts hO _ lk.2.1) (by omega) (by omega) (by omega) (by omega) d (k p e R s m args below meth c H locs cells slots ls hO hS)
theorem WP.mmin {f lo mc ms index : Nat} {x y : Int32} (lk : cKS (mY M).cls index MJ9_min_7cf53 2) (hf : 1 ≤ f) (hlo : (st.map fun v => v.category).sum + 13 ≤ lo) (d : decode (mC M) pc = .ok (.invokestatic index, 3)) (k : WP Γ (f, lo, mc, ms) M Φ (pc + 3) L (.int (if y < x then y else x) :: st) σ) : WP Γ (f, lo, mc, ms) M Φ pc L (.int y :: .int x :: st) σ := by
  intro p e R s m args below meth c H locs cells slots ls hO hS
  have ha := hS.1
  dsimp only at ha
  exact va_mmin hO.1 hO.2.1 (hO.2.2.1.trans hS.2.2.2.1.1.symm) hO.2.2.2.1 (cHts hO _ lk.2.2.1) (cHts hO _ lk.2.2.2.1) (cHts hO _ lk.2.2.2.2.1) (cHts hO _ lk.2.1) (by omega) (by omega) (by omega) (by omega) d (k p e R s m args below meth c H locs cells slots ls hO hS)
/-- a call that returns, and what holds then -/
def rS (P : Option Value → cAS → Prop) : cRes → cAS → Prop := fun r τ => ∃ v, r = .inl v ∧ P v τ
theorem rS_out {P : Option Value → cAS → Prop} {Q : String → cAS → Prop} : ∀ (E : String) (σ' : cAS), rS P (.inr E) σ' → Q E σ' := fun E σ' h => by
  obtain ⟨v, h, -⟩ := h
  nomatch h
theorem rV_rS {v : Option Value} {σ1 : cAS} {Γ : cG} {r : cRm} {M : cM} {av : List Value} {σ : cAS} (h : Ctr Γ r M av σ (rV v σ1)) {P : Option Value → cAS → Prop} (hp : P v σ1) : Ctr Γ r M av σ (rV v σ1) := h
/-- what holds behind a call says less -/
theorem Ctr.mono {av : List Value} {Φ Ψ : cRes → cAS → Prop} (h : Ctr Γ r M av σ Φ) (hq : ∀ z τ, Φ z τ → Ψ z τ) : Ctr Γ r M av σ Ψ := by
  intro p e ha hf hc s m args below hfr hs hP hK
  obtain ⟨n, o, h1, h2, h3, h4⟩ := h p e ha hf hc s m args below hfr hs hP hK
  refine ⟨n, o, h1, h2, h3, ?_⟩
  rcases h4 with ⟨⟨v, σ', g1, g2, g3⟩, g4⟩ | ⟨q, g1, E, ce, L, ⟨σ', g2, g3⟩, g4⟩
  · exact Or.inl ⟨⟨v, σ', g1, hq _ _ g2, g3⟩, g4⟩
  · exact Or.inr ⟨q, g1, E, ce, L, ⟨σ', hq _ _ g2, g3⟩, g4⟩
theorem Ctr.post {av : List Value} {P Q : Option Value → cAS → Prop} (h : Ctr Γ r M av σ (rS P)) (hq : ∀ v τ, P v τ → Q v τ) : Ctr Γ r M av σ (rS Q) := h.mono (fun z τ ⟨v, h1, h2⟩ => ⟨v, h1, hq v τ h2⟩)
section CALL
variable {f lo mc ms mc2 ms2 f' lo' mc' ms' n index : Nat} {M' : cM} {av rest stk : List Value} {σ1 : cAS} {P : Option Value → cAS → Prop} {x : Value}
theorem WP.cSs (lk : cKS (mY M).cls index M' n) (hC : Ctr Γ (f', lo', mc', ms') M' av σ (rS P)) (hn : av.length = n) (hr : f' + 1 ≤ f ∧ 8 + (mL M' + 11) + lo' ≤ lo) (hmc : mc2 + mc' ≤ mc) (hms : ms2 + ms' ≤ ms) (hst : (rest.map fun v => v.category).sum ≤ 8) (hstk : stk = av.reverse ++ rest) (d : decode (mC M) pc = .ok (.invokestatic index, 3)) (k : ∀ v τ, P v τ → WP Γ (f, lo, mc2, ms2) M Φ (pc + 3) L (v.toList ++ rest) τ) : WP Γ (f, lo, mc, ms) M Φ pc L stk σ :=
  WP.callS lk hC hn hr hmc hms hst hstk d (fun v σ' h => by obtain ⟨w, h1, h2⟩ := h; cases h1; exact k v σ' h2) rS_out
theorem WP.cVs {b ci k0 : Nat} (lk : cKV (mY M).cls index M' n) (hC : Ctr Γ (f', lo', mc', ms') M' (.ref b :: av) σ (rS P)) (hci : ci < 10 ∨ ci = 15 ∨ ci = 16) (hcl : (mY M').cls = (cCl ci).1) (ht : aT σ b = (ci + 1, k0)) (hn : av.length = n) (hr : f' + 1 ≤ f ∧ 8 + (mL M' + 11) + lo' ≤ lo) (hmc : mc2 + mc' ≤ mc) (hms : ms2 + ms' ≤ ms) (hst : (rest.map fun v => v.category).sum ≤ 8) (hstk : stk = av.reverse ++ .ref b :: rest) (d : decode (mC M) pc = .ok (.invokevirtual index, 3)) (k : ∀ v τ, P v τ → WP Γ (f, lo, mc2, ms2) M Φ (pc + 3) L (v.toList ++ rest) τ) : WP Γ (f, lo, mc, ms) M Φ pc L stk σ :=
  WP.callV lk hC hci hcl ht hn hr hmc hms hst hstk d (fun v σ' h => by obtain ⟨w, h1, h2⟩ := h; cases h1; exact k v σ' h2) rS_out
theorem WP.cUs {b ci k0 : Nat} {C : String} {y : MethodName} (lk : cKU (mY M).cls index C y M' n) (hC : Ctr Γ (f', lo', mc', ms') M' (.ref b :: av) σ (rS P)) (hci : ci < 10 ∨ ci = 15 ∨ ci = 16) (hcl : C = (cCl ci).1) (ht : aT σ b = (ci + 1, k0)) (hn : av.length = n) (hr : f' + 1 ≤ f ∧ 8 + (mL M' + 11) + lo' ≤ lo) (hmc : mc2 + mc' ≤ mc) (hms : ms2 + ms' ≤ ms) (hst : (rest.map fun v => v.category).sum ≤ 8) (hstk : stk = av.reverse ++ .ref b :: rest) (d : decode (mC M) pc = .ok (.invokevirtual index, 3)) (k : ∀ v τ, P v τ → WP Γ (f, lo, mc2, ms2) M Φ (pc + 3) L (v.toList ++ rest) τ) : WP Γ (f, lo, mc, ms) M Φ pc L stk σ :=
  WP.callU lk hC hci hcl ht hn hr hmc hms hst hstk d (fun v σ' h => by obtain ⟨w, h1, h2⟩ := h; cases h1; exact k v σ' h2) rS_out
theorem WP.cU1 {b ci k0 : Nat} {C : String} {y : MethodName} (lk : cKU (mY M).cls index C y M' n) (hC : Ctr Γ (f', lo', mc', ms') M' (.ref b :: av) σ (rV (some x) σ1)) (hci : ci < 10 ∨ ci = 15 ∨ ci = 16) (hcl : C = (cCl ci).1) (ht : aT σ b = (ci + 1, k0)) (hn : av.length = n) (hr : f' + 1 ≤ f ∧ 8 + (mL M' + 11) + lo' ≤ lo) (hmc : mc2 + mc' ≤ mc) (hms : ms2 + ms' ≤ ms) (hst : (rest.map fun v => v.category).sum ≤ 8) (hstk : stk = av.reverse ++ .ref b :: rest) (d : decode (mC M) pc = .ok (.invokevirtual index, 3)) (k : WP Γ (f, lo, mc2, ms2) M Φ (pc + 3) L (x :: rest) σ1) : WP Γ (f, lo, mc, ms) M Φ pc L stk σ :=
  WP.callU lk hC hci hcl ht hn hr hmc hms hst hstk d (fun v σ' h => by obtain ⟨h1, rfl⟩ := h; cases h1; exact k) rV_out
theorem WP.cU0 {b ci k0 : Nat} {C : String} {y : MethodName} (lk : cKU (mY M).cls index C y M' n) (hC : Ctr Γ (f', lo', mc', ms') M' (.ref b :: av) σ (rV none σ1)) (hci : ci < 10 ∨ ci = 15 ∨ ci = 16) (hcl : C = (cCl ci).1) (ht : aT σ b = (ci + 1, k0)) (hn : av.length = n) (hr : f' + 1 ≤ f ∧ 8 + (mL M' + 11) + lo' ≤ lo) (hmc : mc2 + mc' ≤ mc) (hms : ms2 + ms' ≤ ms) (hst : (rest.map fun v => v.category).sum ≤ 8) (hstk : stk = av.reverse ++ .ref b :: rest) (d : decode (mC M) pc = .ok (.invokevirtual index, 3)) (k : WP Γ (f, lo, mc2, ms2) M Φ (pc + 3) L rest σ1) : WP Γ (f, lo, mc, ms) M Φ pc L stk σ :=
  WP.callU lk hC hci hcl ht hn hr hmc hms hst hstk d (fun v σ' h => by obtain ⟨h1, rfl⟩ := h; cases h1; exact k) rV_out
theorem WP.cPs {b ci k0 : Nat} (lk : cKP (mY M).cls index M' n) (hC : Ctr Γ (f', lo', mc', ms') M' (.ref b :: av) σ (rS P)) (hci : ci < 10 ∨ ci = 15 ∨ ci = 16) (ht : aT σ b = (ci + 1, k0)) (hn : av.length = n) (hr : f' + 1 ≤ f ∧ 8 + (mL M' + 11) + lo' ≤ lo) (hmc : mc2 + mc' ≤ mc) (hms : ms2 + ms' ≤ ms) (hst : (rest.map fun v => v.category).sum ≤ 8) (hstk : stk = av.reverse ++ .ref b :: rest) (d : decode (mC M) pc = .ok (.invokespecial index, 3)) (k : ∀ v τ, P v τ → WP Γ (f, lo, mc2, ms2) M Φ (pc + 3) L (v.toList ++ rest) τ) : WP Γ (f, lo, mc, ms) M Φ pc L stk σ :=
  WP.callP lk hC hci ht hn hr hmc hms hst hstk d (fun v σ' h => by obtain ⟨w, h1, h2⟩ := h; cases h1; exact k v σ' h2) rS_out
theorem WP.cP1 {b ci k0 : Nat} (lk : cKP (mY M).cls index M' n) (hC : Ctr Γ (f', lo', mc', ms') M' (.ref b :: av) σ (rV (some x) σ1)) (hci : ci < 10 ∨ ci = 15 ∨ ci = 16) (ht : aT σ b = (ci + 1, k0)) (hn : av.length = n) (hr : f' + 1 ≤ f ∧ 8 + (mL M' + 11) + lo' ≤ lo) (hmc : mc2 + mc' ≤ mc) (hms : ms2 + ms' ≤ ms) (hst : (rest.map fun v => v.category).sum ≤ 8) (hstk : stk = av.reverse ++ .ref b :: rest) (d : decode (mC M) pc = .ok (.invokespecial index, 3)) (k : WP Γ (f, lo, mc2, ms2) M Φ (pc + 3) L (x :: rest) σ1) : WP Γ (f, lo, mc, ms) M Φ pc L stk σ :=
  WP.callP lk hC hci ht hn hr hmc hms hst hstk d (fun v σ' h => by obtain ⟨h1, rfl⟩ := h; cases h1; exact k) rV_out
theorem WP.cP0 {b ci k0 : Nat} (lk : cKP (mY M).cls index M' n) (hC : Ctr Γ (f', lo', mc', ms') M' (.ref b :: av) σ (rV none σ1)) (hci : ci < 10 ∨ ci = 15 ∨ ci = 16) (ht : aT σ b = (ci + 1, k0)) (hn : av.length = n) (hr : f' + 1 ≤ f ∧ 8 + (mL M' + 11) + lo' ≤ lo) (hmc : mc2 + mc' ≤ mc) (hms : ms2 + ms' ≤ ms) (hst : (rest.map fun v => v.category).sum ≤ 8) (hstk : stk = av.reverse ++ .ref b :: rest) (d : decode (mC M) pc = .ok (.invokespecial index, 3)) (k : WP Γ (f, lo, mc2, ms2) M Φ (pc + 3) L rest σ1) : WP Γ (f, lo, mc, ms) M Φ pc L stk σ :=
  WP.callP lk hC hci ht hn hr hmc hms hst hstk d (fun v σ' h => by obtain ⟨h1, rfl⟩ := h; cases h1; exact k) rV_out
theorem WP.cIs {b : Nat} (lk : cKI (mY M).cls index M' n) (hC : Ctr Γ (f', lo', mc', ms') M' (.ref b :: av) σ (rS P)) (hn : av.length = n) (hr : f' + 1 ≤ f ∧ 8 + (mL M' + 11) + lo' ≤ lo) (hmc : mc2 + mc' ≤ mc) (hms : ms2 + ms' ≤ ms) (hst : (rest.map fun v => v.category).sum ≤ 8) (hstk : stk = av.reverse ++ .ref b :: rest) (d : decode (mC M) pc = .ok (.invokespecial index, 3)) (k : ∀ v τ, P v τ → WP Γ (f, lo, mc2, ms2) M Φ (pc + 3) L (v.toList ++ rest) τ) : WP Γ (f, lo, mc, ms) M Φ pc L stk σ :=
  WP.callI lk hC hn hr hmc hms hst hstk d (fun v σ' h => by obtain ⟨w, h1, h2⟩ := h; cases h1; exact k v σ' h2) rS_out
theorem WP.cVSs {j : Nat} (hj : j < 30) (lk : cKV (mY M).cls index M' n) (hC : Ctr Γ (f', lo', mc', ms') M' (.ref (gK Γ j) :: av) σ (rS P)) (hcl : (mY M').cls = "java/lang/String") (hn : av.length = n) (hr : f' + 1 ≤ f ∧ 8 + (mL M' + 11) + lo' ≤ lo) (hmc : mc2 + mc' ≤ mc) (hms : ms2 + ms' ≤ ms) (hst : (rest.map fun v => v.category).sum ≤ 8) (hstk : stk = av.reverse ++ .ref (gK Γ j) :: rest) (d : decode (mC M) pc = .ok (.invokevirtual index, 3))
    (k : ∀ v τ, P v τ → WP Γ (f, lo, mc2, ms2) M Φ (pc + 3) L (v.toList ++ rest) τ) : WP Γ (f, lo, mc, ms) M Φ pc L stk σ := by
  have kr : ∀ v σ', rS P (.inl v) σ' → WP Γ (f, lo, mc2, ms2) M Φ (pc + 3) L (v.toList ++ rest) σ' := fun v σ' h => by obtain ⟨w, h1, h2⟩ := h; cases h1; exact k v σ' h2
  have kx : ∀ E σ', rS P (.inr E) σ' → WX Γ (f, lo, mc2, ms2) M Φ pc L E σ' := fun E σ' h => rS_out E σ' h
  intro p e R s m args below meth c H locs cells slots ls hO hS
  obtain ⟨h0, h1, h2, h3, h4, h5, h6⟩ := lk
  have hw : cWd M' :: cALL = .code (mY M') (mC M') (mL M') (mR M') :: cALL := by rw [cWd_code h0]
  have ha := hS.1
  dsimp only at ha
  have cb := callB_of (R := R) (s := s) (args := args) (own := (mY M).cls) (index := index) (rm := cRo (f', lo', mc', ms')) n (cHts hO) (cGood h1) hw rfl rfl (cHts hO _ h5) (cHts hO _ h2) h6 ⟨by show f' + 1 ≤ R.frames; omega, by show 8 + (mL M' + 11) + lo' ≤ R.locals; omega⟩
  obtain ⟨cell, g1, g2, g3, -⟩ := (hO.w.2.2.2.2.2.2.1 j hj).1
  have g1' : H[gK Γ j]? = some cell := by rw [hS.2.1.2.1 _ (Array.getElem?_eq_some_iff.mp g1).1]; exact g1
  have hp : PreV s H (mY M').cls (gK Γ j) (cPc Γ σ (.ref (gK Γ j) :: av)) av := ⟨cBlind, by rw [hcl]; exact ⟨cell, g1', g2, g3⟩, (cPre hO.w hS.2.1).2⟩
  exact cRun hO hS hmc hms (vx_runV (As := av) (rest := rest) (cFix hO) hC ⟨cb, cHts hO _ h3, cHts hO _ h4⟩ hp rfl hn (hS.2.2.2.1.1) hstk (by show 2 * 0 + _ ≤ 8; omega) d ⟨by omega, by omega⟩) kr kx
end CALL
/-- System.arraycopy over rows of bytes -/
theorem WP.copyB {f lo mc ms index a0 a n0 n1 : Nat} {sp dp n : Int32} (h1 : Cond.methodLink (mY M).cls index arraycopyName ∈ cALL) (h2 : Cond.native arraycopyName ∈ cALL) (h3 : Cond.static arraycopyName ∈ cALL) (h4 : Cond.initialized "java/lang/System" ∈ cALL) (ht0 : aT σ a0 = (12, n0)) (ht1 : aT σ a = (12, n1)) (g1 : ¬ sp < 0) (g2 : ¬ dp < 0) (g3 : ¬ n < 0) (g4 : sp.toNatClampNeg + n.toNatClampNeg ≤ n0) (g5 : dp.toNatClampNeg + n.toNatClampNeg ≤ n1) (hfit : ∀ i, i < n.toNatClampNeg → fits .byte (.int (aI σ a0 (sp.toNatClampNeg + i))) = true) (hf : 1 ≤ f) (hlo : (st.map fun v => v.category).sum + (nativeFrameWords "java/lang/System" "arraycopy" 5 + 11) ≤ lo) (d : decode (mC M) pc = .ok (.invokestatic index, 3)) (k : WP Γ (f, lo, mc, ms) M Φ (pc + 3) L st (sC σ a0 a sp.toNatClampNeg dp.toNatClampNeg n.toNatClampNeg)) : WP Γ (f, lo, mc, ms) M Φ pc L (.int n :: .int dp :: .ref a :: .int sp :: .ref a0 :: st) σ := by
  intro p e R s m args below meth c H locs cells slots ls hO hS
  have hal := hS.1
  dsimp only at hal
  have hat := hS.2.1.at ht1 (by omega)
  have e0 := hS.2.1.arr (by omega) (by omega) ht0
  have e1 := hS.2.1.arr (by omega) (by omega) ht1
  have hV : ∀ b, (fun j => cV σ b 12 j) = fun j => Value.int (aI σ b j) := fun b => rfl
  rw [hV] at e0 e1
  have hArr := (hO.w.arr (kd := 12) (by omega) (by omega)).1
  obtain ⟨-, k0, hk0, cm0, hkk0⟩ := hArr n0 (fun j => .int (aI σ a0 j))
  obtain ⟨-, k1, hk1, cm1, hkk1⟩ := hArr n1 (fun j => .int (aI σ a j))
  intro T hT X
  obtain ⟨vm', X', step⟩ := X.arraycopy hO.1 hO.2.2.2.1 (cHts hO _ h1) (cHts hO _ h2) (cHts hO _ h3) (cHts hO _ h4) (src := a0) (dst := a) (srcPos := sp) (destPos := dp) (n := n) (by rw [hT]; exact e0) (by rw [hT]; exact e1)
    (fun _ h => by cases h) (fun _ h => by cases h) (fun h => by cases h) (fun h => by cases h) hk0 hk1 hkk0 hkk1 rfl g1 g2 g3
    (by rw [cNn g1, cNn g3, arrV_size]; omega)
    (by rw [cNn g2, cNn g3, arrV_size]; omega)
    (fun vm₁ _ i hi => by
      have e : (arrV (gA Γ 12) n0 (fun j => Value.int (aI σ a0 j))).slots.getD (sp.toNatClampNeg + i) .null = .int (aI σ a0 (sp.toNatClampNeg + i)) := by
        rw [Array.getD_eq_getD_getElem?, arrV_read _ _ (by omega)]
        rfl
      refine ⟨?_, ?_⟩
      · rw [e]
        exact hfit i hi
      · rw [e]
        exact trivial)
    (g := F0 m pc ls (.int n :: .int dp :: .ref a :: .int sp :: .ref a0 :: st)) rfl (hS.2.2.2.1.1.trans hO.2.2.1.symm) (rest := st) rfl (by rw [hO.2.1]; exact d) (by omega) (by show 2 * 0 + _ + _ ≤ _; omega)
  have e2 : copied (arrV (gA Γ 12) n0 (fun j => Value.int (aI σ a0 j))) (arrV (gA Γ 12) n1 (fun j => Value.int (aI σ a j))) sp dp n = arrV (gA Γ 12) n1 (fun j => Value.int (va_cpy (aI σ a0) (aI σ a) sp.toNatClampNeg dp.toNatClampNeg n.toNatClampNeg j)) := va_copied (fun z => .int z) _ _ _ _ g4
  rw [e2] at X' step
  have hl : a < H.size := hat.2.1
  generalize hcd : arrV (gA Γ 12) n1 (fun j => Value.int (va_cpy (aI σ a0) (aI σ a) sp.toNatClampNeg dp.toNatClampNeg n.toNatClampNeg j)) = cd at X' step
  have hheap : ((T.setVm vm').setCell a cd).heap = H.setIfInBounds a cd := by rw [← hT]; rfl
  have oq : ∀ q : Nat, q ≠ a → (H.setIfInBounds a cd)[q]? = H[q]? := fun q hq => by simp [Array.getElem?_setIfInBounds, Ne.symm hq]
  have hR : cRep Γ (sC σ a0 a sp.toNatClampNeg dp.toNatClampNeg n.toNatClampNeg) (H.setIfInBounds a cd) := by
    refine hS.2.1.put ht1 (by omega) rfl rfl cV_sC ?_ (by simp) oq
    unfold cAt
    rw [if_neg (by omega)]
    have e4 : (H.setIfInBounds a cd)[a]? = some cd := by simp [Array.getElem?_setIfInBounds, hl]
    rw [e4, ← hcd]
    congr 2
    funext j
    show _ = Value.int (aI (sC σ a0 a _ _ _) a j)
    rw [aI_sC, if_pos rfl]
  obtain ⟨t, a1, b1⟩ := k p e R s m args below meth c _ _ cells slots ls hO ⟨hS.1, hR, by rw [Array.size_setIfInBounds]; exact hS.2.2.1, hS.2.2.2.1, fun q hq => by
      rcases List.mem_append.mp hq with h | h
      · exact hS.2.2.2.2 q h
      · obtain ⟨z, -, hz⟩ := List.mem_map.mp h
        rw [← hz]
        exact hat.1⟩ _ hheap X'
  exact ⟨t, step t a1, b1⟩
/-- System.arraycopy of a whole String constant's bytes -/
theorem WP.copyS {f lo mc ms index j a n1 : Nat} {dp : Int32} (hj : j < 30) (h1 : Cond.methodLink (mY M).cls index arraycopyName ∈ cALL) (h2 : Cond.native arraycopyName ∈ cALL) (h3 : Cond.static arraycopyName ∈ cALL) (h4 : Cond.initialized "java/lang/System" ∈ cALL) (hle : cTL j ≤ 1000) (ht1 : aT σ a = (12, n1)) (g2 : ¬ dp < 0) (g5 : dp.toNatClampNeg + cTL j ≤ n1) (hfit : ∀ i, i < cTL j → fits .byte (.int (cTB j i)) = true) (hf : 1 ≤ f) (hlo : (st.map fun v => v.category).sum + (nativeFrameWords "java/lang/System" "arraycopy" 5 + 11) ≤ lo) (d : decode (mC M) pc = .ok (.invokestatic index, 3))
    (k : ∀ τ, aT τ = aT σ → aR τ = aR σ → aL τ = aL σ → aN τ = aN σ → (∀ b, b ≠ a → aI τ b = aI σ b) → (∀ i, aI τ a i = if dp.toNatClampNeg ≤ i ∧ i < dp.toNatClampNeg + cTL j then cTB j (i - dp.toNatClampNeg) else aI σ a i) → WP Γ (f, lo, mc, ms) M Φ (pc + 3) L st τ) : WP Γ (f, lo, mc, ms) M Φ pc L (.int (nI (cTL j)) :: .int dp :: .ref a :: .int 0 :: .ref (gW Γ j) :: st) σ := by
  intro p e R s m args below meth c H locs cells slots ls hO hS
  have hal := hS.1
  dsimp only at hal
  have hat := hS.2.1.at ht1 (by omega)
  obtain ⟨cs, e0, ⟨hns, k0, hk0, cm0, hkk0⟩, hun, hsz, hsz2, hsl, -⟩ := (hO.w.2.2.2.2.2.2.1 j hj).2.2.2
  have e0 : H[gW Γ j]? = some cs := by rw [hS.2.1.2.1 _ (Array.getElem?_eq_some_iff.mp e0).1]; exact e0
  have e1 := hS.2.1.arr (by omega) (by omega) ht1
  have hV : ∀ b, (fun j => cV σ b 12 j) = fun j => Value.int (aI σ b j) := fun b => rfl
  rw [hV] at e1
  have hArr := (hO.w.arr (kd := 12) (by omega) (by omega)).1
  obtain ⟨-, k1, hk1, cm1, hkk1⟩ := hArr n1 (fun j => .int (aI σ a j))
  have en : (nI (cTL j)).toNatClampNeg = cTL j := nI_clamp (by omega)
  have z0 : (0 : Int32).toNatClampNeg = 0 := rfl
  have gn : ¬ nI (cTL j) < 0 := nI_pos (by omega)
  have hget : ∀ i, i < cTL j → cs.slots.getD i .null = .int (cTB j i) := fun i hi => by
    rw [Array.getD_eq_getD_getElem?, hsl i hi]
    rfl
  intro T hT X
  obtain ⟨vm', X', step⟩ := X.arraycopy hO.1 hO.2.2.2.1 (cHts hO _ h1) (cHts hO _ h2) (cHts hO _ h3) (cHts hO _ h4) (src := gW Γ j) (dst := a) (srcPos := 0) (destPos := dp) (n := nI (cTL j)) (by rw [hT]; exact e0) (by rw [hT]; exact e1)
    (fun q h => hns q h) (fun _ h => by cases h) hun (fun h => by cases h) hk0 hk1 hkk0 hkk1 rfl (by decide) g2 gn
    (by rw [cNn gn, en]; show ¬ ((0 : Int) + _ > _); omega)
    (by rw [cNn g2, cNn gn, en, arrV_size]; omega)
    (fun vm₁ _ i hi => by
      rw [en] at hi
      rw [z0, Nat.zero_add, hget i hi]
      exact ⟨hfit i hi, trivial⟩)
    (g := F0 m pc ls (.int (nI (cTL j)) :: .int dp :: .ref a :: .int 0 :: .ref (gW Γ j) :: st)) rfl (hS.2.2.2.1.1.trans hO.2.2.1.symm) (rest := st) rfl (by rw [hO.2.1]; exact d) (by omega) (by show 2 * 0 + _ + _ ≤ _; omega)
  have e2 : copied cs (arrV (gA Γ 12) n1 (fun j => Value.int (aI σ a j))) 0 dp (nI (cTL j)) = arrV (gA Γ 12) n1 (fun i => Value.int (va_cpy (fun i => cTB j i) (aI σ a) 0 dp.toNatClampNeg (cTL j) i)) := by
    rw [← va_copied (fun z => Value.int z) (gA Γ 12) (gA Γ 12) (n0 := cTL j) (fun i => cTB j i) (aI σ a) (by omega)]
    show (arrV (gA Γ 12) n1 (fun j => Value.int (aI σ a j))).storeRun dp.toNatClampNeg (cs.stretch (0 : Int32).toNatClampNeg (nI (cTL j)).toNatClampNeg) = _
    rw [en, z0]
    congr 1
    unfold Cell.stretch
    apply List.map_congr_left
    intro i hi
    have hi' := List.mem_range.mp hi
    rw [Nat.zero_add, hget i hi', Array.getD_eq_getD_getElem?, arrV_read _ _ hi']
    rfl
  rw [e2] at X' step
  have hl : a < H.size := hat.2.1
  generalize hcd : arrV (gA Γ 12) n1 (fun i => Value.int (va_cpy (fun i => cTB j i) (aI σ a) 0 dp.toNatClampNeg (cTL j) i)) = cd at X' step
  have hheap : ((T.setVm vm').setCell a cd).heap = H.setIfInBounds a cd := by rw [← hT]; rfl
  have oq : ∀ q : Nat, q ≠ a → (H.setIfInBounds a cd)[q]? = H[q]? := fun q hq => by simp [Array.getElem?_setIfInBounds, Ne.symm hq]
  let τ : cAS := (σ.1, fun b i => if b = a then va_cpy (fun i => cTB j i) (aI σ a) 0 dp.toNatClampNeg (cTL j) i else aI σ b i, σ.2.2)
  have hτI : ∀ b i, aI τ b i = if b = a then va_cpy (fun i => cTB j i) (aI σ a) 0 dp.toNatClampNeg (cTL j) i else aI σ b i := fun _ _ => rfl
  have hR : cRep Γ τ (H.setIfInBounds a cd) := by
    refine hS.2.1.put (σ' := τ) ht1 (by omega) rfl rfl (fun b hb kd i => ?_) ?_ (by simp) oq
    · unfold cV
      rw [hτI, if_neg hb]
      rfl
    unfold cAt
    rw [if_neg (by omega)]
    have e4 : (H.setIfInBounds a cd)[a]? = some cd := by simp [Array.getElem?_setIfInBounds, hl]
    rw [e4, ← hcd]
    congr 2
    funext i
    show _ = Value.int (aI τ a i)
    rw [hτI, if_pos rfl]
  obtain ⟨t, a1, b1⟩ := k τ rfl rfl rfl rfl (fun b hb => funext fun i => by rw [hτI, if_neg hb]) (fun i => by rw [hτI, if_pos rfl, va_cpy, Nat.zero_add]) p e R s m args below meth c _ _ cells slots ls hO ⟨hS.1, hR, by rw [Array.size_setIfInBounds]; exact hS.2.2.1, hS.2.2.2.1, fun q hq => by
      rcases List.mem_append.mp hq with h | h
      · exact hS.2.2.2.2 q h
      · obtain ⟨z, -, hz⟩ := List.mem_map.mp h
        rw [← hz]
        exact hat.1⟩ _ hheap X'
  exact ⟨t, step t a1, b1⟩
/-- the digits' rows -/
theorem WP.gstO {index : Nat} (lk : Cond.fieldLink (mY M).cls index "java/lang/Integer" "DigitOnes" "[B" ∈ cALL) (d : decode (mC M) pc = .ok (.getstatic index, 3)) (k : WP Γ r M Φ (pc + 3) L (.ref (gY Γ).1 :: st) σ) : WP Γ r M Φ pc L st σ := by
  intro p e R s m args below meth c H locs cells slots ls hO hS
  exact va_gets hO.1 hO.2.1 (hO.w.2.2.2.2.2.2.2.1.2.2.2.1.1.kept (cKp hO)) (cSS hO hS) hO.2.2.2.1 (cHts hO _ lk) (fun x h => h) d (k p e R s m args below meth c H locs cells slots ls hO hS)
theorem WP.gstT {index : Nat} (lk : Cond.fieldLink (mY M).cls index "java/lang/Integer" "DigitTens" "[B" ∈ cALL) (d : decode (mC M) pc = .ok (.getstatic index, 3)) (k : WP Γ r M Φ (pc + 3) L (.ref (gY Γ).2 :: st) σ) : WP Γ r M Φ pc L st σ := by
  intro p e R s m args below meth c H locs cells slots ls hO hS
  exact va_gets hO.1 hO.2.1 (hO.w.2.2.2.2.2.2.2.1.2.2.2.2.1.kept (cKp hO)) (cSS hO hS) hO.2.2.2.1 (cHts hO _ lk) (fun x h => h) d (k p e R s m args below meth c H locs cells slots ls hO hS)
theorem WP.digO {i : Nat} (hi : i < 100) (d : decode (mC M) pc = .ok (.baload, 1)) (k : WP Γ r M Φ (pc + 1) L (.int (nI (48 + i % 10)) :: st) σ) : WP Γ r M Φ pc L (.int (nI i) :: .ref (gY Γ).1 :: st) σ := by
  intro p e R s m args below meth c H locs cells slots ls hO hS
  exact va_tb hO.1 hO.2.1 (hO.w.2.2.2.2.2.2.2.1.2.2.2.1.2.kept (cKp hO)) (cSS hO hS) (cVin hi (by omega)) (by rw [cClamp hi (by omega)]) d (k p e R s m args below meth c H locs cells slots ls hO hS)
theorem WP.digT {i : Nat} (hi : i < 100) (d : decode (mC M) pc = .ok (.baload, 1)) (k : WP Γ r M Φ (pc + 1) L (.int (nI (48 + i / 10)) :: st) σ) : WP Γ r M Φ pc L (.int (nI i) :: .ref (gY Γ).2 :: st) σ := by
  intro p e R s m args below meth c H locs cells slots ls hO hS
  exact va_tb hO.1 hO.2.1 (hO.w.2.2.2.2.2.2.2.1.2.2.2.2.2.kept (cKp hO)) (cSS hO hS) (cVin hi (by omega)) (by rw [cClamp hi (by omega)]) d (k p e R s m args below meth c H locs cells slots ls hO hS)
end CSB
