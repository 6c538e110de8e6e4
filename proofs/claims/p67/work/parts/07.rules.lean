-- the same rules over a state whose shape stays: only its ints move
def wI (σ : cAS) (I : Nat → Nat → Int32) : cAS := (σ.1, I, σ.2.2)
def up (I : Nat → Nat → Int32) (a k : Nat) (x : Int32) : Nat → Nat → Int32 := fun b j => if b = a ∧ j = k then x else I b j
def cpy (I : Nat → Nat → Int32) (a0 a sp dp n : Nat) : Nat → Nat → Int32 := fun b j => if b = a then va_cpy (I a0) (I a) sp dp n j else I b j
theorem up_eq (I : Nat → Nat → Int32) (a k : Nat) (x : Int32) (b j : Nat) : up I a k x b j = if b = a ∧ j = k then x else I b j := rfl
theorem wI_self (σ : cAS) : wI σ (aI σ) = σ := rfl
theorem wI_wI (σ : cAS) (I J : Nat → Nat → Int32) : wI (wI σ I) J = wI σ J := rfl
theorem wI_aT (σ : cAS) (I : Nat → Nat → Int32) : aT (wI σ I) = aT σ := rfl
theorem wI_aR (σ : cAS) (I : Nat → Nat → Int32) : aR (wI σ I) = aR σ := rfl
theorem wI_aI (σ : cAS) (I : Nat → Nat → Int32) : aI (wI σ I) = I := rfl
theorem wI_aN (σ : cAS) (I : Nat → Nat → Int32) : aN (wI σ I) = aN σ := rfl
-- the end of a call that neither throws nor leaves anything open
def rV (v : Option Value) (σ1 : cAS) : cRes → cAS → Prop := fun r σ' => r = .inl v ∧ σ' = σ1
section CQ
variable {Γ : cG} {r : cRm} {M : cM} {Φ : cRes → cAS → Prop} {pc : Nat} {L : List (Option Value)} {st : List Value} {σ : cAS} {I : Nat → Nat → Int32}
theorem WP.gI {index ci k n a : Nat} (hU : ∀ w ∈ u_ws (cCl ci).1 (cCl ci).2.1 (cCl ci).2.2, w ∈ cALL) (lk : cFl (mY M).cls index ci k false) (ht : aT σ a = (ci + 1, n)) (d : decode (mC M) pc = .ok (.getfield index, 3)) (kk : WP Γ r M Φ (pc + 3) L (.int (I a k) :: st) (wI σ I)) : WP Γ r M Φ pc L (.ref a :: st) (wI σ I) := by
  refine WP.getf hU lk (σ := wI σ I) ht d ?_
  rw [cV_int lk.2.2.1]
  exact kk
theorem WP.gIv {index ci k n a : Nat} {v : Int32} (hU : ∀ w ∈ u_ws (cCl ci).1 (cCl ci).2.1 (cCl ci).2.2, w ∈ cALL) (lk : cFl (mY M).cls index ci k false) (ht : aT σ a = (ci + 1, n)) (hv : I a k = v) (d : decode (mC M) pc = .ok (.getfield index, 3)) (kk : WP Γ r M Φ (pc + 3) L (.int v :: st) (wI σ I)) : WP Γ r M Φ pc L (.ref a :: st) (wI σ I) := by
  refine WP.gI hU lk ht d ?_
  rw [hv]
  exact kk
theorem WP.gR {index ci k n a b : Nat} (hU : ∀ w ∈ u_ws (cCl ci).1 (cCl ci).2.1 (cCl ci).2.2, w ∈ cALL) (lk : cFl (mY M).cls index ci k true) (ht : aT σ a = (ci + 1, n)) (hv : aR σ a k = some b) (d : decode (mC M) pc = .ok (.getfield index, 3)) (kk : WP Γ r M Φ (pc + 3) L (.ref b :: st) (wI σ I)) : WP Γ r M Φ pc L (.ref a :: st) (wI σ I) := by
  refine WP.getf hU lk (σ := wI σ I) ht d ?_
  rw [cV_ref lk.2.2.1, wI_aR, hv]
  exact kk
theorem WP.pI {index ci k n a : Nat} {x : Int32} (hU : ∀ w ∈ u_ws (cCl ci).1 (cCl ci).2.1 (cCl ci).2.2, w ∈ cALL) (lk : cFl (mY M).cls index ci k false) (hfin : ((cCl ci).2.1 k).2.2.2 = false) (hty : cTyF ci k = .int) (ht : aT σ a = (ci + 1, n)) (d : decode (mC M) pc = .ok (.putfield index, 3)) (kk : WP Γ r M Φ (pc + 3) L st (wI σ (up I a k x))) : WP Γ r M Φ pc L (.int x :: .ref a :: st) (wI σ I) :=
  WP.putI hU lk hfin hty (σ := wI σ I) ht d kk
theorem cVin {k n : Nat} (hk : k < n) (hn : n ≤ 2147483647) : vp_in (nI k) n := vp_in_nI hk (by omega)
theorem cClamp {k n : Nat} (hk : k < n) (hn : n ≤ 2147483647) : (nI k).toNatClampNeg = k := nI_clamp (by omega)
theorem WP.iald {a n k : Nat} (ht : aT σ a = (11, n)) (hk : k < n) (hn : n ≤ 2147483647) (d : decode (mC M) pc = .ok (.iaload, 1)) (kk : WP Γ r M Φ (pc + 1) L (.int (I a k) :: st) (wI σ I)) : WP Γ r M Φ pc L (.int (nI k) :: .ref a :: st) (wI σ I) := by
  refine WP.iaload (σ := wI σ I) ht (cVin hk hn) d ?_
  rw [cClamp hk hn]
  exact kk
theorem WP.bald {a n k : Nat} (ht : aT σ a = (12, n)) (hk : k < n) (hn : n ≤ 2147483647) (d : decode (mC M) pc = .ok (.baload, 1)) (kk : WP Γ r M Φ (pc + 1) L (.int (I a k) :: st) (wI σ I)) : WP Γ r M Φ pc L (.int (nI k) :: .ref a :: st) (wI σ I) := by
  refine WP.baload (σ := wI σ I) ht (cVin hk hn) d ?_
  rw [cClamp hk hn]
  exact kk
theorem WP.zald {a n k : Nat} (ht : aT σ a = (13, n)) (hk : k < n) (hn : n ≤ 2147483647) (d : decode (mC M) pc = .ok (.baload, 1)) (kk : WP Γ r M Φ (pc + 1) L (.int (I a k) :: st) (wI σ I)) : WP Γ r M Φ pc L (.int (nI k) :: .ref a :: st) (wI σ I) := by
  refine WP.zaload (σ := wI σ I) ht (cVin hk hn) d ?_
  rw [cClamp hk hn]
  exact kk
theorem WP.aald {a n k : Nat} (ht : aT σ a = (15, n)) (hk : k < n) (hn : n ≤ 2147483647) (d : decode (mC M) pc = .ok (.aaload, 1)) (kk : WP Γ r M Φ (pc + 1) L (va_rf (aR σ a k) :: st) (wI σ I)) : WP Γ r M Φ pc L (.int (nI k) :: .ref a :: st) (wI σ I) := by
  refine WP.aaload (σ := wI σ I) ht (cVin hk hn) d ?_
  rw [cClamp hk hn]
  exact kk
theorem WP.iast {a n k : Nat} {x : Int32} (ht : aT σ a = (11, n)) (hk : k < n) (hn : n ≤ 2147483647) (d : decode (mC M) pc = .ok (.iastore, 1)) (kk : WP Γ r M Φ (pc + 1) L st (wI σ (up I a k x))) : WP Γ r M Φ pc L (.int x :: .int (nI k) :: .ref a :: st) (wI σ I) := by
  refine WP.iastore (σ := wI σ I) ht (cVin hk hn) d ?_
  rw [cClamp hk hn]
  exact kk
theorem WP.bast {a n k : Nat} {x : Int32} (ht : aT σ a = (12, n)) (hk : k < n) (hn : n ≤ 2147483647) (d : decode (mC M) pc = .ok (.bastore, 1)) (kk : WP Γ r M Φ (pc + 1) L st (wI σ (up I a k x.toInt8.toInt32))) : WP Γ r M Φ pc L (.int x :: .int (nI k) :: .ref a :: st) (wI σ I) := by
  refine WP.bastore (σ := wI σ I) ht (cVin hk hn) d ?_
  rw [cClamp hk hn]
  exact kk
theorem WP.zast {a n k : Nat} {x : Int32} (ht : aT σ a = (13, n)) (hk : k < n) (hn : n ≤ 2147483647) (hx : narrow .boolean (.int x) = .int x) (d : decode (mC M) pc = .ok (.bastore, 1)) (kk : WP Γ r M Φ (pc + 1) L st (wI σ (up I a k x))) : WP Γ r M Φ pc L (.int x :: .int (nI k) :: .ref a :: st) (wI σ I) := by
  refine WP.zastore (σ := wI σ I) ht (cVin hk hn) hx d ?_
  rw [cClamp hk hn]
  exact kk
theorem WP.cpy {f lo mc ms index a0 a n0 n1 sp dp n : Nat} (h1 : Cond.methodLink (mY M).cls index arraycopyName ∈ cALL) (ht0 : aT σ a0 = (11, n0)) (ht1 : aT σ a = (11, n1)) (g4 : sp + n ≤ n0) (g5 : dp + n ≤ n1) (hn0 : n0 ≤ 2147483647) (hn1 : n1 ≤ 2147483647) (h2 : Cond.native arraycopyName ∈ cALL) (h3 : Cond.static arraycopyName ∈ cALL) (h4 : Cond.initialized "java/lang/System" ∈ cALL) (hf : 1 ≤ f) (hlo : (st.map fun v => v.category).sum + (nativeFrameWords "java/lang/System" "arraycopy" 5 + 11) ≤ lo) (d : decode (mC M) pc = .ok (.invokestatic index, 3)) (k : WP Γ (f, lo, mc, ms) M Φ (pc + 3) L st (wI σ (cpy I a0 a sp dp n))) : WP Γ (f, lo, mc, ms) M Φ pc L (.int (nI n) :: .int (nI dp) :: .ref a :: .int (nI sp) :: .ref a0 :: st) (wI σ I) := by
  have e1 : (nI sp).toNatClampNeg = sp := nI_clamp (by omega)
  have e2 : (nI dp).toNatClampNeg = dp := nI_clamp (by omega)
  have e3 : (nI n).toNatClampNeg = n := nI_clamp (by omega)
  refine WP.copy (σ := wI σ I) h1 h2 h3 h4 ht0 ht1 (nI_pos (by omega)) (nI_pos (by omega)) (nI_pos (by omega)) (by rw [e1, e3]; exact g4) (by rw [e2, e3]; exact g5) hf hlo d ?_
  rw [e1, e2, e3]
  exact k
-- deterministic calls
section CALL
variable {f lo mc ms mc2 ms2 f' lo' mc' ms' n index : Nat} {M' : cM} {av rest stk : List Value} {σ σ1 : cAS} {x : Value}
theorem rV_out {v : Option Value} {σ1 : cAS} {P : String → cAS → Prop} : ∀ (E : String) (σ' : cAS), rV v σ1 (.inr E) σ' → P E σ' := fun E σ' h => nomatch h.1
theorem WP.cS1 (lk : cKS (mY M).cls index M' n) (hC : Ctr Γ (f', lo', mc', ms') M' av σ (rV (some x) σ1)) (hn : av.length = n) (hr : f' + 1 ≤ f ∧ 8 + (mL M' + 11) + lo' ≤ lo) (hmc : mc2 + mc' ≤ mc) (hms : ms2 + ms' ≤ ms) (hst : (rest.map fun v => v.category).sum ≤ 8) (hstk : stk = av.reverse ++ rest) (d : decode (mC M) pc = .ok (.invokestatic index, 3)) (k : WP Γ (f, lo, mc2, ms2) M Φ (pc + 3) L (x :: rest) σ1) : WP Γ (f, lo, mc, ms) M Φ pc L stk σ :=
  WP.callS lk hC hn hr hmc hms hst hstk d (fun v σ' h => by obtain ⟨h1, rfl⟩ := h; cases h1; exact k) rV_out
theorem WP.cS0 (lk : cKS (mY M).cls index M' n) (hC : Ctr Γ (f', lo', mc', ms') M' av σ (rV none σ1)) (hn : av.length = n) (hr : f' + 1 ≤ f ∧ 8 + (mL M' + 11) + lo' ≤ lo) (hmc : mc2 + mc' ≤ mc) (hms : ms2 + ms' ≤ ms) (hst : (rest.map fun v => v.category).sum ≤ 8) (hstk : stk = av.reverse ++ rest) (d : decode (mC M) pc = .ok (.invokestatic index, 3)) (k : WP Γ (f, lo, mc2, ms2) M Φ (pc + 3) L rest σ1) : WP Γ (f, lo, mc, ms) M Φ pc L stk σ :=
  WP.callS lk hC hn hr hmc hms hst hstk d (fun v σ' h => by obtain ⟨h1, rfl⟩ := h; cases h1; exact k) rV_out
theorem WP.cN1 {host : String} (lk : cKSN (mY M).cls host index M' n) (hC : Ctr Γ (f', lo', mc', ms') M' av σ (rV (some x) σ1)) (hn : av.length = n) (hr : f' + 1 ≤ f ∧ 8 + (mL M' + 11) + lo' ≤ lo) (hmc : mc2 + mc' ≤ mc) (hms : ms2 + ms' ≤ ms) (hst : (rest.map fun v => v.category).sum ≤ 8) (hstk : stk = av.reverse ++ rest) (d : decode (mC M) pc = .ok (.invokestatic index, 3)) (k : WP Γ (f, lo, mc2, ms2) M Φ (pc + 3) L (x :: rest) σ1) : WP Γ (f, lo, mc, ms) M Φ pc L stk σ :=
  WP.callSN lk hC hn hr hmc hms hst hstk d (fun v σ' h => by obtain ⟨h1, rfl⟩ := h; cases h1; exact k) rV_out
theorem WP.cN0 {host : String} (lk : cKSN (mY M).cls host index M' n) (hC : Ctr Γ (f', lo', mc', ms') M' av σ (rV none σ1)) (hn : av.length = n) (hr : f' + 1 ≤ f ∧ 8 + (mL M' + 11) + lo' ≤ lo) (hmc : mc2 + mc' ≤ mc) (hms : ms2 + ms' ≤ ms) (hst : (rest.map fun v => v.category).sum ≤ 8) (hstk : stk = av.reverse ++ rest) (d : decode (mC M) pc = .ok (.invokestatic index, 3)) (k : WP Γ (f, lo, mc2, ms2) M Φ (pc + 3) L rest σ1) : WP Γ (f, lo, mc, ms) M Φ pc L stk σ :=
  WP.callSN lk hC hn hr hmc hms hst hstk d (fun v σ' h => by obtain ⟨h1, rfl⟩ := h; cases h1; exact k) rV_out
theorem WP.cV1 {b ci k0 : Nat} (lk : cKV (mY M).cls index M' n) (hC : Ctr Γ (f', lo', mc', ms') M' (.ref b :: av) σ (rV (some x) σ1)) (hci : ci < 10 ∨ ci = 15 ∨ ci = 16) (hcl : (mY M').cls = (cCl ci).1) (ht : aT σ b = (ci + 1, k0)) (hn : av.length = n) (hr : f' + 1 ≤ f ∧ 8 + (mL M' + 11) + lo' ≤ lo) (hmc : mc2 + mc' ≤ mc) (hms : ms2 + ms' ≤ ms) (hst : (rest.map fun v => v.category).sum ≤ 8) (hstk : stk = av.reverse ++ .ref b :: rest) (d : decode (mC M) pc = .ok (.invokevirtual index, 3)) (k : WP Γ (f, lo, mc2, ms2) M Φ (pc + 3) L (x :: rest) σ1) : WP Γ (f, lo, mc, ms) M Φ pc L stk σ :=
  WP.callV lk hC hci hcl ht hn hr hmc hms hst hstk d (fun v σ' h => by obtain ⟨h1, rfl⟩ := h; cases h1; exact k) rV_out
theorem WP.cV0 {b ci k0 : Nat} (lk : cKV (mY M).cls index M' n) (hC : Ctr Γ (f', lo', mc', ms') M' (.ref b :: av) σ (rV none σ1)) (hci : ci < 10 ∨ ci = 15 ∨ ci = 16) (hcl : (mY M').cls = (cCl ci).1) (ht : aT σ b = (ci + 1, k0)) (hn : av.length = n) (hr : f' + 1 ≤ f ∧ 8 + (mL M' + 11) + lo' ≤ lo) (hmc : mc2 + mc' ≤ mc) (hms : ms2 + ms' ≤ ms) (hst : (rest.map fun v => v.category).sum ≤ 8) (hstk : stk = av.reverse ++ .ref b :: rest) (d : decode (mC M) pc = .ok (.invokevirtual index, 3)) (k : WP Γ (f, lo, mc2, ms2) M Φ (pc + 3) L rest σ1) : WP Γ (f, lo, mc, ms) M Φ pc L stk σ :=
  WP.callV lk hC hci hcl ht hn hr hmc hms hst hstk d (fun v σ' h => by obtain ⟨h1, rfl⟩ := h; cases h1; exact k) rV_out
end CALL
theorem WP.drop (k : Nat) (kk : WP Γ r M Φ pc (L.set k none) st σ) : WP Γ r M Φ pc L st σ := WP.forget (by simp) (fun i v h => by
  rw [List.getElem?_set] at h
  split at h
  · split at h <;> cases h
  · exact h) kk
theorem Ctr.go {av : List Value} (hh : mH M = []) (hpl : plainName (mY M).cls = true) (hav : Nat.ble av.length (mL M) = true) (hcat : cLc (av.map some) = true) (k : WP Γ r M Φ 0 (av.map some ++ List.replicate (mL M - av.length) none) [] σ) : Ctr Γ r M av σ Φ :=
  Ctr.of hh hpl (Nat.le_of_ble_eq_true hav) (fun v hv => by
    obtain ⟨j, hj⟩ := List.getElem?_of_mem hv
    exact cLc_at hcat (j := j) (by rw [List.getElem?_map, hj]; rfl)) k
-- calls that say of the ints what holds behind them
def rW (σ : cAS) (P : (Nat → Nat → Int32) → Prop) : cRes → cAS → Prop := fun r σ' => r = .inl none ∧ ∃ I, σ' = wI σ I ∧ P I
def rP (σ : cAS) (P : Int32 → (Nat → Nat → Int32) → Prop) : cRes → cAS → Prop := fun r σ' => ∃ x I, r = .inl (some (.int x)) ∧ σ' = wI σ I ∧ P x I
theorem rW_out {σ : cAS} {Q : (Nat → Nat → Int32) → Prop} {P : String → cAS → Prop} : ∀ (E : String) (σ' : cAS), rW σ Q (.inr E) σ' → P E σ' := fun E σ' h => nomatch h.1
theorem rP_out {σ : cAS} {Q : Int32 → (Nat → Nat → Int32) → Prop} {P : String → cAS → Prop} : ∀ (E : String) (σ' : cAS), rP σ Q (.inr E) σ' → P E σ' := fun E σ' h => by
  obtain ⟨x, I, h, -⟩ := h
  nomatch h
section CALW
variable {f lo mc ms mc2 ms2 f' lo' mc' ms' n index : Nat} {M' : cM} {av rest stk : List Value} {σ σ0 : cAS} {Q0 : (Nat → Nat → Int32) → Prop} {Q1 : Int32 → (Nat → Nat → Int32) → Prop}
theorem WP.cSw (lk : cKS (mY M).cls index M' n) (hC : Ctr Γ (f', lo', mc', ms') M' av σ (rW σ0 Q0)) (hn : av.length = n) (hr : f' + 1 ≤ f ∧ 8 + (mL M' + 11) + lo' ≤ lo) (hmc : mc2 + mc' ≤ mc) (hms : ms2 + ms' ≤ ms) (hst : (rest.map fun v => v.category).sum ≤ 8) (hstk : stk = av.reverse ++ rest) (d : decode (mC M) pc = .ok (.invokestatic index, 3)) (k : ∀ I', Q0 I' → WP Γ (f, lo, mc2, ms2) M Φ (pc + 3) L rest (wI σ0 I')) : WP Γ (f, lo, mc, ms) M Φ pc L stk σ :=
  WP.callS lk hC hn hr hmc hms hst hstk d (fun v σ' h => by obtain ⟨h1, I', rfl, h2⟩ := h; cases h1; exact k I' h2) rW_out
theorem WP.cSp (lk : cKS (mY M).cls index M' n) (hC : Ctr Γ (f', lo', mc', ms') M' av σ (rP σ0 Q1)) (hn : av.length = n) (hr : f' + 1 ≤ f ∧ 8 + (mL M' + 11) + lo' ≤ lo) (hmc : mc2 + mc' ≤ mc) (hms : ms2 + ms' ≤ ms) (hst : (rest.map fun v => v.category).sum ≤ 8) (hstk : stk = av.reverse ++ rest) (d : decode (mC M) pc = .ok (.invokestatic index, 3)) (k : ∀ x I', Q1 x I' → WP Γ (f, lo, mc2, ms2) M Φ (pc + 3) L (.int x :: rest) (wI σ0 I')) : WP Γ (f, lo, mc, ms) M Φ pc L stk σ :=
  WP.callS lk hC hn hr hmc hms hst hstk d (fun v σ' h => by obtain ⟨x, I', h1, rfl, h2⟩ := h; cases h1; exact k x I' h2) rP_out
theorem WP.cNw {host : String} (lk : cKSN (mY M).cls host index M' n) (hC : Ctr Γ (f', lo', mc', ms') M' av σ (rW σ0 Q0)) (hn : av.length = n) (hr : f' + 1 ≤ f ∧ 8 + (mL M' + 11) + lo' ≤ lo) (hmc : mc2 + mc' ≤ mc) (hms : ms2 + ms' ≤ ms) (hst : (rest.map fun v => v.category).sum ≤ 8) (hstk : stk = av.reverse ++ rest) (d : decode (mC M) pc = .ok (.invokestatic index, 3)) (k : ∀ I', Q0 I' → WP Γ (f, lo, mc2, ms2) M Φ (pc + 3) L rest (wI σ0 I')) : WP Γ (f, lo, mc, ms) M Φ pc L stk σ :=
  WP.callSN lk hC hn hr hmc hms hst hstk d (fun v σ' h => by obtain ⟨h1, I', rfl, h2⟩ := h; cases h1; exact k I' h2) rW_out
theorem WP.cNp {host : String} (lk : cKSN (mY M).cls host index M' n) (hC : Ctr Γ (f', lo', mc', ms') M' av σ (rP σ0 Q1)) (hn : av.length = n) (hr : f' + 1 ≤ f ∧ 8 + (mL M' + 11) + lo' ≤ lo) (hmc : mc2 + mc' ≤ mc) (hms : ms2 + ms' ≤ ms) (hst : (rest.map fun v => v.category).sum ≤ 8) (hstk : stk = av.reverse ++ rest) (d : decode (mC M) pc = .ok (.invokestatic index, 3)) (k : ∀ x I', Q1 x I' → WP Γ (f, lo, mc2, ms2) M Φ (pc + 3) L (.int x :: rest) (wI σ0 I')) : WP Γ (f, lo, mc, ms) M Φ pc L stk σ :=
  WP.callSN lk hC hn hr hmc hms hst hstk d (fun v σ' h => by obtain ⟨x, I', h1, rfl, h2⟩ := h; cases h1; exact k x I' h2) rP_out
theorem WP.cVw {b ci k0 : Nat} (lk : cKV (mY M).cls index M' n) (hC : Ctr Γ (f', lo', mc', ms') M' (.ref b :: av) σ (rW σ0 Q0)) (hci : ci < 10 ∨ ci = 15 ∨ ci = 16) (hcl : (mY M').cls = (cCl ci).1) (ht : aT σ b = (ci + 1, k0)) (hn : av.length = n) (hr : f' + 1 ≤ f ∧ 8 + (mL M' + 11) + lo' ≤ lo) (hmc : mc2 + mc' ≤ mc) (hms : ms2 + ms' ≤ ms) (hst : (rest.map fun v => v.category).sum ≤ 8) (hstk : stk = av.reverse ++ .ref b :: rest) (d : decode (mC M) pc = .ok (.invokevirtual index, 3)) (k : ∀ I', Q0 I' → WP Γ (f, lo, mc2, ms2) M Φ (pc + 3) L rest (wI σ0 I')) : WP Γ (f, lo, mc, ms) M Φ pc L stk σ :=
  WP.callV lk hC hci hcl ht hn hr hmc hms hst hstk d (fun v σ' h => by obtain ⟨h1, I', rfl, h2⟩ := h; cases h1; exact k I' h2) rW_out
theorem WP.cVp {b ci k0 : Nat} (lk : cKV (mY M).cls index M' n) (hC : Ctr Γ (f', lo', mc', ms') M' (.ref b :: av) σ (rP σ0 Q1)) (hci : ci < 10 ∨ ci = 15 ∨ ci = 16) (hcl : (mY M').cls = (cCl ci).1) (ht : aT σ b = (ci + 1, k0)) (hn : av.length = n) (hr : f' + 1 ≤ f ∧ 8 + (mL M' + 11) + lo' ≤ lo) (hmc : mc2 + mc' ≤ mc) (hms : ms2 + ms' ≤ ms) (hst : (rest.map fun v => v.category).sum ≤ 8) (hstk : stk = av.reverse ++ .ref b :: rest) (d : decode (mC M) pc = .ok (.invokevirtual index, 3)) (k : ∀ x I', Q1 x I' → WP Γ (f, lo, mc2, ms2) M Φ (pc + 3) L (.int x :: rest) (wI σ0 I')) : WP Γ (f, lo, mc, ms) M Φ pc L stk σ :=
  WP.callV lk hC hci hcl ht hn hr hmc hms hst hstk d (fun v σ' h => by obtain ⟨x, I', h1, rfl, h2⟩ := h; cases h1; exact k x I' h2) rP_out
end CALW
end CQ
