section CHP
variable {Γ : cG} {r : cRm} {M : cM} {Φ : cRes → cAS → Prop} {pc : Nat} {L : List (Option Value)} {st : List Value} {σ : cAS}
-- calls, ends, entry
theorem cBlind {av : List Value} : FrameBlind (cPc Γ σ av) := fun a U g mk h => ⟨h.1, h.2.1.calling g mk a, h.2.2⟩
theorem cPre {H : Heap} {s : State} {av : List Value} (hW : cW Γ s) (hR : cRep Γ σ H) : PreS s H (cPc Γ σ av) av := ⟨cBlind, fun U hU hw => ⟨rfl, hW.warm hw, by rw [hU]; exact hR⟩⟩
theorem cAfter {R : Room} {s : State} {H H' : Heap} {locs L' : List Loc} {cells slots nL f lo mc ms mc2 ms2 mc' ms' : Nat} {ls : Array Slot} {σ' : cAS} (hS : cSt Γ (f, lo, mc, ms) nL L σ R s H locs cells slots ls) (hmc : mc2 + mc' ≤ mc) (hms : ms2 + ms' ≤ ms) (hR : cRep Γ σ' H') (hz : H.size ≤ H'.size) (hL : ∀ z ∈ L', gF Γ z.base) : cSt Γ (f, lo, mc2, ms2) nL L σ' R s H' (locs ++ L') (cells + mc') (slots + ms') ls := by
  obtain ⟨⟨a1, a2, a3, a4⟩, b, c, d, e⟩ := hS
  refine ⟨⟨a1, a2, by dsimp only at a3 ⊢; omega, by dsimp only at a4 ⊢; omega⟩, hR, by omega, d, fun z hz => ?_⟩
  rcases List.mem_append.mp hz with h | h
  · exact e z h
  · exact hL z h
/-- behind a call that returned or threw -/
theorem cRun {p : Program} {e : Env} {R : Room} {s : State} {m : MethodId} {args a : Array Value} {below : List Frame} {meth : Method} {c : Code} {H : Heap} {locs : List Loc} {cells slots f lo mc ms mc2 ms2 mc' ms' : Nat} {ls : Array Slot} {stk rest : List Value} {Φc : cRes → cAS → Prop}
    (hO : cOk Γ M p s m args meth c) (hS : cSt Γ (f, lo, mc, ms) (mL M) L σ R s H locs cells slots ls) (hmc : mc2 + mc' ≤ mc) (hms : ms2 + ms' ≤ ms)
    (hr : vx_Run p (gl Γ) e R s m args below meth c H locs cells slots mc' ms' (F0 m pc ls stk) rest (cQc Γ Φc a) (cXc Γ Φc) (gF Γ))
    (kr : ∀ v σ', Φc (.inl v) σ' → WP Γ (f, lo, mc2, ms2) M Φ (pc + 3) L (v.toList ++ rest) σ') (kx : ∀ E σ', Φc (.inr E) σ' → WX Γ (f, lo, mc2, ms2) M Φ pc L E σ') :
    W p (gl Γ) e R s m args below meth c H locs cells slots (vx_MQ below (cQc Γ Φ) (cXc Γ Φ) args s R.cells R.slots (gF Γ)) (F0 m pc ls stk) := by
  intro T hT X
  rcases hr T hT X with ⟨v, st₀, t, T', L', h0, X', hL, e1, e2, ⟨w, σ', hw, hΦ, hR, hz⟩, hgo⟩ | ⟨q, st₀, t, T', L', E, ce, h0, X', hL, e1, e2, ⟨σ', hΦ, hR, hz⟩, hce, hcv, hcl, hgo⟩
  · cases hw
    rw [h0, ← e1] at hz
    rw [← e1] at hR
    obtain ⟨t2, a1, b1⟩ := kr v σ' hΦ p e R s m args below meth c T'.heap _ _ _ ls hO (cAfter hS hmc hms hR hz hL) T' rfl X'
    exact ⟨t2, hgo t2 a1, b1⟩
  · rw [h0, ← e1] at hz
    rw [← e1] at hR hce
    obtain ⟨t2, a1, b1⟩ := kx E σ' hΦ p e R s m args below meth c T'.heap _ _ _ ls rest q ce hO (cAfter hS hmc hms hR hz hL) hce hcv hcl T' rfl X'
    exact ⟨t2, hgo.trans a1, b1⟩
def cDe (y : MethodName) (n : Nat) : Prop := y.cls ≠ "java/lang/invoke/MethodHandle" ∧ y.cls ≠ "java/lang/invoke/VarHandle" ∧ (parseMethodDescriptor y.desc).map (fun d => d.parameters.length) = some n
-- what the words say of a call: static, virtual, a constructor; by a link of one's own or of a nest mate's
def cKS (own : String) (index : Nat) (M' : cM) (n : Nat) : Prop := mH M' = [] ∧ cWd M' ∈ cALL ∧ Cond.methodLink own index (mY M') ∈ cALL ∧ Cond.static (mY M') ∈ cALL ∧ Cond.initialized (mY M').cls ∈ cALL ∧ cDe (mY M') n
def cKV (own : String) (index : Nat) (M' : cM) (n : Nat) : Prop := mH M' = [] ∧ cWd M' ∈ cALL ∧ Cond.methodLink own index (mY M') ∈ cALL ∧ Cond.instanceMethod (mY M') ∈ cALL ∧ Cond.selects (mY M').cls (mY M') (mY M') ∈ cALL ∧ Cond.initialized (mY M').cls ∈ cALL ∧ cDe (mY M') n
def cKI (own : String) (index : Nat) (M' : cM) (n : Nat) : Prop := mH M' = [] ∧ cWd M' ∈ cALL ∧ Cond.methodLink own index (mY M') ∈ cALL ∧ Cond.instanceMethod (mY M') ∈ cALL ∧ (mY M').name = "<init>" ∧ mR M' = none ∧ Cond.initialized (mY M').cls ∈ cALL ∧ cDe (mY M') n
def cKSN (own host : String) (index : Nat) (M' : cM) (n : Nat) : Prop := mH M' = [] ∧ cWd M' ∈ cALL ∧ Cond.methodLinkNest own index (mY M') host ∈ cNW ∧ Cond.static (mY M') ∈ cALL ∧ Cond.initialized (mY M').cls ∈ cALL ∧ cDe (mY M') n
def cKIN (own host : String) (index : Nat) (M' : cM) (n : Nat) : Prop := mH M' = [] ∧ cWd M' ∈ cALL ∧ Cond.methodLinkNest own index (mY M') host ∈ cNW ∧ Cond.instanceMethod (mY M') ∈ cALL ∧ (mY M').name = "<init>" ∧ mR M' = none ∧ Cond.initialized (mY M').cls ∈ cALL ∧ cDe (mY M') n
/-- inherited, overridden, or private of the superclass: x is named, M' is run, on an object of class C -/
def cKU (own : String) (index : Nat) (C : String) (x : MethodName) (M' : cM) (n : Nat) : Prop := mH M' = [] ∧ cWd M' ∈ cALL ∧ Cond.methodLink own index x ∈ cALL ∧ Cond.sameMethod x.cls x.cls x.name x.desc ∈ cALL ∧ Cond.instanceMethod x ∈ cALL ∧ (∃ b0 m0 r0, Cond.code x b0 m0 r0 ∈ cALL) ∧ Cond.selects C x (mY M') ∈ cALL ∧ Cond.instanceMethod (mY M') ∈ cALL ∧ Cond.initialized (mY M').cls ∈ cALL ∧ cDe x n
/-- super.m(..) -/
def cKP (own : String) (index : Nat) (M' : cM) (n : Nat) : Prop := mH M' = [] ∧ cWd M' ∈ cALL ∧ Cond.methodLink own index (mY M') ∈ cALL ∧ Cond.sameMethod (mY M').cls (mY M').cls (mY M').name (mY M').desc ∈ cALL ∧ Cond.superclass own (mY M').cls ∈ cALL ∧ Cond.instanceMethod (mY M') ∈ cALL ∧ Cond.initialized (mY M').cls ∈ cALL ∧ (mY M').name ≠ "<init>" ∧ cDe (mY M') n
theorem cFix {p : Program} {s : State} {m : MethodId} {args : Array Value} {meth : Method} {c : Code} (hO : cOk Γ M p s m args meth c) : CallFix p m c (mC M) (mL M) s args cALL (mY M).cls := ⟨hO.1, hO.2.1, hO.2.2.1, hO.2.2.2.1, cHts hO⟩
theorem cWd_code {M' : cM} (h : mH M' = []) : cWd M' = .code (mY M') (mC M') (mL M') (mR M') := by
  unfold cWd
  rw [if_pos h]
section CALL
variable {f lo mc ms mc2 ms2 f' lo' mc' ms' n index : Nat} {M' : cM} {av rest stk : List Value} {Φc : cRes → cAS → Prop}
theorem WP.callS (lk : cKS (mY M).cls index M' n) (hC : Ctr Γ (f', lo', mc', ms') M' av σ Φc) (hn : av.length = n) (hr : f' + 1 ≤ f ∧ 8 + (mL M' + 11) + lo' ≤ lo) (hmc : mc2 + mc' ≤ mc) (hms : ms2 + ms' ≤ ms) (hst : (rest.map fun v => v.category).sum ≤ 8) (hstk : stk = av.reverse ++ rest) (d : decode (mC M) pc = .ok (.invokestatic index, 3))
    (kr : ∀ v σ', Φc (.inl v) σ' → WP Γ (f, lo, mc2, ms2) M Φ (pc + 3) L (v.toList ++ rest) σ') (kx : ∀ E σ', Φc (.inr E) σ' → WX Γ (f, lo, mc2, ms2) M Φ pc L E σ') : WP Γ (f, lo, mc, ms) M Φ pc L stk σ := by
  intro p e R s m args below meth c H locs cells slots ls hO hS
  obtain ⟨h0, h1, h2, h3, h4, h5⟩ := lk
  have hw : cWd M' :: cALL = .code (mY M') (mC M') (mL M') (mR M') :: cALL := by rw [cWd_code h0]
  have ha := hS.1
  dsimp only at ha
  have cb := callB_of (R := R) (s := s) (args := args) (own := (mY M).cls) (index := index) (rm := cRo (f', lo', mc', ms')) n (cHts hO) (cGood h1) hw rfl rfl (cHts hO _ h4) (cHts hO _ h2) h5 ⟨by show f' + 1 ≤ R.frames; omega, by show 8 + (mL M' + 11) + lo' ≤ R.locals; omega⟩
  exact cRun hO hS hmc hms (vx_runS (As := av) (rest := rest) (cFix hO) hC ⟨cb, cHts hO _ h3⟩ (cPre hO.w hS.2.1) rfl hn (hS.2.2.2.1.1) hstk (by show 2 * 0 + _ ≤ 8; omega) d ⟨by omega, by omega⟩) kr kx
theorem WP.callSN {host : String} (lk : cKSN (mY M).cls host index M' n) (hC : Ctr Γ (f', lo', mc', ms') M' av σ Φc) (hn : av.length = n) (hr : f' + 1 ≤ f ∧ 8 + (mL M' + 11) + lo' ≤ lo) (hmc : mc2 + mc' ≤ mc) (hms : ms2 + ms' ≤ ms) (hst : (rest.map fun v => v.category).sum ≤ 8) (hstk : stk = av.reverse ++ rest) (d : decode (mC M) pc = .ok (.invokestatic index, 3))
    (kr : ∀ v σ', Φc (.inl v) σ' → WP Γ (f, lo, mc2, ms2) M Φ (pc + 3) L (v.toList ++ rest) σ') (kx : ∀ E σ', Φc (.inr E) σ' → WX Γ (f, lo, mc2, ms2) M Φ pc L E σ') : WP Γ (f, lo, mc, ms) M Φ pc L stk σ := by
  intro p e R s m args below meth c H locs cells slots ls hO hS
  obtain ⟨h0, h1, h2, h3, h4, h5⟩ := lk
  have hw : cWd M' :: cALL = .code (mY M') (mC M') (mL M') (mR M') :: cALL := by rw [cWd_code h0]
  have ha := hS.1
  dsimp only at ha
  have cb := va_cnB (R := R) (s := s) (args := args) (own := (mY M).cls) (index := index) (rm := cRo (f', lo', mc', ms')) n (cHts hO) (cGood h1) hw rfl rfl (hO.w.2.2.1 _ h2) (cHts hO _ h4) h5 ⟨by show f' + 1 ≤ R.frames; omega, by show 8 + (mL M' + 11) + lo' ≤ R.locals; omega⟩
  exact cRun hO hS hmc hms (vx_runSN (As := av) (rest := rest) (cFix hO) hC ⟨cb, cHts hO _ h3, trivial⟩ (cPre hO.w hS.2.1) rfl hn (hS.2.2.2.1.1) hstk (by show 2 * 0 + _ ≤ 8; omega) d ⟨by omega, by omega⟩) kr kx
theorem cRecv {H : Heap} {s : State} {b ci k : Nat} (hW : cW Γ s) (hR : cRep Γ σ H) (hci : ci < 10 ∨ ci = 15 ∨ ci = 16) (ht : aT σ b = (ci + 1, k)) : ∃ cellB : Cell, H[b]? = some cellB ∧ cellB.vm.isStatics = false ∧ s.vm.findClass (cCl ci).1 = some cellB.cls := by
  obtain ⟨-, cell, q1, q2, q3, -⟩ := hR.obj hci ht
  exact ⟨cell, q1, by rw [q3]; rfl, by rw [q2]; exact (hW.1 ci _ (cCl_at ci hci)).2.1⟩
theorem WP.callV {b ci k : Nat} (lk : cKV (mY M).cls index M' n) (hC : Ctr Γ (f', lo', mc', ms') M' (.ref b :: av) σ Φc) (hci : ci < 10 ∨ ci = 15 ∨ ci = 16) (hcl : (mY M').cls = (cCl ci).1) (ht : aT σ b = (ci + 1, k)) (hn : av.length = n) (hr : f' + 1 ≤ f ∧ 8 + (mL M' + 11) + lo' ≤ lo) (hmc : mc2 + mc' ≤ mc) (hms : ms2 + ms' ≤ ms) (hst : (rest.map fun v => v.category).sum ≤ 8) (hstk : stk = av.reverse ++ .ref b :: rest) (d : decode (mC M) pc = .ok (.invokevirtual index, 3))
    (kr : ∀ v σ', Φc (.inl v) σ' → WP Γ (f, lo, mc2, ms2) M Φ (pc + 3) L (v.toList ++ rest) σ') (kx : ∀ E σ', Φc (.inr E) σ' → WX Γ (f, lo, mc2, ms2) M Φ pc L E σ') : WP Γ (f, lo, mc, ms) M Φ pc L stk σ := by
  intro p e R s m args below meth c H locs cells slots ls hO hS
  obtain ⟨h0, h1, h2, h3, h4, h5, h6⟩ := lk
  have hw : cWd M' :: cALL = .code (mY M') (mC M') (mL M') (mR M') :: cALL := by rw [cWd_code h0]
  have ha := hS.1
  dsimp only at ha
  have cb := callB_of (R := R) (s := s) (args := args) (own := (mY M).cls) (index := index) (rm := cRo (f', lo', mc', ms')) n (cHts hO) (cGood h1) hw rfl rfl (cHts hO _ h5) (cHts hO _ h2) h6 ⟨by show f' + 1 ≤ R.frames; omega, by show 8 + (mL M' + 11) + lo' ≤ R.locals; omega⟩
  have hp : PreV s H (mY M').cls b (cPc Γ σ (.ref b :: av)) av := ⟨cBlind, by rw [hcl]; exact cRecv hO.w hS.2.1 hci ht, (cPre hO.w hS.2.1).2⟩
  exact cRun hO hS hmc hms (vx_runV (As := av) (rest := rest) (cFix hO) hC ⟨cb, cHts hO _ h3, cHts hO _ h4⟩ hp rfl hn (hS.2.2.2.1.1) hstk (by show 2 * 0 + _ ≤ 8; omega) d ⟨by omega, by omega⟩) kr kx
theorem WP.callU {b ci k : Nat} {C : String} {x : MethodName} (lk : cKU (mY M).cls index C x M' n) (hC : Ctr Γ (f', lo', mc', ms') M' (.ref b :: av) σ Φc) (hci : ci < 10 ∨ ci = 15 ∨ ci = 16) (hcl : C = (cCl ci).1) (ht : aT σ b = (ci + 1, k)) (hn : av.length = n) (hr : f' + 1 ≤ f ∧ 8 + (mL M' + 11) + lo' ≤ lo) (hmc : mc2 + mc' ≤ mc) (hms : ms2 + ms' ≤ ms) (hst : (rest.map fun v => v.category).sum ≤ 8) (hstk : stk = av.reverse ++ .ref b :: rest) (d : decode (mC M) pc = .ok (.invokevirtual index, 3))
    (kr : ∀ v σ', Φc (.inl v) σ' → WP Γ (f, lo, mc2, ms2) M Φ (pc + 3) L (v.toList ++ rest) σ') (kx : ∀ E σ', Φc (.inr E) σ' → WX Γ (f, lo, mc2, ms2) M Φ pc L E σ') : WP Γ (f, lo, mc, ms) M Φ pc L stk σ := by
  intro p e R s m args below meth c H locs cells slots ls hO hS
  obtain ⟨h0, h1, h2, h3, h4, ⟨b0, m0, r0, h5⟩, h6, h7, h8, h9, h10, h11⟩ := lk
  have hw : cWd M' :: cALL = .code (mY M') (mC M') (mL M') (mR M') :: cALL := by rw [cWd_code h0]
  have ha := hS.1
  dsimp only at ha
  have hg : GoodIn cALL (va_wsO (mY M).cls index C x.cls x (mY M') (cWd M' :: cALL)) := by
    have h1' : ∀ w ∈ va_wsO (mY M).cls index C x.cls x (mY M') (cWd M' :: cALL), w ∈ cALL := fun w hw => by
      unfold va_wsO at hw
      rcases List.mem_append.mp hw with hw | hw
      · simp only [List.mem_cons, List.not_mem_nil, or_false] at hw
        rcases hw with rfl | rfl | rfl | rfl | rfl | rfl
        · exact h2
        · exact h3
        · exact h4
        · exact h6
        · exact h7
        · exact h8
      · rcases List.mem_cons.mp hw with rfl | hw
        · exact h1
        · exact hw
    exact fun w hw => ⟨h1' w hw, good_of_word (List.mem_filter.mp (h1' w hw)).2⟩
  have cb := va_cwO (R := R) (s := s) (args := args) (rm := cRo (f', lo', mc', ms')) n (cHts hO) hg hw rfl rfl h5 ⟨h9, h10, h11⟩ ⟨by show f' + 1 ≤ R.frames; omega, by show 8 + (mL M' + 11) + lo' ≤ R.locals; omega⟩
  have hp : PreV s H C b (cPc Γ σ (.ref b :: av)) av := ⟨cBlind, by rw [hcl]; exact cRecv hO.w hS.2.1 hci ht, (cPre hO.w hS.2.1).2⟩
  exact cRun hO hS hmc hms (vx_runU (As := av) (rest := rest) (cFix hO) hC cb hp rfl hn (hS.2.2.2.1.1) hstk (by show 2 * 0 + _ ≤ 8; omega) d ⟨by omega, by omega⟩) kr kx
theorem WP.callP {b ci k : Nat} (lk : cKP (mY M).cls index M' n) (hC : Ctr Γ (f', lo', mc', ms') M' (.ref b :: av) σ Φc) (hci : ci < 10 ∨ ci = 15 ∨ ci = 16) (ht : aT σ b = (ci + 1, k)) (hn : av.length = n) (hr : f' + 1 ≤ f ∧ 8 + (mL M' + 11) + lo' ≤ lo) (hmc : mc2 + mc' ≤ mc) (hms : ms2 + ms' ≤ ms) (hst : (rest.map fun v => v.category).sum ≤ 8) (hstk : stk = av.reverse ++ .ref b :: rest) (d : decode (mC M) pc = .ok (.invokespecial index, 3))
    (kr : ∀ v σ', Φc (.inl v) σ' → WP Γ (f, lo, mc2, ms2) M Φ (pc + 3) L (v.toList ++ rest) σ') (kx : ∀ E σ', Φc (.inr E) σ' → WX Γ (f, lo, mc2, ms2) M Φ pc L E σ') : WP Γ (f, lo, mc, ms) M Φ pc L stk σ := by
  intro p e R s m args below meth c H locs cells slots ls hO hS
  obtain ⟨h0, h1, h2, h3, h4, h5, h6, h7, h8, h9, h10⟩ := lk
  have hw : cWd M' :: cALL = .code (mY M') (mC M') (mL M') (mR M') :: cALL := by rw [cWd_code h0]
  have ha := hS.1
  dsimp only at ha
  have hg : GoodIn cALL (va_wsSU (mY M).cls index (mY M') (cWd M' :: cALL)) := by
    have h1' : ∀ w ∈ va_wsSU (mY M).cls index (mY M') (cWd M' :: cALL), w ∈ cALL := fun w hw => by
      unfold va_wsSU at hw
      rcases List.mem_append.mp hw with hw | hw
      · simp only [List.mem_cons, List.not_mem_nil, or_false] at hw
        rcases hw with rfl | rfl | rfl | rfl | rfl
        · exact h2
        · exact h3
        · exact h4
        · exact h5
        · exact h6
      · rcases List.mem_cons.mp hw with rfl | hw
        · exact h1
        · exact hw
    exact fun w hw => ⟨h1' w hw, good_of_word (List.mem_filter.mp (h1' w hw)).2⟩
  have cb := va_cwSU (R := R) (s := s) (args := args) (rm := cRo (f', lo', mc', ms')) n (cHts hO) hg hw rfl rfl ⟨h7, h10⟩ ⟨by show f' + 1 ≤ R.frames; omega, by show 8 + (mL M' + 11) + lo' ≤ R.locals; omega⟩
  have hp : PreV s H (cCl ci).1 b (cPc Γ σ (.ref b :: av)) av := ⟨cBlind, cRecv hO.w hS.2.1 hci ht, (cPre hO.w hS.2.1).2⟩
  exact cRun hO hS hmc hms (vx_runSU (As := av) (rest := rest) (hO.w.1 ci _ (cCl_at ci hci)).2 (cFix hO) hC cb hp rfl hn (hS.2.2.2.1.1) hstk (by show 2 * 0 + _ ≤ 8; omega) d ⟨by omega, by omega⟩) kr kx
theorem WP.callI {b : Nat} (lk : cKI (mY M).cls index M' n) (hC : Ctr Γ (f', lo', mc', ms') M' (.ref b :: av) σ Φc) (hn : av.length = n) (hr : f' + 1 ≤ f ∧ 8 + (mL M' + 11) + lo' ≤ lo) (hmc : mc2 + mc' ≤ mc) (hms : ms2 + ms' ≤ ms) (hst : (rest.map fun v => v.category).sum ≤ 8) (hstk : stk = av.reverse ++ .ref b :: rest) (d : decode (mC M) pc = .ok (.invokespecial index, 3))
    (kr : ∀ v σ', Φc (.inl v) σ' → WP Γ (f, lo, mc2, ms2) M Φ (pc + 3) L (v.toList ++ rest) σ') (kx : ∀ E σ', Φc (.inr E) σ' → WX Γ (f, lo, mc2, ms2) M Φ pc L E σ') : WP Γ (f, lo, mc, ms) M Φ pc L stk σ := by
  intro p e R s m args below meth c H locs cells slots ls hO hS
  obtain ⟨h0, h1, h2, h3, h4, h5, h6, h7⟩ := lk
  have hw : cWd M' :: cALL = .code (mY M') (mC M') (mL M') none :: cALL := by rw [cWd_code h0, h5]
  have ha := hS.1
  dsimp only at ha
  have cb := callB_of (R := R) (s := s) (args := args) (own := (mY M).cls) (index := index) (rm := cRo (f', lo', mc', ms')) n (cHts hO) (cGood h1) hw rfl rfl (cHts hO _ h6) (cHts hO _ h2) h7 ⟨by show f' + 1 ≤ R.frames; omega, by show 8 + (mL M' + 11) + lo' ≤ R.locals; omega⟩
  exact cRun hO hS hmc hms (vx_runI (As := av) (rest := rest) (cFix hO) hC ⟨cb, h4, cHts hO _ h3⟩ (cPre hO.w hS.2.1) rfl hn (hS.2.2.2.1.1) hstk (by show 2 * 0 + _ ≤ 8; omega) d ⟨by omega, by omega⟩) kr kx
theorem WP.callIN {b : Nat} {host : String} (lk : cKIN (mY M).cls host index M' n) (hC : Ctr Γ (f', lo', mc', ms') M' (.ref b :: av) σ Φc) (hn : av.length = n) (hr : f' + 1 ≤ f ∧ 8 + (mL M' + 11) + lo' ≤ lo) (hmc : mc2 + mc' ≤ mc) (hms : ms2 + ms' ≤ ms) (hst : (rest.map fun v => v.category).sum ≤ 8) (hstk : stk = av.reverse ++ .ref b :: rest) (d : decode (mC M) pc = .ok (.invokespecial index, 3))
    (kr : ∀ v σ', Φc (.inl v) σ' → WP Γ (f, lo, mc2, ms2) M Φ (pc + 3) L (v.toList ++ rest) σ') (kx : ∀ E σ', Φc (.inr E) σ' → WX Γ (f, lo, mc2, ms2) M Φ pc L E σ') : WP Γ (f, lo, mc, ms) M Φ pc L stk σ := by
  intro p e R s m args below meth c H locs cells slots ls hO hS
  obtain ⟨h0, h1, h2, h3, h4, h5, h6, h7⟩ := lk
  have hw : cWd M' :: cALL = .code (mY M') (mC M') (mL M') none :: cALL := by rw [cWd_code h0, h5]
  have ha := hS.1
  dsimp only at ha
  have cb := va_cnB (R := R) (s := s) (args := args) (own := (mY M).cls) (index := index) (rm := cRo (f', lo', mc', ms')) n (cHts hO) (cGood h1) hw rfl rfl (hO.w.2.2.1 _ h2) (cHts hO _ h6) h7 ⟨by show f' + 1 ≤ R.frames; omega, by show 8 + (mL M' + 11) + lo' ≤ R.locals; omega⟩
  exact cRun hO hS hmc hms (vx_runIN (As := av) (rest := rest) (cFix hO) hC ⟨cb, h4, cHts hO _ h3⟩ (cPre hO.w hS.2.1) rfl hn (hS.2.2.2.1.1) hstk (by show 2 * 0 + _ ≤ 8; omega) d ⟨by omega, by omega⟩) kr kx
theorem WP.objInit {b : Nat} (h1 : Cond.methodLink (mY M).cls index Lib.objectInit ∈ cALL) (h2 : Cond.instanceMethod Lib.objectInit ∈ cALL) (h3 : Cond.code Lib.objectInit ⟨#[0xb1]⟩ 1 none ∈ cALL) (hf : 1 ≤ f) (hlo : (st.map fun v => v.category).sum + 12 ≤ lo) (d : decode (mC M) pc = .ok (.invokespecial index, 3)) (k : WP Γ (f, lo, mc, ms) M Φ (pc + 3) L st σ) : WP Γ (f, lo, mc, ms) M Φ pc L (.ref b :: st) σ := by
  intro p e R s m args below meth c H locs cells slots ls hO hS
  have ha := hS.1
  dsimp only at ha
  exact W.objInit hO.1 hO.2.1 hO.2.2.2.1 (cHts hO _ h1) (cHts hO _ h2) (cHts hO _ h3) rfl (hS.2.2.2.1.1.trans hO.2.2.1.symm) rfl d (by omega) (by show 2 * 0 + _ + 12 ≤ R.locals; omega) (k p e R s m args below meth c H locs cells slots ls hO hS)
end CALL
-- ends
theorem cEnd {p : Program} {s : State} {m : MethodId} {args : Array Value} {meth : Method} {c : Code} {R : Room} {H : Heap} {locs : List Loc} {cells slots : Nat} {ls : Array Slot} {v : Option Value} (hO : cOk Γ M p s m args meth c) (hS : cSt Γ r (mL M) L σ R s H locs cells slots ls) (h : Φ (.inl v) σ) : ∀ t : State, t.heap = H → s.WarmedH t.vm → cQc Γ Φ args s (.returned v) t := fun t ht _ => ⟨v, σ, rfl, h, by rw [ht]; exact hS.2.1, by rw [ht]; exact hS.2.2.1⟩
theorem WP.iret {x : Int32} (hr : mR M = some .int) (d : decode (mC M) pc = .ok (.ireturn, 1)) (h : Φ (.inl (some (.int x))) σ) : WP Γ r M Φ pc L [.int x] σ := by
  intro p e R s m args below meth c H locs cells slots ls hO hS
  have ha := hS.1
  exact vx_ret (W.widen (k := R.cells) (n := R.slots) (by omega) (by omega) (W.iret hO.1 hO.2.1 (hO.2.2.2.2.2.2.1.trans hr) (cEnd hO hS h) hS.2.2.2.2 d hO.2.2.2.2.2.1))
theorem WP.zret {x : Int32} {ty : FieldType} (hr : mR M = some ty) (hn : narrow ty (.int x) = .int x) (d : decode (mC M) pc = .ok (.ireturn, 1)) (h : Φ (.inl (some (.int x))) σ) : WP Γ r M Φ pc L [.int x] σ := by
  intro p e R s m args below meth c H locs cells slots ls hO hS
  have ha := hS.1
  exact vx_ret (W.widen (k := R.cells) (n := R.slots) (by omega) (by omega) (W.zret hO.1 hO.2.1 (hO.2.2.2.2.2.2.1.trans hr) hn (cEnd hO hS h) hS.2.2.2.2 d hO.2.2.2.2.2.1))
theorem WP.vret (hr : mR M = none) (d : decode (mC M) pc = .ok (.return_, 1)) (h : Φ (.inl none) σ) : WP Γ r M Φ pc L [] σ := by
  intro p e R s m args below meth c H locs cells slots ls hO hS
  have ha := hS.1
  exact vx_ret (W.widen (k := R.cells) (n := R.slots) (by omega) (by omega) (W.vret hO.1 hO.2.1 (hO.2.2.2.2.2.2.1.trans hr) (cEnd hO hS h) hS.2.2.2.2 d hO.2.2.2.2.2.1))
theorem WP.fret {x : UInt32} (hr : mR M = some .float) (d : decode (mC M) pc = .ok (.freturn, 1)) (h : Φ (.inl (some (.float x))) σ) : WP Γ r M Φ pc L [.float x] σ := by
  intro p e R s m args below meth c H locs cells slots ls hO hS
  have ha := hS.1
  exact vx_ret (W.widen (k := R.cells) (n := R.slots) (by omega) (by omega) (W.fret hO.1 hO.2.1 (hO.2.2.2.2.2.2.1.trans hr) (cEnd hO hS h) hS.2.2.2.2 d hO.2.2.2.2.2.1))
theorem WP.dret {x : UInt64} (hr : mR M = some .double) (d : decode (mC M) pc = .ok (.dreturn, 1)) (h : Φ (.inl (some (.double x))) σ) : WP Γ r M Φ pc L [.double x] σ := by
  intro p e R s m args below meth c H locs cells slots ls hO hS
  have ha := hS.1
  exact vx_ret (W.widen (k := R.cells) (n := R.slots) (by omega) (by omega) (W.dret hO.1 hO.2.1 (hO.2.2.2.2.2.2.1.trans hr) (cEnd hO hS h) hS.2.2.2.2 d hO.2.2.2.2.2.1))
theorem WP.aret {a : Nat} {ty : FieldType} (hr : mR M = some ty) (hrt : (∃ n, ty = .object n) ∨ ∃ t, ty = .array t) (d : decode (mC M) pc = .ok (.areturn, 1)) (h : Φ (.inl (some (.ref a))) σ) : WP Γ r M Φ pc L [.ref a] σ := by
  intro p e R s m args below meth c H locs cells slots ls hO hS
  have ha := hS.1
  exact vx_ret (W.widen (k := R.cells) (n := R.slots) (by omega) (by omega) (W.aret hO.1 hO.2.1 (hO.2.2.2.2.2.2.1.trans hr) hrt (Or.inr ⟨a, rfl⟩) (cEnd hO hS h) hS.2.2.2.2 d hO.2.2.2.2.2.1))
theorem WX.out {E : String} (hh : mH M = []) (h : Φ (.inr E) σ) : WX Γ r M Φ pc L E σ := by
  intro p e R s m args below meth c H locs cells slots ls st q ce hO hS hce hcv hcl
  have ha := hS.1
  refine vx_out (fun x hx => ?_) hO.2.2.2.2.2.1 hce hcv hcl (fun t ht _ => ⟨σ, h, by rw [ht]; exact hS.2.1, by rw [ht]; exact hS.2.2.1⟩) hS.2.2.2.2 (by omega) (by omega)
  rw [hO.2.2.2.2.2.2.2.2.2.1, hh] at hx
  cases hx
/-- the contract out of the walk of the body -/
theorem Ctr.of {av : List Value} (hh : mH M = []) (hpl : plainName (mY M).cls = true) (hav : av.length ≤ mL M) (hcat : ∀ v ∈ av, v.category = 1) (k : WP Γ r M Φ 0 (av.map some ++ List.replicate (mL M - av.length) none) [] σ) : Ctr Γ r M av σ Φ := by
  refine vx_ofW (cc := mC M) (maxL := mL M) (ret := mR M) (ws' := cALL) hpl (by rw [cWd_code hh]) ?_
  intro p e s m args below meth c s₁ B hml htb hv
  obtain ⟨rfl, hW, hR⟩ := hv
  have hts := atoms_spec (ws := cWd M :: cALL) B.pre
  have hl := lv_entry av (n := mL M) (by
    have : (lg_sl av).length = av.length := by
      unfold lg_sl
      clear k hav hR hts B
      induction av with
      | nil => rfl
      | cons v t ih =>
        rw [List.flatMap_cons, List.length_append, ih (fun w hw => hcat w (List.mem_cons_of_mem _ hw)), if_neg (by rw [hcat v List.mem_cons_self]; decide)]
        simp; omega
    omega)
  rw [lg_entry_eq]
  generalize (lg_sl av ++ List.replicate (mL M - (lg_sl av).length) Slot.unset).toArray = ls at hl ⊢
  refine k p e _ s m _ below meth c s.heap [] 0 0 ls ⟨B.exec, B.bytes, hml, findClass_of_methodNamed B.named, fun w hw => hts w (List.mem_cons_of_mem _ hw), B.notSynchronized, B.returns, (name_of_methodNamed B.named B.method).1, hW, ?_, hR.1, hR.2.1⟩ ⟨⟨Nat.le_refl _, Nat.le_refl _, by show 0 + r.2.2.1 ≤ r.2.2.1; omega, by show 0 + r.2.2.2 ≤ r.2.2.2; omega⟩, hR, Nat.le_refl _, ⟨hl.1, hl.2.1, by simp; omega, fun i v hi => ?_⟩, fun z hz => by cases hz⟩
  · rw [hh]
    cases h9 : c.exceptionTable.toList with
    | nil => rfl
    | cons x t => exact (htb x (by rw [h9]; exact List.mem_cons_self)).elim
  · have hi' : i < av.length := by
      rcases Nat.lt_or_ge i av.length with h | h
      · exact h
      · rw [List.getElem?_append_right (by simpa using h), List.getElem?_replicate] at hi
        split at hi <;> cases hi
    rw [List.getElem?_append_left (by simpa using hi'), List.getElem?_map, Option.map_eq_some_iff] at hi
    obtain ⟨w, hw, he⟩ := hi
    cases he
    refine hl.2.2 (i, v) ?_
    clear k hav hR hts B hl
    have key : ∀ (n : Nat) (l : List Value), (∀ v ∈ l, v.category = 1) → ∀ (j : Nat) (u : Value), l[j]? = some u → (n + j, u) ∈ lv_args n l := by
      intro n l
      induction l generalizing n with
      | nil => intro _ j u h; simp at h
      | cons x t ih =>
        intro hc j u h
        unfold lv_args
        rw [if_neg (by rw [hc x List.mem_cons_self]; decide)]
        cases j with
        | zero => simp at h; subst h; exact List.mem_cons_self
        | succ j =>
          have := ih (n + 1) (fun w hw => hc w (List.mem_cons_of_mem _ hw)) j u (by simpa using h)
          rw [show n + (j + 1) = n + 1 + j by omega]
          exact List.mem_cons_of_mem _ this
    simpa using key 0 av hcat i v hw
end CHP
