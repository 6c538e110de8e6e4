section CHP
variable {Γ : cG} {r : cRm} {M : cM} {Φ : cRes → cAS → Prop} {pc : Nat} {L : List (Option Value)} {st : List Value} {σ : cAS}
-- handlers (the law's own methods), switches
def cKSH (own : String) (index : Nat) (M' : cM) (n : Nat) : Prop := cWd M' ∈ cALL ∧ Cond.methodLink own index (mY M') ∈ cALL ∧ Cond.static (mY M') ∈ cALL ∧ Cond.initialized (mY M').cls ∈ cALL ∧ cDe (mY M') n
theorem cGood2 {ws : List Cond} (h : ∀ w ∈ ws, w ∈ cALL) : GoodIn cALL ws := fun w hw => ⟨h w hw, good_of_word (List.mem_filter.mp (h w hw)).2⟩
theorem WP.callSH {f lo mc ms mc2 ms2 f' lo' mc' ms' n index : Nat} {M' : cM} {av rest stk : List Value} {Φc : cRes → cAS → Prop} (hne : mH M' ≠ []) (lk : cKSH (mY M).cls index M' n) (hC : Ctr Γ (f', lo', mc', ms') M' av σ Φc) (hn : av.length = n) (hr : f' + 1 ≤ f ∧ 8 + (mL M' + 11) + lo' ≤ lo) (hmc : mc2 + mc' ≤ mc) (hms : ms2 + ms' ≤ ms) (hst : (rest.map fun v => v.category).sum ≤ 8) (hstk : stk = av.reverse ++ rest) (d : decode (mC M) pc = .ok (.invokestatic index, 3))
    (kr : ∀ v σ', Φc (.inl v) σ' → WP Γ (f, lo, mc2, ms2) M Φ (pc + 3) L (v.toList ++ rest) σ') (kx : ∀ E σ', Φc (.inr E) σ' → WX Γ (f, lo, mc2, ms2) M Φ pc L E σ') : WP Γ (f, lo, mc, ms) M Φ pc L stk σ := by
  intro p e R s m args below meth c H locs cells slots ls hO hS
  obtain ⟨h1, h2, h3, h4, h5⟩ := lk
  have hw : cWd M' :: cALL = .codeWith (mY M') (mC M') (mL M') (mR M') (mH M') :: cALL := by
    unfold cWd
    rw [if_neg hne]
  have ha := hS.1
  dsimp only at ha
  have hg : GoodIn cALL (va_wsS (mY M).cls index (mY M') (cWd M' :: cALL)) := cGood2 (fun w hw => by
    unfold va_wsS at hw
    rcases List.mem_append.mp hw with hw | hw
    · rcases List.mem_cons.mp hw with rfl | hw
      · exact h2
      · rcases List.mem_cons.mp hw with rfl | hw
        · exact h3
        · rcases List.mem_cons.mp hw with rfl | hw
          · exact h4
          · cases hw
    · rcases List.mem_cons.mp hw with rfl | hw
      · exact h1
      · exact hw)
  have cb := vx_cwSW (R := R) (s := s) (args := args) (rm := cRo (f', lo', mc', ms')) n (cHts hO) hg hw rfl rfl h5 ⟨by show f' + 1 ≤ R.frames; omega, by show 8 + (mL M' + 11) + lo' ≤ R.locals; omega⟩
  exact cRun hO hS hmc hms (vx_runSX (As := av) (rest := rest) (cFix hO) hC cb (cPre hO.w hS.2.1) rfl hn (hS.2.2.2.1.1) hstk (by show 2 * 0 + _ ≤ 8; omega) d ⟨by omega, by omega⟩) kr kx
theorem WX.catch {E name : String} (pre : List ExceptionTableEntry) (x : ExceptionTableEntry) (suf : List ExceptionTableEntry) (hsplit : tableOf (mH M) = pre ++ x :: suf) (hpass : ∀ z ∈ pre, z.catchType ≠ 0 ∧ ∃ nm : String, Cond.classLink (mY M).cls z.catchType nm ∈ cALL ∧ (E, nm) ∈ cNC) (hx : covers x pc = true) (h0 : x.catchType ≠ 0) (hlink : Cond.classLink (mY M).cls x.catchType name ∈ cALL) (hcast : Cond.castable E name ∈ cNW) (k : ∀ q : Nat, WP Γ r M Φ x.handlerPc L [.ref q] σ) : WX Γ r M Φ pc L E σ := by
  intro p e R s m args below meth c H locs cells slots ls st q ce hO hS hce hcv hcl
  exact vx_catch hO.2.2.2.1 pre x suf (hO.2.2.2.2.2.2.2.2.2.1.trans hsplit) (fun z hz => Or.inr ⟨(hpass z hz).1, by
    obtain ⟨-, nm, a, b⟩ := hpass z hz
    exact ⟨nm, cHts hO _ a, hO.w.2.2.2.2.2.2.2.2.1 _ b⟩⟩) hx h0 (cHts hO _ hlink) (va_Nw.use rfl (hO.w.2.2.1 _ hcast)) hce hcv hcl (k q p e R s m args below meth c H locs cells slots ls hO hS)
theorem WP.tableIn {dflt lo hi : Int} {offs : Array Int} {len : Nat} {x : Int32} {off : Int} {tgt : Nat} (d : decode (mC M) pc = .ok (.tableswitch dflt lo hi offs, len)) (h1 : ¬ x.toInt < lo) (h2 : ¬ hi < x.toInt) (ho : offs[(x.toInt - lo).toNat]? = some off) (ht : (pc : Int) + off = (tgt : Int)) (k : WP Γ r M Φ tgt L st σ) : WP Γ r M Φ pc L (.int x :: st) σ := by
  intro p e R s m args below meth c H locs cells slots ls hO hS
  exact lv_tableIn hO.1 hO.2.1 d h1 h2 ho ht (k p e R s m args below meth c H locs cells slots ls hO hS)
theorem WP.tableOut {dflt lo hi : Int} {offs : Array Int} {len : Nat} {x : Int32} {tgt : Nat} (d : decode (mC M) pc = .ok (.tableswitch dflt lo hi offs, len)) (h : x.toInt < lo ∨ hi < x.toInt) (ht : (pc : Int) + dflt = (tgt : Int)) (k : WP Γ r M Φ tgt L st σ) : WP Γ r M Φ pc L (.int x :: st) σ := by
  intro p e R s m args below meth c H locs cells slots ls hO hS
  exact lv_tableOut hO.1 hO.2.1 d h ht (k p e R s m args below meth c H locs cells slots ls hO hS)
theorem Ctr.ofH {av : List Value} (hh : mH M ≠ []) (hpl : plainName (mY M).cls = true) (hav : av.length ≤ mL M) (hcat : ∀ v ∈ av, v.category = 1) (k : WP Γ r M Φ 0 (av.map some ++ List.replicate (mL M - av.length) none) [] σ) : Ctr Γ r M av σ Φ := by
  have hw : cWd M = .codeWith (mY M) (mC M) (mL M) (mR M) (mH M) := by
    unfold cWd
    rw [if_neg hh]
  refine vx_ofWH (cc := mC M) (maxL := mL M) (ret := mR M) (hh := mH M) (ws' := cALL) hpl (by rw [hw]) ?_
  intro p e s m args below meth c s₁ B hml hv
  obtain ⟨rfl, hW, hR⟩ := hv
  have hts := atoms_spec (ws := cWd M :: cALL) B.pre
  have htb := vx_table (x := mY M) B (hw ▸ hts _ List.mem_cons_self)
  have hlen : (lg_sl av).length = av.length := by
      unfold lg_sl
      clear k hav hR hts B htb
      induction av with
      | nil => rfl
      | cons v t ih =>
        rw [List.flatMap_cons, List.length_append, ih (fun w hw => hcat w (List.mem_cons_of_mem _ hw)), if_neg (by rw [hcat v List.mem_cons_self]; decide)]
        simp; omega
  have hl := lv_entry av (n := mL M) (by omega)
  rw [lg_entry_eq]
  generalize (lg_sl av ++ List.replicate (mL M - (lg_sl av).length) Slot.unset).toArray = ls at hl ⊢
  refine k p e _ s m _ below meth c s.heap [] 0 0 ls ⟨B.exec, B.bytes, hml, findClass_of_methodNamed B.named, fun w hw => hts w (List.mem_cons_of_mem _ hw), B.notSynchronized, B.returns, (name_of_methodNamed B.named B.method).1, hW, htb, hR.1, hR.2.1⟩ ⟨⟨Nat.le_refl _, Nat.le_refl _, by show 0 + r.2.2.1 ≤ r.2.2.1; omega, by show 0 + r.2.2.2 ≤ r.2.2.2; omega⟩, hR, Nat.le_refl _, ⟨hl.1, hl.2.1, by simp; omega, fun i v hi => ?_⟩, fun z hz => by cases hz⟩
  have hi' : i < av.length := by
    rcases Nat.lt_or_ge i av.length with h | h
    · exact h
    · rw [List.getElem?_append_right (by simpa using h), List.getElem?_replicate] at hi
      split at hi <;> cases hi
  rw [List.getElem?_append_left (by simpa using hi'), List.getElem?_map, Option.map_eq_some_iff] at hi
  obtain ⟨w, hw, he⟩ := hi
  cases he
  refine hl.2.2 (i, v) ?_
  clear k hav hR hts B hl htb hlen
  have key : ∀ (n : Nat) (l : List Value), (∀ v ∈ l, v.category = 1) → ∀ (j : Nat) (u : Value), l[j]? = some u → (n + j, u) ∈ lv_args n l := by
    intro n l
    induction l generalizing n with
    | nil => intro _ j u h; simp at h
    | cons x t ih =>
      intro hc j u h
      unfold lv_args
      rw [if_neg (by rw [hc x List.mem_cons_self]; decide)]
      cases j with
      | zero => simp at h; subst h; exact List.mem_cons_self
      | succ j =>
        have := ih (n + 1) (fun w hw => hc w (List.mem_cons_of_mem _ hw)) j u (by simpa using h)
        rw [show n + (j + 1) = n + 1 + j by omega]
        exact List.mem_cons_of_mem _ this
  simpa using key 0 av hcat i v hw
end CHP
