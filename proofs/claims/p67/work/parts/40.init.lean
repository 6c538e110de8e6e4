-- behind: 36
-- what is made
abbrev alR (σ : cAS) (a k kd n : Nat) : cAS := sR (sA σ kd n) a k (some (aN σ))
theorem sA_T {σ : cAS} {a kd n : Nat} {v : Nat × Nat} (h : aT σ a = v) (hl : a < aN σ) : aT (sA σ kd n) a = v := by
  rw [aT_sA, if_neg (Nat.ne_of_lt hl)]
  exact h
theorem al_T {σ : cAS} {a k kd n : Nat} {v : Nat × Nat} (h : aT σ a = v) (hl : a < aN σ) : aT (alR σ a k kd n) a = v := sA_T h hl
theorem al_L {σ : cAS} {a k kd n : Nat} (hl : a < aN σ) : a < aN (alR σ a k kd n) := Nat.lt_succ_of_lt hl
theorem sA_new {σ : cAS} {kd n : Nat} : aT (sA σ kd n) (aN σ) = (kd, n) := by rw [aT_sA, if_pos rfl]
theorem sA_newL {σ : cAS} {kd n : Nat} : aN σ < aN (sA σ kd n) := Nat.lt_succ_self _
section CALL
variable {Γ : cG} {M : cM} {Φ : cRes → cAS → Prop} {pc : Nat} {L : List (Option Value)}
variable {f lo mc ms mc2 ms2 f' lo' mc' ms' n index : Nat} {M' : cM} {av rest stk : List Value} {σ σ1 : cAS}
theorem WP.cI0 {b : Nat} (lk : cKI (mY M).cls index M' n) (hC : Ctr Γ (f', lo', mc', ms') M' (.ref b :: av) σ (rV none σ1)) (hn : av.length = n) (hr : f' + 1 ≤ f ∧ 8 + (mL M' + 11) + lo' ≤ lo) (hmc : mc2 + mc' ≤ mc) (hms : ms2 + ms' ≤ ms) (hst : (rest.map fun v => v.category).sum ≤ 8) (hstk : stk = av.reverse ++ .ref b :: rest) (d : decode (mC M) pc = .ok (.invokespecial index, 3)) (k : WP Γ (f, lo, mc2, ms2) M Φ (pc + 3) L rest σ1) : WP Γ (f, lo, mc, ms) M Φ pc L stk σ :=
  WP.callI lk hC hn hr hmc hms hst hstk d (fun v σ' h => by obtain ⟨h1, rfl⟩ := h; cases h1; exact k) rV_out
theorem WP.cIN0 {b : Nat} {host : String} (lk : cKIN (mY M).cls host index M' n) (hC : Ctr Γ (f', lo', mc', ms') M' (.ref b :: av) σ (rV none σ1)) (hn : av.length = n) (hr : f' + 1 ≤ f ∧ 8 + (mL M' + 11) + lo' ≤ lo) (hmc : mc2 + mc' ≤ mc) (hms : ms2 + ms' ≤ ms) (hst : (rest.map fun v => v.category).sum ≤ 8) (hstk : stk = av.reverse ++ .ref b :: rest) (d : decode (mC M) pc = .ok (.invokespecial index, 3)) (k : WP Γ (f, lo, mc2, ms2) M Φ (pc + 3) L rest σ1) : WP Γ (f, lo, mc, ms) M Φ pc L stk σ :=
  WP.callIN lk hC hn hr hmc hms hst hstk d (fun v σ' h => by obtain ⟨h1, rfl⟩ := h; cases h1; exact k) rV_out
end CALL
abbrev iBk (σ : cAS) (a : Nat) : cAS := alR (alR (alR (alR (alR (alR σ a 1 11 4) a 2 11 4) a 3 11 4) a 4 11 4) a 5 11 4) a 6 11 4
theorem CX1_init (Γ : cG) {σ : cAS} {a : Nat} (t0 : aT σ a = (2, 7)) (l0 : a < aN σ) : Ctr Γ (1, 20, 6, 24) MX1_init [.ref a] σ (rV none (iBk σ a)) := by
  refine Ctr.go rfl (by decide) rfl rfl ?_
  refine WP.aload_n (pc := 0) dX1_init_0 rfl ?_
  refine WP.objInit (pc := 1) oX1_3 oI oC (Nat.le_of_ble_eq_true rfl) (Nat.le_of_ble_eq_true rfl) dX1_init_1 ?_
  refine WP.aload_n (pc := 4) dX1_init_4 rfl ?_
  refine WP.iconst (pc := 5) (v := 4) dX1_init_5 (by decide) ?_
  refine WP.newarr (pc := 6) (kd := 11) (n := 4) (by decide) (by decide) rfl nA11 (by decide) (by decide) (by decide) dX1_init_6 ?_
  refine WP.putR (pc := 8) (k := 1) uX1 fX1_9 rfl rfl rfl rfl rfl (sA_T t0 l0) dX1_init_8 ?_
  have t1 := al_T (k := 1) (kd := 11) (n := 4) t0 l0
  have l1 := al_L (k := 1) (kd := 11) (n := 4) l0
  refine WP.aload_n (pc := 11) dX1_init_11 rfl ?_
  refine WP.iconst (pc := 12) (v := 4) dX1_init_12 (by decide) ?_
  refine WP.newarr (pc := 13) (kd := 11) (n := 4) (by decide) (by decide) rfl nA11 (by decide) (by decide) (by decide) dX1_init_13 ?_
  refine WP.putR (pc := 15) (k := 2) uX1 fX1_15 rfl rfl rfl rfl rfl (sA_T t1 l1) dX1_init_15 ?_
  have t2 := al_T (k := 2) (kd := 11) (n := 4) t1 l1
  have l2 := al_L (k := 2) (kd := 11) (n := 4) l1
  refine WP.aload_n (pc := 18) dX1_init_18 rfl ?_
  refine WP.iconst (pc := 19) (v := 4) dX1_init_19 (by decide) ?_
  refine WP.newarr (pc := 20) (kd := 11) (n := 4) (by decide) (by decide) rfl nA11 (by decide) (by decide) (by decide) dX1_init_20 ?_
  refine WP.putR (pc := 22) (k := 3) uX1 fX1_18 rfl rfl rfl rfl rfl (sA_T t2 l2) dX1_init_22 ?_
  have t3 := al_T (k := 3) (kd := 11) (n := 4) t2 l2
  have l3 := al_L (k := 3) (kd := 11) (n := 4) l2
  refine WP.aload_n (pc := 25) dX1_init_25 rfl ?_
  refine WP.iconst (pc := 26) (v := 4) dX1_init_26 (by decide) ?_
  refine WP.newarr (pc := 27) (kd := 11) (n := 4) (by decide) (by decide) rfl nA11 (by decide) (by decide) (by decide) dX1_init_27 ?_
  refine WP.putR (pc := 29) (k := 4) uX1 fX1_21 rfl rfl rfl rfl rfl (sA_T t3 l3) dX1_init_29 ?_
  have t4 := al_T (k := 4) (kd := 11) (n := 4) t3 l3
  have l4 := al_L (k := 4) (kd := 11) (n := 4) l3
  refine WP.aload_n (pc := 32) dX1_init_32 rfl ?_
  refine WP.iconst (pc := 33) (v := 4) dX1_init_33 (by decide) ?_
  refine WP.newarr (pc := 34) (kd := 11) (n := 4) (by decide) (by decide) rfl nA11 (by decide) (by decide) (by decide) dX1_init_34 ?_
  refine WP.putR (pc := 36) (k := 5) uX1 fX1_24 rfl rfl rfl rfl rfl (sA_T t4 l4) dX1_init_36 ?_
  have t5 := al_T (k := 5) (kd := 11) (n := 4) t4 l4
  have l5 := al_L (k := 5) (kd := 11) (n := 4) l4
  refine WP.aload_n (pc := 39) dX1_init_39 rfl ?_
  refine WP.iconst (pc := 40) (v := 4) dX1_init_40 (by decide) ?_
  refine WP.newarr (pc := 41) (kd := 11) (n := 4) (by decide) (by decide) rfl nA11 (by decide) (by decide) (by decide) dX1_init_41 ?_
  refine WP.putR (pc := 43) (k := 6) uX1 fX1_27 rfl rfl rfl rfl rfl (sA_T t5 l5) dX1_init_43 ?_
  have t6 := al_T (k := 6) (kd := 11) (n := 4) t5 l5
  have l6 := al_L (k := 6) (kd := 11) (n := 4) l5
  exact WP.vret (pc := 46) rfl dX1_init_46 ⟨rfl, rfl⟩
abbrev iSk (σ : cAS) (a : Nat) : cAS := alR (alR (alR σ a 1 11 60) a 2 11 60) a 3 11 60
theorem CX6_init (Γ : cG) {σ : cAS} {a : Nat} (t0 : aT σ a = (7, 4)) (l0 : a < aN σ) : Ctr Γ (1, 20, 3, 180) MX6_init [.ref a] σ (rV none (iSk σ a)) := by
  refine Ctr.go rfl (by decide) rfl rfl ?_
  refine WP.aload_n (pc := 0) dX6_init_0 rfl ?_
  refine WP.objInit (pc := 1) oX6_3 oI oC (Nat.le_of_ble_eq_true rfl) (Nat.le_of_ble_eq_true rfl) dX6_init_1 ?_
  refine WP.aload_n (pc := 4) dX6_init_4 rfl ?_
  refine WP.bipush (pc := 5) (v := 60) dX6_init_5 (by decide) ?_
  refine WP.newarr (pc := 7) (kd := 11) (n := 60) (by decide) (by decide) rfl nA11 (by decide) (by decide) (by decide) dX6_init_7 ?_
  refine WP.putR (pc := 9) (k := 1) uX6 fX6_9 rfl rfl rfl rfl rfl (sA_T t0 l0) dX6_init_9 ?_
  have t1 := al_T (k := 1) (kd := 11) (n := 60) t0 l0
  have l1 := al_L (k := 1) (kd := 11) (n := 60) l0
  refine WP.aload_n (pc := 12) dX6_init_12 rfl ?_
  refine WP.bipush (pc := 13) (v := 60) dX6_init_13 (by decide) ?_
  refine WP.newarr (pc := 15) (kd := 11) (n := 60) (by decide) (by decide) rfl nA11 (by decide) (by decide) (by decide) dX6_init_15 ?_
  refine WP.putR (pc := 17) (k := 2) uX6 fX6_15 rfl rfl rfl rfl rfl (sA_T t1 l1) dX6_init_17 ?_
  have t2 := al_T (k := 2) (kd := 11) (n := 60) t1 l1
  have l2 := al_L (k := 2) (kd := 11) (n := 60) l1
  refine WP.aload_n (pc := 20) dX6_init_20 rfl ?_
  refine WP.bipush (pc := 21) (v := 60) dX6_init_21 (by decide) ?_
  refine WP.newarr (pc := 23) (kd := 11) (n := 60) (by decide) (by decide) rfl nA11 (by decide) (by decide) (by decide) dX6_init_23 ?_
  refine WP.putR (pc := 25) (k := 3) uX6 fX6_18 rfl rfl rfl rfl rfl (sA_T t2 l2) dX6_init_25 ?_
  have t3 := al_T (k := 3) (kd := 11) (n := 60) t2 l2
  have l3 := al_L (k := 3) (kd := 11) (n := 60) l2
  exact WP.vret (pc := 28) rfl dX6_init_28 ⟨rfl, rfl⟩
abbrev iCu (σ : cAS) (a : Nat) : cAS := alR (alR (alR (alR (alR (alR (alR σ a 2 11 10) a 3 11 10) a 4 11 10) a 5 11 10) a 6 11 10) a 7 11 10) a 8 11 10
theorem CX2_init (Γ : cG) {σ : cAS} {a : Nat} (t0 : aT σ a = (3, 9)) (l0 : a < aN σ) : Ctr Γ (1, 20, 7, 70) MX2_init [.ref a] σ (rV none (iCu σ a)) := by
  refine Ctr.go rfl (by decide) rfl rfl ?_
  refine WP.aload_n (pc := 0) dX2_init_0 rfl ?_
  refine WP.objInit (pc := 1) oX2_3 oI oC (Nat.le_of_ble_eq_true rfl) (Nat.le_of_ble_eq_true rfl) dX2_init_1 ?_
  refine WP.aload_n (pc := 4) dX2_init_4 rfl ?_
  refine WP.bipush (pc := 5) (v := 10) dX2_init_5 (by decide) ?_
  refine WP.newarr (pc := 7) (kd := 11) (n := 10) (by decide) (by decide) rfl nA11 (by decide) (by decide) (by decide) dX2_init_7 ?_
  refine WP.putR (pc := 9) (k := 2) uX2 fX2_9 rfl rfl rfl rfl rfl (sA_T t0 l0) dX2_init_9 ?_
  have t1 := al_T (k := 2) (kd := 11) (n := 10) t0 l0
  have l1 := al_L (k := 2) (kd := 11) (n := 10) l0
  refine WP.aload_n (pc := 12) dX2_init_12 rfl ?_
  refine WP.bipush (pc := 13) (v := 10) dX2_init_13 (by decide) ?_
  refine WP.newarr (pc := 15) (kd := 11) (n := 10) (by decide) (by decide) rfl nA11 (by decide) (by decide) (by decide) dX2_init_15 ?_
  refine WP.putR (pc := 17) (k := 3) uX2 fX2_15 rfl rfl rfl rfl rfl (sA_T t1 l1) dX2_init_17 ?_
  have t2 := al_T (k := 3) (kd := 11) (n := 10) t1 l1
  have l2 := al_L (k := 3) (kd := 11) (n := 10) l1
  refine WP.aload_n (pc := 20) dX2_init_20 rfl ?_
  refine WP.bipush (pc := 21) (v := 10) dX2_init_21 (by decide) ?_
  refine WP.newarr (pc := 23) (kd := 11) (n := 10) (by decide) (by decide) rfl nA11 (by decide) (by decide) (by decide) dX2_init_23 ?_
  refine WP.putR (pc := 25) (k := 4) uX2 fX2_18 rfl rfl rfl rfl rfl (sA_T t2 l2) dX2_init_25 ?_
  have t3 := al_T (k := 4) (kd := 11) (n := 10) t2 l2
  have l3 := al_L (k := 4) (kd := 11) (n := 10) l2
  refine WP.aload_n (pc := 28) dX2_init_28 rfl ?_
  refine WP.bipush (pc := 29) (v := 10) dX2_init_29 (by decide) ?_
  refine WP.newarr (pc := 31) (kd := 11) (n := 10) (by decide) (by decide) rfl nA11 (by decide) (by decide) (by decide) dX2_init_31 ?_
  refine WP.putR (pc := 33) (k := 5) uX2 fX2_21 rfl rfl rfl rfl rfl (sA_T t3 l3) dX2_init_33 ?_
  have t4 := al_T (k := 5) (kd := 11) (n := 10) t3 l3
  have l4 := al_L (k := 5) (kd := 11) (n := 10) l3
  refine WP.aload_n (pc := 36) dX2_init_36 rfl ?_
  refine WP.bipush (pc := 37) (v := 10) dX2_init_37 (by decide) ?_
  refine WP.newarr (pc := 39) (kd := 11) (n := 10) (by decide) (by decide) rfl nA11 (by decide) (by decide) (by decide) dX2_init_39 ?_
  refine WP.putR (pc := 41) (k := 6) uX2 fX2_24 rfl rfl rfl rfl rfl (sA_T t4 l4) dX2_init_41 ?_
  have t5 := al_T (k := 6) (kd := 11) (n := 10) t4 l4
  have l5 := al_L (k := 6) (kd := 11) (n := 10) l4
  refine WP.aload_n (pc := 44) dX2_init_44 rfl ?_
  refine WP.bipush (pc := 45) (v := 10) dX2_init_45 (by decide) ?_
  refine WP.newarr (pc := 47) (kd := 11) (n := 10) (by decide) (by decide) rfl nA11 (by decide) (by decide) (by decide) dX2_init_47 ?_
  refine WP.putR (pc := 49) (k := 7) uX2 fX2_27 rfl rfl rfl rfl rfl (sA_T t5 l5) dX2_init_49 ?_
  have t6 := al_T (k := 7) (kd := 11) (n := 10) t5 l5
  have l6 := al_L (k := 7) (kd := 11) (n := 10) l5
  refine WP.aload_n (pc := 52) dX2_init_52 rfl ?_
  refine WP.bipush (pc := 53) (v := 10) dX2_init_53 (by decide) ?_
  refine WP.newarr (pc := 55) (kd := 11) (n := 10) (by decide) (by decide) rfl nA11 (by decide) (by decide) (by decide) dX2_init_55 ?_
  refine WP.putR (pc := 57) (k := 8) uX2 fX2_30 rfl rfl rfl rfl rfl (sA_T t6 l6) dX2_init_57 ?_
  have t7 := al_T (k := 8) (kd := 11) (n := 10) t6 l6
  have l7 := al_L (k := 8) (kd := 11) (n := 10) l6
  exact WP.vret (pc := 60) rfl dX2_init_60 ⟨rfl, rfl⟩
abbrev iEv (σ : cAS) (a : Nat) : cAS := alR (alR (alR σ a 1 11 30) a 2 11 30) a 3 11 30
theorem CX3_init (Γ : cG) {σ : cAS} {a : Nat} (t0 : aT σ a = (4, 4)) (l0 : a < aN σ) : Ctr Γ (1, 20, 3, 90) MX3_init [.ref a] σ (rV none (iEv σ a)) := by
  refine Ctr.go rfl (by decide) rfl rfl ?_
  refine WP.aload_n (pc := 0) dX3_init_0 rfl ?_
  refine WP.objInit (pc := 1) oX3_3 oI oC (Nat.le_of_ble_eq_true rfl) (Nat.le_of_ble_eq_true rfl) dX3_init_1 ?_
  refine WP.aload_n (pc := 4) dX3_init_4 rfl ?_
  refine WP.bipush (pc := 5) (v := 30) dX3_init_5 (by decide) ?_
  refine WP.newarr (pc := 7) (kd := 11) (n := 30) (by decide) (by decide) rfl nA11 (by decide) (by decide) (by decide) dX3_init_7 ?_
  refine WP.putR (pc := 9) (k := 1) uX3 fX3_9 rfl rfl rfl rfl rfl (sA_T t0 l0) dX3_init_9 ?_
  have t1 := al_T (k := 1) (kd := 11) (n := 30) t0 l0
  have l1 := al_L (k := 1) (kd := 11) (n := 30) l0
  refine WP.aload_n (pc := 12) dX3_init_12 rfl ?_
  refine WP.bipush (pc := 13) (v := 30) dX3_init_13 (by decide) ?_
  refine WP.newarr (pc := 15) (kd := 11) (n := 30) (by decide) (by decide) rfl nA11 (by decide) (by decide) (by decide) dX3_init_15 ?_
  refine WP.putR (pc := 17) (k := 2) uX3 fX3_15 rfl rfl rfl rfl rfl (sA_T t1 l1) dX3_init_17 ?_
  have t2 := al_T (k := 2) (kd := 11) (n := 30) t1 l1
  have l2 := al_L (k := 2) (kd := 11) (n := 30) l1
  refine WP.aload_n (pc := 20) dX3_init_20 rfl ?_
  refine WP.bipush (pc := 21) (v := 30) dX3_init_21 (by decide) ?_
  refine WP.newarr (pc := 23) (kd := 11) (n := 30) (by decide) (by decide) rfl nA11 (by decide) (by decide) (by decide) dX3_init_23 ?_
  refine WP.putR (pc := 25) (k := 3) uX3 fX3_18 rfl rfl rfl rfl rfl (sA_T t2 l2) dX3_init_25 ?_
  have t3 := al_T (k := 3) (kd := 11) (n := 30) t2 l2
  have l3 := al_L (k := 3) (kd := 11) (n := 30) l2
  exact WP.vret (pc := 28) rfl dX3_init_28 ⟨rfl, rfl⟩
abbrev iAu (σ : cAS) (a : Nat) : cAS := alR (alR (alR (alR σ a 1 11 90) a 2 11 90) a 4 11 60) a 5 11 60
theorem CX0_init (Γ : cG) {σ : cAS} {a : Nat} (t0 : aT σ a = (1, 8)) (l0 : a < aN σ) : Ctr Γ (1, 20, 4, 300) MX0_init [.ref a] σ (rV none (iAu σ a)) := by
  refine Ctr.go rfl (by decide) rfl rfl ?_
  refine WP.aload_n (pc := 0) dX0_init_0 rfl ?_
  refine WP.objInit (pc := 1) oX0_3 oI oC (Nat.le_of_ble_eq_true rfl) (Nat.le_of_ble_eq_true rfl) dX0_init_1 ?_
  refine WP.aload_n (pc := 4) dX0_init_4 rfl ?_
  refine WP.bipush (pc := 5) (v := 90) dX0_init_5 (by decide) ?_
  refine WP.newarr (pc := 7) (kd := 11) (n := 90) (by decide) (by decide) rfl nA11 (by decide) (by decide) (by decide) dX0_init_7 ?_
  refine WP.putR (pc := 9) (k := 1) uX0 fX0_9 rfl rfl rfl rfl rfl (sA_T t0 l0) dX0_init_9 ?_
  have t1 := al_T (k := 1) (kd := 11) (n := 90) t0 l0
  have l1 := al_L (k := 1) (kd := 11) (n := 90) l0
  refine WP.aload_n (pc := 12) dX0_init_12 rfl ?_
  refine WP.bipush (pc := 13) (v := 90) dX0_init_13 (by decide) ?_
  refine WP.newarr (pc := 15) (kd := 11) (n := 90) (by decide) (by decide) rfl nA11 (by decide) (by decide) (by decide) dX0_init_15 ?_
  refine WP.putR (pc := 17) (k := 2) uX0 fX0_15 rfl rfl rfl rfl rfl (sA_T t1 l1) dX0_init_17 ?_
  have t2 := al_T (k := 2) (kd := 11) (n := 90) t1 l1
  have l2 := al_L (k := 2) (kd := 11) (n := 90) l1
  refine WP.aload_n (pc := 20) dX0_init_20 rfl ?_
  refine WP.bipush (pc := 21) (v := 60) dX0_init_21 (by decide) ?_
  refine WP.newarr (pc := 23) (kd := 11) (n := 60) (by decide) (by decide) rfl nA11 (by decide) (by decide) (by decide) dX0_init_23 ?_
  refine WP.putR (pc := 25) (k := 4) uX0 fX0_18 rfl rfl rfl rfl rfl (sA_T t2 l2) dX0_init_25 ?_
  have t3 := al_T (k := 4) (kd := 11) (n := 60) t2 l2
  have l3 := al_L (k := 4) (kd := 11) (n := 60) l2
  refine WP.aload_n (pc := 28) dX0_init_28 rfl ?_
  refine WP.bipush (pc := 29) (v := 60) dX0_init_29 (by decide) ?_
  refine WP.newarr (pc := 31) (kd := 11) (n := 60) (by decide) (by decide) rfl nA11 (by decide) (by decide) (by decide) dX0_init_31 ?_
  refine WP.putR (pc := 33) (k := 5) uX0 fX0_21 rfl rfl rfl rfl rfl (sA_T t3 l3) dX0_init_33 ?_
  have t4 := al_T (k := 5) (kd := 11) (n := 60) t3 l3
  have l4 := al_L (k := 5) (kd := 11) (n := 60) l3
  exact WP.vret (pc := 36) rfl dX0_init_36 ⟨rfl, rfl⟩
abbrev nwR (σ : cAS) (a k kd n : Nat) (ini : cAS → Nat → cAS) : cAS := sR (ini (sA σ kd n) (aN σ)) a k (some (aN σ))
abbrev iSt (σ : cAS) (a : Nat) : cAS := nwR (nwR (nwR (nwR (alR σ a 0 11 3) a 1 2 7 iBk) a 2 7 4 iSk) a 3 3 9 iCu) a 4 4 4 iEv
theorem iBk_T {σ : cAS} {a c : Nat} {v : Nat × Nat} (h : aT σ a = v) (hl : a < aN σ) (hc : a ≠ c) : aT (iBk σ c) a = v := by
  have t1 := al_T (a := a) (k := 1) (kd := 11) (n := 4) (σ := _) h hl
  have l1 := al_L (a := a) (k := 1) (kd := 11) (n := 4) (σ := _) hl
  have t2 := al_T (a := a) (k := 2) (kd := 11) (n := 4) (σ := _) t1 l1
  have l2 := al_L (a := a) (k := 2) (kd := 11) (n := 4) (σ := _) l1
  have t3 := al_T (a := a) (k := 3) (kd := 11) (n := 4) (σ := _) t2 l2
  have l3 := al_L (a := a) (k := 3) (kd := 11) (n := 4) (σ := _) l2
  have t4 := al_T (a := a) (k := 4) (kd := 11) (n := 4) (σ := _) t3 l3
  have l4 := al_L (a := a) (k := 4) (kd := 11) (n := 4) (σ := _) l3
  have t5 := al_T (a := a) (k := 5) (kd := 11) (n := 4) (σ := _) t4 l4
  have l5 := al_L (a := a) (k := 5) (kd := 11) (n := 4) (σ := _) l4
  have t6 := al_T (a := a) (k := 6) (kd := 11) (n := 4) (σ := _) t5 l5
  have l6 := al_L (a := a) (k := 6) (kd := 11) (n := 4) (σ := _) l5
  exact t6
theorem iBk_N {σ : cAS} {c : Nat} : aN (iBk σ c) = aN σ + 6 := rfl
theorem iSk_T {σ : cAS} {a c : Nat} {v : Nat × Nat} (h : aT σ a = v) (hl : a < aN σ) (hc : a ≠ c) : aT (iSk σ c) a = v := by
  have t1 := al_T (a := a) (k := 1) (kd := 11) (n := 60) (σ := _) h hl
  have l1 := al_L (a := a) (k := 1) (kd := 11) (n := 60) (σ := _) hl
  have t2 := al_T (a := a) (k := 2) (kd := 11) (n := 60) (σ := _) t1 l1
  have l2 := al_L (a := a) (k := 2) (kd := 11) (n := 60) (σ := _) l1
  have t3 := al_T (a := a) (k := 3) (kd := 11) (n := 60) (σ := _) t2 l2
  have l3 := al_L (a := a) (k := 3) (kd := 11) (n := 60) (σ := _) l2
  exact t3
theorem iSk_N {σ : cAS} {c : Nat} : aN (iSk σ c) = aN σ + 3 := rfl
theorem iCu_T {σ : cAS} {a c : Nat} {v : Nat × Nat} (h : aT σ a = v) (hl : a < aN σ) (hc : a ≠ c) : aT (iCu σ c) a = v := by
  have t1 := al_T (a := a) (k := 2) (kd := 11) (n := 10) (σ := _) h hl
  have l1 := al_L (a := a) (k := 2) (kd := 11) (n := 10) (σ := _) hl
  have t2 := al_T (a := a) (k := 3) (kd := 11) (n := 10) (σ := _) t1 l1
  have l2 := al_L (a := a) (k := 3) (kd := 11) (n := 10) (σ := _) l1
  have t3 := al_T (a := a) (k := 4) (kd := 11) (n := 10) (σ := _) t2 l2
  have l3 := al_L (a := a) (k := 4) (kd := 11) (n := 10) (σ := _) l2
  have t4 := al_T (a := a) (k := 5) (kd := 11) (n := 10) (σ := _) t3 l3
  have l4 := al_L (a := a) (k := 5) (kd := 11) (n := 10) (σ := _) l3
  have t5 := al_T (a := a) (k := 6) (kd := 11) (n := 10) (σ := _) t4 l4
  have l5 := al_L (a := a) (k := 6) (kd := 11) (n := 10) (σ := _) l4
  have t6 := al_T (a := a) (k := 7) (kd := 11) (n := 10) (σ := _) t5 l5
  have l6 := al_L (a := a) (k := 7) (kd := 11) (n := 10) (σ := _) l5
  have t7 := al_T (a := a) (k := 8) (kd := 11) (n := 10) (σ := _) t6 l6
  have l7 := al_L (a := a) (k := 8) (kd := 11) (n := 10) (σ := _) l6
  exact t7
theorem iCu_N {σ : cAS} {c : Nat} : aN (iCu σ c) = aN σ + 7 := rfl
theorem iEv_T {σ : cAS} {a c : Nat} {v : Nat × Nat} (h : aT σ a = v) (hl : a < aN σ) (hc : a ≠ c) : aT (iEv σ c) a = v := by
  have t1 := al_T (a := a) (k := 1) (kd := 11) (n := 30) (σ := _) h hl
  have l1 := al_L (a := a) (k := 1) (kd := 11) (n := 30) (σ := _) hl
  have t2 := al_T (a := a) (k := 2) (kd := 11) (n := 30) (σ := _) t1 l1
  have l2 := al_L (a := a) (k := 2) (kd := 11) (n := 30) (σ := _) l1
  have t3 := al_T (a := a) (k := 3) (kd := 11) (n := 30) (σ := _) t2 l2
  have l3 := al_L (a := a) (k := 3) (kd := 11) (n := 30) (σ := _) l2
  exact t3
theorem iEv_N {σ : cAS} {c : Nat} : aN (iEv σ c) = aN σ + 3 := rfl
theorem iAu_T {σ : cAS} {a c : Nat} {v : Nat × Nat} (h : aT σ a = v) (hl : a < aN σ) (hc : a ≠ c) : aT (iAu σ c) a = v := by
  have t1 := al_T (a := a) (k := 1) (kd := 11) (n := 90) (σ := _) h hl
  have l1 := al_L (a := a) (k := 1) (kd := 11) (n := 90) (σ := _) hl
  have t2 := al_T (a := a) (k := 2) (kd := 11) (n := 90) (σ := _) t1 l1
  have l2 := al_L (a := a) (k := 2) (kd := 11) (n := 90) (σ := _) l1
  have t3 := al_T (a := a) (k := 4) (kd := 11) (n := 60) (σ := _) t2 l2
  have l3 := al_L (a := a) (k := 4) (kd := 11) (n := 60) (σ := _) l2
  have t4 := al_T (a := a) (k := 5) (kd := 11) (n := 60) (σ := _) t3 l3
  have l4 := al_L (a := a) (k := 5) (kd := 11) (n := 60) (σ := _) l3
  exact t4
theorem iAu_N {σ : cAS} {c : Nat} : aN (iAu σ c) = aN σ + 4 := rfl
theorem SX5_1 (Γ : cG) {s : cAS} {a : Nat} {Φ : cRes → cAS → Prop} (t0 : aT s a = (6, 13)) (l0 : a < aN s) (kk : WP Γ (2, 40, 16, 357) MX5_init Φ 22 [some (.ref a)] [] (nwR s a 1 2 7 iBk)) : WP Γ (2, 40, 23, 388) MX5_init Φ 11 [some (.ref a)] [] s := by
  refine WP.aload_n (pc := 11) dX5_init_11 rfl ?_
  refine WP.new (pc := 12) (ci := 1) uX1 (by decide) nX5_15 nI1 nJ1 nD1 dX5_init_12 ?_
  refine (?_ : WP Γ (2, 40, 22, 381) MX5_init _ 15 _ _ (sA s 2 7))
  refine WP.dup (pc := 15) dX5_init_15 rfl ?_
  refine WP.cIN0 (pc := 16) (mc2 := 16) (ms2 := 357) kX5_17 (CX1_init Γ (σ := sA s 2 7) sA_new sA_newL) rfl ⟨Nat.le_of_ble_eq_true rfl, Nat.le_of_ble_eq_true rfl⟩ (Nat.le_of_ble_eq_true rfl) (Nat.le_of_ble_eq_true rfl) (Nat.le_of_ble_eq_true rfl) rfl dX5_init_16 ?_
  exact WP.putR (pc := 19) (k := 1) uX5 fX5_18 rfl rfl rfl rfl rfl (iBk_T (sA_T (kd := 2) (n := 7) t0 l0) (Nat.lt_succ_of_lt l0) (Nat.ne_of_lt l0)) dX5_init_19 kk
theorem SX5_1T {s : cAS} {a : Nat} (t0 : aT s a = (6, 13)) (l0 : a < aN s) : aT (nwR s a 1 2 7 iBk) a = (6, 13) ∧ a < aN (nwR s a 1 2 7 iBk) := ⟨iBk_T (sA_T (kd := 2) (n := 7) t0 l0) (Nat.lt_succ_of_lt l0) (Nat.ne_of_lt l0), Nat.lt_of_lt_of_le l0 (Nat.le_trans (Nat.le_succ _) (Nat.le_add_right _ 6))⟩
theorem SX5_2 (Γ : cG) {s : cAS} {a : Nat} {Φ : cRes → cAS → Prop} (t0 : aT s a = (6, 13)) (l0 : a < aN s) (kk : WP Γ (2, 40, 12, 173) MX5_init Φ 33 [some (.ref a)] [] (nwR s a 2 7 4 iSk)) : WP Γ (2, 40, 16, 357) MX5_init Φ 22 [some (.ref a)] [] s := by
  refine WP.aload_n (pc := 22) dX5_init_22 rfl ?_
  refine WP.new (pc := 23) (ci := 6) uX6 (by decide) nX5_22 nI6 nJ6 nD6 dX5_init_23 ?_
  refine (?_ : WP Γ (2, 40, 15, 353) MX5_init _ 26 _ _ (sA s 7 4))
  refine WP.dup (pc := 26) dX5_init_26 rfl ?_
  refine WP.cIN0 (pc := 27) (mc2 := 12) (ms2 := 173) kX5_24 (CX6_init Γ (σ := sA s 7 4) sA_new sA_newL) rfl ⟨Nat.le_of_ble_eq_true rfl, Nat.le_of_ble_eq_true rfl⟩ (Nat.le_of_ble_eq_true rfl) (Nat.le_of_ble_eq_true rfl) (Nat.le_of_ble_eq_true rfl) rfl dX5_init_27 ?_
  exact WP.putR (pc := 30) (k := 2) uX5 fX5_25 rfl rfl rfl rfl rfl (iSk_T (sA_T (kd := 7) (n := 4) t0 l0) (Nat.lt_succ_of_lt l0) (Nat.ne_of_lt l0)) dX5_init_30 kk
theorem SX5_2T {s : cAS} {a : Nat} (t0 : aT s a = (6, 13)) (l0 : a < aN s) : aT (nwR s a 2 7 4 iSk) a = (6, 13) ∧ a < aN (nwR s a 2 7 4 iSk) := ⟨iSk_T (sA_T (kd := 7) (n := 4) t0 l0) (Nat.lt_succ_of_lt l0) (Nat.ne_of_lt l0), Nat.lt_of_lt_of_le l0 (Nat.le_trans (Nat.le_succ _) (Nat.le_add_right _ 3))⟩
theorem SX5_3 (Γ : cG) {s : cAS} {a : Nat} {Φ : cRes → cAS → Prop} (t0 : aT s a = (6, 13)) (l0 : a < aN s) (kk : WP Γ (2, 40, 4, 94) MX5_init Φ 44 [some (.ref a)] [] (nwR s a 3 3 9 iCu)) : WP Γ (2, 40, 12, 173) MX5_init Φ 33 [some (.ref a)] [] s := by
  refine WP.aload_n (pc := 33) dX5_init_33 rfl ?_
  refine WP.new (pc := 34) (ci := 2) uX2 (by decide) nX5_29 nI2 nJ2 nD2 dX5_init_34 ?_
  refine (?_ : WP Γ (2, 40, 11, 164) MX5_init _ 37 _ _ (sA s 3 9))
  refine WP.dup (pc := 37) dX5_init_37 rfl ?_
  refine WP.cIN0 (pc := 38) (mc2 := 4) (ms2 := 94) kX5_31 (CX2_init Γ (σ := sA s 3 9) sA_new sA_newL) rfl ⟨Nat.le_of_ble_eq_true rfl, Nat.le_of_ble_eq_true rfl⟩ (Nat.le_of_ble_eq_true rfl) (Nat.le_of_ble_eq_true rfl) (Nat.le_of_ble_eq_true rfl) rfl dX5_init_38 ?_
  exact WP.putR (pc := 41) (k := 3) uX5 fX5_32 rfl rfl rfl rfl rfl (iCu_T (sA_T (kd := 3) (n := 9) t0 l0) (Nat.lt_succ_of_lt l0) (Nat.ne_of_lt l0)) dX5_init_41 kk
theorem SX5_3T {s : cAS} {a : Nat} (t0 : aT s a = (6, 13)) (l0 : a < aN s) : aT (nwR s a 3 3 9 iCu) a = (6, 13) ∧ a < aN (nwR s a 3 3 9 iCu) := ⟨iCu_T (sA_T (kd := 3) (n := 9) t0 l0) (Nat.lt_succ_of_lt l0) (Nat.ne_of_lt l0), Nat.lt_of_lt_of_le l0 (Nat.le_trans (Nat.le_succ _) (Nat.le_add_right _ 7))⟩
theorem SX5_4 (Γ : cG) {s : cAS} {a : Nat} {Φ : cRes → cAS → Prop} (t0 : aT s a = (6, 13)) (l0 : a < aN s) (kk : WP Γ (2, 40, 0, 0) MX5_init Φ 55 [some (.ref a)] [] (nwR s a 4 4 4 iEv)) : WP Γ (2, 40, 4, 94) MX5_init Φ 44 [some (.ref a)] [] s := by
  refine WP.aload_n (pc := 44) dX5_init_44 rfl ?_
  refine WP.new (pc := 45) (ci := 3) uX3 (by decide) nX5_36 nI3 nJ3 nD3 dX5_init_45 ?_
  refine (?_ : WP Γ (2, 40, 3, 90) MX5_init _ 48 _ _ (sA s 4 4))
  refine WP.dup (pc := 48) dX5_init_48 rfl ?_
  refine WP.cIN0 (pc := 49) (mc2 := 0) (ms2 := 0) kX5_38 (CX3_init Γ (σ := sA s 4 4) sA_new sA_newL) rfl ⟨Nat.le_of_ble_eq_true rfl, Nat.le_of_ble_eq_true rfl⟩ (Nat.le_of_ble_eq_true rfl) (Nat.le_of_ble_eq_true rfl) (Nat.le_of_ble_eq_true rfl) rfl dX5_init_49 ?_
  exact WP.putR (pc := 52) (k := 4) uX5 fX5_39 rfl rfl rfl rfl rfl (iEv_T (sA_T (kd := 4) (n := 4) t0 l0) (Nat.lt_succ_of_lt l0) (Nat.ne_of_lt l0)) dX5_init_52 kk
theorem SX5_4T {s : cAS} {a : Nat} (t0 : aT s a = (6, 13)) (l0 : a < aN s) : aT (nwR s a 4 4 4 iEv) a = (6, 13) ∧ a < aN (nwR s a 4 4 4 iEv) := ⟨iEv_T (sA_T (kd := 4) (n := 4) t0 l0) (Nat.lt_succ_of_lt l0) (Nat.ne_of_lt l0), Nat.lt_of_lt_of_le l0 (Nat.le_trans (Nat.le_succ _) (Nat.le_add_right _ 3))⟩
theorem CX5_init (Γ : cG) {σ : cAS} {a : Nat} (t0 : aT σ a = (6, 13)) (l0 : a < aN σ) : Ctr Γ (2, 40, 24, 391) MX5_init [.ref a] σ (rV none (iSt σ a)) := by
  refine Ctr.go rfl (by decide) rfl rfl ?_
  refine WP.aload_n (pc := 0) dX5_init_0 rfl ?_
  refine WP.objInit (pc := 1) oX5_3 oI oC (Nat.le_of_ble_eq_true rfl) (Nat.le_of_ble_eq_true rfl) dX5_init_1 ?_
  refine WP.aload_n (pc := 4) dX5_init_4 rfl ?_
  refine WP.iconst (pc := 5) (v := 3) dX5_init_5 (by decide) ?_
  refine WP.newarr (pc := 6) (kd := 11) (n := 3) (by decide) (by decide) rfl nA11 (by decide) (by decide) (by decide) dX5_init_6 ?_
  refine WP.putR (pc := 8) (k := 0) uX5 fX5_9 rfl rfl rfl rfl rfl (sA_T t0 l0) dX5_init_8 ?_
  have t1 : aT (alR σ a 0 11 3) a = (6, 13) ∧ a < aN (alR σ a 0 11 3) := ⟨al_T t0 l0, al_L l0⟩
  have u1 := SX5_1T t1.1 t1.2
  have u2 := SX5_2T u1.1 u1.2
  have u3 := SX5_3T u2.1 u2.2
  have u4 := SX5_4T u3.1 u3.2
  exact SX5_1 Γ t1.1 t1.2 (SX5_2 Γ u1.1 u1.2 (SX5_3 Γ u2.1 u2.2 (SX5_4 Γ u3.1 u3.2 (WP.vret (pc := 55) rfl dX5_init_55 ⟨rfl, rfl⟩))))
theorem iSt_N {σ : cAS} {a : Nat} : aN (iSt σ a) = aN σ + 24 := rfl
theorem alT (σ : cAS) (a k kd n d : Nat) : aT (alR σ a k kd n) d = if d = aN σ then (kd, n) else aT σ d := rfl
theorem alTs {σ : cAS} {a k kd n d : Nat} (h : d = aN σ) : aT (alR σ a k kd n) d = (kd, n) := by rw [alT, if_pos h]
theorem alTo {σ : cAS} {a k kd n d : Nat} (h : d ≠ aN σ) : aT (alR σ a k kd n) d = aT σ d := by rw [alT, if_neg h]
theorem alRs {σ : cAS} {a k kd n : Nat} : aR (alR σ a k kd n) a k = some (aN σ) := if_pos ⟨rfl, rfl⟩
theorem alRo {σ : cAS} {a k kd n d j : Nat} (h : ¬ (d = a ∧ j = k)) (h2 : d ≠ aN σ) : aR (alR σ a k kd n) d j = aR σ d j := (if_neg h).trans (if_neg h2)
theorem alIo {σ : cAS} {a k kd n d : Nat} (h2 : d ≠ aN σ) : aI (alR σ a k kd n) d = aI σ d := funext fun j => if_neg h2
theorem alLo {σ : cAS} {a k kd n d : Nat} (h2 : d ≠ aN σ) : aL (alR σ a k kd n) d = aL σ d := funext fun j => if_neg h2
theorem alN (σ : cAS) (a k kd n : Nat) : aN (alR σ a k kd n) = aN σ + 1 := rfl
theorem saTs {σ : cAS} {kd n d : Nat} (h : d = aN σ) : aT (sA σ kd n) d = (kd, n) := if_pos h
theorem saTo {σ : cAS} {kd n d : Nat} (h : d ≠ aN σ) : aT (sA σ kd n) d = aT σ d := if_neg h
theorem saRo {σ : cAS} {kd n d j : Nat} (h : d ≠ aN σ) : aR (sA σ kd n) d j = aR σ d j := if_neg h
theorem saIo {σ : cAS} {kd n d : Nat} (h : d ≠ aN σ) : aI (sA σ kd n) d = aI σ d := funext fun j => if_neg h
theorem saLo {σ : cAS} {kd n d : Nat} (h : d ≠ aN σ) : aL (sA σ kd n) d = aL σ d := funext fun j => if_neg h
theorem srR {σ : cAS} {a k : Nat} {v : Option Nat} : aR (sR σ a k v) a k = v := if_pos ⟨rfl, rfl⟩
theorem srRo {σ : cAS} {a k d j : Nat} {v : Option Nat} (h : ¬ (d = a ∧ j = k)) : aR (sR σ a k v) d j = aR σ d j := if_neg h
/-- what a constructor leaves: the old cells, its own field by field -/
def oldC (σ τ : cAS) (c : Nat) : Prop := ∀ d, d < aN σ → d ≠ c → aT τ d = aT σ d ∧ aI τ d = aI σ d ∧ aR τ d = aR σ d ∧ aL τ d = aL σ d
theorem oldC.al {σ τ : cAS} {c : Nat} (h : oldC σ τ c) (hN : aN σ ≤ aN τ) (k kd n : Nat) : oldC σ (alR τ c k kd n) c := fun d hd hc => by
  obtain ⟨h1, h2, h3, h4⟩ := h d hd hc
  refine ⟨(alTo (by omega)).trans h1, (alIo (by omega)).trans h2, funext fun j => ?_, (alLo (by omega)).trans h4⟩
  rw [alRo (fun q => hc q.1) (by omega), h3]
theorem oldC.rf {σ : cAS} {c : Nat} : oldC σ σ c := fun _ _ _ => ⟨rfl, rfl, rfl, rfl⟩
theorem iBk_old {σ : cAS} {c : Nat} : oldC σ (iBk σ c) c := ((((((oldC.rf.al (Nat.le_add_right _ 0) 1 11 4).al (Nat.le_add_right _ 1) 2 11 4).al (Nat.le_add_right _ 2) 3 11 4).al (Nat.le_add_right _ 3) 4 11 4).al (Nat.le_add_right _ 4) 5 11 4).al (Nat.le_add_right _ 5) 6 11 4)
theorem iBk_t0 {σ : cAS} {c : Nat} : aT (iBk σ c) (aN σ + 0) = (11, 4) := (alTo (by show _ ≠ aN σ + 5; omega)).trans ((alTo (by show _ ≠ aN σ + 4; omega)).trans ((alTo (by show _ ≠ aN σ + 3; omega)).trans ((alTo (by show _ ≠ aN σ + 2; omega)).trans ((alTo (by show _ ≠ aN σ + 1; omega)).trans (alTs rfl)))))
theorem iBk_r0 {σ : cAS} {c : Nat} (hc : c < aN σ) : aR (iBk σ c) c 1 = some (aN σ + 0) := (alRo (fun q => absurd q.2 (by decide)) (by show _ ≠ aN σ + 5; omega)).trans ((alRo (fun q => absurd q.2 (by decide)) (by show _ ≠ aN σ + 4; omega)).trans ((alRo (fun q => absurd q.2 (by decide)) (by show _ ≠ aN σ + 3; omega)).trans ((alRo (fun q => absurd q.2 (by decide)) (by show _ ≠ aN σ + 2; omega)).trans ((alRo (fun q => absurd q.2 (by decide)) (by show _ ≠ aN σ + 1; omega)).trans (alRs)))))
theorem iBk_t1 {σ : cAS} {c : Nat} : aT (iBk σ c) (aN σ + 1) = (11, 4) := (alTo (by show _ ≠ aN σ + 5; omega)).trans ((alTo (by show _ ≠ aN σ + 4; omega)).trans ((alTo (by show _ ≠ aN σ + 3; omega)).trans ((alTo (by show _ ≠ aN σ + 2; omega)).trans (alTs rfl))))
theorem iBk_r1 {σ : cAS} {c : Nat} (hc : c < aN σ) : aR (iBk σ c) c 2 = some (aN σ + 1) := (alRo (fun q => absurd q.2 (by decide)) (by show _ ≠ aN σ + 5; omega)).trans ((alRo (fun q => absurd q.2 (by decide)) (by show _ ≠ aN σ + 4; omega)).trans ((alRo (fun q => absurd q.2 (by decide)) (by show _ ≠ aN σ + 3; omega)).trans ((alRo (fun q => absurd q.2 (by decide)) (by show _ ≠ aN σ + 2; omega)).trans (alRs))))
theorem iBk_t2 {σ : cAS} {c : Nat} : aT (iBk σ c) (aN σ + 2) = (11, 4) := (alTo (by show _ ≠ aN σ + 5; omega)).trans ((alTo (by show _ ≠ aN σ + 4; omega)).trans ((alTo (by show _ ≠ aN σ + 3; omega)).trans (alTs rfl)))
theorem iBk_r2 {σ : cAS} {c : Nat} (hc : c < aN σ) : aR (iBk σ c) c 3 = some (aN σ + 2) := (alRo (fun q => absurd q.2 (by decide)) (by show _ ≠ aN σ + 5; omega)).trans ((alRo (fun q => absurd q.2 (by decide)) (by show _ ≠ aN σ + 4; omega)).trans ((alRo (fun q => absurd q.2 (by decide)) (by show _ ≠ aN σ + 3; omega)).trans (alRs)))
theorem iBk_t3 {σ : cAS} {c : Nat} : aT (iBk σ c) (aN σ + 3) = (11, 4) := (alTo (by show _ ≠ aN σ + 5; omega)).trans ((alTo (by show _ ≠ aN σ + 4; omega)).trans (alTs rfl))
theorem iBk_r3 {σ : cAS} {c : Nat} (hc : c < aN σ) : aR (iBk σ c) c 4 = some (aN σ + 3) := (alRo (fun q => absurd q.2 (by decide)) (by show _ ≠ aN σ + 5; omega)).trans ((alRo (fun q => absurd q.2 (by decide)) (by show _ ≠ aN σ + 4; omega)).trans (alRs))
theorem iBk_t4 {σ : cAS} {c : Nat} : aT (iBk σ c) (aN σ + 4) = (11, 4) := (alTo (by show _ ≠ aN σ + 5; omega)).trans (alTs rfl)
theorem iBk_r4 {σ : cAS} {c : Nat} (hc : c < aN σ) : aR (iBk σ c) c 5 = some (aN σ + 4) := (alRo (fun q => absurd q.2 (by decide)) (by show _ ≠ aN σ + 5; omega)).trans (alRs)
theorem iBk_t5 {σ : cAS} {c : Nat} : aT (iBk σ c) (aN σ + 5) = (11, 4) := alTs rfl
theorem iBk_r5 {σ : cAS} {c : Nat} (hc : c < aN σ) : aR (iBk σ c) c 6 = some (aN σ + 5) := alRs
theorem iBk_tc {σ : cAS} {c : Nat} {v : Nat × Nat} (h : aT σ c = v) (hl : c < aN σ) : aT (iBk σ c) c = v := by
  have t1 := al_T (a := c) (k := 1) (kd := 11) (n := 4) (σ := _) h hl
  have l1 := al_L (a := c) (k := 1) (kd := 11) (n := 4) (σ := _) hl
  have t2 := al_T (a := c) (k := 2) (kd := 11) (n := 4) (σ := _) t1 l1
  have l2 := al_L (a := c) (k := 2) (kd := 11) (n := 4) (σ := _) l1
  have t3 := al_T (a := c) (k := 3) (kd := 11) (n := 4) (σ := _) t2 l2
  have l3 := al_L (a := c) (k := 3) (kd := 11) (n := 4) (σ := _) l2
  have t4 := al_T (a := c) (k := 4) (kd := 11) (n := 4) (σ := _) t3 l3
  have l4 := al_L (a := c) (k := 4) (kd := 11) (n := 4) (σ := _) l3
  have t5 := al_T (a := c) (k := 5) (kd := 11) (n := 4) (σ := _) t4 l4
  have l5 := al_L (a := c) (k := 5) (kd := 11) (n := 4) (σ := _) l4
  have t6 := al_T (a := c) (k := 6) (kd := 11) (n := 4) (σ := _) t5 l5
  have l6 := al_L (a := c) (k := 6) (kd := 11) (n := 4) (σ := _) l5
  exact t6
theorem iSk_old {σ : cAS} {c : Nat} : oldC σ (iSk σ c) c := (((oldC.rf.al (Nat.le_add_right _ 0) 1 11 60).al (Nat.le_add_right _ 1) 2 11 60).al (Nat.le_add_right _ 2) 3 11 60)
theorem iSk_t0 {σ : cAS} {c : Nat} : aT (iSk σ c) (aN σ + 0) = (11, 60) := (alTo (by show _ ≠ aN σ + 2; omega)).trans ((alTo (by show _ ≠ aN σ + 1; omega)).trans (alTs rfl))
theorem iSk_r0 {σ : cAS} {c : Nat} (hc : c < aN σ) : aR (iSk σ c) c 1 = some (aN σ + 0) := (alRo (fun q => absurd q.2 (by decide)) (by show _ ≠ aN σ + 2; omega)).trans ((alRo (fun q => absurd q.2 (by decide)) (by show _ ≠ aN σ + 1; omega)).trans (alRs))
theorem iSk_t1 {σ : cAS} {c : Nat} : aT (iSk σ c) (aN σ + 1) = (11, 60) := (alTo (by show _ ≠ aN σ + 2; omega)).trans (alTs rfl)
theorem iSk_r1 {σ : cAS} {c : Nat} (hc : c < aN σ) : aR (iSk σ c) c 2 = some (aN σ + 1) := (alRo (fun q => absurd q.2 (by decide)) (by show _ ≠ aN σ + 2; omega)).trans (alRs)
theorem iSk_t2 {σ : cAS} {c : Nat} : aT (iSk σ c) (aN σ + 2) = (11, 60) := alTs rfl
theorem iSk_r2 {σ : cAS} {c : Nat} (hc : c < aN σ) : aR (iSk σ c) c 3 = some (aN σ + 2) := alRs
theorem iSk_tc {σ : cAS} {c : Nat} {v : Nat × Nat} (h : aT σ c = v) (hl : c < aN σ) : aT (iSk σ c) c = v := by
  have t1 := al_T (a := c) (k := 1) (kd := 11) (n := 60) (σ := _) h hl
  have l1 := al_L (a := c) (k := 1) (kd := 11) (n := 60) (σ := _) hl
  have t2 := al_T (a := c) (k := 2) (kd := 11) (n := 60) (σ := _) t1 l1
  have l2 := al_L (a := c) (k := 2) (kd := 11) (n := 60) (σ := _) l1
  have t3 := al_T (a := c) (k := 3) (kd := 11) (n := 60) (σ := _) t2 l2
  have l3 := al_L (a := c) (k := 3) (kd := 11) (n := 60) (σ := _) l2
  exact t3
theorem iCu_old {σ : cAS} {c : Nat} : oldC σ (iCu σ c) c := (((((((oldC.rf.al (Nat.le_add_right _ 0) 2 11 10).al (Nat.le_add_right _ 1) 3 11 10).al (Nat.le_add_right _ 2) 4 11 10).al (Nat.le_add_right _ 3) 5 11 10).al (Nat.le_add_right _ 4) 6 11 10).al (Nat.le_add_right _ 5) 7 11 10).al (Nat.le_add_right _ 6) 8 11 10)
theorem iCu_t0 {σ : cAS} {c : Nat} : aT (iCu σ c) (aN σ + 0) = (11, 10) := (alTo (by show _ ≠ aN σ + 6; omega)).trans ((alTo (by show _ ≠ aN σ + 5; omega)).trans ((alTo (by show _ ≠ aN σ + 4; omega)).trans ((alTo (by show _ ≠ aN σ + 3; omega)).trans ((alTo (by show _ ≠ aN σ + 2; omega)).trans ((alTo (by show _ ≠ aN σ + 1; omega)).trans (alTs rfl))))))
theorem iCu_r0 {σ : cAS} {c : Nat} (hc : c < aN σ) : aR (iCu σ c) c 2 = some (aN σ + 0) := (alRo (fun q => absurd q.2 (by decide)) (by show _ ≠ aN σ + 6; omega)).trans ((alRo (fun q => absurd q.2 (by decide)) (by show _ ≠ aN σ + 5; omega)).trans ((alRo (fun q => absurd q.2 (by decide)) (by show _ ≠ aN σ + 4; omega)).trans ((alRo (fun q => absurd q.2 (by decide)) (by show _ ≠ aN σ + 3; omega)).trans ((alRo (fun q => absurd q.2 (by decide)) (by show _ ≠ aN σ + 2; omega)).trans ((alRo (fun q => absurd q.2 (by decide)) (by show _ ≠ aN σ + 1; omega)).trans (alRs))))))
theorem iCu_t1 {σ : cAS} {c : Nat} : aT (iCu σ c) (aN σ + 1) = (11, 10) := (alTo (by show _ ≠ aN σ + 6; omega)).trans ((alTo (by show _ ≠ aN σ + 5; omega)).trans ((alTo (by show _ ≠ aN σ + 4; omega)).trans ((alTo (by show _ ≠ aN σ + 3; omega)).trans ((alTo (by show _ ≠ aN σ + 2; omega)).trans (alTs rfl)))))
theorem iCu_r1 {σ : cAS} {c : Nat} (hc : c < aN σ) : aR (iCu σ c) c 3 = some (aN σ + 1) := (alRo (fun q => absurd q.2 (by decide)) (by show _ ≠ aN σ + 6; omega)).trans ((alRo (fun q => absurd q.2 (by decide)) (by show _ ≠ aN σ + 5; omega)).trans ((alRo (fun q => absurd q.2 (by decide)) (by show _ ≠ aN σ + 4; omega)).trans ((alRo (fun q => absurd q.2 (by decide)) (by show _ ≠ aN σ + 3; omega)).trans ((alRo (fun q => absurd q.2 (by decide)) (by show _ ≠ aN σ + 2; omega)).trans (alRs)))))
theorem iCu_t2 {σ : cAS} {c : Nat} : aT (iCu σ c) (aN σ + 2) = (11, 10) := (alTo (by show _ ≠ aN σ + 6; omega)).trans ((alTo (by show _ ≠ aN σ + 5; omega)).trans ((alTo (by show _ ≠ aN σ + 4; omega)).trans ((alTo (by show _ ≠ aN σ + 3; omega)).trans (alTs rfl))))
theorem iCu_r2 {σ : cAS} {c : Nat} (hc : c < aN σ) : aR (iCu σ c) c 4 = some (aN σ + 2) := (alRo (fun q => absurd q.2 (by decide)) (by show _ ≠ aN σ + 6; omega)).trans ((alRo (fun q => absurd q.2 (by decide)) (by show _ ≠ aN σ + 5; omega)).trans ((alRo (fun q => absurd q.2 (by decide)) (by show _ ≠ aN σ + 4; omega)).trans ((alRo (fun q => absurd q.2 (by decide)) (by show _ ≠ aN σ + 3; omega)).trans (alRs))))
theorem iCu_t3 {σ : cAS} {c : Nat} : aT (iCu σ c) (aN σ + 3) = (11, 10) := (alTo (by show _ ≠ aN σ + 6; omega)).trans ((alTo (by show _ ≠ aN σ + 5; omega)).trans ((alTo (by show _ ≠ aN σ + 4; omega)).trans (alTs rfl)))
theorem iCu_r3 {σ : cAS} {c : Nat} (hc : c < aN σ) : aR (iCu σ c) c 5 = some (aN σ + 3) := (alRo (fun q => absurd q.2 (by decide)) (by show _ ≠ aN σ + 6; omega)).trans ((alRo (fun q => absurd q.2 (by decide)) (by show _ ≠ aN σ + 5; omega)).trans ((alRo (fun q => absurd q.2 (by decide)) (by show _ ≠ aN σ + 4; omega)).trans (alRs)))
theorem iCu_t4 {σ : cAS} {c : Nat} : aT (iCu σ c) (aN σ + 4) = (11, 10) := (alTo (by show _ ≠ aN σ + 6; omega)).trans ((alTo (by show _ ≠ aN σ + 5; omega)).trans (alTs rfl))
theorem iCu_r4 {σ : cAS} {c : Nat} (hc : c < aN σ) : aR (iCu σ c) c 6 = some (aN σ + 4) := (alRo (fun q => absurd q.2 (by decide)) (by show _ ≠ aN σ + 6; omega)).trans ((alRo (fun q => absurd q.2 (by decide)) (by show _ ≠ aN σ + 5; omega)).trans (alRs))
theorem iCu_t5 {σ : cAS} {c : Nat} : aT (iCu σ c) (aN σ + 5) = (11, 10) := (alTo (by show _ ≠ aN σ + 6; omega)).trans (alTs rfl)
theorem iCu_r5 {σ : cAS} {c : Nat} (hc : c < aN σ) : aR (iCu σ c) c 7 = some (aN σ + 5) := (alRo (fun q => absurd q.2 (by decide)) (by show _ ≠ aN σ + 6; omega)).trans (alRs)
theorem iCu_t6 {σ : cAS} {c : Nat} : aT (iCu σ c) (aN σ + 6) = (11, 10) := alTs rfl
theorem iCu_r6 {σ : cAS} {c : Nat} (hc : c < aN σ) : aR (iCu σ c) c 8 = some (aN σ + 6) := alRs
theorem iCu_tc {σ : cAS} {c : Nat} {v : Nat × Nat} (h : aT σ c = v) (hl : c < aN σ) : aT (iCu σ c) c = v := by
  have t1 := al_T (a := c) (k := 2) (kd := 11) (n := 10) (σ := _) h hl
  have l1 := al_L (a := c) (k := 2) (kd := 11) (n := 10) (σ := _) hl
  have t2 := al_T (a := c) (k := 3) (kd := 11) (n := 10) (σ := _) t1 l1
  have l2 := al_L (a := c) (k := 3) (kd := 11) (n := 10) (σ := _) l1
  have t3 := al_T (a := c) (k := 4) (kd := 11) (n := 10) (σ := _) t2 l2
  have l3 := al_L (a := c) (k := 4) (kd := 11) (n := 10) (σ := _) l2
  have t4 := al_T (a := c) (k := 5) (kd := 11) (n := 10) (σ := _) t3 l3
  have l4 := al_L (a := c) (k := 5) (kd := 11) (n := 10) (σ := _) l3
  have t5 := al_T (a := c) (k := 6) (kd := 11) (n := 10) (σ := _) t4 l4
  have l5 := al_L (a := c) (k := 6) (kd := 11) (n := 10) (σ := _) l4
  have t6 := al_T (a := c) (k := 7) (kd := 11) (n := 10) (σ := _) t5 l5
  have l6 := al_L (a := c) (k := 7) (kd := 11) (n := 10) (σ := _) l5
  have t7 := al_T (a := c) (k := 8) (kd := 11) (n := 10) (σ := _) t6 l6
  have l7 := al_L (a := c) (k := 8) (kd := 11) (n := 10) (σ := _) l6
  exact t7
theorem iEv_old {σ : cAS} {c : Nat} : oldC σ (iEv σ c) c := (((oldC.rf.al (Nat.le_add_right _ 0) 1 11 30).al (Nat.le_add_right _ 1) 2 11 30).al (Nat.le_add_right _ 2) 3 11 30)
theorem iEv_t0 {σ : cAS} {c : Nat} : aT (iEv σ c) (aN σ + 0) = (11, 30) := (alTo (by show _ ≠ aN σ + 2; omega)).trans ((alTo (by show _ ≠ aN σ + 1; omega)).trans (alTs rfl))
theorem iEv_r0 {σ : cAS} {c : Nat} (hc : c < aN σ) : aR (iEv σ c) c 1 = some (aN σ + 0) := (alRo (fun q => absurd q.2 (by decide)) (by show _ ≠ aN σ + 2; omega)).trans ((alRo (fun q => absurd q.2 (by decide)) (by show _ ≠ aN σ + 1; omega)).trans (alRs))
theorem iEv_t1 {σ : cAS} {c : Nat} : aT (iEv σ c) (aN σ + 1) = (11, 30) := (alTo (by show _ ≠ aN σ + 2; omega)).trans (alTs rfl)
theorem iEv_r1 {σ : cAS} {c : Nat} (hc : c < aN σ) : aR (iEv σ c) c 2 = some (aN σ + 1) := (alRo (fun q => absurd q.2 (by decide)) (by show _ ≠ aN σ + 2; omega)).trans (alRs)
theorem iEv_t2 {σ : cAS} {c : Nat} : aT (iEv σ c) (aN σ + 2) = (11, 30) := alTs rfl
theorem iEv_r2 {σ : cAS} {c : Nat} (hc : c < aN σ) : aR (iEv σ c) c 3 = some (aN σ + 2) := alRs
theorem iEv_tc {σ : cAS} {c : Nat} {v : Nat × Nat} (h : aT σ c = v) (hl : c < aN σ) : aT (iEv σ c) c = v := by
  have t1 := al_T (a := c) (k := 1) (kd := 11) (n := 30) (σ := _) h hl
  have l1 := al_L (a := c) (k := 1) (kd := 11) (n := 30) (σ := _) hl
  have t2 := al_T (a := c) (k := 2) (kd := 11) (n := 30) (σ := _) t1 l1
  have l2 := al_L (a := c) (k := 2) (kd := 11) (n := 30) (σ := _) l1
  have t3 := al_T (a := c) (k := 3) (kd := 11) (n := 30) (σ := _) t2 l2
  have l3 := al_L (a := c) (k := 3) (kd := 11) (n := 30) (σ := _) l2
  exact t3
theorem iAu_old {σ : cAS} {c : Nat} : oldC σ (iAu σ c) c := ((((oldC.rf.al (Nat.le_add_right _ 0) 1 11 90).al (Nat.le_add_right _ 1) 2 11 90).al (Nat.le_add_right _ 2) 4 11 60).al (Nat.le_add_right _ 3) 5 11 60)
theorem iAu_t0 {σ : cAS} {c : Nat} : aT (iAu σ c) (aN σ + 0) = (11, 90) := (alTo (by show _ ≠ aN σ + 3; omega)).trans ((alTo (by show _ ≠ aN σ + 2; omega)).trans ((alTo (by show _ ≠ aN σ + 1; omega)).trans (alTs rfl)))
theorem iAu_r0 {σ : cAS} {c : Nat} (hc : c < aN σ) : aR (iAu σ c) c 1 = some (aN σ + 0) := (alRo (fun q => absurd q.2 (by decide)) (by show _ ≠ aN σ + 3; omega)).trans ((alRo (fun q => absurd q.2 (by decide)) (by show _ ≠ aN σ + 2; omega)).trans ((alRo (fun q => absurd q.2 (by decide)) (by show _ ≠ aN σ + 1; omega)).trans (alRs)))
theorem iAu_t1 {σ : cAS} {c : Nat} : aT (iAu σ c) (aN σ + 1) = (11, 90) := (alTo (by show _ ≠ aN σ + 3; omega)).trans ((alTo (by show _ ≠ aN σ + 2; omega)).trans (alTs rfl))
theorem iAu_r1 {σ : cAS} {c : Nat} (hc : c < aN σ) : aR (iAu σ c) c 2 = some (aN σ + 1) := (alRo (fun q => absurd q.2 (by decide)) (by show _ ≠ aN σ + 3; omega)).trans ((alRo (fun q => absurd q.2 (by decide)) (by show _ ≠ aN σ + 2; omega)).trans (alRs))
theorem iAu_t2 {σ : cAS} {c : Nat} : aT (iAu σ c) (aN σ + 2) = (11, 60) := (alTo (by show _ ≠ aN σ + 3; omega)).trans (alTs rfl)
theorem iAu_r2 {σ : cAS} {c : Nat} (hc : c < aN σ) : aR (iAu σ c) c 4 = some (aN σ + 2) := (alRo (fun q => absurd q.2 (by decide)) (by show _ ≠ aN σ + 3; omega)).trans (alRs)
theorem iAu_t3 {σ : cAS} {c : Nat} : aT (iAu σ c) (aN σ + 3) = (11, 60) := alTs rfl
theorem iAu_r3 {σ : cAS} {c : Nat} (hc : c < aN σ) : aR (iAu σ c) c 5 = some (aN σ + 3) := alRs
theorem iAu_tc {σ : cAS} {c : Nat} {v : Nat × Nat} (h : aT σ c = v) (hl : c < aN σ) : aT (iAu σ c) c = v := by
  have t1 := al_T (a := c) (k := 1) (kd := 11) (n := 90) (σ := _) h hl
  have l1 := al_L (a := c) (k := 1) (kd := 11) (n := 90) (σ := _) hl
  have t2 := al_T (a := c) (k := 2) (kd := 11) (n := 90) (σ := _) t1 l1
  have l2 := al_L (a := c) (k := 2) (kd := 11) (n := 90) (σ := _) l1
  have t3 := al_T (a := c) (k := 4) (kd := 11) (n := 60) (σ := _) t2 l2
  have l3 := al_L (a := c) (k := 4) (kd := 11) (n := 60) (σ := _) l2
  have t4 := al_T (a := c) (k := 5) (kd := 11) (n := 60) (σ := _) t3 l3
  have l4 := al_L (a := c) (k := 5) (kd := 11) (n := 60) (σ := _) l3
  exact t4
theorem nw_old {s : cAS} {a k kd n d : Nat} {ini : cAS → Nat → cAS} (h : ∀ u c, oldC u (ini u c) c) (hd : d < aN s) (ha : d ≠ a) : aT (nwR s a k kd n ini) d = aT s d ∧ aI (nwR s a k kd n ini) d = aI s d ∧ aR (nwR s a k kd n ini) d = aR s d ∧ aL (nwR s a k kd n ini) d = aL s d := by
  obtain ⟨h1, h2, h3, h4⟩ := h (sA s kd n) (aN s) d (Nat.lt_succ_of_lt hd) (Nat.ne_of_lt hd)
  refine ⟨h1.trans (saTo (Nat.ne_of_lt hd)), h2.trans (saIo (Nat.ne_of_lt hd)), funext fun j => ?_, h4.trans (saLo (Nat.ne_of_lt hd))⟩
  rw [srRo (fun q => ha q.1), h3, saRo (Nat.ne_of_lt hd)]
theorem nw_self {s : cAS} {a k kd n : Nat} {ini : cAS → Nat → cAS} (h : ∀ u c, oldC u (ini u c) c) (ha : a < aN s) : aT (nwR s a k kd n ini) a = aT s a ∧ aI (nwR s a k kd n ini) a = aI s a ∧ aL (nwR s a k kd n ini) a = aL s a ∧ aR (nwR s a k kd n ini) a k = some (aN s) ∧ ∀ j, j ≠ k → aR (nwR s a k kd n ini) a j = aR s a j := by
  obtain ⟨h1, h2, h3, h4⟩ := h (sA s kd n) (aN s) a (Nat.lt_succ_of_lt ha) (Nat.ne_of_lt ha)
  refine ⟨h1.trans (saTo (Nat.ne_of_lt ha)), h2.trans (saIo (Nat.ne_of_lt ha)), h4.trans (saLo (Nat.ne_of_lt ha)), srR, fun j hj => ?_⟩
  rw [srRo (fun q => hj q.2), h3, saRo (Nat.ne_of_lt ha)]
theorem iBk_od : ∀ u c, oldC u (iBk u c) c := fun u c => iBk_old
theorem iSk_od : ∀ u c, oldC u (iSk u c) c := fun u c => iSk_old
theorem iCu_od : ∀ u c, oldC u (iCu u c) c := fun u c => iCu_old
theorem iEv_od : ∀ u c, oldC u (iEv u c) c := fun u c => iEv_old
theorem iAu_od : ∀ u c, oldC u (iAu u c) c := fun u c => iAu_old
theorem iSt_shS {σ : cAS} {b : Nat} (t0 : aT σ b = (6, 13)) (hN : aN σ = b + 1) : shS (iSt σ b) b := by
  have n0 : aN (alR σ b 0 11 3) = b + 2 := by show aN σ + 1 = _; omega
  have n1 : aN (nwR (alR σ b 0 11 3) b 1 2 7 iBk) = b + 9 := by show aN σ + 8 = _; omega
  have n2 : aN (nwR (nwR (alR σ b 0 11 3) b 1 2 7 iBk) b 2 7 4 iSk) = b + 13 := by show aN σ + 12 = _; omega
  have n3 : aN (nwR (nwR (nwR (alR σ b 0 11 3) b 1 2 7 iBk) b 2 7 4 iSk) b 3 3 9 iCu) = b + 21 := by show aN σ + 20 = _; omega
  have n4 : aN (nwR (nwR (nwR (nwR (alR σ b 0 11 3) b 1 2 7 iBk) b 2 7 4 iSk) b 3 3 9 iCu) b 4 4 4 iEv) = b + 25 := by show aN σ + 24 = _; omega
  have o1 : ∀ d, d < b + 2 → d ≠ b → aT (nwR (alR σ b 0 11 3) b 1 2 7 iBk) d = aT (alR σ b 0 11 3) d ∧ aR (nwR (alR σ b 0 11 3) b 1 2 7 iBk) d = aR (alR σ b 0 11 3) d := fun d h1 h2 => ⟨(nw_old iBk_od (by omega) h2).1, (nw_old iBk_od (by omega) h2).2.2.1⟩
  have s1 := nw_self (s := (alR σ b 0 11 3)) (a := b) (k := 1) (kd := 2) (n := 7) iBk_od (by omega)
  have o2 : ∀ d, d < b + 9 → d ≠ b → aT (nwR (nwR (alR σ b 0 11 3) b 1 2 7 iBk) b 2 7 4 iSk) d = aT (nwR (alR σ b 0 11 3) b 1 2 7 iBk) d ∧ aR (nwR (nwR (alR σ b 0 11 3) b 1 2 7 iBk) b 2 7 4 iSk) d = aR (nwR (alR σ b 0 11 3) b 1 2 7 iBk) d := fun d h1 h2 => ⟨(nw_old iSk_od (by omega) h2).1, (nw_old iSk_od (by omega) h2).2.2.1⟩
  have s2 := nw_self (s := (nwR (alR σ b 0 11 3) b 1 2 7 iBk)) (a := b) (k := 2) (kd := 7) (n := 4) iSk_od (by omega)
  have o3 : ∀ d, d < b + 13 → d ≠ b → aT (nwR (nwR (nwR (alR σ b 0 11 3) b 1 2 7 iBk) b 2 7 4 iSk) b 3 3 9 iCu) d = aT (nwR (nwR (alR σ b 0 11 3) b 1 2 7 iBk) b 2 7 4 iSk) d ∧ aR (nwR (nwR (nwR (alR σ b 0 11 3) b 1 2 7 iBk) b 2 7 4 iSk) b 3 3 9 iCu) d = aR (nwR (nwR (alR σ b 0 11 3) b 1 2 7 iBk) b 2 7 4 iSk) d := fun d h1 h2 => ⟨(nw_old iCu_od (by omega) h2).1, (nw_old iCu_od (by omega) h2).2.2.1⟩
  have s3 := nw_self (s := (nwR (nwR (alR σ b 0 11 3) b 1 2 7 iBk) b 2 7 4 iSk)) (a := b) (k := 3) (kd := 3) (n := 9) iCu_od (by omega)
  have o4 : ∀ d, d < b + 21 → d ≠ b → aT (nwR (nwR (nwR (nwR (alR σ b 0 11 3) b 1 2 7 iBk) b 2 7 4 iSk) b 3 3 9 iCu) b 4 4 4 iEv) d = aT (nwR (nwR (nwR (alR σ b 0 11 3) b 1 2 7 iBk) b 2 7 4 iSk) b 3 3 9 iCu) d ∧ aR (nwR (nwR (nwR (nwR (alR σ b 0 11 3) b 1 2 7 iBk) b 2 7 4 iSk) b 3 3 9 iCu) b 4 4 4 iEv) d = aR (nwR (nwR (nwR (alR σ b 0 11 3) b 1 2 7 iBk) b 2 7 4 iSk) b 3 3 9 iCu) d := fun d h1 h2 => ⟨(nw_old iEv_od (by omega) h2).1, (nw_old iEv_od (by omega) h2).2.2.1⟩
  have s4 := nw_self (s := (nwR (nwR (nwR (alR σ b 0 11 3) b 1 2 7 iBk) b 2 7 4 iSk) b 3 3 9 iCu)) (a := b) (k := 4) (kd := 4) (n := 4) iEv_od (by omega)
  have q0 : aT (alR σ b 0 11 3) b = (6, 13) := al_T t0 (by omega)
  have q1 : aT (alR σ b 0 11 3) (b + 1) = (11, 3) := alTs hN.symm
  have w0 : aR (alR σ b 0 11 3) b 0 = some (b + 1) := by rw [← hN]; exact alRs
  have u1 : aN (sA (alR σ b 0 11 3) 2 7) = b + 3 := by show aN (alR σ b 0 11 3) + 1 = _; omega
  have c1 : aT (nwR (alR σ b 0 11 3) b 1 2 7 iBk) (b + 2) = (2, 7) := by rw [← n0]; exact iBk_tc sA_new sA_newL
  have e1_0 : aT (nwR (alR σ b 0 11 3) b 1 2 7 iBk) (b + 3) = (11, 4) := by rw [show b + 3 = aN (sA (alR σ b 0 11 3) 2 7) + 0 by omega]; exact iBk_t0
  have r1_0 : aR (nwR (alR σ b 0 11 3) b 1 2 7 iBk) (b + 2) 1 = some (b + 3) := by
    rw [show b + 3 = aN (sA (alR σ b 0 11 3) 2 7) + 0 by omega, ← n0]
    exact (srRo (fun q => by have := q.1; omega)).trans (iBk_r0 sA_newL)
  have e1_1 : aT (nwR (alR σ b 0 11 3) b 1 2 7 iBk) (b + 4) = (11, 4) := by rw [show b + 4 = aN (sA (alR σ b 0 11 3) 2 7) + 1 by omega]; exact iBk_t1
  have r1_1 : aR (nwR (alR σ b 0 11 3) b 1 2 7 iBk) (b + 2) 2 = some (b + 4) := by
    rw [show b + 4 = aN (sA (alR σ b 0 11 3) 2 7) + 1 by omega, ← n0]
    exact (srRo (fun q => by have := q.1; omega)).trans (iBk_r1 sA_newL)
  have e1_2 : aT (nwR (alR σ b 0 11 3) b 1 2 7 iBk) (b + 5) = (11, 4) := by rw [show b + 5 = aN (sA (alR σ b 0 11 3) 2 7) + 2 by omega]; exact iBk_t2
  have r1_2 : aR (nwR (alR σ b 0 11 3) b 1 2 7 iBk) (b + 2) 3 = some (b + 5) := by
    rw [show b + 5 = aN (sA (alR σ b 0 11 3) 2 7) + 2 by omega, ← n0]
    exact (srRo (fun q => by have := q.1; omega)).trans (iBk_r2 sA_newL)
  have e1_3 : aT (nwR (alR σ b 0 11 3) b 1 2 7 iBk) (b + 6) = (11, 4) := by rw [show b + 6 = aN (sA (alR σ b 0 11 3) 2 7) + 3 by omega]; exact iBk_t3
  have r1_3 : aR (nwR (alR σ b 0 11 3) b 1 2 7 iBk) (b + 2) 4 = some (b + 6) := by
    rw [show b + 6 = aN (sA (alR σ b 0 11 3) 2 7) + 3 by omega, ← n0]
    exact (srRo (fun q => by have := q.1; omega)).trans (iBk_r3 sA_newL)
  have e1_4 : aT (nwR (alR σ b 0 11 3) b 1 2 7 iBk) (b + 7) = (11, 4) := by rw [show b + 7 = aN (sA (alR σ b 0 11 3) 2 7) + 4 by omega]; exact iBk_t4
  have r1_4 : aR (nwR (alR σ b 0 11 3) b 1 2 7 iBk) (b + 2) 5 = some (b + 7) := by
    rw [show b + 7 = aN (sA (alR σ b 0 11 3) 2 7) + 4 by omega, ← n0]
    exact (srRo (fun q => by have := q.1; omega)).trans (iBk_r4 sA_newL)
  have e1_5 : aT (nwR (alR σ b 0 11 3) b 1 2 7 iBk) (b + 8) = (11, 4) := by rw [show b + 8 = aN (sA (alR σ b 0 11 3) 2 7) + 5 by omega]; exact iBk_t5
  have r1_5 : aR (nwR (alR σ b 0 11 3) b 1 2 7 iBk) (b + 2) 6 = some (b + 8) := by
    rw [show b + 8 = aN (sA (alR σ b 0 11 3) 2 7) + 5 by omega, ← n0]
    exact (srRo (fun q => by have := q.1; omega)).trans (iBk_r5 sA_newL)
  have u2 : aN (sA (nwR (alR σ b 0 11 3) b 1 2 7 iBk) 7 4) = b + 10 := by show aN (nwR (alR σ b 0 11 3) b 1 2 7 iBk) + 1 = _; omega
  have c2 : aT (nwR (nwR (alR σ b 0 11 3) b 1 2 7 iBk) b 2 7 4 iSk) (b + 9) = (7, 4) := by rw [← n1]; exact iSk_tc sA_new sA_newL
  have e2_0 : aT (nwR (nwR (alR σ b 0 11 3) b 1 2 7 iBk) b 2 7 4 iSk) (b + 10) = (11, 60) := by rw [show b + 10 = aN (sA (nwR (alR σ b 0 11 3) b 1 2 7 iBk) 7 4) + 0 by omega]; exact iSk_t0
  have r2_0 : aR (nwR (nwR (alR σ b 0 11 3) b 1 2 7 iBk) b 2 7 4 iSk) (b + 9) 1 = some (b + 10) := by
    rw [show b + 10 = aN (sA (nwR (alR σ b 0 11 3) b 1 2 7 iBk) 7 4) + 0 by omega, ← n1]
    exact (srRo (fun q => by have := q.1; omega)).trans (iSk_r0 sA_newL)
  have e2_1 : aT (nwR (nwR (alR σ b 0 11 3) b 1 2 7 iBk) b 2 7 4 iSk) (b + 11) = (11, 60) := by rw [show b + 11 = aN (sA (nwR (alR σ b 0 11 3) b 1 2 7 iBk) 7 4) + 1 by omega]; exact iSk_t1
  have r2_1 : aR (nwR (nwR (alR σ b 0 11 3) b 1 2 7 iBk) b 2 7 4 iSk) (b + 9) 2 = some (b + 11) := by
    rw [show b + 11 = aN (sA (nwR (alR σ b 0 11 3) b 1 2 7 iBk) 7 4) + 1 by omega, ← n1]
    exact (srRo (fun q => by have := q.1; omega)).trans (iSk_r1 sA_newL)
  have e2_2 : aT (nwR (nwR (alR σ b 0 11 3) b 1 2 7 iBk) b 2 7 4 iSk) (b + 12) = (11, 60) := by rw [show b + 12 = aN (sA (nwR (alR σ b 0 11 3) b 1 2 7 iBk) 7 4) + 2 by omega]; exact iSk_t2
  have r2_2 : aR (nwR (nwR (alR σ b 0 11 3) b 1 2 7 iBk) b 2 7 4 iSk) (b + 9) 3 = some (b + 12) := by
    rw [show b + 12 = aN (sA (nwR (alR σ b 0 11 3) b 1 2 7 iBk) 7 4) + 2 by omega, ← n1]
    exact (srRo (fun q => by have := q.1; omega)).trans (iSk_r2 sA_newL)
  have u3 : aN (sA (nwR (nwR (alR σ b 0 11 3) b 1 2 7 iBk) b 2 7 4 iSk) 3 9) = b + 14 := by show aN (nwR (nwR (alR σ b 0 11 3) b 1 2 7 iBk) b 2 7 4 iSk) + 1 = _; omega
  have c3 : aT (nwR (nwR (nwR (alR σ b 0 11 3) b 1 2 7 iBk) b 2 7 4 iSk) b 3 3 9 iCu) (b + 13) = (3, 9) := by rw [← n2]; exact iCu_tc sA_new sA_newL
  have e3_0 : aT (nwR (nwR (nwR (alR σ b 0 11 3) b 1 2 7 iBk) b 2 7 4 iSk) b 3 3 9 iCu) (b + 14) = (11, 10) := by rw [show b + 14 = aN (sA (nwR (nwR (alR σ b 0 11 3) b 1 2 7 iBk) b 2 7 4 iSk) 3 9) + 0 by omega]; exact iCu_t0
  have r3_0 : aR (nwR (nwR (nwR (alR σ b 0 11 3) b 1 2 7 iBk) b 2 7 4 iSk) b 3 3 9 iCu) (b + 13) 2 = some (b + 14) := by
    rw [show b + 14 = aN (sA (nwR (nwR (alR σ b 0 11 3) b 1 2 7 iBk) b 2 7 4 iSk) 3 9) + 0 by omega, ← n2]
    exact (srRo (fun q => by have := q.1; omega)).trans (iCu_r0 sA_newL)
  have e3_1 : aT (nwR (nwR (nwR (alR σ b 0 11 3) b 1 2 7 iBk) b 2 7 4 iSk) b 3 3 9 iCu) (b + 15) = (11, 10) := by rw [show b + 15 = aN (sA (nwR (nwR (alR σ b 0 11 3) b 1 2 7 iBk) b 2 7 4 iSk) 3 9) + 1 by omega]; exact iCu_t1
  have r3_1 : aR (nwR (nwR (nwR (alR σ b 0 11 3) b 1 2 7 iBk) b 2 7 4 iSk) b 3 3 9 iCu) (b + 13) 3 = some (b + 15) := by
    rw [show b + 15 = aN (sA (nwR (nwR (alR σ b 0 11 3) b 1 2 7 iBk) b 2 7 4 iSk) 3 9) + 1 by omega, ← n2]
    exact (srRo (fun q => by have := q.1; omega)).trans (iCu_r1 sA_newL)
  have e3_2 : aT (nwR (nwR (nwR (alR σ b 0 11 3) b 1 2 7 iBk) b 2 7 4 iSk) b 3 3 9 iCu) (b + 16) = (11, 10) := by rw [show b + 16 = aN (sA (nwR (nwR (alR σ b 0 11 3) b 1 2 7 iBk) b 2 7 4 iSk) 3 9) + 2 by omega]; exact iCu_t2
  have r3_2 : aR (nwR (nwR (nwR (alR σ b 0 11 3) b 1 2 7 iBk) b 2 7 4 iSk) b 3 3 9 iCu) (b + 13) 4 = some (b + 16) := by
    rw [show b + 16 = aN (sA (nwR (nwR (alR σ b 0 11 3) b 1 2 7 iBk) b 2 7 4 iSk) 3 9) + 2 by omega, ← n2]
    exact (srRo (fun q => by have := q.1; omega)).trans (iCu_r2 sA_newL)
  have e3_3 : aT (nwR (nwR (nwR (alR σ b 0 11 3) b 1 2 7 iBk) b 2 7 4 iSk) b 3 3 9 iCu) (b + 17) = (11, 10) := by rw [show b + 17 = aN (sA (nwR (nwR (alR σ b 0 11 3) b 1 2 7 iBk) b 2 7 4 iSk) 3 9) + 3 by omega]; exact iCu_t3
  have r3_3 : aR (nwR (nwR (nwR (alR σ b 0 11 3) b 1 2 7 iBk) b 2 7 4 iSk) b 3 3 9 iCu) (b + 13) 5 = some (b + 17) := by
    rw [show b + 17 = aN (sA (nwR (nwR (alR σ b 0 11 3) b 1 2 7 iBk) b 2 7 4 iSk) 3 9) + 3 by omega, ← n2]
    exact (srRo (fun q => by have := q.1; omega)).trans (iCu_r3 sA_newL)
  have e3_4 : aT (nwR (nwR (nwR (alR σ b 0 11 3) b 1 2 7 iBk) b 2 7 4 iSk) b 3 3 9 iCu) (b + 18) = (11, 10) := by rw [show b + 18 = aN (sA (nwR (nwR (alR σ b 0 11 3) b 1 2 7 iBk) b 2 7 4 iSk) 3 9) + 4 by omega]; exact iCu_t4
  have r3_4 : aR (nwR (nwR (nwR (alR σ b 0 11 3) b 1 2 7 iBk) b 2 7 4 iSk) b 3 3 9 iCu) (b + 13) 6 = some (b + 18) := by
    rw [show b + 18 = aN (sA (nwR (nwR (alR σ b 0 11 3) b 1 2 7 iBk) b 2 7 4 iSk) 3 9) + 4 by omega, ← n2]
    exact (srRo (fun q => by have := q.1; omega)).trans (iCu_r4 sA_newL)
  have e3_5 : aT (nwR (nwR (nwR (alR σ b 0 11 3) b 1 2 7 iBk) b 2 7 4 iSk) b 3 3 9 iCu) (b + 19) = (11, 10) := by rw [show b + 19 = aN (sA (nwR (nwR (alR σ b 0 11 3) b 1 2 7 iBk) b 2 7 4 iSk) 3 9) + 5 by omega]; exact iCu_t5
  have r3_5 : aR (nwR (nwR (nwR (alR σ b 0 11 3) b 1 2 7 iBk) b 2 7 4 iSk) b 3 3 9 iCu) (b + 13) 7 = some (b + 19) := by
    rw [show b + 19 = aN (sA (nwR (nwR (alR σ b 0 11 3) b 1 2 7 iBk) b 2 7 4 iSk) 3 9) + 5 by omega, ← n2]
    exact (srRo (fun q => by have := q.1; omega)).trans (iCu_r5 sA_newL)
  have e3_6 : aT (nwR (nwR (nwR (alR σ b 0 11 3) b 1 2 7 iBk) b 2 7 4 iSk) b 3 3 9 iCu) (b + 20) = (11, 10) := by rw [show b + 20 = aN (sA (nwR (nwR (alR σ b 0 11 3) b 1 2 7 iBk) b 2 7 4 iSk) 3 9) + 6 by omega]; exact iCu_t6
  have r3_6 : aR (nwR (nwR (nwR (alR σ b 0 11 3) b 1 2 7 iBk) b 2 7 4 iSk) b 3 3 9 iCu) (b + 13) 8 = some (b + 20) := by
    rw [show b + 20 = aN (sA (nwR (nwR (alR σ b 0 11 3) b 1 2 7 iBk) b 2 7 4 iSk) 3 9) + 6 by omega, ← n2]
    exact (srRo (fun q => by have := q.1; omega)).trans (iCu_r6 sA_newL)
  have u4 : aN (sA (nwR (nwR (nwR (alR σ b 0 11 3) b 1 2 7 iBk) b 2 7 4 iSk) b 3 3 9 iCu) 4 4) = b + 22 := by show aN (nwR (nwR (nwR (alR σ b 0 11 3) b 1 2 7 iBk) b 2 7 4 iSk) b 3 3 9 iCu) + 1 = _; omega
  have c4 : aT (nwR (nwR (nwR (nwR (alR σ b 0 11 3) b 1 2 7 iBk) b 2 7 4 iSk) b 3 3 9 iCu) b 4 4 4 iEv) (b + 21) = (4, 4) := by rw [← n3]; exact iEv_tc sA_new sA_newL
  have e4_0 : aT (nwR (nwR (nwR (nwR (alR σ b 0 11 3) b 1 2 7 iBk) b 2 7 4 iSk) b 3 3 9 iCu) b 4 4 4 iEv) (b + 22) = (11, 30) := by rw [show b + 22 = aN (sA (nwR (nwR (nwR (alR σ b 0 11 3) b 1 2 7 iBk) b 2 7 4 iSk) b 3 3 9 iCu) 4 4) + 0 by omega]; exact iEv_t0
  have r4_0 : aR (nwR (nwR (nwR (nwR (alR σ b 0 11 3) b 1 2 7 iBk) b 2 7 4 iSk) b 3 3 9 iCu) b 4 4 4 iEv) (b + 21) 1 = some (b + 22) := by
    rw [show b + 22 = aN (sA (nwR (nwR (nwR (alR σ b 0 11 3) b 1 2 7 iBk) b 2 7 4 iSk) b 3 3 9 iCu) 4 4) + 0 by omega, ← n3]
    exact (srRo (fun q => by have := q.1; omega)).trans (iEv_r0 sA_newL)
  have e4_1 : aT (nwR (nwR (nwR (nwR (alR σ b 0 11 3) b 1 2 7 iBk) b 2 7 4 iSk) b 3 3 9 iCu) b 4 4 4 iEv) (b + 23) = (11, 30) := by rw [show b + 23 = aN (sA (nwR (nwR (nwR (alR σ b 0 11 3) b 1 2 7 iBk) b 2 7 4 iSk) b 3 3 9 iCu) 4 4) + 1 by omega]; exact iEv_t1
  have r4_1 : aR (nwR (nwR (nwR (nwR (alR σ b 0 11 3) b 1 2 7 iBk) b 2 7 4 iSk) b 3 3 9 iCu) b 4 4 4 iEv) (b + 21) 2 = some (b + 23) := by
    rw [show b + 23 = aN (sA (nwR (nwR (nwR (alR σ b 0 11 3) b 1 2 7 iBk) b 2 7 4 iSk) b 3 3 9 iCu) 4 4) + 1 by omega, ← n3]
    exact (srRo (fun q => by have := q.1; omega)).trans (iEv_r1 sA_newL)
  have e4_2 : aT (nwR (nwR (nwR (nwR (alR σ b 0 11 3) b 1 2 7 iBk) b 2 7 4 iSk) b 3 3 9 iCu) b 4 4 4 iEv) (b + 24) = (11, 30) := by rw [show b + 24 = aN (sA (nwR (nwR (nwR (alR σ b 0 11 3) b 1 2 7 iBk) b 2 7 4 iSk) b 3 3 9 iCu) 4 4) + 2 by omega]; exact iEv_t2
  have r4_2 : aR (nwR (nwR (nwR (nwR (alR σ b 0 11 3) b 1 2 7 iBk) b 2 7 4 iSk) b 3 3 9 iCu) b 4 4 4 iEv) (b + 21) 3 = some (b + 24) := by
    rw [show b + 24 = aN (sA (nwR (nwR (nwR (alR σ b 0 11 3) b 1 2 7 iBk) b 2 7 4 iSk) b 3 3 9 iCu) 4 4) + 2 by omega, ← n3]
    exact (srRo (fun q => by have := q.1; omega)).trans (iEv_r2 sA_newL)
  constructor
  · intro k hk
    simp only [List.mem_cons, List.not_mem_nil, or_false] at hk
    rcases hk with rfl | rfl | rfl | rfl | rfl | rfl | rfl | rfl | rfl | rfl | rfl | rfl | rfl | rfl | rfl | rfl | rfl | rfl | rfl | rfl | rfl | rfl | rfl | rfl | rfl
    · exact s4.1.trans (s3.1.trans (s2.1.trans (s1.1.trans q0)))
    · exact (o4 (b + 1) (by omega) (by omega)).1.trans ((o3 (b + 1) (by omega) (by omega)).1.trans ((o2 (b + 1) (by omega) (by omega)).1.trans ((o1 (b + 1) (by omega) (by omega)).1.trans (q1))))
    · exact (o4 (b + 2) (by omega) (by omega)).1.trans ((o3 (b + 2) (by omega) (by omega)).1.trans ((o2 (b + 2) (by omega) (by omega)).1.trans (c1)))
    · exact (o4 (b + 3) (by omega) (by omega)).1.trans ((o3 (b + 3) (by omega) (by omega)).1.trans ((o2 (b + 3) (by omega) (by omega)).1.trans (e1_0)))
    · exact (o4 (b + 4) (by omega) (by omega)).1.trans ((o3 (b + 4) (by omega) (by omega)).1.trans ((o2 (b + 4) (by omega) (by omega)).1.trans (e1_1)))
    · exact (o4 (b + 5) (by omega) (by omega)).1.trans ((o3 (b + 5) (by omega) (by omega)).1.trans ((o2 (b + 5) (by omega) (by omega)).1.trans (e1_2)))
    · exact (o4 (b + 6) (by omega) (by omega)).1.trans ((o3 (b + 6) (by omega) (by omega)).1.trans ((o2 (b + 6) (by omega) (by omega)).1.trans (e1_3)))
    · exact (o4 (b + 7) (by omega) (by omega)).1.trans ((o3 (b + 7) (by omega) (by omega)).1.trans ((o2 (b + 7) (by omega) (by omega)).1.trans (e1_4)))
    · exact (o4 (b + 8) (by omega) (by omega)).1.trans ((o3 (b + 8) (by omega) (by omega)).1.trans ((o2 (b + 8) (by omega) (by omega)).1.trans (e1_5)))
    · exact (o4 (b + 9) (by omega) (by omega)).1.trans ((o3 (b + 9) (by omega) (by omega)).1.trans (c2))
    · exact (o4 (b + 10) (by omega) (by omega)).1.trans ((o3 (b + 10) (by omega) (by omega)).1.trans (e2_0))
    · exact (o4 (b + 11) (by omega) (by omega)).1.trans ((o3 (b + 11) (by omega) (by omega)).1.trans (e2_1))
    · exact (o4 (b + 12) (by omega) (by omega)).1.trans ((o3 (b + 12) (by omega) (by omega)).1.trans (e2_2))
    · exact (o4 (b + 13) (by omega) (by omega)).1.trans (c3)
    · exact (o4 (b + 14) (by omega) (by omega)).1.trans (e3_0)
    · exact (o4 (b + 15) (by omega) (by omega)).1.trans (e3_1)
    · exact (o4 (b + 16) (by omega) (by omega)).1.trans (e3_2)
    · exact (o4 (b + 17) (by omega) (by omega)).1.trans (e3_3)
    · exact (o4 (b + 18) (by omega) (by omega)).1.trans (e3_4)
    · exact (o4 (b + 19) (by omega) (by omega)).1.trans (e3_5)
    · exact (o4 (b + 20) (by omega) (by omega)).1.trans (e3_6)
    · exact c4
    · exact e4_0
    · exact e4_1
    · exact e4_2
  · intro q hq
    simp only [shSR, List.mem_cons, List.not_mem_nil, or_false] at hq
    rcases hq with rfl | rfl | rfl | rfl | rfl | rfl | rfl | rfl | rfl | rfl | rfl | rfl | rfl | rfl | rfl | rfl | rfl | rfl | rfl | rfl | rfl | rfl | rfl | rfl
    · exact (s4.2.2.2.2 0 (by decide)).trans ((s3.2.2.2.2 0 (by decide)).trans ((s2.2.2.2.2 0 (by decide)).trans ((s1.2.2.2.2 0 (by decide)).trans (w0))))
    · exact (s4.2.2.2.2 1 (by decide)).trans ((s3.2.2.2.2 1 (by decide)).trans ((s2.2.2.2.2 1 (by decide)).trans (s1.2.2.2.1.trans (congrArg some n0))))
    · exact (s4.2.2.2.2 2 (by decide)).trans ((s3.2.2.2.2 2 (by decide)).trans (s2.2.2.2.1.trans (congrArg some n1)))
    · exact (s4.2.2.2.2 3 (by decide)).trans (s3.2.2.2.1.trans (congrArg some n2))
    · exact s4.2.2.2.1.trans (congrArg some n3)
    · exact (congrFun (o4 (b + 2) (by omega) (by omega)).2 1).trans ((congrFun (o3 (b + 2) (by omega) (by omega)).2 1).trans ((congrFun (o2 (b + 2) (by omega) (by omega)).2 1).trans (r1_0)))
    · exact (congrFun (o4 (b + 2) (by omega) (by omega)).2 2).trans ((congrFun (o3 (b + 2) (by omega) (by omega)).2 2).trans ((congrFun (o2 (b + 2) (by omega) (by omega)).2 2).trans (r1_1)))
    · exact (congrFun (o4 (b + 2) (by omega) (by omega)).2 3).trans ((congrFun (o3 (b + 2) (by omega) (by omega)).2 3).trans ((congrFun (o2 (b + 2) (by omega) (by omega)).2 3).trans (r1_2)))
    · exact (congrFun (o4 (b + 2) (by omega) (by omega)).2 4).trans ((congrFun (o3 (b + 2) (by omega) (by omega)).2 4).trans ((congrFun (o2 (b + 2) (by omega) (by omega)).2 4).trans (r1_3)))
    · exact (congrFun (o4 (b + 2) (by omega) (by omega)).2 5).trans ((congrFun (o3 (b + 2) (by omega) (by omega)).2 5).trans ((congrFun (o2 (b + 2) (by omega) (by omega)).2 5).trans (r1_4)))
    · exact (congrFun (o4 (b + 2) (by omega) (by omega)).2 6).trans ((congrFun (o3 (b + 2) (by omega) (by omega)).2 6).trans ((congrFun (o2 (b + 2) (by omega) (by omega)).2 6).trans (r1_5)))
    · exact (congrFun (o4 (b + 9) (by omega) (by omega)).2 1).trans ((congrFun (o3 (b + 9) (by omega) (by omega)).2 1).trans (r2_0))
    · exact (congrFun (o4 (b + 9) (by omega) (by omega)).2 2).trans ((congrFun (o3 (b + 9) (by omega) (by omega)).2 2).trans (r2_1))
    · exact (congrFun (o4 (b + 9) (by omega) (by omega)).2 3).trans ((congrFun (o3 (b + 9) (by omega) (by omega)).2 3).trans (r2_2))
    · exact (congrFun (o4 (b + 13) (by omega) (by omega)).2 2).trans (r3_0)
    · exact (congrFun (o4 (b + 13) (by omega) (by omega)).2 3).trans (r3_1)
    · exact (congrFun (o4 (b + 13) (by omega) (by omega)).2 4).trans (r3_2)
    · exact (congrFun (o4 (b + 13) (by omega) (by omega)).2 5).trans (r3_3)
    · exact (congrFun (o4 (b + 13) (by omega) (by omega)).2 6).trans (r3_4)
    · exact (congrFun (o4 (b + 13) (by omega) (by omega)).2 7).trans (r3_5)
    · exact (congrFun (o4 (b + 13) (by omega) (by omega)).2 8).trans (r3_6)
    · exact r4_0
    · exact r4_1
    · exact r4_2
theorem iSt_old {σ : cAS} {b d : Nat} (hN : aN σ = b + 1) (hd : d < b) : aT (iSt σ b) d = aT σ d ∧ aI (iSt σ b) d = aI σ d ∧ aR (iSt σ b) d = aR σ d ∧ aL (iSt σ b) d = aL σ d := by
  have n0 : aN (alR σ b 0 11 3) = b + 2 := by show aN σ + 1 = _; omega
  have n1 : aN (nwR (alR σ b 0 11 3) b 1 2 7 iBk) = b + 9 := by show aN σ + 8 = _; omega
  have n2 : aN (nwR (nwR (alR σ b 0 11 3) b 1 2 7 iBk) b 2 7 4 iSk) = b + 13 := by show aN σ + 12 = _; omega
  have n3 : aN (nwR (nwR (nwR (alR σ b 0 11 3) b 1 2 7 iBk) b 2 7 4 iSk) b 3 3 9 iCu) = b + 21 := by show aN σ + 20 = _; omega
  obtain ⟨a1, a2, a3, a4⟩ := nw_old (s := (nwR (nwR (nwR (alR σ b 0 11 3) b 1 2 7 iBk) b 2 7 4 iSk) b 3 3 9 iCu)) (a := b) (k := 4) (kd := 4) (n := 4) iEv_od (show d < _ by omega) (by omega)
  obtain ⟨b1, b2, b3, b4⟩ := nw_old (s := (nwR (nwR (alR σ b 0 11 3) b 1 2 7 iBk) b 2 7 4 iSk)) (a := b) (k := 3) (kd := 3) (n := 9) iCu_od (show d < _ by omega) (by omega)
  obtain ⟨c1, c2, c3, c4⟩ := nw_old (s := (nwR (alR σ b 0 11 3) b 1 2 7 iBk)) (a := b) (k := 2) (kd := 7) (n := 4) iSk_od (show d < _ by omega) (by omega)
  obtain ⟨d1, d2, d3, d4⟩ := nw_old (s := (alR σ b 0 11 3)) (a := b) (k := 1) (kd := 2) (n := 7) iBk_od (show d < _ by omega) (by omega)
  obtain ⟨e1, e2, e3, e4⟩ := (oldC.rf (σ := σ) (c := b)).al (Nat.le_refl _) 0 11 3 d (by omega) (by omega)
  exact ⟨a1.trans (b1.trans (c1.trans (d1.trans e1))), a2.trans (b2.trans (c2.trans (d2.trans e2))), a3.trans (b3.trans (c3.trans (d3.trans e3))), a4.trans (b4.trans (c4.trans (d4.trans e4)))⟩
