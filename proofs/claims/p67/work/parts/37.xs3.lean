def dB : mBk := (0, 0, 0, 0, 0, 0)
def dL : mLf := (0, 0, 0)
def dC : mCu := (0, 0, 0, 0, 0, 0, 0)
def dE : mEv := (0, 0, 0)
theorem stAt.gz {I : Nat → Nat → Int32} {b : Nat} {s : mS} (h : stAt I b s) : I b 5 = s.1 3 ∧ I b 6 = s.1 4 ∧ I b 7 = s.1 5 ∧ I b 8 = s.1 6 ∧ I b 9 = s.1 7 ∧ I b 10 = s.1 8 ∧ I b 11 = s.1 9 ∧ I b 12 = s.1 10 := by
  obtain ⟨z0, z1, z2, z3, z4, z5, z6, z7, z8, z9, z10, z11⟩ := h.1
  exact ⟨z3, z4, z5, z6, z7, z8, z9, z10⟩
theorem smI_ext {f g : Nat → Int32} : ∀ n, (∀ j, j < n → f j = g j) → smI f n = smI g n
  | 0, _ => rfl
  | n + 1, h => by
    unfold smI
    rw [smI_ext n (fun j hj => h j (by omega)), h n (by omega)]
def q_errorCode (m : mX) : oR := (0, nI m.e, m)
def q_errorPosition (m : mX) : oR := (0, m.ep, m)
def q_undoDepth (m : mX) : oR := (0, nI m.past.length, m)
def q_hour (m : mX) : oR := (0, m.s.1 3, m)
def q_crumbs (m : mX) : oR := (0, m.s.1 4, m)
def q_sparrows (m : mX) : oR := (0, m.s.1 5, m)
def q_bakerCount (m : mX) : oR := (0, nI m.s.2.1.length, m)
def q_customerCount (m : mX) : oR := (0, nI m.s.2.2.2.1.length, m)
def q_loafCount (m : mX) : oR := (0, nI m.s.2.2.1.length, m)
def q_eventCount (m : mX) : oR := (0, nI m.s.2.2.2.2.length, m)
def q_ovenSize (m : mX) (i : Int32) : oR := if ixB i m.s.2.1.length then (1, 0, m) else (0, (m.s.2.1.getD i.toNatClampNeg dB).2.1, m)
def q_bakingKind (m : mX) (i : Int32) : oR := if ixB i m.s.2.1.length then (1, 0, m) else (0, (m.s.2.1.getD i.toNatClampNeg dB).2.2.2.1, m)
def q_hoursLeft (m : mX) (i : Int32) : oR := if ixB i m.s.2.1.length then (1, 0, m) else (0, (m.s.2.1.getD i.toNatClampNeg dB).2.2.2.2.1, m)
def q_income (m : mX) (i : Int32) : oR := if ixB i m.s.2.1.length then (1, 0, m) else (0, (m.s.2.1.getD i.toNatClampNeg dB).2.2.2.2.2, m)
def q_ticketOf (m : mX) (i : Int32) : oR := if ixB i m.s.2.2.2.1.length then (1, 0, m) else (0, (m.s.2.2.2.1.getD i.toNatClampNeg dC).2.1, m)
def q_kindWanted (m : mX) (i : Int32) : oR := if ixB i m.s.2.2.2.1.length then (1, 0, m) else (0, (m.s.2.2.2.1.getD i.toNatClampNeg dC).2.2.1, m)
def q_wanted (m : mX) (i : Int32) : oR := if ixB i m.s.2.2.2.1.length then (1, 0, m) else (0, (m.s.2.2.2.1.getD i.toNatClampNeg dC).2.2.2.1, m)
def q_limitPrice (m : mX) (i : Int32) : oR := if ixB i m.s.2.2.2.1.length then (1, 0, m) else (0, (m.s.2.2.2.1.getD i.toNatClampNeg dC).2.2.2.2.1, m)
def q_purse (m : mX) (i : Int32) : oR := if ixB i m.s.2.2.2.1.length then (1, 0, m) else (0, (m.s.2.2.2.1.getD i.toNatClampNeg dC).2.2.2.2.2.1, m)
def q_patience (m : mX) (i : Int32) : oR := if ixB i m.s.2.2.2.1.length then (1, 0, m) else (0, (m.s.2.2.2.1.getD i.toNatClampNeg dC).2.2.2.2.2.2, m)
def q_loafKind (m : mX) (i : Int32) : oR := if ixB i m.s.2.2.1.length then (1, 0, m) else (0, (m.s.2.2.1.getD i.toNatClampNeg dL).1, m)
def q_loafBaker (m : mX) (i : Int32) : oR := if ixB i m.s.2.2.1.length then (1, 0, m) else (0, (m.s.2.2.1.getD i.toNatClampNeg dL).2.1, m)
def q_eventType (m : mX) (i : Int32) : oR := if ixB i m.s.2.2.2.2.length then (1, 0, m) else (0, (m.s.2.2.2.2.getD i.toNatClampNeg dE).1, m)
def q_eventFirst (m : mX) (i : Int32) : oR := if ixB i m.s.2.2.2.2.length then (1, 0, m) else (0, (m.s.2.2.2.2.getD i.toNatClampNeg dE).2.1, m)
def q_eventSecond (m : mX) (i : Int32) : oR := if ixB i m.s.2.2.2.2.length then (1, 0, m) else (0, (m.s.2.2.2.2.getD i.toNatClampNeg dE).2.2, m)
def q_bakerNameByte (m : mX) (i p : Int32) : oR := if ixB i m.s.2.1.length then (1, 0, m) else if ixB p (nmLen (nmA (m.s.2.1.getD i.toNatClampNeg dB).1) 4 0) then (2, 0, m) else (0, ltAt (nmA (m.s.2.1.getD i.toNatClampNeg dB).1) p, m)
def q_customerNameByte (m : mX) (i p : Int32) : oR := if ixB i m.s.2.2.2.1.length then (1, 0, m) else if ixB p (nmLen (nmA (m.s.2.2.2.1.getD i.toNatClampNeg dC).1) 4 0) then (2, 0, m) else (0, ltAt (nmA (m.s.2.2.2.1.getD i.toNatClampNeg dC).1) p, m)
def q_loafAge (m : mX) (i : Int32) : oR := if ixB i m.s.2.2.1.length then (1, 0, m) else (0, m.s.1 3 - (m.s.2.2.1.getD i.toNatClampNeg dL).2.2, m)
def q_reservePrice (m : mX) (i : Int32) : oR := if ixB i m.s.2.2.1.length then (1, 0, m) else (0, rsE m.s.1 (m.s.2.2.1.getD i.toNatClampNeg dL), m)
def q_basePrice (m : mX) (k : Int32) : oR := if ixB k 3 then (1, 0, m) else (0, bsO m.s.1 k, m)
def q_reserveAt (m : mX) (k a : Int32) : oR := if ixB k 3 then (1, 0, m) else if a < 0 ∨ 999 < a then (2, 0, m) else (0, rsv k (bsO m.s.1 k) a, m)
def q_bakeRefusal (m : mX) (i k : Int32) : oR := if ixB i m.s.2.1.length then (1, 0, m) else if ixB k 3 then (1, 0, m) else (0, rfU m.s (m.s.2.1.getD i.toNatClampNeg dB), m)
def q_customerWithTicket (m : mX) (t : Int32) : oR := (0, fndI (fun i => (m.s.2.2.2.1.getD i dC).2.1) t m.s.2.2.2.1.length 0, m)
def q_moneyDifference (m : mX) : oR := (0, m.s.1 9 - smI (fun i => (m.s.2.2.2.1.getD i dC).2.2.2.2.2.1) m.s.2.2.2.1.length - m.s.1 10 - smI (fun i => (m.s.2.1.getD i dB).2.2.2.2.2) m.s.2.1.length, m)
def q_loafDifference (m : mX) : oR := (0, m.s.1 6 - m.s.1 7 - m.s.1 8 - nI m.s.2.2.1.length, m)
def husN (k b a : Int32) : Nat → Nat → Int32
  | 0, _ => -1
  | n + 1, i => if rsv k b (a + nI i) = 0 then nI i else husN k b a n (i + 1)
def q_hoursUntilStale (m : mX) (i : Int32) : oR := if ixB i m.s.2.2.1.length then (1, 0, m) else (0, husN (m.s.2.2.1.getD i.toNatClampNeg dL).1 (bsO m.s.1 (m.s.2.2.1.getD i.toNatClampNeg dL).1) (m.s.1 3 - (m.s.2.2.1.getD i.toNatClampNeg dL).2.2) 101 0, m)
theorem nmLen_le (v : Int32) : ∀ n i, nmLen v n i ≤ n + i
  | 0, i => by
    show i ≤ 0 + i
    omega
  | n + 1, i => by
    unfold nmLen
    split
    · omega
    · have := nmLen_le v n (i + 1)
      omega
section T
variable (Γ : cG) {σ : cAS} {x : Nat} {m : mX}
theorem CX8_errorCode (hx : xAt σ x m) : Ctr Γ (0, 0, 0, 0) MX8_errorCode [.ref x] σ (xO σ x [] (q_errorCode m)) := by
  have hv : aI σ x 11 = nI m.e := hx.2.2.2.1.2.2.2.2.1
  refine Ctr.go rfl (by decide) rfl rfl ?_
  refine WP.self ?_
  refine WP.aload_n (pc := 0) dX8_errorCode_0 rfl ?_
  refine WP.gIv (pc := 1) (v := (nI m.e)) uX8 fX8_90 hx.1.t0 (by simp [up_eq, hv]) dX8_errorCode_1 ?_
  refine WP.iret (pc := 4) rfl dX8_errorCode_4 ?_
  exact xO.ret hx
theorem CX8_hour (hx : xAt σ x m) : Ctr Γ (0, 0, 0, 0) MX8_hour [.ref x] σ (xO σ x [] (q_hour m)) := by
  have hv : aI σ (x + 1) 5 = m.s.1 3 := hx.2.2.1.gz.1
  refine Ctr.go rfl (by decide) rfl rfl ?_
  refine WP.self ?_
  refine WP.aload_n (pc := 0) dX8_hour_0 rfl ?_
  refine WP.gR (pc := 1) uX8 fX8_10 hx.1.t0 hx.1.r0_0 dX8_hour_1 ?_
  refine WP.gIv (pc := 4) (v := (m.s.1 3)) uX5 fX8_117 hx.1.a.t0 (by simp [up_eq, hv]) dX8_hour_4 ?_
  refine WP.iret (pc := 7) rfl dX8_hour_7 ?_
  exact xO.ret hx
theorem CX8_crumbs (hx : xAt σ x m) : Ctr Γ (0, 0, 0, 0) MX8_crumbs [.ref x] σ (xO σ x [] (q_crumbs m)) := by
  have hv : aI σ (x + 1) 6 = m.s.1 4 := hx.2.2.1.gz.2.1
  refine Ctr.go rfl (by decide) rfl rfl ?_
  refine WP.self ?_
  refine WP.aload_n (pc := 0) dX8_crumbs_0 rfl ?_
  refine WP.gR (pc := 1) uX8 fX8_10 hx.1.t0 hx.1.r0_0 dX8_crumbs_1 ?_
  refine WP.gIv (pc := 4) (v := (m.s.1 4)) uX5 fX8_134 hx.1.a.t0 (by simp [up_eq, hv]) dX8_crumbs_4 ?_
  refine WP.iret (pc := 7) rfl dX8_crumbs_7 ?_
  exact xO.ret hx
theorem CX8_sparrows (hx : xAt σ x m) : Ctr Γ (0, 0, 0, 0) MX8_sparrows [.ref x] σ (xO σ x [] (q_sparrows m)) := by
  have hv : aI σ (x + 1) 7 = m.s.1 5 := hx.2.2.1.gz.2.2.1
  refine Ctr.go rfl (by decide) rfl rfl ?_
  refine WP.self ?_
  refine WP.aload_n (pc := 0) dX8_sparrows_0 rfl ?_
  refine WP.gR (pc := 1) uX8 fX8_10 hx.1.t0 hx.1.r0_0 dX8_sparrows_1 ?_
  refine WP.gIv (pc := 4) (v := (m.s.1 5)) uX5 fX8_137 hx.1.a.t0 (by simp [up_eq, hv]) dX8_sparrows_4 ?_
  refine WP.iret (pc := 7) rfl dX8_sparrows_7 ?_
  exact xO.ret hx
theorem CX8_customerCount (hx : xAt σ x m) : Ctr Γ (0, 0, 0, 0) MX8_customerCount [.ref x] σ (xO σ x [] (q_customerCount m)) := by
  have hv : aI σ (x + 1 + 13) 0 = nI m.s.2.2.2.1.length := hx.2.2.1.2.2.2.1.1
  refine Ctr.go rfl (by decide) rfl rfl ?_
  refine WP.self ?_
  refine WP.aload_n (pc := 0) dX8_customerCount_0 rfl ?_
  refine WP.gR (pc := 1) uX8 fX8_10 hx.1.t0 hx.1.r0_0 dX8_customerCount_1 ?_
  refine WP.gR (pc := 4) uX5 fX8_108 hx.1.a.t0 hx.1.a.r0_3 dX8_customerCount_4 ?_
  refine WP.gIv (pc := 7) (v := (nI m.s.2.2.2.1.length)) uX2 fX8_112 hx.1.a.t13 (by simp [up_eq, hv]) dX8_customerCount_7 ?_
  refine WP.iret (pc := 10) rfl dX8_customerCount_10 ?_
  exact xO.ret hx
theorem CX8_loafCount (hx : xAt σ x m) : Ctr Γ (0, 0, 0, 0) MX8_loafCount [.ref x] σ (xO σ x [] (q_loafCount m)) := by
  have hv : aI σ (x + 1 + 9) 0 = nI m.s.2.2.1.length := hx.2.2.1.2.2.1.1
  refine Ctr.go rfl (by decide) rfl rfl ?_
  refine WP.self ?_
  refine WP.aload_n (pc := 0) dX8_loafCount_0 rfl ?_
  refine WP.gR (pc := 1) uX8 fX8_10 hx.1.t0 hx.1.r0_0 dX8_loafCount_1 ?_
  refine WP.gR (pc := 4) uX5 fX8_127 hx.1.a.t0 hx.1.a.r0_2 dX8_loafCount_4 ?_
  refine WP.gIv (pc := 7) (v := (nI m.s.2.2.1.length)) uX6 fX8_131 hx.1.a.t9 (by simp [up_eq, hv]) dX8_loafCount_7 ?_
  refine WP.iret (pc := 10) rfl dX8_loafCount_10 ?_
  exact xO.ret hx
theorem CX8_eventCount (hx : xAt σ x m) : Ctr Γ (0, 0, 0, 0) MX8_eventCount [.ref x] σ (xO σ x [] (q_eventCount m)) := by
  have hv : aI σ (x + 1 + 21) 0 = nI m.s.2.2.2.2.length := hx.2.2.1.2.2.2.2.1
  refine Ctr.go rfl (by decide) rfl rfl ?_
  refine WP.self ?_
  refine WP.aload_n (pc := 0) dX8_eventCount_0 rfl ?_
  refine WP.gR (pc := 1) uX8 fX8_10 hx.1.t0 hx.1.r0_0 dX8_eventCount_1 ?_
  refine WP.gR (pc := 4) uX5 fX8_242 hx.1.a.t0 hx.1.a.r0_4 dX8_eventCount_4 ?_
  refine WP.gIv (pc := 7) (v := (nI m.s.2.2.2.2.length)) uX3 fX8_246 hx.1.a.t21 (by simp [up_eq, hv]) dX8_eventCount_7 ?_
  refine WP.iret (pc := 10) rfl dX8_eventCount_10 ?_
  exact xO.ret hx
theorem CX8_ovenSize (hx : xAt σ x m) (i : Int32) : Ctr Γ (8, 132, 1, 6) MX8_ovenSize [.ref x, .int i] σ (xO σ x [eIO] (q_ovenSize m i)) := by
  have hl := hx.2.2.1.2.1.2.1
  refine Ctr.go rfl (by decide) rfl rfl ?_
  unfold q_ovenSize
  refine WP.aload_n (pc := 0) dX8_ovenSize_0 rfl ?_
  refine WP.iload_n (pc := 1) dX8_ovenSize_1 rfl ?_
  refine WP.cVt (pc := 2) (mc2 := 0) (ms2 := 0) (ci := 8) kX8_140 (CX8_needBaker Γ hx i) (by decide) rfl hx.1.t0 rfl ⟨Nat.le_of_ble_eq_true rfl, Nat.le_of_ble_eq_true rfl⟩ (Nat.le_of_ble_eq_true rfl) (Nat.le_of_ble_eq_true rfl) (Nat.le_of_ble_eq_true rfl) rfl dX8_ovenSize_2 rfl (fun hb n hn => ?_) (fun hb => ?_)
  · rw [if_pos hb]
    exact xO.exc hx hn rfl
  · rw [if_neg hb]
    obtain ⟨j, rfl, hj⟩ := ixN hb (by omega)
    have hg := gD_of dB hj
    refine WP.self ?_
    refine WP.aload_n (pc := 5) dX8_ovenSize_5 rfl ?_
    refine WP.gR (pc := 6) uX8 fX8_10 hx.1.t0 hx.1.r0_0 dX8_ovenSize_6 ?_
    refine WP.gR (pc := 9) uX5 fX8_120 hx.1.a.t0 hx.1.a.r0_1 dX8_ovenSize_9 ?_
    refine WP.gR (pc := 12) uX1 fX8_151 hx.1.a.t2 hx.1.a.r2_2 dX8_ovenSize_12 ?_
    refine WP.iload_n (pc := 15) dX8_ovenSize_15 rfl ?_
    refine WP.iald (pc := 16) hx.1.a.t4 (by omega) (by decide) dX8_ovenSize_16 ?_
    rw [(hx.2.2.1.2.1.2.2 j _ hg).2.1, nI_clamp (by omega)]
    refine WP.iret (pc := 17) rfl dX8_ovenSize_17 ?_
    exact xO.ret hx
theorem CX8_bakingKind (hx : xAt σ x m) (i : Int32) : Ctr Γ (8, 132, 1, 6) MX8_bakingKind [.ref x, .int i] σ (xO σ x [eIO] (q_bakingKind m i)) := by
  have hl := hx.2.2.1.2.1.2.1
  refine Ctr.go rfl (by decide) rfl rfl ?_
  unfold q_bakingKind
  refine WP.aload_n (pc := 0) dX8_bakingKind_0 rfl ?_
  refine WP.iload_n (pc := 1) dX8_bakingKind_1 rfl ?_
  refine WP.cVt (pc := 2) (mc2 := 0) (ms2 := 0) (ci := 8) kX8_140 (CX8_needBaker Γ hx i) (by decide) rfl hx.1.t0 rfl ⟨Nat.le_of_ble_eq_true rfl, Nat.le_of_ble_eq_true rfl⟩ (Nat.le_of_ble_eq_true rfl) (Nat.le_of_ble_eq_true rfl) (Nat.le_of_ble_eq_true rfl) rfl dX8_bakingKind_2 rfl (fun hb n hn => ?_) (fun hb => ?_)
  · rw [if_pos hb]
    exact xO.exc hx hn rfl
  · rw [if_neg hb]
    obtain ⟨j, rfl, hj⟩ := ixN hb (by omega)
    have hg := gD_of dB hj
    refine WP.self ?_
    refine WP.aload_n (pc := 5) dX8_bakingKind_5 rfl ?_
    refine WP.gR (pc := 6) uX8 fX8_10 hx.1.t0 hx.1.r0_0 dX8_bakingKind_6 ?_
    refine WP.gR (pc := 9) uX5 fX8_120 hx.1.a.t0 hx.1.a.r0_1 dX8_bakingKind_9 ?_
    refine WP.gR (pc := 12) uX1 fX8_154 hx.1.a.t2 hx.1.a.r2_4 dX8_bakingKind_12 ?_
    refine WP.iload_n (pc := 15) dX8_bakingKind_15 rfl ?_
    refine WP.iald (pc := 16) hx.1.a.t6 (by omega) (by decide) dX8_bakingKind_16 ?_
    rw [(hx.2.2.1.2.1.2.2 j _ hg).2.2.2.1, nI_clamp (by omega)]
    refine WP.iret (pc := 17) rfl dX8_bakingKind_17 ?_
    exact xO.ret hx
theorem CX8_hoursLeft (hx : xAt σ x m) (i : Int32) : Ctr Γ (8, 132, 1, 6) MX8_hoursLeft [.ref x, .int i] σ (xO σ x [eIO] (q_hoursLeft m i)) := by
  have hl := hx.2.2.1.2.1.2.1
  refine Ctr.go rfl (by decide) rfl rfl ?_
  unfold q_hoursLeft
  refine WP.aload_n (pc := 0) dX8_hoursLeft_0 rfl ?_
  refine WP.iload_n (pc := 1) dX8_hoursLeft_1 rfl ?_
  refine WP.cVt (pc := 2) (mc2 := 0) (ms2 := 0) (ci := 8) kX8_140 (CX8_needBaker Γ hx i) (by decide) rfl hx.1.t0 rfl ⟨Nat.le_of_ble_eq_true rfl, Nat.le_of_ble_eq_true rfl⟩ (Nat.le_of_ble_eq_true rfl) (Nat.le_of_ble_eq_true rfl) (Nat.le_of_ble_eq_true rfl) rfl dX8_hoursLeft_2 rfl (fun hb n hn => ?_) (fun hb => ?_)
  · rw [if_pos hb]
    exact xO.exc hx hn rfl
  · rw [if_neg hb]
    obtain ⟨j, rfl, hj⟩ := ixN hb (by omega)
    have hg := gD_of dB hj
    refine WP.self ?_
    refine WP.aload_n (pc := 5) dX8_hoursLeft_5 rfl ?_
    refine WP.gR (pc := 6) uX8 fX8_10 hx.1.t0 hx.1.r0_0 dX8_hoursLeft_6 ?_
    refine WP.gR (pc := 9) uX5 fX8_120 hx.1.a.t0 hx.1.a.r0_1 dX8_hoursLeft_9 ?_
    refine WP.gR (pc := 12) uX1 fX8_157 hx.1.a.t2 hx.1.a.r2_5 dX8_hoursLeft_12 ?_
    refine WP.iload_n (pc := 15) dX8_hoursLeft_15 rfl ?_
    refine WP.iald (pc := 16) hx.1.a.t7 (by omega) (by decide) dX8_hoursLeft_16 ?_
    rw [(hx.2.2.1.2.1.2.2 j _ hg).2.2.2.2.1, nI_clamp (by omega)]
    refine WP.iret (pc := 17) rfl dX8_hoursLeft_17 ?_
    exact xO.ret hx
theorem CX8_income (hx : xAt σ x m) (i : Int32) : Ctr Γ (8, 132, 1, 6) MX8_income [.ref x, .int i] σ (xO σ x [eIO] (q_income m i)) := by
  have hl := hx.2.2.1.2.1.2.1
  refine Ctr.go rfl (by decide) rfl rfl ?_
  unfold q_income
  refine WP.aload_n (pc := 0) dX8_income_0 rfl ?_
  refine WP.iload_n (pc := 1) dX8_income_1 rfl ?_
  refine WP.cVt (pc := 2) (mc2 := 0) (ms2 := 0) (ci := 8) kX8_140 (CX8_needBaker Γ hx i) (by decide) rfl hx.1.t0 rfl ⟨Nat.le_of_ble_eq_true rfl, Nat.le_of_ble_eq_true rfl⟩ (Nat.le_of_ble_eq_true rfl) (Nat.le_of_ble_eq_true rfl) (Nat.le_of_ble_eq_true rfl) rfl dX8_income_2 rfl (fun hb n hn => ?_) (fun hb => ?_)
  · rw [if_pos hb]
    exact xO.exc hx hn rfl
  · rw [if_neg hb]
    obtain ⟨j, rfl, hj⟩ := ixN hb (by omega)
    have hg := gD_of dB hj
    refine WP.self ?_
    refine WP.aload_n (pc := 5) dX8_income_5 rfl ?_
    refine WP.gR (pc := 6) uX8 fX8_10 hx.1.t0 hx.1.r0_0 dX8_income_6 ?_
    refine WP.gR (pc := 9) uX5 fX8_120 hx.1.a.t0 hx.1.a.r0_1 dX8_income_9 ?_
    refine WP.gR (pc := 12) uX1 fX8_160 hx.1.a.t2 hx.1.a.r2_6 dX8_income_12 ?_
    refine WP.iload_n (pc := 15) dX8_income_15 rfl ?_
    refine WP.iald (pc := 16) hx.1.a.t8 (by omega) (by decide) dX8_income_16 ?_
    rw [(hx.2.2.1.2.1.2.2 j _ hg).2.2.2.2.2, nI_clamp (by omega)]
    refine WP.iret (pc := 17) rfl dX8_income_17 ?_
    exact xO.ret hx
theorem CX8_ticketOf (hx : xAt σ x m) (i : Int32) : Ctr Γ (8, 132, 1, 6) MX8_ticketOf [.ref x, .int i] σ (xO σ x [eIO] (q_ticketOf m i)) := by
  have hl := hx.2.2.1.2.2.2.1.2.1
  refine Ctr.go rfl (by decide) rfl rfl ?_
  unfold q_ticketOf
  refine WP.aload_n (pc := 0) dX8_ticketOf_0 rfl ?_
  refine WP.iload_n (pc := 1) dX8_ticketOf_1 rfl ?_
  refine WP.cVt (pc := 2) (mc2 := 0) (ms2 := 0) (ci := 8) kX8_170 (CX8_needCustomer Γ hx i) (by decide) rfl hx.1.t0 rfl ⟨Nat.le_of_ble_eq_true rfl, Nat.le_of_ble_eq_true rfl⟩ (Nat.le_of_ble_eq_true rfl) (Nat.le_of_ble_eq_true rfl) (Nat.le_of_ble_eq_true rfl) rfl dX8_ticketOf_2 rfl (fun hb n hn => ?_) (fun hb => ?_)
  · rw [if_pos hb]
    exact xO.exc hx hn rfl
  · rw [if_neg hb]
    obtain ⟨j, rfl, hj⟩ := ixN hb (by omega)
    have hg := gD_of dC hj
    refine WP.self ?_
    refine WP.aload_n (pc := 5) dX8_ticketOf_5 rfl ?_
    refine WP.gR (pc := 6) uX8 fX8_10 hx.1.t0 hx.1.r0_0 dX8_ticketOf_6 ?_
    refine WP.gR (pc := 9) uX5 fX8_108 hx.1.a.t0 hx.1.a.r0_3 dX8_ticketOf_9 ?_
    refine WP.gR (pc := 12) uX2 fX8_174 hx.1.a.t13 hx.1.a.r13_3 dX8_ticketOf_12 ?_
    refine WP.iload_n (pc := 15) dX8_ticketOf_15 rfl ?_
    refine WP.iald (pc := 16) hx.1.a.t15 (by omega) (by decide) dX8_ticketOf_16 ?_
    rw [(hx.2.2.1.2.2.2.1.2.2 j _ hg).2.1, nI_clamp (by omega)]
    refine WP.iret (pc := 17) rfl dX8_ticketOf_17 ?_
    exact xO.ret hx
theorem CX8_kindWanted (hx : xAt σ x m) (i : Int32) : Ctr Γ (8, 132, 1, 6) MX8_kindWanted [.ref x, .int i] σ (xO σ x [eIO] (q_kindWanted m i)) := by
  have hl := hx.2.2.1.2.2.2.1.2.1
  refine Ctr.go rfl (by decide) rfl rfl ?_
  unfold q_kindWanted
  refine WP.aload_n (pc := 0) dX8_kindWanted_0 rfl ?_
  refine WP.iload_n (pc := 1) dX8_kindWanted_1 rfl ?_
  refine WP.cVt (pc := 2) (mc2 := 0) (ms2 := 0) (ci := 8) kX8_170 (CX8_needCustomer Γ hx i) (by decide) rfl hx.1.t0 rfl ⟨Nat.le_of_ble_eq_true rfl, Nat.le_of_ble_eq_true rfl⟩ (Nat.le_of_ble_eq_true rfl) (Nat.le_of_ble_eq_true rfl) (Nat.le_of_ble_eq_true rfl) rfl dX8_kindWanted_2 rfl (fun hb n hn => ?_) (fun hb => ?_)
  · rw [if_pos hb]
    exact xO.exc hx hn rfl
  · rw [if_neg hb]
    obtain ⟨j, rfl, hj⟩ := ixN hb (by omega)
    have hg := gD_of dC hj
    refine WP.self ?_
    refine WP.aload_n (pc := 5) dX8_kindWanted_5 rfl ?_
    refine WP.gR (pc := 6) uX8 fX8_10 hx.1.t0 hx.1.r0_0 dX8_kindWanted_6 ?_
    refine WP.gR (pc := 9) uX5 fX8_108 hx.1.a.t0 hx.1.a.r0_3 dX8_kindWanted_9 ?_
    refine WP.gR (pc := 12) uX2 fX8_177 hx.1.a.t13 hx.1.a.r13_4 dX8_kindWanted_12 ?_
    refine WP.iload_n (pc := 15) dX8_kindWanted_15 rfl ?_
    refine WP.iald (pc := 16) hx.1.a.t16 (by omega) (by decide) dX8_kindWanted_16 ?_
    rw [(hx.2.2.1.2.2.2.1.2.2 j _ hg).2.2.1, nI_clamp (by omega)]
    refine WP.iret (pc := 17) rfl dX8_kindWanted_17 ?_
    exact xO.ret hx
theorem CX8_wanted (hx : xAt σ x m) (i : Int32) : Ctr Γ (8, 132, 1, 6) MX8_wanted [.ref x, .int i] σ (xO σ x [eIO] (q_wanted m i)) := by
  have hl := hx.2.2.1.2.2.2.1.2.1
  refine Ctr.go rfl (by decide) rfl rfl ?_
  unfold q_wanted
  refine WP.aload_n (pc := 0) dX8_wanted_0 rfl ?_
  refine WP.iload_n (pc := 1) dX8_wanted_1 rfl ?_
  refine WP.cVt (pc := 2) (mc2 := 0) (ms2 := 0) (ci := 8) kX8_170 (CX8_needCustomer Γ hx i) (by decide) rfl hx.1.t0 rfl ⟨Nat.le_of_ble_eq_true rfl, Nat.le_of_ble_eq_true rfl⟩ (Nat.le_of_ble_eq_true rfl) (Nat.le_of_ble_eq_true rfl) (Nat.le_of_ble_eq_true rfl) rfl dX8_wanted_2 rfl (fun hb n hn => ?_) (fun hb => ?_)
  · rw [if_pos hb]
    exact xO.exc hx hn rfl
  · rw [if_neg hb]
    obtain ⟨j, rfl, hj⟩ := ixN hb (by omega)
    have hg := gD_of dC hj
    refine WP.self ?_
    refine WP.aload_n (pc := 5) dX8_wanted_5 rfl ?_
    refine WP.gR (pc := 6) uX8 fX8_10 hx.1.t0 hx.1.r0_0 dX8_wanted_6 ?_
    refine WP.gR (pc := 9) uX5 fX8_108 hx.1.a.t0 hx.1.a.r0_3 dX8_wanted_9 ?_
    refine WP.gR (pc := 12) uX2 fX8_178 hx.1.a.t13 hx.1.a.r13_5 dX8_wanted_12 ?_
    refine WP.iload_n (pc := 15) dX8_wanted_15 rfl ?_
    refine WP.iald (pc := 16) hx.1.a.t17 (by omega) (by decide) dX8_wanted_16 ?_
    rw [(hx.2.2.1.2.2.2.1.2.2 j _ hg).2.2.2.1, nI_clamp (by omega)]
    refine WP.iret (pc := 17) rfl dX8_wanted_17 ?_
    exact xO.ret hx
theorem CX8_limitPrice (hx : xAt σ x m) (i : Int32) : Ctr Γ (8, 132, 1, 6) MX8_limitPrice [.ref x, .int i] σ (xO σ x [eIO] (q_limitPrice m i)) := by
  have hl := hx.2.2.1.2.2.2.1.2.1
  refine Ctr.go rfl (by decide) rfl rfl ?_
  unfold q_limitPrice
  refine WP.aload_n (pc := 0) dX8_limitPrice_0 rfl ?_
  refine WP.iload_n (pc := 1) dX8_limitPrice_1 rfl ?_
  refine WP.cVt (pc := 2) (mc2 := 0) (ms2 := 0) (ci := 8) kX8_170 (CX8_needCustomer Γ hx i) (by decide) rfl hx.1.t0 rfl ⟨Nat.le_of_ble_eq_true rfl, Nat.le_of_ble_eq_true rfl⟩ (Nat.le_of_ble_eq_true rfl) (Nat.le_of_ble_eq_true rfl) (Nat.le_of_ble_eq_true rfl) rfl dX8_limitPrice_2 rfl (fun hb n hn => ?_) (fun hb => ?_)
  · rw [if_pos hb]
    exact xO.exc hx hn rfl
  · rw [if_neg hb]
    obtain ⟨j, rfl, hj⟩ := ixN hb (by omega)
    have hg := gD_of dC hj
    refine WP.self ?_
    refine WP.aload_n (pc := 5) dX8_limitPrice_5 rfl ?_
    refine WP.gR (pc := 6) uX8 fX8_10 hx.1.t0 hx.1.r0_0 dX8_limitPrice_6 ?_
    refine WP.gR (pc := 9) uX5 fX8_108 hx.1.a.t0 hx.1.a.r0_3 dX8_limitPrice_9 ?_
    refine WP.gR (pc := 12) uX2 fX8_181 hx.1.a.t13 hx.1.a.r13_6 dX8_limitPrice_12 ?_
    refine WP.iload_n (pc := 15) dX8_limitPrice_15 rfl ?_
    refine WP.iald (pc := 16) hx.1.a.t18 (by omega) (by decide) dX8_limitPrice_16 ?_
    rw [(hx.2.2.1.2.2.2.1.2.2 j _ hg).2.2.2.2.1, nI_clamp (by omega)]
    refine WP.iret (pc := 17) rfl dX8_limitPrice_17 ?_
    exact xO.ret hx
theorem CX8_purse (hx : xAt σ x m) (i : Int32) : Ctr Γ (8, 132, 1, 6) MX8_purse [.ref x, .int i] σ (xO σ x [eIO] (q_purse m i)) := by
  have hl := hx.2.2.1.2.2.2.1.2.1
  refine Ctr.go rfl (by decide) rfl rfl ?_
  unfold q_purse
  refine WP.aload_n (pc := 0) dX8_purse_0 rfl ?_
  refine WP.iload_n (pc := 1) dX8_purse_1 rfl ?_
  refine WP.cVt (pc := 2) (mc2 := 0) (ms2 := 0) (ci := 8) kX8_170 (CX8_needCustomer Γ hx i) (by decide) rfl hx.1.t0 rfl ⟨Nat.le_of_ble_eq_true rfl, Nat.le_of_ble_eq_true rfl⟩ (Nat.le_of_ble_eq_true rfl) (Nat.le_of_ble_eq_true rfl) (Nat.le_of_ble_eq_true rfl) rfl dX8_purse_2 rfl (fun hb n hn => ?_) (fun hb => ?_)
  · rw [if_pos hb]
    exact xO.exc hx hn rfl
  · rw [if_neg hb]
    obtain ⟨j, rfl, hj⟩ := ixN hb (by omega)
    have hg := gD_of dC hj
    refine WP.self ?_
    refine WP.aload_n (pc := 5) dX8_purse_5 rfl ?_
    refine WP.gR (pc := 6) uX8 fX8_10 hx.1.t0 hx.1.r0_0 dX8_purse_6 ?_
    refine WP.gR (pc := 9) uX5 fX8_108 hx.1.a.t0 hx.1.a.r0_3 dX8_purse_9 ?_
    refine WP.gR (pc := 12) uX2 fX8_184 hx.1.a.t13 hx.1.a.r13_7 dX8_purse_12 ?_
    refine WP.iload_n (pc := 15) dX8_purse_15 rfl ?_
    refine WP.iald (pc := 16) hx.1.a.t19 (by omega) (by decide) dX8_purse_16 ?_
    rw [(hx.2.2.1.2.2.2.1.2.2 j _ hg).2.2.2.2.2.1, nI_clamp (by omega)]
    refine WP.iret (pc := 17) rfl dX8_purse_17 ?_
    exact xO.ret hx
theorem CX8_patience (hx : xAt σ x m) (i : Int32) : Ctr Γ (8, 132, 1, 6) MX8_patience [.ref x, .int i] σ (xO σ x [eIO] (q_patience m i)) := by
  have hl := hx.2.2.1.2.2.2.1.2.1
  refine Ctr.go rfl (by decide) rfl rfl ?_
  unfold q_patience
  refine WP.aload_n (pc := 0) dX8_patience_0 rfl ?_
  refine WP.iload_n (pc := 1) dX8_patience_1 rfl ?_
  refine WP.cVt (pc := 2) (mc2 := 0) (ms2 := 0) (ci := 8) kX8_170 (CX8_needCustomer Γ hx i) (by decide) rfl hx.1.t0 rfl ⟨Nat.le_of_ble_eq_true rfl, Nat.le_of_ble_eq_true rfl⟩ (Nat.le_of_ble_eq_true rfl) (Nat.le_of_ble_eq_true rfl) (Nat.le_of_ble_eq_true rfl) rfl dX8_patience_2 rfl (fun hb n hn => ?_) (fun hb => ?_)
  · rw [if_pos hb]
    exact xO.exc hx hn rfl
  · rw [if_neg hb]
    obtain ⟨j, rfl, hj⟩ := ixN hb (by omega)
    have hg := gD_of dC hj
    refine WP.self ?_
    refine WP.aload_n (pc := 5) dX8_patience_5 rfl ?_
    refine WP.gR (pc := 6) uX8 fX8_10 hx.1.t0 hx.1.r0_0 dX8_patience_6 ?_
    refine WP.gR (pc := 9) uX5 fX8_108 hx.1.a.t0 hx.1.a.r0_3 dX8_patience_9 ?_
    refine WP.gR (pc := 12) uX2 fX8_187 hx.1.a.t13 hx.1.a.r13_8 dX8_patience_12 ?_
    refine WP.iload_n (pc := 15) dX8_patience_15 rfl ?_
    refine WP.iald (pc := 16) hx.1.a.t20 (by omega) (by decide) dX8_patience_16 ?_
    rw [(hx.2.2.1.2.2.2.1.2.2 j _ hg).2.2.2.2.2.2, nI_clamp (by omega)]
    refine WP.iret (pc := 17) rfl dX8_patience_17 ?_
    exact xO.ret hx
theorem CX8_loafKind (hx : xAt σ x m) (i : Int32) : Ctr Γ (8, 132, 1, 6) MX8_loafKind [.ref x, .int i] σ (xO σ x [eIO] (q_loafKind m i)) := by
  have hl := hx.2.2.1.2.2.1.2.1
  refine Ctr.go rfl (by decide) rfl rfl ?_
  unfold q_loafKind
  refine WP.aload_n (pc := 0) dX8_loafKind_0 rfl ?_
  refine WP.iload_n (pc := 1) dX8_loafKind_1 rfl ?_
  refine WP.cVt (pc := 2) (mc2 := 0) (ms2 := 0) (ci := 8) kX8_194 (CX8_needLoaf Γ hx i) (by decide) rfl hx.1.t0 rfl ⟨Nat.le_of_ble_eq_true rfl, Nat.le_of_ble_eq_true rfl⟩ (Nat.le_of_ble_eq_true rfl) (Nat.le_of_ble_eq_true rfl) (Nat.le_of_ble_eq_true rfl) rfl dX8_loafKind_2 rfl (fun hb n hn => ?_) (fun hb => ?_)
  · rw [if_pos hb]
    exact xO.exc hx hn rfl
  · rw [if_neg hb]
    obtain ⟨j, rfl, hj⟩ := ixN hb (by omega)
    have hg := gD_of dL hj
    refine WP.self ?_
    refine WP.aload_n (pc := 5) dX8_loafKind_5 rfl ?_
    refine WP.gR (pc := 6) uX8 fX8_10 hx.1.t0 hx.1.r0_0 dX8_loafKind_6 ?_
    refine WP.gR (pc := 9) uX5 fX8_127 hx.1.a.t0 hx.1.a.r0_2 dX8_loafKind_9 ?_
    refine WP.gR (pc := 12) uX6 fX8_197 hx.1.a.t9 hx.1.a.r9_1 dX8_loafKind_12 ?_
    refine WP.iload_n (pc := 15) dX8_loafKind_15 rfl ?_
    refine WP.iald (pc := 16) hx.1.a.t10 (by omega) (by decide) dX8_loafKind_16 ?_
    rw [(hx.2.2.1.2.2.1.2.2 j _ hg).1, nI_clamp (by omega)]
    refine WP.iret (pc := 17) rfl dX8_loafKind_17 ?_
    exact xO.ret hx
theorem CX8_loafBaker (hx : xAt σ x m) (i : Int32) : Ctr Γ (8, 132, 1, 6) MX8_loafBaker [.ref x, .int i] σ (xO σ x [eIO] (q_loafBaker m i)) := by
  have hl := hx.2.2.1.2.2.1.2.1
  refine Ctr.go rfl (by decide) rfl rfl ?_
  unfold q_loafBaker
  refine WP.aload_n (pc := 0) dX8_loafBaker_0 rfl ?_
  refine WP.iload_n (pc := 1) dX8_loafBaker_1 rfl ?_
  refine WP.cVt (pc := 2) (mc2 := 0) (ms2 := 0) (ci := 8) kX8_194 (CX8_needLoaf Γ hx i) (by decide) rfl hx.1.t0 rfl ⟨Nat.le_of_ble_eq_true rfl, Nat.le_of_ble_eq_true rfl⟩ (Nat.le_of_ble_eq_true rfl) (Nat.le_of_ble_eq_true rfl) (Nat.le_of_ble_eq_true rfl) rfl dX8_loafBaker_2 rfl (fun hb n hn => ?_) (fun hb => ?_)
  · rw [if_pos hb]
    exact xO.exc hx hn rfl
  · rw [if_neg hb]
    obtain ⟨j, rfl, hj⟩ := ixN hb (by omega)
    have hg := gD_of dL hj
    refine WP.self ?_
    refine WP.aload_n (pc := 5) dX8_loafBaker_5 rfl ?_
    refine WP.gR (pc := 6) uX8 fX8_10 hx.1.t0 hx.1.r0_0 dX8_loafBaker_6 ?_
    refine WP.gR (pc := 9) uX5 fX8_127 hx.1.a.t0 hx.1.a.r0_2 dX8_loafBaker_9 ?_
    refine WP.gR (pc := 12) uX6 fX8_198 hx.1.a.t9 hx.1.a.r9_2 dX8_loafBaker_12 ?_
    refine WP.iload_n (pc := 15) dX8_loafBaker_15 rfl ?_
    refine WP.iald (pc := 16) hx.1.a.t11 (by omega) (by decide) dX8_loafBaker_16 ?_
    rw [(hx.2.2.1.2.2.1.2.2 j _ hg).2.1, nI_clamp (by omega)]
    refine WP.iret (pc := 17) rfl dX8_loafBaker_17 ?_
    exact xO.ret hx
theorem CX8_eventType (hx : xAt σ x m) (i : Int32) : Ctr Γ (8, 132, 1, 6) MX8_eventType [.ref x, .int i] σ (xO σ x [eIO] (q_eventType m i)) := by
  have hl := hx.2.2.1.2.2.2.2.2.1
  refine Ctr.go rfl (by decide) rfl rfl ?_
  unfold q_eventType
  refine WP.aload_n (pc := 0) dX8_eventType_0 rfl ?_
  refine WP.iload_n (pc := 1) dX8_eventType_1 rfl ?_
  refine WP.cVt (pc := 2) (mc2 := 0) (ms2 := 0) (ci := 8) kX8_249 (CX8_needEvent Γ hx i) (by decide) rfl hx.1.t0 rfl ⟨Nat.le_of_ble_eq_true rfl, Nat.le_of_ble_eq_true rfl⟩ (Nat.le_of_ble_eq_true rfl) (Nat.le_of_ble_eq_true rfl) (Nat.le_of_ble_eq_true rfl) rfl dX8_eventType_2 rfl (fun hb n hn => ?_) (fun hb => ?_)
  · rw [if_pos hb]
    exact xO.exc hx hn rfl
  · rw [if_neg hb]
    obtain ⟨j, rfl, hj⟩ := ixN hb (by omega)
    have hg := gD_of dE hj
    refine WP.self ?_
    refine WP.aload_n (pc := 5) dX8_eventType_5 rfl ?_
    refine WP.gR (pc := 6) uX8 fX8_10 hx.1.t0 hx.1.r0_0 dX8_eventType_6 ?_
    refine WP.gR (pc := 9) uX5 fX8_242 hx.1.a.t0 hx.1.a.r0_4 dX8_eventType_9 ?_
    refine WP.gR (pc := 12) uX3 fX8_252 hx.1.a.t21 hx.1.a.r21_1 dX8_eventType_12 ?_
    refine WP.iload_n (pc := 15) dX8_eventType_15 rfl ?_
    refine WP.iald (pc := 16) hx.1.a.t22 (by omega) (by decide) dX8_eventType_16 ?_
    rw [(hx.2.2.1.2.2.2.2.2.2 j _ hg).1, nI_clamp (by omega)]
    refine WP.iret (pc := 17) rfl dX8_eventType_17 ?_
    exact xO.ret hx
theorem CX8_eventFirst (hx : xAt σ x m) (i : Int32) : Ctr Γ (8, 132, 1, 6) MX8_eventFirst [.ref x, .int i] σ (xO σ x [eIO] (q_eventFirst m i)) := by
  have hl := hx.2.2.1.2.2.2.2.2.1
  refine Ctr.go rfl (by decide) rfl rfl ?_
  unfold q_eventFirst
  refine WP.aload_n (pc := 0) dX8_eventFirst_0 rfl ?_
  refine WP.iload_n (pc := 1) dX8_eventFirst_1 rfl ?_
  refine WP.cVt (pc := 2) (mc2 := 0) (ms2 := 0) (ci := 8) kX8_249 (CX8_needEvent Γ hx i) (by decide) rfl hx.1.t0 rfl ⟨Nat.le_of_ble_eq_true rfl, Nat.le_of_ble_eq_true rfl⟩ (Nat.le_of_ble_eq_true rfl) (Nat.le_of_ble_eq_true rfl) (Nat.le_of_ble_eq_true rfl) rfl dX8_eventFirst_2 rfl (fun hb n hn => ?_) (fun hb => ?_)
  · rw [if_pos hb]
    exact xO.exc hx hn rfl
  · rw [if_neg hb]
    obtain ⟨j, rfl, hj⟩ := ixN hb (by omega)
    have hg := gD_of dE hj
    refine WP.self ?_
    refine WP.aload_n (pc := 5) dX8_eventFirst_5 rfl ?_
    refine WP.gR (pc := 6) uX8 fX8_10 hx.1.t0 hx.1.r0_0 dX8_eventFirst_6 ?_
    refine WP.gR (pc := 9) uX5 fX8_242 hx.1.a.t0 hx.1.a.r0_4 dX8_eventFirst_9 ?_
    refine WP.gR (pc := 12) uX3 fX8_255 hx.1.a.t21 hx.1.a.r21_2 dX8_eventFirst_12 ?_
    refine WP.iload_n (pc := 15) dX8_eventFirst_15 rfl ?_
    refine WP.iald (pc := 16) hx.1.a.t23 (by omega) (by decide) dX8_eventFirst_16 ?_
    rw [(hx.2.2.1.2.2.2.2.2.2 j _ hg).2.1, nI_clamp (by omega)]
    refine WP.iret (pc := 17) rfl dX8_eventFirst_17 ?_
    exact xO.ret hx
theorem CX8_eventSecond (hx : xAt σ x m) (i : Int32) : Ctr Γ (8, 132, 1, 6) MX8_eventSecond [.ref x, .int i] σ (xO σ x [eIO] (q_eventSecond m i)) := by
  have hl := hx.2.2.1.2.2.2.2.2.1
  refine Ctr.go rfl (by decide) rfl rfl ?_
  unfold q_eventSecond
  refine WP.aload_n (pc := 0) dX8_eventSecond_0 rfl ?_
  refine WP.iload_n (pc := 1) dX8_eventSecond_1 rfl ?_
  refine WP.cVt (pc := 2) (mc2 := 0) (ms2 := 0) (ci := 8) kX8_249 (CX8_needEvent Γ hx i) (by decide) rfl hx.1.t0 rfl ⟨Nat.le_of_ble_eq_true rfl, Nat.le_of_ble_eq_true rfl⟩ (Nat.le_of_ble_eq_true rfl) (Nat.le_of_ble_eq_true rfl) (Nat.le_of_ble_eq_true rfl) rfl dX8_eventSecond_2 rfl (fun hb n hn => ?_) (fun hb => ?_)
  · rw [if_pos hb]
    exact xO.exc hx hn rfl
  · rw [if_neg hb]
    obtain ⟨j, rfl, hj⟩ := ixN hb (by omega)
    have hg := gD_of dE hj
    refine WP.self ?_
    refine WP.aload_n (pc := 5) dX8_eventSecond_5 rfl ?_
    refine WP.gR (pc := 6) uX8 fX8_10 hx.1.t0 hx.1.r0_0 dX8_eventSecond_6 ?_
    refine WP.gR (pc := 9) uX5 fX8_242 hx.1.a.t0 hx.1.a.r0_4 dX8_eventSecond_9 ?_
    refine WP.gR (pc := 12) uX3 fX8_258 hx.1.a.t21 hx.1.a.r21_3 dX8_eventSecond_12 ?_
    refine WP.iload_n (pc := 15) dX8_eventSecond_15 rfl ?_
    refine WP.iald (pc := 16) hx.1.a.t24 (by omega) (by decide) dX8_eventSecond_16 ?_
    rw [(hx.2.2.1.2.2.2.2.2.2 j _ hg).2.2, nI_clamp (by omega)]
    refine WP.iret (pc := 17) rfl dX8_eventSecond_17 ?_
    exact xO.ret hx
theorem CX8_loafAge (hx : xAt σ x m) (i : Int32) : Ctr Γ (8, 132, 2, 12) MX8_loafAge [.ref x, .int i] σ (xO σ x [eIO] (q_loafAge m i)) := by
  have hl := hx.2.2.1.2.2.1.2.1
  refine Ctr.go rfl (by decide) rfl rfl ?_
  unfold q_loafAge
  refine WP.aload_n (pc := 0) dX8_loafAge_0 rfl ?_
  refine WP.iload_n (pc := 1) dX8_loafAge_1 rfl ?_
  refine WP.cVt (pc := 2) (mc2 := 1) (ms2 := 6) (ci := 8) kX8_194 (CX8_needLoaf Γ hx i) (by decide) rfl hx.1.t0 rfl ⟨Nat.le_of_ble_eq_true rfl, Nat.le_of_ble_eq_true rfl⟩ (Nat.le_of_ble_eq_true rfl) (Nat.le_of_ble_eq_true rfl) (Nat.le_of_ble_eq_true rfl) rfl dX8_loafAge_2 rfl (fun hb n hn => ?_) (fun hb => ?_)
  · rw [if_pos hb]
    exact xO.exc hx hn rfl
  · rw [if_neg hb]
    obtain ⟨j, rfl, hj⟩ := ixN hb (by omega)
    have hg := gD_of dL hj
    refine WP.self ?_
    refine WP.aload_n (pc := 5) dX8_loafAge_5 rfl ?_
    refine WP.gR (pc := 6) uX8 fX8_10 hx.1.t0 hx.1.r0_0 dX8_loafAge_6 ?_
    refine WP.iload_n (pc := 9) dX8_loafAge_9 rfl ?_
    refine WP.cV1 (pc := 10) (mc2 := 0) (ms2 := 0) (ci := 5) kX8_201 (CX5_ageOf Γ hx.1.a hx.2.2.1 hg) (by decide) rfl hx.1.a.t0 rfl ⟨Nat.le_of_ble_eq_true rfl, Nat.le_of_ble_eq_true rfl⟩ (Nat.le_of_ble_eq_true rfl) (Nat.le_of_ble_eq_true rfl) (Nat.le_of_ble_eq_true rfl) rfl dX8_loafAge_10 ?_
    rw [nI_clamp (by omega)]
    refine WP.iret (pc := 13) rfl dX8_loafAge_13 ?_
    exact xO.ret hx
theorem CX8_reservePrice (hx : xAt σ x m) (i : Int32) : Ctr Γ (8, 132, 2, 12) MX8_reservePrice [.ref x, .int i] σ (xO σ x [eIO] (q_reservePrice m i)) := by
  have hl := hx.2.2.1.2.2.1.2.1
  refine Ctr.go rfl (by decide) rfl rfl ?_
  unfold q_reservePrice
  refine WP.aload_n (pc := 0) dX8_reservePrice_0 rfl ?_
  refine WP.iload_n (pc := 1) dX8_reservePrice_1 rfl ?_
  refine WP.cVt (pc := 2) (mc2 := 1) (ms2 := 6) (ci := 8) kX8_194 (CX8_needLoaf Γ hx i) (by decide) rfl hx.1.t0 rfl ⟨Nat.le_of_ble_eq_true rfl, Nat.le_of_ble_eq_true rfl⟩ (Nat.le_of_ble_eq_true rfl) (Nat.le_of_ble_eq_true rfl) (Nat.le_of_ble_eq_true rfl) rfl dX8_reservePrice_2 rfl (fun hb n hn => ?_) (fun hb => ?_)
  · rw [if_pos hb]
    exact xO.exc hx hn rfl
  · rw [if_neg hb]
    obtain ⟨j, rfl, hj⟩ := ixN hb (by omega)
    have hg := gD_of dL hj
    refine WP.self ?_
    refine WP.aload_n (pc := 5) dX8_reservePrice_5 rfl ?_
    refine WP.gR (pc := 6) uX8 fX8_10 hx.1.t0 hx.1.r0_0 dX8_reservePrice_6 ?_
    refine WP.iload_n (pc := 9) dX8_reservePrice_9 rfl ?_
    refine WP.cV1 (pc := 10) (mc2 := 0) (ms2 := 0) (ci := 5) kX8_204 (CX5_reserveOf Γ hx.1.a hx.2.2.1 hg) (by decide) rfl hx.1.a.t0 rfl ⟨Nat.le_of_ble_eq_true rfl, Nat.le_of_ble_eq_true rfl⟩ (Nat.le_of_ble_eq_true rfl) (Nat.le_of_ble_eq_true rfl) (Nat.le_of_ble_eq_true rfl) rfl dX8_reservePrice_10 ?_
    rw [nI_clamp (by omega)]
    refine WP.iret (pc := 13) rfl dX8_reservePrice_13 ?_
    exact xO.ret hx
theorem CX8_basePrice (hx : xAt σ x m) (k : Int32) : Ctr Γ (8, 131, 2, 12) MX8_basePrice [.ref x, .int k] σ (xO σ x [eIO] (q_basePrice m k)) := by
  refine Ctr.go rfl (by decide) rfl rfl ?_
  unfold q_basePrice
  refine WP.iload_n (pc := 0) dX8_basePrice_0 rfl ?_
  refine WP.cSt (pc := 1) (mc2 := 1) (ms2 := 6) kX8_163 (CX8_needKind Γ k) rfl ⟨Nat.le_of_ble_eq_true rfl, Nat.le_of_ble_eq_true rfl⟩ (Nat.le_of_ble_eq_true rfl) (Nat.le_of_ble_eq_true rfl) (Nat.le_of_ble_eq_true rfl) rfl dX8_basePrice_1 rfl (fun hb n hn => ?_) (fun hb => ?_)
  · rw [if_pos hb]
    exact xO.exc hx hn rfl
  · rw [if_neg hb]
    refine WP.self ?_
    refine WP.aload_n (pc := 4) dX8_basePrice_4 rfl ?_
    refine WP.gR (pc := 5) uX8 fX8_10 hx.1.t0 hx.1.r0_0 dX8_basePrice_5 ?_
    refine WP.iload_n (pc := 8) dX8_basePrice_8 rfl ?_
    refine WP.cV1 (pc := 9) (mc2 := 0) (ms2 := 0) (ci := 5) kX8_207 (CX5_baseOf Γ hx.1.a hx.2.2.1 k) (by decide) rfl hx.1.a.t0 rfl ⟨Nat.le_of_ble_eq_true rfl, Nat.le_of_ble_eq_true rfl⟩ (Nat.le_of_ble_eq_true rfl) (Nat.le_of_ble_eq_true rfl) (Nat.le_of_ble_eq_true rfl) rfl dX8_basePrice_9 ?_
    refine WP.iret (pc := 12) rfl dX8_basePrice_12 ?_
    exact xO.ret hx
theorem CX8_customerWithTicket (hx : xAt σ x m) (t : Int32) : Ctr Γ (1, 23, 0, 0) MX8_customerWithTicket [.ref x, .int t] σ (xO σ x [] (q_customerWithTicket m t)) := by
  have hc := hx.2.2.1.2.2.2.1
  refine Ctr.go rfl (by decide) rfl rfl ?_
  refine WP.self ?_
  refine WP.aload_n (pc := 0) dX8_customerWithTicket_0 rfl ?_
  refine WP.gR (pc := 1) uX8 fX8_10 hx.1.t0 hx.1.r0_0 dX8_customerWithTicket_1 ?_
  refine WP.gR (pc := 4) uX5 fX8_108 hx.1.a.t0 hx.1.a.r0_3 dX8_customerWithTicket_4 ?_
  refine WP.gR (pc := 7) uX2 fX8_174 hx.1.a.t13 hx.1.a.r13_3 dX8_customerWithTicket_7 ?_
  refine WP.aload_n (pc := 10) dX8_customerWithTicket_10 rfl ?_
  refine WP.gR (pc := 11) uX8 fX8_10 hx.1.t0 hx.1.r0_0 dX8_customerWithTicket_11 ?_
  refine WP.gR (pc := 14) uX5 fX8_108 hx.1.a.t0 hx.1.a.r0_3 dX8_customerWithTicket_14 ?_
  refine WP.gIv (pc := 17) (v := (nI m.s.2.2.2.1.length)) uX2 fX8_112 hx.1.a.t13 (by simp [up_eq, hc.1]) dX8_customerWithTicket_17 ?_
  refine WP.iload_n (pc := 20) dX8_customerWithTicket_20 rfl ?_
  refine WP.cS1 (pc := 21) (mc2 := 0) (ms2 := 0) kX8_190 (CX8_find Γ _ _ (a := x + 1 + 15) hx.1.a.t15 (by decide) hc.2.1 _) rfl ⟨Nat.le_of_ble_eq_true rfl, Nat.le_of_ble_eq_true rfl⟩ (Nat.le_of_ble_eq_true rfl) (Nat.le_of_ble_eq_true rfl) (Nat.le_of_ble_eq_true rfl) rfl dX8_customerWithTicket_21 ?_
  have e : fndI (aI σ (x + 1 + 15)) t m.s.2.2.2.1.length 0 = fndI (fun i => (m.s.2.2.2.1.getD i dC).2.1) t m.s.2.2.2.1.length 0 :=
    fndI_ext _ _ (fun j _ hj => (hc.2.2 j _ (gD_of dC (by omega))).2.1)
  rw [e]
  refine WP.iret (pc := 24) rfl dX8_customerWithTicket_24 ?_
  exact xO.ret hx
theorem CX8_moneyDifference (hx : xAt σ x m) : Ctr Γ (1, 23, 0, 0) MX8_moneyDifference [.ref x] σ (xO σ x [] (q_moneyDifference m)) := by
  have hc := hx.2.2.1.2.2.2.1
  have hb := hx.2.2.1.2.1
  have h11 : aI σ (x + 1) 11 = m.s.1 9 := hx.2.2.1.gz.2.2.2.2.2.2.1
  have h12 : aI σ (x + 1) 12 = m.s.1 10 := hx.2.2.1.gz.2.2.2.2.2.2.2
  refine Ctr.go rfl (by decide) rfl rfl ?_
  refine WP.self ?_
  refine WP.aload_n (pc := 0) dX8_moneyDifference_0 rfl ?_
  refine WP.gR (pc := 1) uX8 fX8_10 hx.1.t0 hx.1.r0_0 dX8_moneyDifference_1 ?_
  refine WP.gIv (pc := 4) (v := (m.s.1 9)) uX5 fX8_261 hx.1.a.t0 (by simp [up_eq, h11]) dX8_moneyDifference_4 ?_
  refine WP.aload_n (pc := 7) dX8_moneyDifference_7 rfl ?_
  refine WP.gR (pc := 8) uX8 fX8_10 hx.1.t0 hx.1.r0_0 dX8_moneyDifference_8 ?_
  refine WP.gR (pc := 11) uX5 fX8_108 hx.1.a.t0 hx.1.a.r0_3 dX8_moneyDifference_11 ?_
  refine WP.gR (pc := 14) uX2 fX8_184 hx.1.a.t13 hx.1.a.r13_7 dX8_moneyDifference_14 ?_
  refine WP.aload_n (pc := 17) dX8_moneyDifference_17 rfl ?_
  refine WP.gR (pc := 18) uX8 fX8_10 hx.1.t0 hx.1.r0_0 dX8_moneyDifference_18 ?_
  refine WP.gR (pc := 21) uX5 fX8_108 hx.1.a.t0 hx.1.a.r0_3 dX8_moneyDifference_21 ?_
  refine WP.gIv (pc := 24) (v := (nI m.s.2.2.2.1.length)) uX2 fX8_112 hx.1.a.t13 (by simp [up_eq, hc.1]) dX8_moneyDifference_24 ?_
  refine WP.cS1 (pc := 27) (mc2 := 0) (ms2 := 0) kX8_264 (CX8_sum Γ _ _ (a := x + 1 + 19) hx.1.a.t19 (by decide) hc.2.1) rfl ⟨Nat.le_of_ble_eq_true rfl, Nat.le_of_ble_eq_true rfl⟩ (Nat.le_of_ble_eq_true rfl) (Nat.le_of_ble_eq_true rfl) (Nat.le_of_ble_eq_true rfl) rfl dX8_moneyDifference_27 ?_
  rw [show smI (aI σ (x + 1 + 19)) m.s.2.2.2.1.length = smI (fun i => (m.s.2.2.2.1.getD i dC).2.2.2.2.2.1) m.s.2.2.2.1.length from smI_ext _ (fun j hj => (hc.2.2 j _ (gD_of dC hj)).2.2.2.2.2.1)]
  refine WP.isub (pc := 30) dX8_moneyDifference_30 ?_
  refine WP.aload_n (pc := 31) dX8_moneyDifference_31 rfl ?_
  refine WP.gR (pc := 32) uX8 fX8_10 hx.1.t0 hx.1.r0_0 dX8_moneyDifference_32 ?_
  refine WP.gIv (pc := 35) (v := (m.s.1 10)) uX5 fX8_268 hx.1.a.t0 (by simp [up_eq, h12]) dX8_moneyDifference_35 ?_
  refine WP.isub (pc := 38) dX8_moneyDifference_38 ?_
  refine WP.aload_n (pc := 39) dX8_moneyDifference_39 rfl ?_
  refine WP.gR (pc := 40) uX8 fX8_10 hx.1.t0 hx.1.r0_0 dX8_moneyDifference_40 ?_
  refine WP.gR (pc := 43) uX5 fX8_120 hx.1.a.t0 hx.1.a.r0_1 dX8_moneyDifference_43 ?_
  refine WP.gR (pc := 46) uX1 fX8_160 hx.1.a.t2 hx.1.a.r2_6 dX8_moneyDifference_46 ?_
  refine WP.aload_n (pc := 49) dX8_moneyDifference_49 rfl ?_
  refine WP.gR (pc := 50) uX8 fX8_10 hx.1.t0 hx.1.r0_0 dX8_moneyDifference_50 ?_
  refine WP.gR (pc := 53) uX5 fX8_120 hx.1.a.t0 hx.1.a.r0_1 dX8_moneyDifference_53 ?_
  refine WP.gIv (pc := 56) (v := (nI m.s.2.1.length)) uX1 fX8_124 hx.1.a.t2 (by simp [up_eq, hb.1]) dX8_moneyDifference_56 ?_
  refine WP.cS1 (pc := 59) (mc2 := 0) (ms2 := 0) kX8_264 (CX8_sum Γ _ _ (a := x + 1 + 8) hx.1.a.t8 (by decide) hb.2.1) rfl ⟨Nat.le_of_ble_eq_true rfl, Nat.le_of_ble_eq_true rfl⟩ (Nat.le_of_ble_eq_true rfl) (Nat.le_of_ble_eq_true rfl) (Nat.le_of_ble_eq_true rfl) rfl dX8_moneyDifference_59 ?_
  rw [show smI (aI σ (x + 1 + 8)) m.s.2.1.length = smI (fun i => (m.s.2.1.getD i dB).2.2.2.2.2) m.s.2.1.length from smI_ext _ (fun j hj => (hb.2.2 j _ (gD_of dB hj)).2.2.2.2.2)]
  refine WP.isub (pc := 62) dX8_moneyDifference_62 ?_
  refine WP.iret (pc := 63) rfl dX8_moneyDifference_63 ?_
  exact xO.ret hx
theorem CX8_loafDifference (hx : xAt σ x m) : Ctr Γ (0, 0, 0, 0) MX8_loafDifference [.ref x] σ (xO σ x [] (q_loafDifference m)) := by
  have hk := hx.2.2.1.2.2.1
  obtain ⟨-, -, -, h8, h9, h10, -, -⟩ := hx.2.2.1.gz
  refine Ctr.go rfl (by decide) rfl rfl ?_
  refine WP.self ?_
  refine WP.aload_n (pc := 0) dX8_loafDifference_0 rfl ?_
  refine WP.gR (pc := 1) uX8 fX8_10 hx.1.t0 hx.1.r0_0 dX8_loafDifference_1 ?_
  refine WP.gIv (pc := 4) (v := (m.s.1 6)) uX5 fX8_271 hx.1.a.t0 (by simp [up_eq, h8]) dX8_loafDifference_4 ?_
  refine WP.aload_n (pc := 7) dX8_loafDifference_7 rfl ?_
  refine WP.gR (pc := 8) uX8 fX8_10 hx.1.t0 hx.1.r0_0 dX8_loafDifference_8 ?_
  refine WP.gIv (pc := 11) (v := (m.s.1 7)) uX5 fX8_274 hx.1.a.t0 (by simp [up_eq, h9]) dX8_loafDifference_11 ?_
  refine WP.isub (pc := 14) dX8_loafDifference_14 ?_
  refine WP.aload_n (pc := 15) dX8_loafDifference_15 rfl ?_
  refine WP.gR (pc := 16) uX8 fX8_10 hx.1.t0 hx.1.r0_0 dX8_loafDifference_16 ?_
  refine WP.gIv (pc := 19) (v := (m.s.1 8)) uX5 fX8_277 hx.1.a.t0 (by simp [up_eq, h10]) dX8_loafDifference_19 ?_
  refine WP.isub (pc := 22) dX8_loafDifference_22 ?_
  refine WP.aload_n (pc := 23) dX8_loafDifference_23 rfl ?_
  refine WP.gR (pc := 24) uX8 fX8_10 hx.1.t0 hx.1.r0_0 dX8_loafDifference_24 ?_
  refine WP.gR (pc := 27) uX5 fX8_127 hx.1.a.t0 hx.1.a.r0_2 dX8_loafDifference_27 ?_
  refine WP.gIv (pc := 30) (v := (nI m.s.2.2.1.length)) uX6 fX8_131 hx.1.a.t9 (by simp [up_eq, hk.1]) dX8_loafDifference_30 ?_
  refine WP.isub (pc := 33) dX8_loafDifference_33 ?_
  refine WP.iret (pc := 34) rfl dX8_loafDifference_34 ?_
  exact xO.ret hx
end T
