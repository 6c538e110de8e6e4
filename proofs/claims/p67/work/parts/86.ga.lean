section T
variable (Γ : cG) {σ : cAS} {x h N : Nat} {m : mX} {S : hBd}
abbrev gP (σ : cAS) (x : Nat) (m : mX) (h N : Nat) (S : hBd) (v : Int32) : cRes → cAS → Prop := rS (fun w τ => w = some (.int v) ∧ hJ τ x m h N S ∧ kpM σ τ x)
theorem gOk {r : cRm} {M : cM} {av : List Value} {Es : List String} {o : oR} {v : Int32} (hj : hJ σ x m h N S) (hC : Ctr Γ r M av σ (xO σ x Es o)) (ho : o = (0, v, m)) : Ctr Γ r M av σ (gP σ x m h N S v) := hC.mono (fun q τ hq => by
  obtain ⟨h1, h2, h3⟩ := hq
  rw [ho] at h1 h2
  exact ⟨_, h1, rfl, hj.M h3 h2, h3⟩)
theorem ix_no {k n : Nat} (h : k < n) (hn : n ≤ 2000) : ¬ ixB (nI k) n := fun q => q.elim (nI_pos (by omega)) (fun z => nI_ge (a := k) (b := n) h (by omega) z)
theorem gd_of {α : Type} {l : List α} {k : Nat} {e d : α} (he : l[k]? = some e) : l.getD k d = e := by rw [List.getD_eq_getElem?_getD, he]; rfl
theorem rowM {τ : cAS} {c k a n : Nat} {w : Nat → Int32} (hk : kpM σ τ x) (hc : fre σ x c) (ha : fre σ x a) (a1 : aR σ c k = some a) (a2 : aT σ a = (11, n)) (a3 : aI σ a = w) : aR τ c k = some a ∧ aT τ a = (11, n) ∧ aI τ a = w ∧ fre τ x a := ⟨by rw [(hk c hc).2.2.2.1]; exact a1, by rw [(hk a ha).2.1]; exact a2, by rw [(hk a ha).2.2.1]; exact a3, (hk a ha).1⟩
theorem G_hour (hj : hJ σ x m h N S) : Ctr Γ (0, 0, 0, 0) MX8_hour [.ref x] σ (gP σ x m h N S (m.s.1 3)) := gOk Γ hj (CX8_hour Γ hj.1) rfl
theorem G_crumbs (hj : hJ σ x m h N S) : Ctr Γ (0, 0, 0, 0) MX8_crumbs [.ref x] σ (gP σ x m h N S (m.s.1 4)) := gOk Γ hj (CX8_crumbs Γ hj.1) rfl
theorem G_sparrows (hj : hJ σ x m h N S) : Ctr Γ (0, 0, 0, 0) MX8_sparrows [.ref x] σ (gP σ x m h N S (m.s.1 5)) := gOk Γ hj (CX8_sparrows Γ hj.1) rfl
theorem G_customerCount (hj : hJ σ x m h N S) : Ctr Γ (0, 0, 0, 0) MX8_customerCount [.ref x] σ (gP σ x m h N S (nI m.s.2.2.2.1.length)) := gOk Γ hj (CX8_customerCount Γ hj.1) rfl
theorem G_loafCount (hj : hJ σ x m h N S) : Ctr Γ (0, 0, 0, 0) MX8_loafCount [.ref x] σ (gP σ x m h N S (nI m.s.2.2.1.length)) := gOk Γ hj (CX8_loafCount Γ hj.1) rfl
theorem G_eventCount (hj : hJ σ x m h N S) : Ctr Γ (0, 0, 0, 0) MX8_eventCount [.ref x] σ (gP σ x m h N S (nI m.s.2.2.2.2.length)) := gOk Γ hj (CX8_eventCount Γ hj.1) rfl
theorem G_ovenSize (hj : hJ σ x m h N S) {k : Nat} {e : mBk} (he : m.s.2.1[k]? = some e) (hn : m.s.2.1.length ≤ 2000) : Ctr Γ (8, 132, 1, 6) MX8_ovenSize [.ref x, .int (nI k)] σ (gP σ x m h N S (e.2.1)) := gOk Γ hj (CX8_ovenSize Γ hj.1 (nI k)) (by
  have hk := gE_lt he
  unfold q_ovenSize
  rw [if_neg (ix_no hk hn), nI_clamp (by omega), gd_of he])
theorem G_bakingKind (hj : hJ σ x m h N S) {k : Nat} {e : mBk} (he : m.s.2.1[k]? = some e) (hn : m.s.2.1.length ≤ 2000) : Ctr Γ (8, 132, 1, 6) MX8_bakingKind [.ref x, .int (nI k)] σ (gP σ x m h N S (e.2.2.2.1)) := gOk Γ hj (CX8_bakingKind Γ hj.1 (nI k)) (by
  have hk := gE_lt he
  unfold q_bakingKind
  rw [if_neg (ix_no hk hn), nI_clamp (by omega), gd_of he])
theorem G_hoursLeft (hj : hJ σ x m h N S) {k : Nat} {e : mBk} (he : m.s.2.1[k]? = some e) (hn : m.s.2.1.length ≤ 2000) : Ctr Γ (8, 132, 1, 6) MX8_hoursLeft [.ref x, .int (nI k)] σ (gP σ x m h N S (e.2.2.2.2.1)) := gOk Γ hj (CX8_hoursLeft Γ hj.1 (nI k)) (by
  have hk := gE_lt he
  unfold q_hoursLeft
  rw [if_neg (ix_no hk hn), nI_clamp (by omega), gd_of he])
theorem G_income (hj : hJ σ x m h N S) {k : Nat} {e : mBk} (he : m.s.2.1[k]? = some e) (hn : m.s.2.1.length ≤ 2000) : Ctr Γ (8, 132, 1, 6) MX8_income [.ref x, .int (nI k)] σ (gP σ x m h N S (e.2.2.2.2.2)) := gOk Γ hj (CX8_income Γ hj.1 (nI k)) (by
  have hk := gE_lt he
  unfold q_income
  rw [if_neg (ix_no hk hn), nI_clamp (by omega), gd_of he])
theorem G_ticketOf (hj : hJ σ x m h N S) {k : Nat} {e : mCu} (he : m.s.2.2.2.1[k]? = some e) (hn : m.s.2.2.2.1.length ≤ 2000) : Ctr Γ (8, 132, 1, 6) MX8_ticketOf [.ref x, .int (nI k)] σ (gP σ x m h N S (e.2.1)) := gOk Γ hj (CX8_ticketOf Γ hj.1 (nI k)) (by
  have hk := gE_lt he
  unfold q_ticketOf
  rw [if_neg (ix_no hk hn), nI_clamp (by omega), gd_of he])
theorem G_kindWanted (hj : hJ σ x m h N S) {k : Nat} {e : mCu} (he : m.s.2.2.2.1[k]? = some e) (hn : m.s.2.2.2.1.length ≤ 2000) : Ctr Γ (8, 132, 1, 6) MX8_kindWanted [.ref x, .int (nI k)] σ (gP σ x m h N S (e.2.2.1)) := gOk Γ hj (CX8_kindWanted Γ hj.1 (nI k)) (by
  have hk := gE_lt he
  unfold q_kindWanted
  rw [if_neg (ix_no hk hn), nI_clamp (by omega), gd_of he])
theorem G_wanted (hj : hJ σ x m h N S) {k : Nat} {e : mCu} (he : m.s.2.2.2.1[k]? = some e) (hn : m.s.2.2.2.1.length ≤ 2000) : Ctr Γ (8, 132, 1, 6) MX8_wanted [.ref x, .int (nI k)] σ (gP σ x m h N S (e.2.2.2.1)) := gOk Γ hj (CX8_wanted Γ hj.1 (nI k)) (by
  have hk := gE_lt he
  unfold q_wanted
  rw [if_neg (ix_no hk hn), nI_clamp (by omega), gd_of he])
theorem G_limitPrice (hj : hJ σ x m h N S) {k : Nat} {e : mCu} (he : m.s.2.2.2.1[k]? = some e) (hn : m.s.2.2.2.1.length ≤ 2000) : Ctr Γ (8, 132, 1, 6) MX8_limitPrice [.ref x, .int (nI k)] σ (gP σ x m h N S (e.2.2.2.2.1)) := gOk Γ hj (CX8_limitPrice Γ hj.1 (nI k)) (by
  have hk := gE_lt he
  unfold q_limitPrice
  rw [if_neg (ix_no hk hn), nI_clamp (by omega), gd_of he])
theorem G_purse (hj : hJ σ x m h N S) {k : Nat} {e : mCu} (he : m.s.2.2.2.1[k]? = some e) (hn : m.s.2.2.2.1.length ≤ 2000) : Ctr Γ (8, 132, 1, 6) MX8_purse [.ref x, .int (nI k)] σ (gP σ x m h N S (e.2.2.2.2.2.1)) := gOk Γ hj (CX8_purse Γ hj.1 (nI k)) (by
  have hk := gE_lt he
  unfold q_purse
  rw [if_neg (ix_no hk hn), nI_clamp (by omega), gd_of he])
theorem G_patience (hj : hJ σ x m h N S) {k : Nat} {e : mCu} (he : m.s.2.2.2.1[k]? = some e) (hn : m.s.2.2.2.1.length ≤ 2000) : Ctr Γ (8, 132, 1, 6) MX8_patience [.ref x, .int (nI k)] σ (gP σ x m h N S (e.2.2.2.2.2.2)) := gOk Γ hj (CX8_patience Γ hj.1 (nI k)) (by
  have hk := gE_lt he
  unfold q_patience
  rw [if_neg (ix_no hk hn), nI_clamp (by omega), gd_of he])
theorem G_loafKind (hj : hJ σ x m h N S) {k : Nat} {e : mLf} (he : m.s.2.2.1[k]? = some e) (hn : m.s.2.2.1.length ≤ 2000) : Ctr Γ (8, 132, 1, 6) MX8_loafKind [.ref x, .int (nI k)] σ (gP σ x m h N S (e.1)) := gOk Γ hj (CX8_loafKind Γ hj.1 (nI k)) (by
  have hk := gE_lt he
  unfold q_loafKind
  rw [if_neg (ix_no hk hn), nI_clamp (by omega), gd_of he])
theorem G_loafBaker (hj : hJ σ x m h N S) {k : Nat} {e : mLf} (he : m.s.2.2.1[k]? = some e) (hn : m.s.2.2.1.length ≤ 2000) : Ctr Γ (8, 132, 1, 6) MX8_loafBaker [.ref x, .int (nI k)] σ (gP σ x m h N S (e.2.1)) := gOk Γ hj (CX8_loafBaker Γ hj.1 (nI k)) (by
  have hk := gE_lt he
  unfold q_loafBaker
  rw [if_neg (ix_no hk hn), nI_clamp (by omega), gd_of he])
theorem G_loafAge (hj : hJ σ x m h N S) {k : Nat} {e : mLf} (he : m.s.2.2.1[k]? = some e) (hn : m.s.2.2.1.length ≤ 2000) : Ctr Γ (8, 132, 2, 12) MX8_loafAge [.ref x, .int (nI k)] σ (gP σ x m h N S (m.s.1 3 - e.2.2)) := gOk Γ hj (CX8_loafAge Γ hj.1 (nI k)) (by
  have hk := gE_lt he
  unfold q_loafAge
  rw [if_neg (ix_no hk hn), nI_clamp (by omega), gd_of he])
theorem G_reservePrice (hj : hJ σ x m h N S) {k : Nat} {e : mLf} (he : m.s.2.2.1[k]? = some e) (hn : m.s.2.2.1.length ≤ 2000) : Ctr Γ (8, 132, 2, 12) MX8_reservePrice [.ref x, .int (nI k)] σ (gP σ x m h N S (rsE m.s.1 e)) := gOk Γ hj (CX8_reservePrice Γ hj.1 (nI k)) (by
  have hk := gE_lt he
  unfold q_reservePrice
  rw [if_neg (ix_no hk hn), nI_clamp (by omega), gd_of he])
theorem G_eventType (hj : hJ σ x m h N S) {k : Nat} {e : mEv} (he : m.s.2.2.2.2[k]? = some e) (hn : m.s.2.2.2.2.length ≤ 2000) : Ctr Γ (8, 132, 1, 6) MX8_eventType [.ref x, .int (nI k)] σ (gP σ x m h N S (e.1)) := gOk Γ hj (CX8_eventType Γ hj.1 (nI k)) (by
  have hk := gE_lt he
  unfold q_eventType
  rw [if_neg (ix_no hk hn), nI_clamp (by omega), gd_of he])
theorem G_eventFirst (hj : hJ σ x m h N S) {k : Nat} {e : mEv} (he : m.s.2.2.2.2[k]? = some e) (hn : m.s.2.2.2.2.length ≤ 2000) : Ctr Γ (8, 132, 1, 6) MX8_eventFirst [.ref x, .int (nI k)] σ (gP σ x m h N S (e.2.1)) := gOk Γ hj (CX8_eventFirst Γ hj.1 (nI k)) (by
  have hk := gE_lt he
  unfold q_eventFirst
  rw [if_neg (ix_no hk hn), nI_clamp (by omega), gd_of he])
theorem G_eventSecond (hj : hJ σ x m h N S) {k : Nat} {e : mEv} (he : m.s.2.2.2.2[k]? = some e) (hn : m.s.2.2.2.2.length ≤ 2000) : Ctr Γ (8, 132, 1, 6) MX8_eventSecond [.ref x, .int (nI k)] σ (gP σ x m h N S (e.2.2)) := gOk Γ hj (CX8_eventSecond Γ hj.1 (nI k)) (by
  have hk := gE_lt he
  unfold q_eventSecond
  rw [if_neg (ix_no hk hn), nI_clamp (by omega), gd_of he])
theorem G_basePrice (hj : hJ σ x m h N S) {k : Nat} (hk : k < 3) : Ctr Γ (8, 131, 2, 12) MX8_basePrice [.ref x, .int (nI k)] σ (gP σ x m h N S (m.s.1 k)) := gOk Γ hj (CX8_basePrice Γ hj.1 (nI k)) (by
  unfold q_basePrice bsO
  rw [if_neg (ix_no hk (by decide)), if_pos ⟨Int32.not_lt.mp (nI_pos (by omega)), nI_lt (b := 3) hk (by decide)⟩, nI_clamp (by omega)])
theorem G_customerWithTicket (hj : hJ σ x m h N S) (t v : Int32) (hv : fndI (fun i => (m.s.2.2.2.1.getD i dC).2.1) t m.s.2.2.2.1.length 0 = v) : Ctr Γ (1, 23, 0, 0) MX8_customerWithTicket [.ref x, .int t] σ (gP σ x m h N S v) := gOk Γ hj (CX8_customerWithTicket Γ hj.1 t) (by
  unfold q_customerWithTicket
  rw [hv])
end T
