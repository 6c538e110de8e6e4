/-! THE CLEAN WORLD: an abstract heap, a judgement over it without the machine's context, one rule an instruction -/
-- the abstract heap: kind and length of a cell (kind 0: none), its ints, its references, its longs, the next address
abbrev cAS : Type := (Nat → Nat × Nat) × (Nat → Nat → Int32) × (Nat → Nat → Option Nat) × (Nat → Nat → Int64) × Nat
def aT (σ : cAS) : Nat → Nat × Nat := σ.1
def aI (σ : cAS) : Nat → Nat → Int32 := σ.2.1
def aR (σ : cAS) : Nat → Nat → Option Nat := σ.2.2.1
def aL (σ : cAS) : Nat → Nat → Int64 := σ.2.2.2.1
def aN (σ : cAS) : Nat := σ.2.2.2.2
def sI (σ : cAS) (a k : Nat) (x : Int32) : cAS := (σ.1, fun b j => if b = a ∧ j = k then x else σ.2.1 b j, σ.2.2)
def sR (σ : cAS) (a k : Nat) (x : Option Nat) : cAS := (σ.1, σ.2.1, fun b j => if b = a ∧ j = k then x else σ.2.2.1 b j, σ.2.2.2)
def sL (σ : cAS) (a k : Nat) (x : Int64) : cAS := (σ.1, σ.2.1, σ.2.2.1, fun b j => if b = a ∧ j = k then x else σ.2.2.2.1 b j, σ.2.2.2.2)
def sC (σ : cAS) (a0 a sp dp n : Nat) : cAS := (σ.1, fun b j => if b = a then va_cpy (σ.2.1 a0) (σ.2.1 a) sp dp n j else σ.2.1 b j, σ.2.2)
def sA (σ : cAS) (kd n : Nat) : cAS := (fun b => if b = σ.2.2.2.2 then (kd, n) else σ.1 b, fun b j => if b = σ.2.2.2.2 then 0 else σ.2.1 b j, fun b j => if b = σ.2.2.2.2 then none else σ.2.2.1 b j, fun b j => if b = σ.2.2.2.2 then 0 else σ.2.2.2.1 b j, σ.2.2.2.2 + 1)
def sX (σ : cAS) (n : Nat) : cAS := (σ.1, σ.2.1, σ.2.2.1, σ.2.2.2.1, n)
theorem aT_sI (σ : cAS) (a k : Nat) (x : Int32) : aT (sI σ a k x) = aT σ := rfl
theorem aR_sI (σ : cAS) (a k : Nat) (x : Int32) : aR (sI σ a k x) = aR σ := rfl
theorem aL_sI (σ : cAS) (a k : Nat) (x : Int32) : aL (sI σ a k x) = aL σ := rfl
theorem aN_sI (σ : cAS) (a k : Nat) (x : Int32) : aN (sI σ a k x) = aN σ := rfl
theorem aI_sI (σ : cAS) (a k : Nat) (x : Int32) (b j : Nat) : aI (sI σ a k x) b j = if b = a ∧ j = k then x else aI σ b j := rfl
theorem aT_sR (σ : cAS) (a k : Nat) (x : Option Nat) : aT (sR σ a k x) = aT σ := rfl
theorem aI_sR (σ : cAS) (a k : Nat) (x : Option Nat) : aI (sR σ a k x) = aI σ := rfl
theorem aL_sR (σ : cAS) (a k : Nat) (x : Option Nat) : aL (sR σ a k x) = aL σ := rfl
theorem aN_sR (σ : cAS) (a k : Nat) (x : Option Nat) : aN (sR σ a k x) = aN σ := rfl
theorem aR_sR (σ : cAS) (a k : Nat) (x : Option Nat) (b j : Nat) : aR (sR σ a k x) b j = if b = a ∧ j = k then x else aR σ b j := rfl
theorem aT_sL (σ : cAS) (a k : Nat) (x : Int64) : aT (sL σ a k x) = aT σ := rfl
theorem aI_sL (σ : cAS) (a k : Nat) (x : Int64) : aI (sL σ a k x) = aI σ := rfl
theorem aR_sL (σ : cAS) (a k : Nat) (x : Int64) : aR (sL σ a k x) = aR σ := rfl
theorem aN_sL (σ : cAS) (a k : Nat) (x : Int64) : aN (sL σ a k x) = aN σ := rfl
theorem aL_sL (σ : cAS) (a k : Nat) (x : Int64) (b j : Nat) : aL (sL σ a k x) b j = if b = a ∧ j = k then x else aL σ b j := rfl
theorem aT_sC (σ : cAS) (a0 a sp dp n : Nat) : aT (sC σ a0 a sp dp n) = aT σ := rfl
theorem aR_sC (σ : cAS) (a0 a sp dp n : Nat) : aR (sC σ a0 a sp dp n) = aR σ := rfl
theorem aL_sC (σ : cAS) (a0 a sp dp n : Nat) : aL (sC σ a0 a sp dp n) = aL σ := rfl
theorem aN_sC (σ : cAS) (a0 a sp dp n : Nat) : aN (sC σ a0 a sp dp n) = aN σ := rfl
theorem aI_sC (σ : cAS) (a0 a sp dp n b j : Nat) : aI (sC σ a0 a sp dp n) b j = if b = a then va_cpy (aI σ a0) (aI σ a) sp dp n j else aI σ b j := rfl
theorem aT_sA (σ : cAS) (kd n b : Nat) : aT (sA σ kd n) b = if b = aN σ then (kd, n) else aT σ b := rfl
theorem aI_sA (σ : cAS) (kd n b j : Nat) : aI (sA σ kd n) b j = if b = aN σ then 0 else aI σ b j := rfl
theorem aR_sA (σ : cAS) (kd n b j : Nat) : aR (sA σ kd n) b j = if b = aN σ then none else aR σ b j := rfl
theorem aL_sA (σ : cAS) (kd n b j : Nat) : aL (sA σ kd n) b j = if b = aN σ then 0 else aL σ b j := rfl
theorem aN_sA (σ : cAS) (kd n : Nat) : aN (sA σ kd n) = aN σ + 1 := rfl
theorem aT_sX (σ : cAS) (n : Nat) : aT (sX σ n) = aT σ := rfl
theorem aI_sX (σ : cAS) (n : Nat) : aI (sX σ n) = aI σ := rfl
theorem aR_sX (σ : cAS) (n : Nat) : aR (sX σ n) = aR σ := rfl
theorem aL_sX (σ : cAS) (n : Nat) : aL (sX σ n) = aL σ := rfl
theorem aN_sX (σ : cAS) (n : Nat) : aN (sX σ n) = n := rfl
-- kinds 1 to 10, 16, 17: objects of vwCl (kind - 1); 11 int[], 12 byte[], 13 boolean[], 14 int[][], 15 State[]
abbrev vwCl : List vw_C := [(RX0, TX0, 8), (RX1, TX1, 7), (RX2, TX2, 9), (RX3, TX3, 4), (RX4, TX4, 4), (RX5, TX5, 13), (RX6, TX6, 4), (RX7, TX7, 5), (RX8, TX8, 13), (RX9, TX9, 12), (RX0, TX0, 8), (RX0, TX0, 8), (RX0, TX0, 8), (RX0, TX0, 8), (RX0, TX0, 8), (RJ4, TJ4, 4), (RJ0, TJ0, 4)]
def cCl (ci : Nat) : vw_C := vwCl.getD ci (RX0, TX0, 8)
def cIsInt (d : String) : Bool := d == "I" || d == "B" || d == "Z"
def cRf (kd k : Nat) : Bool := if kd = 15 ∨ kd = 14 then true else if kd ≤ 10 ∨ 16 ≤ kd then !(cIsInt ((cCl (kd - 1)).2.1 k).2.2.1) else false
def cV (σ : cAS) (a kd k : Nat) : Value := if cRf kd k then va_rf (aR σ a k) else .int (aI σ a k)
def cTyA (kd : Nat) : FieldType := if kd = 11 then .int else if kd = 12 then .byte else if kd = 13 then .boolean else if kd = 14 then .array .int else .object RX5
-- what is fixed for a whole run: the launch, classes' numbers and slots, array classes, the heap at the law's entry, the String constants' cells
abbrev cG : Type := Launch × va_G × (Nat → ClassId) × Heap × (Nat → Nat) × (Nat → Nat) × ((Nat × Nat × (Nat → Int32)) × (Nat × Nat))
def gl (Γ : cG) : Launch := Γ.1
def gD (Γ : cG) : va_G := Γ.2.1
def gA (Γ : cG) : Nat → ClassId := Γ.2.2.1
def gH (Γ : cG) : Heap := Γ.2.2.2.1
def gK (Γ : cG) : Nat → Nat := Γ.2.2.2.2.1
def gW (Γ : cG) : Nat → Nat := Γ.2.2.2.2.2.1
-- the script: its cell, its length, its ints
def gX (Γ : cG) : Nat × Nat × (Nat → Int32) := Γ.2.2.2.2.2.2.1
-- the two rows of digits of java.lang.Integer: ones, tens
def gY (Γ : cG) : Nat × Nat := Γ.2.2.2.2.2.2.2
def gB (Γ : cG) : Nat := (gH Γ).size
def gF (Γ : cG) : Nat → Prop := fun q => gB Γ ≤ q
def cAt (Γ : cG) (σ : cAS) (a kd n : Nat) (H : Heap) : Prop :=
  if kd ≤ 10 ∨ 16 ≤ kd then n = (cCl (kd - 1)).2.2 ∧ t_OB a ((gD Γ).1 (kd - 1)) n ((gD Γ).2 (kd - 1)) H (fun k => cV σ a kd k)
  else H[a]? = some (arrV (gA Γ kd) n (fun k => cV σ a kd k))
def cRep (Γ : cG) (σ : cAS) (H : Heap) : Prop :=
  gB Γ ≤ H.size ∧ (∀ q : Nat, q < gB Γ → H[q]? = (gH Γ)[q]?) ∧ aN σ = H.size ∧ ∀ a kd n : Nat, aT σ a = (kd, n) → kd ≠ 0 → kd ≤ 17 ∧ gB Γ ≤ a ∧ a < H.size ∧ cAt Γ σ a kd n H
def cSTR : List (String × Nat × String × Nat) := [("LoafMarket", 49, "market 20 10 8;baker ann 4 2;baker bob 3 1;bake ann rye;bake bob roll;hours 2;bake bob wheat;customer cid roll 2 6 50 9;customer dot rye 3 25 60 5;customer eli roll 2 4 9 3;sparrows 2 7;hours 1;", 0), ("LoafMarket$Loader", 40, "market", 1), ("LoafMarket$Loader", 56, "baker", 2), ("LoafMarket$Loader", 61, "bake", 3), ("LoafMarket$Loader", 166, "rye", 4), ("LoafMarket$Loader", 168, "wheat", 5), ("LoafMarket$Loader", 170, "roll", 6), ("LoafMarket$Loader", 66, "customer", 7), ("LoafMarket$Loader", 71, "auction", 8), ("LoafMarket$Loader", 75, "sparrows", 9), ("LoafMarket$Loader", 80, "hours", 10), ("LoafMarket", 351, "there is no such number", 11), ("LoafMarket", 74, "the input buffer would be too long", 12), ("LoafMarket", 347, "a number is out of range", 13), ("LoafMarket", 98, "the text has an error", 14), ("LoafMarketLaw", 47, "market ", 15), ("LoafMarketLaw", 59, "baker b", 16), ("LoafMarketLaw", 64, "xyz", 17), ("LoafMarketLaw", 66, "bake b", 18), ("LoafMarketLaw", 33, "rye", 19), ("LoafMarketLaw", 35, "wheat", 20), ("LoafMarketLaw", 37, "roll", 21), ("LoafMarketLaw", 72, "customer c", 22), ("LoafMarketLaw", 74, "xy", 23), ("LoafMarketLaw", 77, "sparrows ", 24), ("java/util/Arrays", 337, " > ", 25), ("LoafMarket", 286, "the baker cannot begin to bake", 26), ("LoafMarketLaw", 90, "d", 27), ("LoafMarket", 299, "the input buffer is not a name", 28), ("LoafMarket", 305, "the queue is full or the name is taken", 29)]
def cTC : List (List Nat) := [[109, 97, 114, 107, 101, 116, 32, 50, 48, 32, 49, 48, 32, 56, 59, 98, 97, 107, 101, 114, 32, 97, 110, 110, 32, 52, 32, 50, 59, 98, 97, 107, 101, 114, 32, 98, 111, 98, 32, 51, 32, 49, 59, 98, 97, 107, 101, 32, 97, 110, 110, 32, 114, 121, 101, 59, 98, 97, 107, 101, 32, 98, 111, 98, 32, 114, 111, 108, 108, 59, 104, 111, 117, 114, 115, 32, 50, 59, 98, 97, 107, 101, 32, 98, 111, 98, 32, 119, 104, 101, 97, 116, 59, 99, 117, 115, 116, 111, 109, 101, 114, 32, 99, 105, 100, 32, 114, 111, 108, 108, 32, 50, 32, 54, 32, 53, 48, 32, 57, 59, 99, 117, 115, 116, 111, 109, 101, 114, 32, 100, 111, 116, 32, 114, 121, 101, 32, 51, 32, 50, 53, 32, 54, 48, 32, 53, 59, 99, 117, 115, 116, 111, 109, 101, 114, 32, 101, 108, 105, 32, 114, 111, 108, 108, 32, 50, 32, 52, 32, 57, 32, 51, 59, 115, 112, 97, 114, 114, 111, 119, 115, 32, 50, 32, 55, 59, 104, 111, 117, 114, 115, 32, 49, 59], [109, 97, 114, 107, 101, 116], [98, 97, 107, 101, 114], [98, 97, 107, 101], [114, 121, 101], [119, 104, 101, 97, 116], [114, 111, 108, 108], [99, 117, 115, 116, 111, 109, 101, 114], [97, 117, 99, 116, 105, 111, 110], [115, 112, 97, 114, 114, 111, 119, 115], [104, 111, 117, 114, 115], [116, 104, 101, 114, 101, 32, 105, 115, 32, 110, 111, 32, 115, 117, 99, 104, 32, 110, 117, 109, 98, 101, 114], [116, 104, 101, 32, 105, 110, 112, 117, 116, 32, 98, 117, 102, 102, 101, 114, 32, 119, 111, 117, 108, 100, 32, 98, 101, 32, 116, 111, 111, 32, 108, 111, 110, 103], [97, 32, 110, 117, 109, 98, 101, 114, 32, 105, 115, 32, 111, 117, 116, 32, 111, 102, 32, 114, 97, 110, 103, 101], [116, 104, 101, 32, 116, 101, 120, 116, 32, 104, 97, 115, 32, 97, 110, 32, 101, 114, 114, 111, 114], [109, 97, 114, 107, 101, 116, 32], [98, 97, 107, 101, 114, 32, 98], [120, 121, 122], [98, 97, 107, 101, 32, 98], [114, 121, 101], [119, 104, 101, 97, 116], [114, 111, 108, 108], [99, 117, 115, 116, 111, 109, 101, 114, 32, 99], [120, 121], [115, 112, 97, 114, 114, 111, 119, 115, 32], [32, 62, 32], [116, 104, 101, 32, 98, 97, 107, 101, 114, 32, 99, 97, 110, 110, 111, 116, 32, 98, 101, 103, 105, 110, 32, 116, 111, 32, 98, 97, 107, 101], [100], [116, 104, 101, 32, 105, 110, 112, 117, 116, 32, 98, 117, 102, 102, 101, 114, 32, 105, 115, 32, 110, 111, 116, 32, 97, 32, 110, 97, 109, 101], [116, 104, 101, 32, 113, 117, 101, 117, 101, 32, 105, 115, 32, 102, 117, 108, 108, 32, 111, 114, 32, 116, 104, 101, 32, 110, 97, 109, 101, 32, 105, 115, 32, 116, 97, 107, 101, 110]]
def cNC : List (String × String) := [("java/lang/IllegalStateException", "java/lang/IllegalArgumentException"), ("java/lang/IndexOutOfBoundsException", "java/lang/IllegalArgumentException"), ("java/lang/IllegalArgumentException", "java/lang/IllegalStateException"), ("java/lang/IndexOutOfBoundsException", "java/lang/IllegalStateException")]
-- WORDS: all the good ones of the tables, and those that a nest mate's members and a catch want
-- private methods of AbstractStringBuilder, called on a StringBuilder: each selects itself
def cSU : List Cond := [Cond.selects RJ4 yJ5_ensureCapacityInternal_d00df yJ5_ensureCapacityInternal_d00df, Cond.selects RJ4 yJ5_newCapacity_0f7a4 yJ5_newCapacity_0f7a4, Cond.selects RJ4 yJ5_inflate_da8c8 yJ5_inflate_da8c8, Cond.selects RJ4 yJ5_appendNull_278bc yJ5_appendNull_278bc, Cond.selects RJ4 yJ5_putStringAt_47b60 yJ5_putStringAt_47b60, Cond.selects RJ4 yJ5_inflateIfNeededFor_a7421 yJ5_inflateIfNeededFor_a7421]
def cALL : List Cond := (cSU ++ lw_tbl).filter goodWord
def cNest (w : Cond) : Bool := match w with
  | .fieldLinkNest _ _ _ _ _ _ => true
  | .methodLinkNest _ _ _ _ => true
  | .castable _ _ => true
  | .declares _ => true
  | _ => false
def cNW : List Cond := lw_tbl.filter cNest
theorem cGood {w0 : Cond} (h : w0 ∈ cALL) : GoodIn cALL (w0 :: cALL) := fun w hw => by
  have h1 : w ∈ cALL := by
    rcases List.mem_cons.mp hw with rfl | h2
    · exact h
    · exact h2
  exact ⟨h1, good_of_word (List.mem_filter.mp h1).2⟩
theorem cInT {w : Cond} (i : Nat) (h : tables_1[i]? = some w) (hg : goodWord w = true) : w ∈ cALL := List.mem_filter.mpr ⟨List.mem_append_right _ (List.mem_append_right _ (List.mem_of_getElem? h)), hg⟩
theorem cInS {w : Cond} (i : Nat) (h : (k2_sels lw_privs)[i]? = some w) (hg : goodWord w = true) : w ∈ cALL := List.mem_filter.mpr ⟨List.mem_append_right _ (List.mem_append_left _ (List.mem_of_getElem? h)), hg⟩
theorem cInU {w : Cond} (i : Nat) (h : cSU[i]? = some w) (hg : goodWord w = true) : w ∈ cALL := List.mem_filter.mpr ⟨List.mem_append_left _ (List.mem_of_getElem? h), hg⟩
theorem cInN {w : Cond} (i : Nat) (h : tables_1[i]? = some w) (hg : cNest w = true) : w ∈ cNW := List.mem_filter.mpr ⟨List.mem_append_right _ (List.mem_of_getElem? h), hg⟩
theorem cNest_warm {w : Cond} (hw : cNest w = true) {s U : State} (hW : s.WarmedH U.vm) (h : va_Nw w s) : va_Nw w U := by
  cases w <;> first | exact va_Nw.warmF hW h | exact va_Nw.warmM hW h | exact va_Nw.warmC hW h | exact va_Nw.warmD hW h | cases hw
def cTL (j : Nat) : Nat := (cTC.getD j []).length
def cTB (j i : Nat) : Int32 := Int32.ofNat ((cTC.getD j []).getD i 0)
def cWs (Γ : cG) (U : State) (j : Nat) : Prop :=
  va_O "java/lang/String" (gK Γ j) (gF Γ) U (gH Γ) ∧ va_OF "java/lang/String" "coder" "B" (.int 0) (gK Γ j) (gF Γ) U (gH Γ) ∧ va_OF "java/lang/String" "value" "[B" (.ref (gW Γ j)) (gK Γ j) (gF Γ) U (gH Γ) ∧ va_T .byte (gW Γ j) (cTL j) (fun i => .int (cTB j i)) (gF Γ) U (gH Γ)
-- what the world beside the abstract heap is, at a state
def cW (Γ : cG) (U : State) : Prop :=
  (∀ (ci : Nat) (q : vw_C), vwCl[ci]? = some q → u_Kn U q.1 q.2.1 q.2.2 ((gD Γ).1 ci) ((gD Γ).2 ci)) ∧
  (∀ kd : Nat, 11 ≤ kd → kd ≤ 15 → ArrOfT U (gA Γ kd) (cTyA kd) ∧ va_RA U (gA Γ kd) (cTyA kd)) ∧
  (∀ w ∈ cNW, va_Nw w U) ∧ (va_AO RX5 U ∧ (Cond.arrayOver (.array .int)).before #[] U = true) ∧
  (vx_Zq Bundle.tN "UNASSIGNED_STACK" Bundle.steD (gF Γ) U (gH Γ) ∧ vx_Zq Bundle.tN "SUPPRESSED_SENTINEL" Bundle.listD (gF Γ) U (gH Γ)) ∧
  (∀ q ∈ cSTR, vk_R q.1 q.2.1 q.2.2.1 (gK Γ q.2.2.2) U) ∧ (∀ j : Nat, j < 30 → cWs Γ U j) ∧
  (va_Z "java/lang/String" "COMPACT_STRINGS" "Z" (.int 1) (gF Γ) U (gH Γ) ∧ va_Zq "jdk/internal/util/Preconditions" "SIOOBE_FORMATTER" "Ljava/util/function/BiFunction;" (gF Γ) U (gH Γ) ∧ va_T .int (gX Γ).1 (gX Γ).2.1 (fun j => .int ((gX Γ).2.2 j)) (gF Γ) U (gH Γ) ∧ (va_Z "java/lang/Integer" "DigitOnes" "[B" (.ref (gY Γ).1) (gF Γ) U (gH Γ) ∧ va_T .byte (gY Γ).1 100 (fun i => .int (nI (48 + i % 10))) (gF Γ) U (gH Γ)) ∧ (va_Z "java/lang/Integer" "DigitTens" "[B" (.ref (gY Γ).2) (gF Γ) U (gH Γ) ∧ va_T .byte (gY Γ).2 100 (fun i => .int (nI (48 + i / 10))) (gF Γ) U (gH Γ))) ∧
  (∀ q ∈ cNC, va_Nc q.1 q.2 U) ∧ (gl Γ).stackTraces = false
theorem cW.warm {Γ : cG} {s U : State} (h : cW Γ s) (hW : s.WarmedH U.vm) : cW Γ U := by
  obtain ⟨h1, h2, h3, h4, h5, h6, h7, h8, h9, h10⟩ := h
  have hvm := hW.alike
  exact ⟨fun ci q hq => u_Kn_moved hvm (h1 ci q hq), fun kd a b => ⟨arrOfT_moved hvm (h2 kd a b).1, (h2 kd a b).2.moved hvm⟩, fun w hw => cNest_warm (List.mem_filter.mp hw).2 hW (h3 w hw), ⟨va_AO.moved hvm h4.1, over_moved hvm h4.2⟩, ⟨h5.1.moved hvm, h5.2.moved hvm⟩, fun q hq => vk_R.warm hW (h6 q hq), fun j hj => ⟨va_O.moved hvm (h7 j hj).1, va_OF.moved hvm (h7 j hj).2.1, va_OF.moved hvm (h7 j hj).2.2.1, va_T.moved hvm (h7 j hj).2.2.2⟩, ⟨va_Z.moved hvm h8.1, va_Zq.moved hvm h8.2.1, va_T.moved hvm h8.2.2.1, ⟨va_Z.moved hvm h8.2.2.2.1.1, va_T.moved hvm h8.2.2.2.1.2⟩, ⟨va_Z.moved hvm h8.2.2.2.2.1, va_T.moved hvm h8.2.2.2.2.2⟩⟩, fun q hq => va_Nc.moved hvm (h9 q hq), h10⟩
theorem cW.calling {Γ : cG} {U : State} (g : JFrame) (mk : MethodId) (a : Array Value) (h : cW Γ U) : cW Γ (U.calling g mk a) := h.warm (State.WarmedH.refl U)
-- a method: its name, code, locals, answer, handlers
abbrev cM : Type := MethodName × ByteArray × Nat × Option FieldType × List (Nat × Nat × Nat × Nat)
def mY (M : cM) : MethodName := M.1
def mC (M : cM) : ByteArray := M.2.1
def mL (M : cM) : Nat := M.2.2.1
def mR (M : cM) : Option FieldType := M.2.2.2.1
def mH (M : cM) : List (Nat × Nat × Nat × Nat) := M.2.2.2.2
-- the room that a method may use: frames, locals' words, cells, slots
abbrev cRm : Type := Nat × Nat × Nat × Nat
abbrev cRes : Type := Option Value ⊕ String
def cPc (Γ : cG) (σ : cAS) (av : List Value) : Array Value → State → Prop := fun v U => v = av.toArray ∧ cW Γ U ∧ cRep Γ σ U.heap
def cQc (Γ : cG) (Φ : cRes → cAS → Prop) : Array Value → State → Outcome → State → Prop := fun _ st o t => ∃ (v : Option Value) (σ : cAS), o = .returned v ∧ Φ (.inl v) σ ∧ cRep Γ σ t.heap ∧ st.heap.size ≤ t.heap.size
def cXc (Γ : cG) (Φ : cRes → cAS → Prop) : String → State → State → Prop := fun E st t => ∃ σ : cAS, Φ (.inr E) σ ∧ cRep Γ σ t.heap ∧ st.heap.size ≤ t.heap.size
def cWd (M : cM) : Cond := if mH M = [] then .code (mY M) (mC M) (mL M) (mR M) else .codeWith (mY M) (mC M) (mL M) (mR M) (mH M)
def cRo (r : cRm) : Room := { frames := r.1, cells := r.2.2.1, slots := r.2.2.2, locals := r.2.1 }
/-- the contract of a method, from one abstract heap -/
def Ctr (Γ : cG) (r : cRm) (M : cM) (av : List Value) (σ : cAS) (Φ : cRes → cAS → Prop) : Prop :=
  vx_Met (gl Γ) (mY M) (cWd M :: cALL) (cRo r) (cPc Γ σ av) (cQc Γ Φ) (cXc Γ Φ) r.2.2.1 r.2.2.2 (gF Γ)
-- locals
def cLs (ls : Array Slot) (nL : Nat) (L : List (Option Value)) : Prop := ls.size = nL ∧ lv_wf ls ∧ L.length = nL ∧ ∀ (i : Nat) (v : Value), L[i]? = some (some v) → ls[i]? = some (.val v)
def cLp (L : List (Option Value)) : List (Nat × Value) := (List.range L.length).filterMap (fun i => (L[i]?.join).map (fun v => (i, v)))
theorem cLp_mem {L : List (Option Value)} {i : Nat} {v : Value} : (i, v) ∈ cLp L ↔ L[i]? = some (some v) := by
  unfold cLp
  rw [List.mem_filterMap]
  constructor
  · rintro ⟨j, -, hj⟩
    rw [Option.map_eq_some_iff] at hj
    obtain ⟨w, hw, he⟩ := hj
    cases he
    exact Option.join_eq_some_iff.mp hw
  · intro h
    have hl : i < L.length := (List.getElem?_eq_some_iff.mp h).1
    exact ⟨i, List.mem_range.mpr hl, by rw [h]; rfl⟩
theorem cLs.has {ls : Array Slot} {nL : Nat} {L : List (Option Value)} (h : cLs ls nL L) : lv_has ls nL (cLp L) := ⟨h.1, h.2.1, fun q hq => (h.2.2.2 q.1 q.2 (cLp_mem.mp hq))⟩
def cLc (L : List (Option Value)) : Bool := L.all (fun o => match o with | some v => v.category == 1 | none => true)
theorem cLc_at {L : List (Option Value)} (h : cLc L = true) {j : Nat} {w : Value} (hj : L[j]? = some (some w)) : w.category = 1 := by
  have := List.all_eq_true.mp h _ (List.mem_of_getElem? hj)
  simpa using this
theorem cLs.set {ls ls' : Array Slot} {nL i : Nat} {L : List (Option Value)} {v : Value} (h : cLs ls nL L) (hc : v.category = 1) (hL : cLc L = true) (h' : lv_has ls' nL ((i, v) :: (cLp L).filter (fun q => !(q.1 == i) && !(q.1 + 1 == i && q.2.category == 2)))) : cLs ls' nL (L.set i (some v)) := by
  obtain ⟨h1, h2, h3⟩ := h'
  refine ⟨h1, h2, by rw [List.length_set]; exact h.2.2.1, fun j w hj => ?_⟩
  rw [List.getElem?_set] at hj
  by_cases e : i = j
  · subst e
    rw [if_pos rfl] at hj
    split at hj
    · cases hj
      exact h3 _ List.mem_cons_self
    · cases hj
  · rw [if_neg e] at hj
    have hw := cLc_at hL hj
    refine h3 (j, w) (List.mem_cons_of_mem _ (List.mem_filter.mpr ⟨cLp_mem.mpr hj, ?_⟩))
    simp [hw, Ne.symm e]
-- what is fixed of the machine while a method runs
def cOk (Γ : cG) (M : cM) (p : Program) (s : State) (m : MethodId) (args : Array Value) (meth : Method) (c : Code) : Prop :=
  p.tables.exec = Jvm.exec ∧ c.code = mC M ∧ c.maxLocals = mL M ∧ s.vm.findClass (mY M).cls = some m.cls ∧ (∀ w ∈ cALL, w.before args s = true) ∧ meth.locks = false ∧ meth.sig.returnType = mR M ∧ meth.name = (mY M).name ∧ cW Γ s ∧ c.exceptionTable.toList = tableOf (mH M) ∧ gB Γ ≤ s.heap.size ∧ ∀ q : Nat, q < gB Γ → s.heap[q]? = (gH Γ)[q]?
-- what goes on: room, heap, locals
def cSt (Γ : cG) (r : cRm) (nL : Nat) (L : List (Option Value)) (σ : cAS) (R : Room) (s : State) (H : Heap) (locs : List Loc) (cells slots : Nat) (ls : Array Slot) : Prop :=
  (r.1 ≤ R.frames ∧ r.2.1 ≤ R.locals ∧ cells + r.2.2.1 ≤ R.cells ∧ slots + r.2.2.2 ≤ R.slots) ∧ cRep Γ σ H ∧ s.heap.size ≤ H.size ∧ cLs ls nL L ∧ ∀ z ∈ locs, gF Γ z.base
/-- from here the method comes to its end, and Φ holds of its answer and of the abstract heap -/
def WP (Γ : cG) (r : cRm) (M : cM) (Φ : cRes → cAS → Prop) (pc : Nat) (L : List (Option Value)) (st : List Value) (σ : cAS) : Prop :=
  ∀ (p : Program) (e : Env) (R : Room) (s : State) (m : MethodId) (args : Array Value) (below : List Frame) (meth : Method) (c : Code) (H : Heap) (locs : List Loc) (cells slots : Nat) (ls : Array Slot),
    cOk Γ M p s m args meth c → cSt Γ r (mL M) L σ R s H locs cells slots ls →
    W p (gl Γ) e R s m args below meth c H locs cells slots (vx_MQ below (cQc Γ Φ) (cXc Γ Φ) args s R.cells R.slots (gF Γ)) (F0 m pc ls st)
/-- the same, with an exception of class E thrown here -/
def WX (Γ : cG) (r : cRm) (M : cM) (Φ : cRes → cAS → Prop) (pc : Nat) (L : List (Option Value)) (E : String) (σ : cAS) : Prop :=
  ∀ (p : Program) (e : Env) (R : Room) (s : State) (m : MethodId) (args : Array Value) (below : List Frame) (meth : Method) (c : Code) (H : Heap) (locs : List Loc) (cells slots : Nat) (ls : Array Slot) (st : List Value) (q : Addr) (ce : Cell),
    cOk Γ M p s m args meth c → cSt Γ r (mL M) L σ R s H locs cells slots ls → H[q]? = some ce → ce.vm = .none → s.vm.findClass E = some ce.cls →
    vx_W p (gl Γ) e R s m args below meth c H locs cells slots (vx_MQ below (cQc Γ Φ) (cXc Γ Φ) args s R.cells R.slots (gF Γ)) (F0 m pc ls st) q
section CWP
variable {Γ : cG} {r : cRm} {M : cM} {Φ : cRes → cAS → Prop} {pc : Nat} {L : List (Option Value)} {st : List Value} {σ : cAS}
theorem WP.sub {r' : cRm} (h1 : r'.1 ≤ r.1) (h2 : r'.2.1 ≤ r.2.1) (h3 : r'.2.2.1 ≤ r.2.2.1) (h4 : r'.2.2.2 ≤ r.2.2.2) (k : WP Γ r' M Φ pc L st σ) : WP Γ r M Φ pc L st σ := by
  intro p e R s m args below meth c H locs cells slots ls hO hS
  obtain ⟨⟨a1, a2, a3, a4⟩, b⟩ := hS
  exact k p e R s m args below meth c H locs cells slots ls hO ⟨⟨by omega, by omega, by omega, by omega⟩, b⟩
-- constants, loads, stores
theorem WP.iconst {n : Int} {v : Int32} (d : decode (mC M) pc = .ok (.iconst n, 1)) (hv : Int32.ofInt n = v) (k : WP Γ r M Φ (pc + 1) L (.int v :: st) σ) : WP Γ r M Φ pc L st σ := by
  intro p e R s m args below meth c H locs cells slots ls hO hS
  exact lv_iconst hO.1 hO.2.1 d hv (k p e R s m args below meth c H locs cells slots ls hO hS)
theorem WP.bipush {n : Int} {v : Int32} (d : decode (mC M) pc = .ok (.bipush n, 2)) (hv : (Int8.ofInt n).toInt32 = v) (k : WP Γ r M Φ (pc + 2) L (.int v :: st) σ) : WP Γ r M Φ pc L st σ := by
  intro p e R s m args below meth c H locs cells slots ls hO hS
  exact lv_bipush hO.1 hO.2.1 d hv (k p e R s m args below meth c H locs cells slots ls hO hS)
theorem WP.sipush {n : Int} {v : Int32} (d : decode (mC M) pc = .ok (.sipush n, 3)) (hv : (Int16.ofInt n).toInt32 = v) (k : WP Γ r M Φ (pc + 3) L (.int v :: st) σ) : WP Γ r M Φ pc L st σ := by
  intro p e R s m args below meth c H locs cells slots ls hO hS
  exact lv_sipush hO.1 hO.2.1 d hv (k p e R s m args below meth c H locs cells slots ls hO hS)
theorem WP.ldc {index : Nat} {v : Int32} (hw : (Cond.constant (mY M).cls index v) ∈ cALL) (d : decode (mC M) pc = .ok (.ldc index, 2)) (k : WP Γ r M Φ (pc + 2) L (.int v :: st) σ) : WP Γ r M Φ pc L st σ := by
  intro p e R s m args below meth c H locs cells slots ls hO hS
  exact lv_ldc hO.1 hO.2.1 hO.2.2.2.1 (hO.2.2.2.2.1 _ hw) d (k p e R s m args below meth c H locs cells slots ls hO hS)
theorem WP.iload_n {n : Fin 4} {x : Int32} (d : decode (mC M) pc = .ok (.iload_n n, 1)) (hl : L[(n : Nat)]? = some (some (.int x))) (k : WP Γ r M Φ (pc + 1) L (.int x :: st) σ) : WP Γ r M Φ pc L st σ := by
  intro p e R s m args below meth c H locs cells slots ls hO hS
  exact lv_iload_n hO.1 hO.2.1 d rfl (hS.2.2.2.1.2.2.2 _ _ hl) (k p e R s m args below meth c H locs cells slots ls hO hS)
theorem WP.iload {n : Nat} {x : Int32} (d : decode (mC M) pc = .ok (.iload n, 2)) (hl : L[n]? = some (some (.int x))) (k : WP Γ r M Φ (pc + 2) L (.int x :: st) σ) : WP Γ r M Φ pc L st σ := by
  intro p e R s m args below meth c H locs cells slots ls hO hS
  exact lv_iload hO.1 hO.2.1 d (hS.2.2.2.1.2.2.2 _ _ hl) (k p e R s m args below meth c H locs cells slots ls hO hS)
theorem WP.aload_n {n : Fin 4} {x : Nat} (d : decode (mC M) pc = .ok (.aload_n n, 1)) (hl : L[(n : Nat)]? = some (some (.ref x))) (k : WP Γ r M Φ (pc + 1) L (.ref x :: st) σ) : WP Γ r M Φ pc L st σ := by
  intro p e R s m args below meth c H locs cells slots ls hO hS
  exact lv_aload_n hO.1 hO.2.1 d rfl (hS.2.2.2.1.2.2.2 _ _ hl) (k p e R s m args below meth c H locs cells slots ls hO hS)
theorem WP.aload {n : Nat} {x : Nat} (d : decode (mC M) pc = .ok (.aload n, 2)) (hl : L[n]? = some (some (.ref x))) (k : WP Γ r M Φ (pc + 2) L (.ref x :: st) σ) : WP Γ r M Φ pc L st σ := by
  intro p e R s m args below meth c H locs cells slots ls hO hS
  exact lv_aload hO.1 hO.2.1 d (hS.2.2.2.1.2.2.2 _ _ hl) (k p e R s m args below meth c H locs cells slots ls hO hS)
theorem cSt.set {R : Room} {s : State} {H : Heap} {locs : List Loc} {cells slots : Nat} {ls ls' : Array Slot} {nL i : Nat} {v : Value} (hS : cSt Γ r nL L σ R s H locs cells slots ls) (hc : v.category = 1) (hL : cLc L = true) (h' : lv_has ls' nL ((i, v) :: (cLp L).filter (fun q => !(q.1 == i) && !(q.1 + 1 == i && q.2.category == 2)))) : cSt Γ r nL (L.set i (some v)) σ R s H locs cells slots ls' :=
  ⟨hS.1, hS.2.1, hS.2.2.1, hS.2.2.2.1.set hc hL h', hS.2.2.2.2⟩
theorem WP.istore_n {n : Fin 4} {x : Int32} (d : decode (mC M) pc = .ok (.istore_n n, 1)) (hn : (n : Nat) < mL M) (hL : cLc L = true) (k : WP Γ r M Φ (pc + 1) (L.set (n : Nat) (some (.int x))) st σ) : WP Γ r M Φ pc L (.int x :: st) σ := by
  intro p e R s m args below meth c H locs cells slots ls hO hS
  exact lv_istore_n hO.1 hO.2.1 d rfl hS.2.2.2.1.has hn rfl (fun ls' h' => k p e R s m args below meth c H locs cells slots ls' hO (hS.set rfl hL h'))
theorem WP.istore {n : Nat} {x : Int32} (d : decode (mC M) pc = .ok (.istore n, 2)) (hn : n < mL M) (hL : cLc L = true) (k : WP Γ r M Φ (pc + 2) (L.set n (some (.int x))) st σ) : WP Γ r M Φ pc L (.int x :: st) σ := by
  intro p e R s m args below meth c H locs cells slots ls hO hS
  exact lv_istore hO.1 hO.2.1 d hS.2.2.2.1.has hn rfl (fun ls' h' => k p e R s m args below meth c H locs cells slots ls' hO (hS.set rfl hL h'))
theorem WP.astore_n {n : Fin 4} {x : Nat} (d : decode (mC M) pc = .ok (.astore_n n, 1)) (hn : (n : Nat) < mL M) (hL : cLc L = true) (k : WP Γ r M Φ (pc + 1) (L.set (n : Nat) (some (.ref x))) st σ) : WP Γ r M Φ pc L (.ref x :: st) σ := by
  intro p e R s m args below meth c H locs cells slots ls hO hS
  exact lv_astore_n hO.1 hO.2.1 d rfl hS.2.2.2.1.has hn rfl (fun ls' h' => k p e R s m args below meth c H locs cells slots ls' hO (hS.set rfl hL h'))
theorem WP.astore {n : Nat} {x : Nat} (d : decode (mC M) pc = .ok (.astore n, 2)) (hn : n < mL M) (hL : cLc L = true) (k : WP Γ r M Φ (pc + 2) (L.set n (some (.ref x))) st σ) : WP Γ r M Φ pc L (.ref x :: st) σ := by
  intro p e R s m args below meth c H locs cells slots ls hO hS
  exact lv_astore hO.1 hO.2.1 d hS.2.2.2.1.has hn rfl (fun ls' h' => k p e R s m args below meth c H locs cells slots ls' hO (hS.set rfl hL h'))
theorem WP.iadd {x y : Int32} (d : decode (mC M) pc = .ok (.iadd, 1)) (k : WP Γ r M Φ (pc + 1) L (.int (x + y) :: st) σ) : WP Γ r M Φ pc L (.int y :: .int x :: st) σ := by
  intro p e R s m args below meth c H locs cells slots ls hO hS
  exact lv_iadd hO.1 hO.2.1 d (k p e R s m args below meth c H locs cells slots ls hO hS)
theorem WP.isub {x y : Int32} (d : decode (mC M) pc = .ok (.isub, 1)) (k : WP Γ r M Φ (pc + 1) L (.int (x - y) :: st) σ) : WP Γ r M Φ pc L (.int y :: .int x :: st) σ := by
  intro p e R s m args below meth c H locs cells slots ls hO hS
  exact lv_isub hO.1 hO.2.1 d (k p e R s m args below meth c H locs cells slots ls hO hS)
theorem WP.imul {x y : Int32} (d : decode (mC M) pc = .ok (.imul, 1)) (k : WP Γ r M Φ (pc + 1) L (.int (x * y) :: st) σ) : WP Γ r M Φ pc L (.int y :: .int x :: st) σ := by
  intro p e R s m args below meth c H locs cells slots ls hO hS
  exact lv_imul hO.1 hO.2.1 d (k p e R s m args below meth c H locs cells slots ls hO hS)
theorem WP.iand {x y : Int32} (d : decode (mC M) pc = .ok (.iand, 1)) (k : WP Γ r M Φ (pc + 1) L (.int (x &&& y) :: st) σ) : WP Γ r M Φ pc L (.int y :: .int x :: st) σ := by
  intro p e R s m args below meth c H locs cells slots ls hO hS
  exact lv_iand hO.1 hO.2.1 d (k p e R s m args below meth c H locs cells slots ls hO hS)
theorem WP.ior {x y : Int32} (d : decode (mC M) pc = .ok (.ior, 1)) (k : WP Γ r M Φ (pc + 1) L (.int (x ||| y) :: st) σ) : WP Γ r M Φ pc L (.int y :: .int x :: st) σ := by
  intro p e R s m args below meth c H locs cells slots ls hO hS
  exact lv_ior hO.1 hO.2.1 d (k p e R s m args below meth c H locs cells slots ls hO hS)
theorem WP.idiv {x y : Int32} (d : decode (mC M) pc = .ok (.idiv, 1)) (hne : ¬ y = 0) (k : WP Γ r M Φ (pc + 1) L (.int (x / y) :: st) σ) : WP Γ r M Φ pc L (.int y :: .int x :: st) σ := by
  intro p e R s m args below meth c H locs cells slots ls hO hS
  exact lv_idiv hO.1 hO.2.1 d hne (k p e R s m args below meth c H locs cells slots ls hO hS)
theorem WP.irem {x y : Int32} (d : decode (mC M) pc = .ok (.irem, 1)) (hne : ¬ y = 0) (k : WP Γ r M Φ (pc + 1) L (.int (x - x / y * y) :: st) σ) : WP Γ r M Φ pc L (.int y :: .int x :: st) σ := by
  intro p e R s m args below meth c H locs cells slots ls hO hS
  exact lv_irem hO.1 hO.2.1 d hne (k p e R s m args below meth c H locs cells slots ls hO hS)
theorem WP.ishl {x y : Int32} (d : decode (mC M) pc = .ok (.ishl, 1)) (k : WP Γ r M Φ (pc + 1) L (.int (x <<< (y &&& 31)) :: st) σ) : WP Γ r M Φ pc L (.int y :: .int x :: st) σ := by
  intro p e R s m args below meth c H locs cells slots ls hO hS
  exact lv_ishl hO.1 hO.2.1 d (k p e R s m args below meth c H locs cells slots ls hO hS)
theorem WP.ishr {x y : Int32} (d : decode (mC M) pc = .ok (.ishr, 1)) (k : WP Γ r M Φ (pc + 1) L (.int (x >>> (y &&& 31)) :: st) σ) : WP Γ r M Φ pc L (.int y :: .int x :: st) σ := by
  intro p e R s m args below meth c H locs cells slots ls hO hS
  exact lv_ishr hO.1 hO.2.1 d (k p e R s m args below meth c H locs cells slots ls hO hS)
theorem WP.i2l {x : Int32} (d : decode (mC M) pc = .ok (.i2l, 1)) (k : WP Γ r M Φ (pc + 1) L (.long x.toInt64 :: st) σ) : WP Γ r M Φ pc L (.int x :: st) σ := by
  intro p e R s m args below meth c H locs cells slots ls hO hS
  exact lv_i2l hO.1 hO.2.1 d rfl (k p e R s m args below meth c H locs cells slots ls hO hS)
theorem WP.i2b {x : Int32} (d : decode (mC M) pc = .ok (.i2b, 1)) (k : WP Γ r M Φ (pc + 1) L (.int x.toInt8.toInt32 :: st) σ) : WP Γ r M Φ pc L (.int x :: st) σ := by
  intro p e R s m args below meth c H locs cells slots ls hO hS
  exact lv_i2b hO.1 hO.2.1 d rfl (k p e R s m args below meth c H locs cells slots ls hO hS)
theorem WP.i2c {x : Int32} (d : decode (mC M) pc = .ok (.i2c, 1)) (k : WP Γ r M Φ (pc + 1) L (.int (x.toUInt32 % 65536).toInt32 :: st) σ) : WP Γ r M Φ pc L (.int x :: st) σ := by
  intro p e R s m args below meth c H locs cells slots ls hO hS
  exact lv_i2c hO.1 hO.2.1 d rfl (k p e R s m args below meth c H locs cells slots ls hO hS)
theorem WP.i2d {x : Int32} (d : decode (mC M) pc = .ok (.i2d, 1)) (k : WP Γ r M Φ (pc + 1) L (.double (FP.i2d x) :: st) σ) : WP Γ r M Φ pc L (.int x :: st) σ := by
  intro p e R s m args below meth c H locs cells slots ls hO hS
  exact lv_i2d hO.1 hO.2.1 d (k p e R s m args below meth c H locs cells slots ls hO hS)
theorem WP.i2f {x : Int32} (d : decode (mC M) pc = .ok (.i2f, 1)) (k : WP Γ r M Φ (pc + 1) L (.float (FP.i2f x) :: st) σ) : WP Γ r M Φ pc L (.int x :: st) σ := by
  intro p e R s m args below meth c H locs cells slots ls hO hS
  exact lv_i2f hO.1 hO.2.1 d (k p e R s m args below meth c H locs cells slots ls hO hS)
theorem WP.f2d {x : UInt32} (d : decode (mC M) pc = .ok (.f2d, 1)) (hne : vf_n64 (FP.f2d x)) (k : WP Γ r M Φ (pc + 1) L (.double (FP.f2d x) :: st) σ) : WP Γ r M Φ pc L (.float x :: st) σ := by
  intro p e R s m args below meth c H locs cells slots ls hO hS
  exact lv_f2d hO.1 hO.2.1 d hne (k p e R s m args below meth c H locs cells slots ls hO hS)
theorem WP.ddiv {x y : UInt64} (d : decode (mC M) pc = .ok (.ddiv, 1)) (hne : vf_n64 (FP.ddiv x y)) (k : WP Γ r M Φ (pc + 1) L (.double (FP.ddiv x y) :: st) σ) : WP Γ r M Φ pc L (.double y :: .double x :: st) σ := by
  intro p e R s m args below meth c H locs cells slots ls hO hS
  exact lv_ddiv hO.1 hO.2.1 d hne (k p e R s m args below meth c H locs cells slots ls hO hS)
theorem WP.fdiv {x y : UInt32} (d : decode (mC M) pc = .ok (.fdiv, 1)) (hne : vf_n32 (FP.fdiv x y)) (k : WP Γ r M Φ (pc + 1) L (.float (FP.fdiv x y) :: st) σ) : WP Γ r M Φ pc L (.float y :: .float x :: st) σ := by
  intro p e R s m args below meth c H locs cells slots ls hO hS
  exact lv_fdiv hO.1 hO.2.1 d hne (k p e R s m args below meth c H locs cells slots ls hO hS)
theorem WP.dcmp {x y : UInt64} {op : CmpOp} (d : decode (mC M) pc = .ok (.dcmp op, 1)) (k : WP Γ r M Φ (pc + 1) L (.int (Op.cmpValue (FP.dcmp x y) op) :: st) σ) : WP Γ r M Φ pc L (.double y :: .double x :: st) σ := by
  intro p e R s m args below meth c H locs cells slots ls hO hS
  exact lv_dcmp hO.1 hO.2.1 d (k p e R s m args below meth c H locs cells slots ls hO hS)
theorem WP.dconst0 (d : decode (mC M) pc = .ok (.dconst 0, 1)) (k : WP Γ r M Φ (pc + 1) L (.double FP.dconst0 :: st) σ) : WP Γ r M Φ pc L (st) σ := by
  intro p e R s m args below meth c H locs cells slots ls hO hS
  exact lv_dconst0 hO.1 hO.2.1 d (k p e R s m args below meth c H locs cells slots ls hO hS)
theorem WP.fconst0 (d : decode (mC M) pc = .ok (.fconst 0, 1)) (k : WP Γ r M Φ (pc + 1) L (.float FP.fconst0 :: st) σ) : WP Γ r M Φ pc L (st) σ := by
  intro p e R s m args below meth c H locs cells slots ls hO hS
  exact lv_fconst0 hO.1 hO.2.1 d (k p e R s m args below meth c H locs cells slots ls hO hS)
theorem WP.dup_x1 {v w : Value} (d : decode (mC M) pc = .ok (.dup_x1, 1)) (hc : v.category = 1) (hc2 : w.category = 1) (k : WP Γ r M Φ (pc + 1) L (v :: w :: v :: st) σ) : WP Γ r M Φ pc L (v :: w :: st) σ := by
  intro p e R s m args below meth c H locs cells slots ls hO hS
  exact lv_dup_x1 hO.1 hO.2.1 d hc hc2 (k p e R s m args below meth c H locs cells slots ls hO hS)
theorem WP.ineg {x : Int32} (d : decode (mC M) pc = .ok (.ineg, 1)) (k : WP Γ r M Φ (pc + 1) L (.int (-x) :: st) σ) : WP Γ r M Φ pc L (.int x :: st) σ := by
  intro p e R s m args below meth c H locs cells slots ls hO hS
  exact lv_ineg hO.1 hO.2.1 d (k p e R s m args below meth c H locs cells slots ls hO hS)
theorem WP.dup {v : Value} (d : decode (mC M) pc = .ok (.dup, 1)) (hc : v.category = 1) (k : WP Γ r M Φ (pc + 1) L (v :: v :: st) σ) : WP Γ r M Φ pc L (v :: st) σ := by
  intro p e R s m args below meth c H locs cells slots ls hO hS
  exact lv_dup hO.1 hO.2.1 d hc (k p e R s m args below meth c H locs cells slots ls hO hS)
theorem WP.pop {v : Value} (d : decode (mC M) pc = .ok (.pop, 1)) (hc : v.category = 1) (k : WP Γ r M Φ (pc + 1) L (st) σ) : WP Γ r M Φ pc L (v :: st) σ := by
  intro p e R s m args below meth c H locs cells slots ls hO hS
  exact lv_pop hO.1 hO.2.1 d hc (k p e R s m args below meth c H locs cells slots ls hO hS)
theorem WP.dup2 {v w : Value} (d : decode (mC M) pc = .ok (.dup2, 1)) (hc : v.category = 1) (hc2 : w.category = 1) (k : WP Γ r M Φ (pc + 1) L (v :: w :: v :: w :: st) σ) : WP Γ r M Φ pc L (v :: w :: st) σ := by
  intro p e R s m args below meth c H locs cells slots ls hO hS
  exact lv_dup2_11 hO.1 hO.2.1 d hc hc2 (k p e R s m args below meth c H locs cells slots ls hO hS)
theorem WP.null (d : decode (mC M) pc = .ok (.aconst_null, 1)) (k : WP Γ r M Φ (pc + 1) L (.null :: st) σ) : WP Γ r M Φ pc L (st) σ := by
  intro p e R s m args below meth c H locs cells slots ls hO hS
  exact lv_null hO.1 hO.2.1 d (k p e R s m args below meth c H locs cells slots ls hO hS)
theorem WP.goto {off : Int} {tgt : Nat} (d : decode (mC M) pc = .ok (.goto off, 3)) (ht : (pc : Int) + off = (tgt : Int)) (k : WP Γ r M Φ (tgt) L (st) σ) : WP Γ r M Φ pc L (st) σ := by
  intro p e R s m args below meth c H locs cells slots ls hO hS
  exact lv_goto hO.1 hO.2.1 d ht (k p e R s m args below meth c H locs cells slots ls hO hS)
theorem WP.ifnonnull {x : Nat} {off : Int} {tgt : Nat} (d : decode (mC M) pc = .ok (.ifnonnull off, 3)) (ht : (pc : Int) + off = (tgt : Int)) (k : WP Γ r M Φ (tgt) L (st) σ) : WP Γ r M Φ pc L (.ref x :: st) σ := by
  intro p e R s m args below meth c H locs cells slots ls hO hS
  exact lv_ifnonnull hO.1 hO.2.1 d ht (k p e R s m args below meth c H locs cells slots ls hO hS)
theorem WP.ifnonnullN {off : Int} (d : decode (mC M) pc = .ok (.ifnonnull off, 3)) (k : WP Γ r M Φ (pc + 3) L (st) σ) : WP Γ r M Φ pc L (.null :: st) σ := by
  intro p e R s m args below meth c H locs cells slots ls hO hS
  exact lv_ifnonnullN hO.1 hO.2.1 d (k p e R s m args below meth c H locs cells slots ls hO hS)
theorem WP.aload_nN {n : Fin 4} (d : decode (mC M) pc = .ok (.aload_n n, 1)) (hl : L[(n : Nat)]? = some (some .null)) (k : WP Γ r M Φ (pc + 1) L (.null :: st) σ) : WP Γ r M Φ pc L (st) σ := by
  intro p e R s m args below meth c H locs cells slots ls hO hS
  exact lv_aload_nN hO.1 hO.2.1 d rfl (hS.2.2.2.1.2.2.2 _ _ hl) (k p e R s m args below meth c H locs cells slots ls hO hS)
theorem WP.dload {n : Nat} {x : UInt64} (d : decode (mC M) pc = .ok (.dload n, 2)) (hl : L[n]? = some (some (.double x))) (k : WP Γ r M Φ (pc + 2) L (.double x :: st) σ) : WP Γ r M Φ pc L (st) σ := by
  intro p e R s m args below meth c H locs cells slots ls hO hS
  exact lv_dload hO.1 hO.2.1 d (hS.2.2.2.1.2.2.2 _ _ hl) (k p e R s m args below meth c H locs cells slots ls hO hS)
theorem WP.if_eq {x : Int32} {off : Int} {tgt : Nat} (d : decode (mC M) pc = .ok (.ifCond .eq off, 3)) (ht : (pc : Int) + off = (tgt : Int)) (kt : x = 0 → WP Γ r M Φ tgt L st σ) (kf : ¬ x = 0 → WP Γ r M Φ (pc + 3) L st σ) : WP Γ r M Φ pc L (.int x :: st) σ := by
  intro p e R s m args below meth c H locs cells slots ls hO hS
  exact lv_if_eq hO.1 hO.2.1 d ht (fun h => kt h p e R s m args below meth c H locs cells slots ls hO hS) (fun h => kf h p e R s m args below meth c H locs cells slots ls hO hS)
theorem WP.icmp_eq {x y : Int32} {off : Int} {tgt : Nat} (d : decode (mC M) pc = .ok (.if_icmp .eq off, 3)) (ht : (pc : Int) + off = (tgt : Int)) (kt : x = y → WP Γ r M Φ tgt L st σ) (kf : ¬ x = y → WP Γ r M Φ (pc + 3) L st σ) : WP Γ r M Φ pc L (.int y :: .int x :: st) σ := by
  intro p e R s m args below meth c H locs cells slots ls hO hS
  exact lv_icmp_eq hO.1 hO.2.1 d ht (fun h => kt h p e R s m args below meth c H locs cells slots ls hO hS) (fun h => kf h p e R s m args below meth c H locs cells slots ls hO hS)
theorem WP.if_ne {x : Int32} {off : Int} {tgt : Nat} (d : decode (mC M) pc = .ok (.ifCond .ne off, 3)) (ht : (pc : Int) + off = (tgt : Int)) (kt : ¬ x = 0 → WP Γ r M Φ tgt L st σ) (kf : x = 0 → WP Γ r M Φ (pc + 3) L st σ) : WP Γ r M Φ pc L (.int x :: st) σ := by
  intro p e R s m args below meth c H locs cells slots ls hO hS
  exact lv_if_ne hO.1 hO.2.1 d ht (fun h => kt h p e R s m args below meth c H locs cells slots ls hO hS) (fun h => kf h p e R s m args below meth c H locs cells slots ls hO hS)
theorem WP.icmp_ne {x y : Int32} {off : Int} {tgt : Nat} (d : decode (mC M) pc = .ok (.if_icmp .ne off, 3)) (ht : (pc : Int) + off = (tgt : Int)) (kt : ¬ x = y → WP Γ r M Φ tgt L st σ) (kf : x = y → WP Γ r M Φ (pc + 3) L st σ) : WP Γ r M Φ pc L (.int y :: .int x :: st) σ := by
  intro p e R s m args below meth c H locs cells slots ls hO hS
  exact lv_icmp_ne hO.1 hO.2.1 d ht (fun h => kt h p e R s m args below meth c H locs cells slots ls hO hS) (fun h => kf h p e R s m args below meth c H locs cells slots ls hO hS)
theorem WP.if_lt {x : Int32} {off : Int} {tgt : Nat} (d : decode (mC M) pc = .ok (.ifCond .lt off, 3)) (ht : (pc : Int) + off = (tgt : Int)) (kt : x < 0 → WP Γ r M Φ tgt L st σ) (kf : ¬ x < 0 → WP Γ r M Φ (pc + 3) L st σ) : WP Γ r M Φ pc L (.int x :: st) σ := by
  intro p e R s m args below meth c H locs cells slots ls hO hS
  exact lv_if_lt hO.1 hO.2.1 d ht (fun h => kt h p e R s m args below meth c H locs cells slots ls hO hS) (fun h => kf h p e R s m args below meth c H locs cells slots ls hO hS)
theorem WP.icmp_lt {x y : Int32} {off : Int} {tgt : Nat} (d : decode (mC M) pc = .ok (.if_icmp .lt off, 3)) (ht : (pc : Int) + off = (tgt : Int)) (kt : x < y → WP Γ r M Φ tgt L st σ) (kf : ¬ x < y → WP Γ r M Φ (pc + 3) L st σ) : WP Γ r M Φ pc L (.int y :: .int x :: st) σ := by
  intro p e R s m args below meth c H locs cells slots ls hO hS
  exact lv_icmp_lt hO.1 hO.2.1 d ht (fun h => kt h p e R s m args below meth c H locs cells slots ls hO hS) (fun h => kf h p e R s m args below meth c H locs cells slots ls hO hS)
theorem WP.if_ge {x : Int32} {off : Int} {tgt : Nat} (d : decode (mC M) pc = .ok (.ifCond .ge off, 3)) (ht : (pc : Int) + off = (tgt : Int)) (kt : 0 ≤ x → WP Γ r M Φ tgt L st σ) (kf : ¬ 0 ≤ x → WP Γ r M Φ (pc + 3) L st σ) : WP Γ r M Φ pc L (.int x :: st) σ := by
  intro p e R s m args below meth c H locs cells slots ls hO hS
  exact lv_if_ge hO.1 hO.2.1 d ht (fun h => kt h p e R s m args below meth c H locs cells slots ls hO hS) (fun h => kf h p e R s m args below meth c H locs cells slots ls hO hS)
theorem WP.icmp_ge {x y : Int32} {off : Int} {tgt : Nat} (d : decode (mC M) pc = .ok (.if_icmp .ge off, 3)) (ht : (pc : Int) + off = (tgt : Int)) (kt : y ≤ x → WP Γ r M Φ tgt L st σ) (kf : ¬ y ≤ x → WP Γ r M Φ (pc + 3) L st σ) : WP Γ r M Φ pc L (.int y :: .int x :: st) σ := by
  intro p e R s m args below meth c H locs cells slots ls hO hS
  exact lv_icmp_ge hO.1 hO.2.1 d ht (fun h => kt h p e R s m args below meth c H locs cells slots ls hO hS) (fun h => kf h p e R s m args below meth c H locs cells slots ls hO hS)
theorem WP.if_gt {x : Int32} {off : Int} {tgt : Nat} (d : decode (mC M) pc = .ok (.ifCond .gt off, 3)) (ht : (pc : Int) + off = (tgt : Int)) (kt : 0 < x → WP Γ r M Φ tgt L st σ) (kf : ¬ 0 < x → WP Γ r M Φ (pc + 3) L st σ) : WP Γ r M Φ pc L (.int x :: st) σ := by
  intro p e R s m args below meth c H locs cells slots ls hO hS
  exact lv_if_gt hO.1 hO.2.1 d ht (fun h => kt h p e R s m args below meth c H locs cells slots ls hO hS) (fun h => kf h p e R s m args below meth c H locs cells slots ls hO hS)
theorem WP.icmp_gt {x y : Int32} {off : Int} {tgt : Nat} (d : decode (mC M) pc = .ok (.if_icmp .gt off, 3)) (ht : (pc : Int) + off = (tgt : Int)) (kt : y < x → WP Γ r M Φ tgt L st σ) (kf : ¬ y < x → WP Γ r M Φ (pc + 3) L st σ) : WP Γ r M Φ pc L (.int y :: .int x :: st) σ := by
  intro p e R s m args below meth c H locs cells slots ls hO hS
  exact lv_icmp_gt hO.1 hO.2.1 d ht (fun h => kt h p e R s m args below meth c H locs cells slots ls hO hS) (fun h => kf h p e R s m args below meth c H locs cells slots ls hO hS)
theorem WP.if_le {x : Int32} {off : Int} {tgt : Nat} (d : decode (mC M) pc = .ok (.ifCond .le off, 3)) (ht : (pc : Int) + off = (tgt : Int)) (kt : x ≤ 0 → WP Γ r M Φ tgt L st σ) (kf : ¬ x ≤ 0 → WP Γ r M Φ (pc + 3) L st σ) : WP Γ r M Φ pc L (.int x :: st) σ := by
  intro p e R s m args below meth c H locs cells slots ls hO hS
  exact lv_if_le hO.1 hO.2.1 d ht (fun h => kt h p e R s m args below meth c H locs cells slots ls hO hS) (fun h => kf h p e R s m args below meth c H locs cells slots ls hO hS)
theorem WP.icmp_le {x y : Int32} {off : Int} {tgt : Nat} (d : decode (mC M) pc = .ok (.if_icmp .le off, 3)) (ht : (pc : Int) + off = (tgt : Int)) (kt : x ≤ y → WP Γ r M Φ tgt L st σ) (kf : ¬ x ≤ y → WP Γ r M Φ (pc + 3) L st σ) : WP Γ r M Φ pc L (.int y :: .int x :: st) σ := by
  intro p e R s m args below meth c H locs cells slots ls hO hS
  exact lv_icmp_le hO.1 hO.2.1 d ht (fun h => kt h p e R s m args below meth c H locs cells slots ls hO hS) (fun h => kf h p e R s m args below meth c H locs cells slots ls hO hS)
theorem WP.lcmp {x y : Int64} (d : decode (mC M) pc = .ok (.lcmp, 1)) (k : WP Γ r M Φ (pc + 1) L (.int (lg_cmp x y) :: st) σ) : WP Γ r M Φ pc L (.long y :: .long x :: st) σ := by
  intro p e R s m args below meth c H locs cells slots ls hO hS
  exact W.lcmp hO.1 hO.2.1 d (k p e R s m args below meth c H locs cells slots ls hO hS)
theorem WP.iinc {i : Nat} {n : Int} {x v : Int32} (d : decode (mC M) pc = .ok (.iinc i n, 3)) (hl : L[i]? = some (some (.int x))) (hv : x + Int32.ofInt n = v) (hn : i < mL M) (hL : cLc L = true) (k : WP Γ r M Φ (pc + 3) (L.set i (some (.int v))) st σ) : WP Γ r M Φ pc L st σ := by
  intro p e R s m args below meth c H locs cells slots ls hO hS
  obtain ⟨kk, hk⟩ := List.getElem?_of_mem (cLp_mem.mpr hl)
  exact lv_iinc hO.1 hO.2.1 d hS.2.2.2.1.has hk hv hn rfl (fun ls' h' => k p e R s m args below meth c H locs cells slots ls' hO (hS.set rfl hL h'))
theorem WP.astore_nN {n : Fin 4} (d : decode (mC M) pc = .ok (.astore_n n, 1)) (hn : (n : Nat) < mL M) (hL : cLc L = true) (k : WP Γ r M Φ (pc + 1) (L.set (n : Nat) (some .null)) st σ) : WP Γ r M Φ pc L (.null :: st) σ := by
  intro p e R s m args below meth c H locs cells slots ls hO hS
  exact lv_astore_nN hO.1 hO.2.1 d rfl hS.2.2.2.1.has hn rfl (fun ls' h' => k p e R s m args below meth c H locs cells slots ls' hO (hS.set rfl hL h'))
/-- what is no longer known of the locals -/
theorem WP.forget {L' : List (Option Value)} (hlen : L'.length = L.length) (h : ∀ (i : Nat) (v : Value), L'[i]? = some (some v) → L[i]? = some (some v)) (k : WP Γ r M Φ pc L' st σ) : WP Γ r M Φ pc L st σ := by
  intro p e R s m args below meth c H locs cells slots ls hO hS
  exact k p e R s m args below meth c H locs cells slots ls hO ⟨hS.1, hS.2.1, hS.2.2.1, ⟨hS.2.2.2.1.1, hS.2.2.2.1.2.1, hlen.trans hS.2.2.2.1.2.2.1, fun i v hi => hS.2.2.2.1.2.2.2 i v (h i v hi)⟩, hS.2.2.2.2⟩
end CWP
-- fields: what a link of the pool says
def cTyF (ci k : Nat) : FieldType := match ci with
  | 0 => tyX0 k | 1 => tyX1 k | 2 => tyX2 k | 3 => tyX3 k | 4 => tyX4 k | 5 => tyX5 k | 6 => tyX6 k | 7 => tyX7 k | 8 => tyX8 k | 9 => tyX9 k | 15 => tyJ4 k | 16 => tyJ0 k | _ => tyX0 k
theorem cOb3 {P : Nat → Prop} (h0 : P 0) (h1 : P 1) (h2 : P 2) (h3 : P 3) (h4 : P 4) (h5 : P 5) (h6 : P 6) (h7 : P 7) (h8 : P 8) (h9 : P 9) (ha : P 15) (hb : P 16) : ∀ ci, (ci < 10 ∨ ci = 15 ∨ ci = 16) → P ci := by
  intro ci hci
  rcases (show ci = 0 ∨ ci = 1 ∨ ci = 2 ∨ ci = 3 ∨ ci = 4 ∨ ci = 5 ∨ ci = 6 ∨ ci = 7 ∨ ci = 8 ∨ ci = 9 ∨ ci = 15 ∨ ci = 16 by omega) with rfl | rfl | rfl | rfl | rfl | rfl | rfl | rfl | rfl | rfl | rfl | rfl
  · exact h0
  · exact h1
  · exact h2
  · exact h3
  · exact h4
  · exact h5
  · exact h6
  · exact h7
  · exact h8
  · exact h9
  · exact ha
  · exact hb
theorem cTyF_ok : ∀ ci, (ci < 10 ∨ ci = 15 ∨ ci = 16) → ∀ k, k < (cCl ci).2.2 → parseFieldDescriptor ((cCl ci).2.1 k).2.2.1 = some (cTyF ci k) := cOb3 tyX0_ok tyX1_ok tyX2_ok tyX3_ok tyX4_ok tyX5_ok tyX6_ok tyX7_ok tyX8_ok tyX9_ok tyJ4_ok tyJ0_ok
theorem cNm_ok : ∀ ci, (ci < 10 ∨ ci = 15 ∨ ci = 16) → ∀ a, a < (cCl ci).2.2 → ∀ b, b < (cCl ci).2.2 → a ≠ b → ((cCl ci).2.1 a).2.1 ≠ ((cCl ci).2.1 b).2.1 := cOb3 nmX0 nmX1 nmX2 nmX3 nmX4 nmX5 nmX6 nmX7 nmX8 nmX9 nmJ4 nmJ0
theorem cCl_at : ∀ ci, (ci < 10 ∨ ci = 15 ∨ ci = 16) → vwCl[ci]? = some ((cCl ci).1, (cCl ci).2.1, (cCl ci).2.2) := cOb3 rfl rfl rfl rfl rfl rfl rfl rfl rfl rfl rfl rfl
def cFl (own : String) (index ci k : Nat) (rf : Bool) : Prop := (ci < 10 ∨ ci = 15 ∨ ci = 16) ∧ k < (cCl ci).2.2 ∧ cRf (ci + 1) k = rf ∧ Cond.fieldLink own index ((cCl ci).2.1 k).1 ((cCl ci).2.1 k).2.1 ((cCl ci).2.1 k).2.2.1 ∈ cALL
section CHP
variable {Γ : cG} {r : cRm} {M : cM} {Φ : cRes → cAS → Prop} {pc : Nat} {L : List (Option Value)} {st : List Value} {σ : cAS}
theorem cRep.at {H : Heap} (h : cRep Γ σ H) {a kd n : Nat} (ht : aT σ a = (kd, n)) (hk : kd ≠ 0) : gB Γ ≤ a ∧ a < H.size ∧ cAt Γ σ a kd n H := (h.2.2.2 a kd n ht hk).2
theorem cRep.obj {H : Heap} (h : cRep Γ σ H) {a ci n : Nat} (hci : ci < 10 ∨ ci = 15 ∨ ci = 16) (ht : aT σ a = (ci + 1, n)) : n = (cCl ci).2.2 ∧ t_OB a ((gD Γ).1 ci) n ((gD Γ).2 ci) H (fun k => cV σ a (ci + 1) k) := by
  have h1 := (h.at ht (Nat.succ_ne_zero _)).2.2
  unfold cAt at h1
  rw [if_pos (by omega)] at h1
  exact h1
theorem cRep.arr {H : Heap} (h : cRep Γ σ H) {a kd n : Nat} (hk : 11 ≤ kd) (hk2 : kd ≤ 15) (ht : aT σ a = (kd, n)) : H[a]? = some (arrV (gA Γ kd) n (fun k => cV σ a kd k)) := by
  have h1 := (h.at ht (by omega)).2.2
  unfold cAt at h1
  rw [if_neg (by omega)] at h1
  exact h1
theorem cV_int {a kd k : Nat} (h : cRf kd k = false) : cV σ a kd k = .int (aI σ a k) := by
  unfold cV
  rw [h, if_neg (by decide)]
theorem cV_ref {a kd k : Nat} (h : cRf kd k = true) : cV σ a kd k = va_rf (aR σ a k) := by
  unfold cV
  rw [h, if_pos rfl]
theorem cW.K {s : State} (h : cW Γ s) : va_K (gD Γ) vwCl [] s := ⟨h.1, fun k q hq => by simp at hq⟩
theorem cHts {p : Program} {s : State} {m : MethodId} {args : Array Value} {meth : Method} {c : Code} (hO : cOk Γ M p s m args meth c) : ∀ w ∈ cALL, w.before args s = true := hO.2.2.2.2.1
theorem cOk.w {p : Program} {s : State} {m : MethodId} {args : Array Value} {meth : Method} {c : Code} (hO : cOk Γ M p s m args meth c) : cW Γ s := hO.2.2.2.2.2.2.2.2.1
theorem WP.getf {index ci k n a : Nat} {rf : Bool} (hU : ∀ w ∈ u_ws (cCl ci).1 (cCl ci).2.1 (cCl ci).2.2, w ∈ cALL) (lk : cFl (mY M).cls index ci k rf) (ht : aT σ a = (ci + 1, n)) (d : decode (mC M) pc = .ok (.getfield index, 3)) (kk : WP Γ r M Φ (pc + 3) L (cV σ a (ci + 1) k :: st) σ) : WP Γ r M Φ pc L (.ref a :: st) σ := by
  intro p e R s m args below meth c H locs cells slots ls hO hS
  obtain ⟨hci, hk, -, hl⟩ := lk
  obtain ⟨rfl, cell, q1, q2, q3, q4⟩ := hS.2.1.obj hci ht
  obtain ⟨hSl, hfc, kC, hkC, hkind⟩ := hO.w.1 ci _ (cCl_at ci hci)
  obtain ⟨cf, kf, fi, f, hi, hsl⟩ := hSl k hk
  refine W.getf hO.1 hO.2.1 hO.2.2.2.1 (cHts hO _ hl) hi (u_facts hfc hkC (u_lays (cHts hO) hU hk) hi).1 q1 (by rw [q3]; exact fun h => by cases h) (v := cV σ a (ci + 1) k) (by rw [hsl]; exact q4 k hk) rfl rfl d (kk p e R s m args below meth c H locs cells slots ls hO hS)
theorem cRep.put {H H' : Heap} {σ' : cAS} (h : cRep Γ σ H) {a kd n : Nat} (ht : aT σ a = (kd, n)) (hkd : kd ≠ 0) (hT : aT σ' = aT σ) (hN : aN σ' = aN σ) (hV : ∀ b, b ≠ a → ∀ kd j, cV σ' b kd j = cV σ b kd j) (hc : cAt Γ σ' a kd n H') (hz : H'.size = H.size) (ho : ∀ q : Nat, q ≠ a → H'[q]? = H[q]?) : cRep Γ σ' H' := by
  obtain ⟨h1, h2, h3, h4⟩ := id h
  have ha := h.at ht hkd
  refine ⟨by rw [hz]; exact h1, fun q hq => by rw [ho q (by omega)]; exact h2 q hq, by rw [hN, hz]; exact h3, fun b kb nb hb hk => ?_⟩
  rw [hT] at hb
  obtain ⟨g1, g2, g3, g4⟩ := h4 b kb nb hb hk
  refine ⟨g1, g2, by rw [hz]; exact g3, ?_⟩
  by_cases e : b = a
  · subst e
    rw [ht] at hb
    cases hb
    exact hc
  · unfold cAt at g4 ⊢
    simp only [hV b e]
    split
    · rename_i hle
      rw [if_pos hle] at g4
      exact ⟨g4.1, g4.2.kept (ho b e)⟩
    · rename_i hle
      rw [if_neg hle] at g4
      rw [ho b e]
      exact g4
theorem cV_sI {a k : Nat} {x : Int32} : ∀ b, b ≠ a → ∀ kd j, cV (sI σ a k x) b kd j = cV σ b kd j := by
  intro b hb kd j
  unfold cV
  rw [aR_sI, aI_sI, if_neg (show ¬ (b = a ∧ j = k) from fun h => hb h.1)]
theorem cV_sR {a k : Nat} {x : Option Nat} : ∀ b, b ≠ a → ∀ kd j, cV (sR σ a k x) b kd j = cV σ b kd j := by
  intro b hb kd j
  unfold cV
  rw [aI_sR, aR_sR, if_neg (show ¬ (b = a ∧ j = k) from fun h => hb h.1)]
theorem cV_sC {a0 a sp dp n : Nat} : ∀ b, b ≠ a → ∀ kd j, cV (sC σ a0 a sp dp n) b kd j = cV σ b kd j := by
  intro b hb kd j
  unfold cV
  rw [aR_sC, aI_sC, if_neg hb]
theorem cSt.heap {R : Room} {s : State} {H H' : Heap} {locs : List Loc} {cells slots nL : Nat} {ls : Array Slot} {σ' : cAS} (hS : cSt Γ r nL L σ R s H locs cells slots ls) {a i : Nat} (ha : gB Γ ≤ a) (hR : cRep Γ σ' H') (hz : H'.size = H.size) : cSt Γ r nL L σ' R s H' (locs ++ [⟨a, i⟩]) cells slots ls := by
  refine ⟨hS.1, hR, by rw [hz]; exact hS.2.2.1, hS.2.2.2.1, fun z hz => ?_⟩
  rcases List.mem_append.mp hz with h | h
  · exact hS.2.2.2.2 z h
  · rw [List.mem_singleton.mp h]
    exact ha
theorem WP.putI {index ci k n a : Nat} {x : Int32} (hU : ∀ w ∈ u_ws (cCl ci).1 (cCl ci).2.1 (cCl ci).2.2, w ∈ cALL) (lk : cFl (mY M).cls index ci k false) (hfin : ((cCl ci).2.1 k).2.2.2 = false) (hty : cTyF ci k = .int) (ht : aT σ a = (ci + 1, n)) (d : decode (mC M) pc = .ok (.putfield index, 3)) (kk : WP Γ r M Φ (pc + 3) L st (sI σ a k x)) : WP Γ r M Φ pc L (.int x :: .ref a :: st) σ := by
  intro p e R s m args below meth c H locs cells slots ls hO hS
  obtain ⟨hci, hk, hrf, hl⟩ := lk
  have hat := hS.2.1.at ht (Nat.succ_ne_zero _)
  obtain ⟨rfl, cell, q1, q2, q3, q4⟩ := hS.2.1.obj hci ht
  have hap := va_apart (own := (mY M).cls) (cHts hO) hU (cTyF ci) (cTyF_ok ci hci) (cNm_ok ci hci) hO.w.K (cCl_at ci hci)
  obtain ⟨hSl, hfc, kC, hkC, hkind⟩ := hO.w.1 ci _ (cCl_at ci hci)
  obtain ⟨cf, kf, fi, f, hi, hsl⟩ := hSl k hk
  have hlay := cHts hO _ (hU _ (u_in_lay hk))
  unfold u_lay at hlay
  rw [if_neg (by rw [hfin]; decide)] at hlay
  have hst := (u_facts hfc hkC (u_lays (cHts hO) hU hk) hi).1
  have hd : parseFieldDescriptor ((cCl ci).2.1 k).2.2.1 = some .int := by rw [cTyF_ok ci hci k hk, hty]
  have h6 := u_store (v := .int x) hfc hkC hkind hlay hi hd rfl rfl
  refine W.putK hO.1 hO.2.1 (f := f) ⟨hO.2.2.2.1, cHts hO _ hl, ⟨_, _, _, hi⟩, hst⟩ (by rw [q2]; exact h6) q1 q3 (by rw [hsl]; exact k2_hasslot (q4 k hk)) rfl rfl d fun H' e1 e2 e3 => ?_
  rw [hsl] at e1
  refine kk p e R s m args below meth c H' _ cells slots ls hO (hS.heap hat.1 (hS.2.1.put ht (Nat.succ_ne_zero _) rfl rfl cV_sI ?_ e2 e3) e2)
  unfold cAt
  rw [if_pos (by omega)]
  refine ⟨rfl, t_OB.to (V := updV (fun j => cV σ a (ci + 1) j) k (.int x)) ⟨_, e1, q2, q3, t_set q4 hap hk _⟩ (fun j hj => ?_)⟩
  unfold updV
  by_cases e : j = k
  · subst e
    rw [if_pos rfl, cV_int hrf, aI_sI, if_pos ⟨rfl, rfl⟩]
  · rw [if_neg e]
    unfold cV
    rw [aR_sI, aI_sI, if_neg (show ¬ (a = a ∧ j = k) from fun h => e h.2)]
theorem WP.putB {ty : FieldType} {index ci k n a : Nat} {x : Int32} (hU : ∀ w ∈ u_ws (cCl ci).1 (cCl ci).2.1 (cCl ci).2.2, w ∈ cALL) (lk : cFl (mY M).cls index ci k false) (hfin : ((cCl ci).2.1 k).2.2.2 = false) (hty : cTyF ci k = ty) (hnx : narrow ty (.int x) = .int x) (hfx : fits ty (.int x) = true) (ht : aT σ a = (ci + 1, n)) (d : decode (mC M) pc = .ok (.putfield index, 3)) (kk : WP Γ r M Φ (pc + 3) L st (sI σ a k x)) : WP Γ r M Φ pc L (.int x :: .ref a :: st) σ := by
  intro p e R s m args below meth c H locs cells slots ls hO hS
  obtain ⟨hci, hk, hrf, hl⟩ := lk
  have hat := hS.2.1.at ht (Nat.succ_ne_zero _)
  obtain ⟨rfl, cell, q1, q2, q3, q4⟩ := hS.2.1.obj hci ht
  have hap := va_apart (own := (mY M).cls) (cHts hO) hU (cTyF ci) (cTyF_ok ci hci) (cNm_ok ci hci) hO.w.K (cCl_at ci hci)
  obtain ⟨hSl, hfc, kC, hkC, hkind⟩ := hO.w.1 ci _ (cCl_at ci hci)
  obtain ⟨cf, kf, fi, f, hi, hsl⟩ := hSl k hk
  have hlay := cHts hO _ (hU _ (u_in_lay hk))
  unfold u_lay at hlay
  rw [if_neg (by rw [hfin]; decide)] at hlay
  have hst := (u_facts hfc hkC (u_lays (cHts hO) hU hk) hi).1
  have hd : parseFieldDescriptor ((cCl ci).2.1 k).2.2.1 = some ty := by rw [cTyF_ok ci hci k hk, hty]
  have h6 := u_store (v := .int x) hfc hkC hkind hlay hi hd hnx hfx
  refine W.putK hO.1 hO.2.1 (f := f) ⟨hO.2.2.2.1, cHts hO _ hl, ⟨_, _, _, hi⟩, hst⟩ (by rw [q2]; exact h6) q1 q3 (by rw [hsl]; exact k2_hasslot (q4 k hk)) rfl rfl d fun H' e1 e2 e3 => ?_
  rw [hsl] at e1
  refine kk p e R s m args below meth c H' _ cells slots ls hO (hS.heap hat.1 (hS.2.1.put ht (Nat.succ_ne_zero _) rfl rfl cV_sI ?_ e2 e3) e2)
  unfold cAt
  rw [if_pos (by omega)]
  refine ⟨rfl, t_OB.to (V := updV (fun j => cV σ a (ci + 1) j) k (.int x)) ⟨_, e1, q2, q3, t_set q4 hap hk _⟩ (fun j hj => ?_)⟩
  unfold updV
  by_cases e : j = k
  · subst e
    rw [if_pos rfl, cV_int hrf, aI_sI, if_pos ⟨rfl, rfl⟩]
  · rw [if_neg e]
    unfold cV
    rw [aR_sI, aI_sI, if_neg (show ¬ (a = a ∧ j = k) from fun h => e h.2)]
/-- a final reference, in its constructor -/
theorem WP.putR {index ci k n a b : Nat} (hU : ∀ w ∈ u_ws (cCl ci).1 (cCl ci).2.1 (cCl ci).2.2, w ∈ cALL) (lk : cFl (mY M).cls index ci k true) (hfin : ((cCl ci).2.1 k).2.2.2 = true) (hin : (mY M).name = "<init>") (hdecl : ((cCl ci).2.1 k).1 = (mY M).cls) (hn : narrow (cTyF ci k) (.ref b) = .ref b) (hfit : fits (cTyF ci k) (.ref b) = true) (ht : aT σ a = (ci + 1, n)) (d : decode (mC M) pc = .ok (.putfield index, 3)) (kk : WP Γ r M Φ (pc + 3) L st (sR σ a k (some b))) : WP Γ r M Φ pc L (.ref b :: .ref a :: st) σ := by
  intro p e R s m args below meth c H locs cells slots ls hO hS
  obtain ⟨hci, hk, hrf, hl⟩ := lk
  have hat := hS.2.1.at ht (Nat.succ_ne_zero _)
  obtain ⟨rfl, cell, q1, q2, q3, q4⟩ := hS.2.1.obj hci ht
  have hap := va_apart (own := (mY M).cls) (cHts hO) hU (cTyF ci) (cTyF_ok ci hci) (cNm_ok ci hci) hO.w.K (cCl_at ci hci)
  obtain ⟨hSl, hfc, kC, hkC, hkind⟩ := hO.w.1 ci _ (cCl_at ci hci)
  obtain ⟨cf, kf, fi, f, hi, hsl⟩ := hSl k hk
  have hlay := cHts hO _ (hU _ (u_in_lay hk))
  unfold u_lay at hlay
  rw [if_pos hfin] at hlay
  have hst := (u_facts hfc hkC (u_lays (cHts hO) hU hk) hi).1
  have hcf : m.cls = cf := by
    obtain ⟨_, _, c', _, _, _, -, -, hf', -, -, -, hown2, -⟩ := Cond.laysFinal_spec hlay
    have e1 : c' = cf := by have := hi.symm.trans hf'; simp at this; exact this.1.symm
    rw [hdecl] at hown2
    rw [← e1]; exact Option.some.inj (hO.2.2.2.1.symm.trans hown2)
  have h6 := u_fits hfc hkC hkind (Or.inr hlay) hi (cTyF_ok ci hci k hk) hn hfit
  have hin2 : meth.name = "<init>" := hO.2.2.2.2.2.2.2.1.trans hin
  refine W.putFinK hO.1 hO.2.1 hO.2.2.2.1 (cHts hO _ hl) hi hst hcf hin2 (by rw [q2]; exact h6) q1 q3 (by rw [hsl]; exact k2_hasslot (q4 k hk)) rfl rfl d fun H' e1 e2 e3 => ?_
  rw [hsl] at e1
  refine kk p e R s m args below meth c H' _ cells slots ls hO (hS.heap hat.1 (hS.2.1.put ht (Nat.succ_ne_zero _) rfl rfl cV_sR ?_ e2 e3) e2)
  unfold cAt
  rw [if_pos (by omega)]
  refine ⟨rfl, t_OB.to (V := updV (fun j => cV σ a (ci + 1) j) k (.ref b)) ⟨_, e1, q2, q3, t_set q4 hap hk _⟩ (fun j hj => ?_)⟩
  unfold updV
  by_cases e : j = k
  · subst e
    rw [if_pos rfl, cV_ref hrf, aR_sR, if_pos ⟨rfl, rfl⟩]
    rfl
  · rw [if_neg e]
    unfold cV
    rw [aI_sR, aR_sR, if_neg (show ¬ (a = a ∧ j = k) from fun h => e h.2)]
theorem WP.putRn {index ci k n a b : Nat} (hU : ∀ w ∈ u_ws (cCl ci).1 (cCl ci).2.1 (cCl ci).2.2, w ∈ cALL) (lk : cFl (mY M).cls index ci k true) (hfin : ((cCl ci).2.1 k).2.2.2 = false) (hn : narrow (cTyF ci k) (.ref b) = .ref b) (hfit : fits (cTyF ci k) (.ref b) = true) (ht : aT σ a = (ci + 1, n)) (d : decode (mC M) pc = .ok (.putfield index, 3)) (kk : WP Γ r M Φ (pc + 3) L st (sR σ a k (some b))) : WP Γ r M Φ pc L (.ref b :: .ref a :: st) σ := by
  intro p e R s m args below meth c H locs cells slots ls hO hS
  obtain ⟨hci, hk, hrf, hl⟩ := lk
  have hat := hS.2.1.at ht (Nat.succ_ne_zero _)
  obtain ⟨rfl, cell, q1, q2, q3, q4⟩ := hS.2.1.obj hci ht
  have hap := va_apart (own := (mY M).cls) (cHts hO) hU (cTyF ci) (cTyF_ok ci hci) (cNm_ok ci hci) hO.w.K (cCl_at ci hci)
  obtain ⟨hSl, hfc, kC, hkC, hkind⟩ := hO.w.1 ci _ (cCl_at ci hci)
  obtain ⟨cf, kf, fi, f, hi, hsl⟩ := hSl k hk
  have hlay := cHts hO _ (hU _ (u_in_lay hk))
  unfold u_lay at hlay
  rw [if_neg (by rw [hfin]; decide)] at hlay
  have hst := (u_facts hfc hkC (u_lays (cHts hO) hU hk) hi).1
  have hd : parseFieldDescriptor ((cCl ci).2.1 k).2.2.1 = some (cTyF ci k) := cTyF_ok ci hci k hk
  have h6 := u_store (v := .ref b) hfc hkC hkind hlay hi hd hn hfit
  refine W.putK hO.1 hO.2.1 (f := f) ⟨hO.2.2.2.1, cHts hO _ hl, ⟨_, _, _, hi⟩, hst⟩ (by rw [q2]; exact h6) q1 q3 (by rw [hsl]; exact k2_hasslot (q4 k hk)) rfl rfl d fun H' e1 e2 e3 => ?_
  rw [hsl] at e1
  refine kk p e R s m args below meth c H' _ cells slots ls hO (hS.heap hat.1 (hS.2.1.put ht (Nat.succ_ne_zero _) rfl rfl cV_sR ?_ e2 e3) e2)
  unfold cAt
  rw [if_pos (by omega)]
  refine ⟨rfl, t_OB.to (V := updV (fun j => cV σ a (ci + 1) j) k (.ref b)) ⟨_, e1, q2, q3, t_set q4 hap hk _⟩ (fun j hj => ?_)⟩
  unfold updV
  by_cases e : j = k
  · subst e
    rw [if_pos rfl, cV_ref hrf, aR_sR, if_pos ⟨rfl, rfl⟩]
    rfl
  · rw [if_neg e]
    unfold cV
    rw [aI_sR, aR_sR, if_neg (show ¬ (a = a ∧ j = k) from fun h => e h.2)]
theorem WP.putFB {index ci k n a : Nat} {x : Int32} (hU : ∀ w ∈ u_ws (cCl ci).1 (cCl ci).2.1 (cCl ci).2.2, w ∈ cALL) (lk : cFl (mY M).cls index ci k false) (hfin : ((cCl ci).2.1 k).2.2.2 = true) (hin : (mY M).name = "<init>") (hdecl : ((cCl ci).2.1 k).1 = (mY M).cls) (hn : narrow (cTyF ci k) (.int x) = .int x) (hfit : fits (cTyF ci k) (.int x) = true) (ht : aT σ a = (ci + 1, n)) (d : decode (mC M) pc = .ok (.putfield index, 3)) (kk : WP Γ r M Φ (pc + 3) L st (sI σ a k x)) : WP Γ r M Φ pc L (.int x :: .ref a :: st) σ := by
  intro p e R s m args below meth c H locs cells slots ls hO hS
  obtain ⟨hci, hk, hrf, hl⟩ := lk
  have hat := hS.2.1.at ht (Nat.succ_ne_zero _)
  obtain ⟨rfl, cell, q1, q2, q3, q4⟩ := hS.2.1.obj hci ht
  have hap := va_apart (own := (mY M).cls) (cHts hO) hU (cTyF ci) (cTyF_ok ci hci) (cNm_ok ci hci) hO.w.K (cCl_at ci hci)
  obtain ⟨hSl, hfc, kC, hkC, hkind⟩ := hO.w.1 ci _ (cCl_at ci hci)
  obtain ⟨cf, kf, fi, f, hi, hsl⟩ := hSl k hk
  have hlay := cHts hO _ (hU _ (u_in_lay hk))
  unfold u_lay at hlay
  rw [if_pos hfin] at hlay
  have hst := (u_facts hfc hkC (u_lays (cHts hO) hU hk) hi).1
  have hcf : m.cls = cf := by
    obtain ⟨_, _, c', _, _, _, -, -, hf', -, -, -, hown2, -⟩ := Cond.laysFinal_spec hlay
    have e1 : c' = cf := by have := hi.symm.trans hf'; simp at this; exact this.1.symm
    rw [hdecl] at hown2
    rw [← e1]; exact Option.some.inj (hO.2.2.2.1.symm.trans hown2)
  have h6 := u_fits hfc hkC hkind (Or.inr hlay) hi (cTyF_ok ci hci k hk) hn hfit
  have hin2 : meth.name = "<init>" := hO.2.2.2.2.2.2.2.1.trans hin
  refine W.putFinK hO.1 hO.2.1 hO.2.2.2.1 (cHts hO _ hl) hi hst hcf hin2 (by rw [q2]; exact h6) q1 q3 (by rw [hsl]; exact k2_hasslot (q4 k hk)) rfl rfl d fun H' e1 e2 e3 => ?_
  rw [hsl] at e1
  refine kk p e R s m args below meth c H' _ cells slots ls hO (hS.heap hat.1 (hS.2.1.put ht (Nat.succ_ne_zero _) rfl rfl cV_sI ?_ e2 e3) e2)
  unfold cAt
  rw [if_pos (by omega)]
  refine ⟨rfl, t_OB.to (V := updV (fun j => cV σ a (ci + 1) j) k (.int x)) ⟨_, e1, q2, q3, t_set q4 hap hk _⟩ (fun j hj => ?_)⟩
  unfold updV
  by_cases e : j = k
  · subst e
    rw [if_pos rfl, cV_int hrf, aI_sI, if_pos ⟨rfl, rfl⟩]
  · rw [if_neg e]
    unfold cV
    rw [aR_sI, aI_sI, if_neg (show ¬ (a = a ∧ j = k) from fun h => e h.2)]
-- arrays
theorem cW.arr {s : State} (h : cW Γ s) {kd : Nat} (h1 : 11 ≤ kd) (h2 : kd ≤ 15) : ArrOfT s (gA Γ kd) (cTyA kd) ∧ va_RA s (gA Γ kd) (cTyA kd) := h.2.1 kd h1 h2
theorem cArr_put {H' : Heap} {σ' : cAS} {a kd n : Nat} {v : Value} {j : Nat} (hk : 11 ≤ kd) (hk2 : kd ≤ 15) (e : H'[a]? = some ((arrV (gA Γ kd) n (fun k => cV σ a kd k)).setSlot j v)) (hV : ∀ i, cV σ' a kd i = updV (fun k => cV σ a kd k) j v i) : cAt Γ σ' a kd n H' := by
  unfold cAt
  rw [if_neg (by omega), e, arrV_store]
  congr 2
  funext i
  exact (hV i).symm
theorem cVa_sI {a kd j : Nat} {x : Int32} (h : cRf kd j = false) : ∀ i, cV (sI σ a j x) a kd i = updV (fun k => cV σ a kd k) j (.int x) i := by
  intro i
  unfold updV
  by_cases e : i = j
  · subst e
    rw [if_pos rfl, cV_int h, aI_sI, if_pos ⟨rfl, rfl⟩]
  · rw [if_neg e]
    unfold cV
    rw [aR_sI, aI_sI, if_neg (show ¬ (a = a ∧ i = j) from fun h => e h.2)]
theorem cIn {i : Int32} {n : Nat} {cA : ClassId} {f : Nat → Value} (h : vp_in i n) : ¬ (i < 0 ∨ (arrV cA n f).slots.size ≤ i.toNatClampNeg) := by rw [arrV_size]; exact h
theorem cIx {i : Int32} {n : Nat} (h : vp_in i n) : i.toNatClampNeg < n := Nat.not_le.mp fun q => h (Or.inr q)
theorem WP.iaload {a n : Nat} {i : Int32} (ht : aT σ a = (11, n)) (hi : vp_in i n) (d : decode (mC M) pc = .ok (.iaload, 1)) (kk : WP Γ r M Φ (pc + 1) L (.int (aI σ a i.toNatClampNeg) :: st) σ) : WP Γ r M Φ pc L (.int i :: .ref a :: st) σ := by
  intro p e R s m args below meth c H locs cells slots ls hO hS
  exact W.iald (v := .int (aI σ a i.toNatClampNeg)) hO.1 hO.2.1 (hS.2.1.arr (Nat.le_refl _) (by omega) ht) ((hO.w.arr (kd := 11) (by omega) (by omega)).1 _ _) (fun q => by cases q) (cIn hi) (by rw [arrV_read _ _ (cIx hi)]; rfl) rfl rfl d (kk p e R s m args below meth c H locs cells slots ls hO hS)
theorem WP.baload {a n : Nat} {i : Int32} (ht : aT σ a = (12, n)) (hi : vp_in i n) (d : decode (mC M) pc = .ok (.baload, 1)) (kk : WP Γ r M Φ (pc + 1) L (.int (aI σ a i.toNatClampNeg) :: st) σ) : WP Γ r M Φ pc L (.int i :: .ref a :: st) σ := by
  intro p e R s m args below meth c H locs cells slots ls hO hS
  exact W.bald (v := .int (aI σ a i.toNatClampNeg)) hO.1 hO.2.1 (hS.2.1.arr (by omega) (by omega) ht) ((hO.w.arr (kd := 12) (by omega) (by omega)).1 _ _) (fun q => by cases q) (cIn hi) (by rw [arrV_read _ _ (cIx hi)]; rfl) rfl rfl d (kk p e R s m args below meth c H locs cells slots ls hO hS)
theorem WP.zaload {a n : Nat} {i : Int32} (ht : aT σ a = (13, n)) (hi : vp_in i n) (d : decode (mC M) pc = .ok (.baload, 1)) (kk : WP Γ r M Φ (pc + 1) L (.int (aI σ a i.toNatClampNeg) :: st) σ) : WP Γ r M Φ pc L (.int i :: .ref a :: st) σ := by
  intro p e R s m args below meth c H locs cells slots ls hO hS
  exact W.zald (v := .int (aI σ a i.toNatClampNeg)) hO.1 hO.2.1 (hS.2.1.arr (by omega) (by omega) ht) ((hO.w.arr (kd := 13) (by omega) (by omega)).1 _ _) (fun q => by cases q) (cIn hi) (by rw [arrV_read _ _ (cIx hi)]; rfl) rfl rfl d (kk p e R s m args below meth c H locs cells slots ls hO hS)
theorem WP.aaload {a n : Nat} {i : Int32} (ht : aT σ a = (15, n)) (hi : vp_in i n) (d : decode (mC M) pc = .ok (.aaload, 1)) (kk : WP Γ r M Φ (pc + 1) L (va_rf (aR σ a i.toNatClampNeg) :: st) σ) : WP Γ r M Φ pc L (.int i :: .ref a :: st) σ := by
  intro p e R s m args below meth c H locs cells slots ls hO hS
  exact W.aald (v := va_rf (aR σ a i.toNatClampNeg)) (ty := .object RX5) hO.1 hO.2.1 (hS.2.1.arr (by omega) (by omega) ht) ((hO.w.arr (kd := 15) (by omega) (by omega)).1 _ _) rfl (fun q => by cases q) (cIn hi) (by rw [arrV_read _ _ (cIx hi)]; rfl) rfl rfl d (kk p e R s m args below meth c H locs cells slots ls hO hS)
theorem WP.aaloadQ {a n : Nat} {i : Int32} (ht : aT σ a = (14, n)) (hi : vp_in i n) (d : decode (mC M) pc = .ok (.aaload, 1)) (kk : WP Γ r M Φ (pc + 1) L (va_rf (aR σ a i.toNatClampNeg) :: st) σ) : WP Γ r M Φ pc L (.int i :: .ref a :: st) σ := by
  intro p e R s m args below meth c H locs cells slots ls hO hS
  exact W.aald (v := va_rf (aR σ a i.toNatClampNeg)) (ty := .array .int) hO.1 hO.2.1 (hS.2.1.arr (by omega) (by omega) ht) ((hO.w.arr (kd := 14) (by omega) (by omega)).1 _ _) rfl (fun q => by cases q) (cIn hi) (by rw [arrV_read _ _ (cIx hi)]; rfl) rfl rfl d (kk p e R s m args below meth c H locs cells slots ls hO hS)
theorem WP.iastore {a n : Nat} {i x : Int32} (ht : aT σ a = (11, n)) (hi : vp_in i n) (d : decode (mC M) pc = .ok (.iastore, 1)) (kk : WP Γ r M Φ (pc + 1) L st (sI σ a i.toNatClampNeg x)) : WP Γ r M Φ pc L (.int x :: .int i :: .ref a :: st) σ := by
  intro p e R s m args below meth c H locs cells slots ls hO hS
  have hat := hS.2.1.at ht (by omega)
  refine W.iast hO.1 hO.2.1 (hS.2.1.arr (Nat.le_refl _) (by omega) ht) ((hO.w.arr (kd := 11) (by omega) (by omega)).1 _ _) (fun q => by cases q) (cIn hi) rfl rfl d fun H' e1 e2 e3 => ?_
  exact kk p e R s m args below meth c H' _ cells slots ls hO (hS.heap hat.1 (hS.2.1.put ht (by omega) rfl rfl cV_sI (cArr_put (by omega) (by omega) e1 (cVa_sI rfl)) e2 e3) e2)
theorem WP.bastore {a n : Nat} {i x : Int32} (ht : aT σ a = (12, n)) (hi : vp_in i n) (d : decode (mC M) pc = .ok (.bastore, 1)) (kk : WP Γ r M Φ (pc + 1) L st (sI σ a i.toNatClampNeg x.toInt8.toInt32)) : WP Γ r M Φ pc L (.int x :: .int i :: .ref a :: st) σ := by
  intro p e R s m args below meth c H locs cells slots ls hO hS
  have hat := hS.2.1.at ht (by omega)
  refine W.bast hO.1 hO.2.1 (hS.2.1.arr (by omega) (by omega) ht) ((hO.w.arr (kd := 12) (by omega) (by omega)).1 _ _) (fun q => by cases q) (cIn hi) rfl rfl d fun H' e1 e2 e3 => ?_
  exact kk p e R s m args below meth c H' _ cells slots ls hO (hS.heap hat.1 (hS.2.1.put ht (by omega) rfl rfl cV_sI (cArr_put (by omega) (by omega) e1 (cVa_sI rfl)) e2 e3) e2)
theorem WP.zastore {a n : Nat} {i x : Int32} (ht : aT σ a = (13, n)) (hi : vp_in i n) (hx : narrow .boolean (.int x) = .int x) (d : decode (mC M) pc = .ok (.bastore, 1)) (kk : WP Γ r M Φ (pc + 1) L st (sI σ a i.toNatClampNeg x)) : WP Γ r M Φ pc L (.int x :: .int i :: .ref a :: st) σ := by
  intro p e R s m args below meth c H locs cells slots ls hO hS
  have hat := hS.2.1.at ht (by omega)
  refine W.zast hO.1 hO.2.1 (hS.2.1.arr (by omega) (by omega) ht) ((hO.w.arr (kd := 13) (by omega) (by omega)).1 _ _) (fun q => by cases q) (cIn hi) rfl rfl d fun H' e1 e2 e3 => ?_
  rw [hx] at e1
  exact kk p e R s m args below meth c H' _ cells slots ls hO (hS.heap hat.1 (hS.2.1.put ht (by omega) rfl rfl cV_sI (cArr_put (by omega) (by omega) e1 (cVa_sI rfl)) e2 e3) e2)
theorem WP.aastore {a n v nv : Nat} {i : Int32} (ht : aT σ a = (15, n)) (hv : aT σ v = (6, nv)) (hi : vp_in i n) (d : decode (mC M) pc = .ok (.aastore, 1)) (kk : WP Γ r M Φ (pc + 1) L st (sR σ a i.toNatClampNeg (some v))) : WP Γ r M Φ pc L (.ref v :: .int i :: .ref a :: st) σ := by
  intro p e R s m args below meth c H locs cells slots ls hO hS
  have hat := hS.2.1.at ht (by omega)
  obtain ⟨-, cellV, g1, g2, g3, -⟩ := hS.2.1.obj (ci := 5) (by omega) hv
  have hcls : ClassAt s RX5 ((gD Γ).1 5) := (hO.w.1 5 _ rfl).2
  obtain ⟨kA, comp, k1, k2, k3, -⟩ := (hO.w.arr (kd := 15) (by omega) (by omega)).2
  have hcomp : comp = (gD Γ).1 5 := Option.some.inj (k3.symm.trans hcls.1)
  subst hcomp
  obtain ⟨kC, hkC, -⟩ := id hcls.2
  refine W.aast hO.1 hO.2.1 (hS.2.1.arr (by omega) (by omega) ht) (fun q h => by cases h) (fun h => by cases h) k1 k2 rfl hkC ⟨fun q => hi (Or.inl q), by rw [arrV_size]; exact cIx hi⟩ g1 (fun q h => by rw [g3] at h; cases h) (by rw [g2]; exact hkC) (by rw [g2]; exact va_assign hcls) rfl rfl d fun H' e1 e2 e3 => ?_
  refine kk p e R s m args below meth c H' _ cells slots ls hO (hS.heap hat.1 (hS.2.1.put ht (by omega) rfl rfl cV_sR (cArr_put (by omega) (by omega) e1 fun j => ?_) e2 e3) e2)
  unfold updV
  show cV (sR σ a i.toNatClampNeg (some v)) a 15 j = if j = i.toNatClampNeg then Value.ref v else cV σ a 15 j
  rw [cV_ref rfl, cV_ref rfl, aR_sR]
  by_cases e : j = i.toNatClampNeg
  · rw [if_pos ⟨rfl, e⟩, if_pos e]
    rfl
  · rw [if_neg (show ¬ (a = a ∧ j = i.toNatClampNeg) from fun h => e h.2), if_neg e]
theorem cAsg (vm : Vm) (c : ClassId) : vm.assignable c c = true := by
  show vm.assignableAux (255 + 1) c c = true
  rw [Vm.assignableAux]
  simp only [beq_self_eq_true, Bool.true_or]
theorem WP.aastoreQ {a n v nv : Nat} {i : Int32} (ht : aT σ a = (14, n)) (hv : aT σ v = (11, nv)) (hi : vp_in i n) (d : decode (mC M) pc = .ok (.aastore, 1)) (kk : WP Γ r M Φ (pc + 1) L st (sR σ a i.toNatClampNeg (some v))) : WP Γ r M Φ pc L (.ref v :: .int i :: .ref a :: st) σ := by
  intro p e R s m args below meth c H locs cells slots ls hO hS
  have hat := hS.2.1.at ht (by omega)
  have g1 := hS.2.1.arr (Nat.le_refl _) (by omega) hv
  obtain ⟨comp, cA, kA, k1, -, k2, k3, k4⟩ := arrayOverA_spec hO.w.2.2.2.1.2
  obtain ⟨kC, hkC, -⟩ := Vm.findClass_spec k1
  have f1 : s.vm.findClass ("[" ++ (FieldType.array FieldType.int).toString) = some (gA Γ 14) := (hO.w.arr (kd := 14) (by omega) (by omega)).2
  have f2 : s.vm.findClass ("[" ++ FieldType.int.toString) = some (gA Γ 11) := (hO.w.arr (kd := 11) (by omega) (by omega)).2
  have e1 : cA = gA Γ 14 := Option.some.inj (k4.symm.trans f1)
  have e2 : comp = gA Γ 11 := Option.some.inj (k1.symm.trans f2)
  subst e1
  subst e2
  refine W.aast hO.1 hO.2.1 (hS.2.1.arr (by omega) (by omega) ht) (fun q h => by cases h) (fun h => by cases h) k2 k3 rfl hkC ⟨fun q => hi (Or.inl q), by rw [arrV_size]; exact cIx hi⟩ g1 (fun q h => by cases h) hkC (cAsg _ _) rfl rfl d fun H' e1 e2 e3 => ?_
  refine kk p e R s m args below meth c H' _ cells slots ls hO (hS.heap hat.1 (hS.2.1.put ht (by omega) rfl rfl cV_sR (cArr_put (by omega) (by omega) e1 fun j => ?_) e2 e3) e2)
  unfold updV
  show cV (sR σ a i.toNatClampNeg (some v)) a 14 j = if j = i.toNatClampNeg then Value.ref v else cV σ a 14 j
  rw [cV_ref rfl, cV_ref rfl, aR_sR]
  by_cases e : j = i.toNatClampNeg
  · rw [if_pos ⟨rfl, e⟩, if_pos e]
    rfl
  · rw [if_neg (show ¬ (a = a ∧ j = i.toNatClampNeg) from fun h => e h.2), if_neg e]
theorem WP.alen {a kd n : Nat} (hk : 11 ≤ kd) (hk2 : kd ≤ 15) (ht : aT σ a = (kd, n)) (d : decode (mC M) pc = .ok (.arraylength, 1)) (kk : WP Γ r M Φ (pc + 1) L (.int (nI n) :: st) σ) : WP Γ r M Φ pc L (.ref a :: st) σ := by
  intro p e R s m args below meth c H locs cells slots ls hO hS
  exact W.alen (n := nI n) hO.1 hO.2.1 (hS.2.1.arr hk hk2 ht) ((hO.w.arr hk hk2).1 _ _) (by rw [arrV_size]; rfl) rfl rfl d (kk p e R s m args below meth c H locs cells slots ls hO hS)
-- what is made
theorem cRep.push {H H' : Heap} {kd n : Nat} (h : cRep Γ σ H) (hkd : kd ≤ 17) (hz : H'.size = H.size + 1) (ho : ∀ q : Nat, q < H.size → H'[q]? = H[q]?) (hc : cAt Γ (sA σ kd n) H.size kd n H') : cRep Γ (sA σ kd n) H' := by
  obtain ⟨h1, h2, h3, h4⟩ := id h
  refine ⟨by omega, fun q hq => by rw [ho q (by omega)]; exact h2 q hq, by rw [aN_sA]; omega, fun b kb nb hb hk => ?_⟩
  rw [aT_sA] at hb
  by_cases e : b = aN σ
  · rw [if_pos e] at hb
    cases hb
    rw [h3] at e
    subst e
    exact ⟨hkd, h1, by omega, hc⟩
  · rw [if_neg e] at hb
    obtain ⟨g1, g2, g3, g4⟩ := h4 b kb nb hb hk
    refine ⟨g1, g2, by omega, ?_⟩
    have hV : ∀ k, cV (sA σ kd n) b kb k = cV σ b kb k := by
      intro k
      unfold cV
      rw [aI_sA, aR_sA, if_neg e, if_neg e]
    unfold cAt at g4 ⊢
    simp only [hV]
    split
    · rename_i hle
      rw [if_pos hle] at g4
      exact ⟨g4.1, g4.2.kept (ho b g3)⟩
    · rename_i hle
      rw [if_neg hle] at g4
      rw [ho b g3]
      exact g4
theorem cSt.push {R : Room} {s : State} {H H' : Heap} {locs : List Loc} {cells slots nL f lo mc ms kd n : Nat} {ls : Array Slot} (hS : cSt Γ (f, lo, mc + 1, ms + n) nL L σ R s H locs cells slots ls) (hkd : kd ≤ 17) (hz : H'.size = H.size + 1) (ho : ∀ q : Nat, q < H.size → H'[q]? = H[q]?) (hc : cAt Γ (sA σ kd n) H.size kd n H') : cSt Γ (f, lo, mc, ms) nL L (sA σ kd n) R s H' locs (cells + 1) (slots + n) ls := by
  obtain ⟨⟨a1, a2, a3, a4⟩, b, c, d⟩ := hS
  exact ⟨⟨a1, a2, by dsimp only at a3 ⊢; omega, by dsimp only at a4 ⊢; omega⟩, b.push hkd hz ho hc, by omega, d⟩
theorem WP.new {f lo mc ms index ci : Nat} (hU : ∀ w ∈ u_ws (cCl ci).1 (cCl ci).2.1 (cCl ci).2.2, w ∈ cALL) (hci : ci < 10 ∨ ci = 15 ∨ ci = 16) (h1 : Cond.classLink (mY M).cls index (cCl ci).1 ∈ cALL) (h2 : Cond.instantiable (cCl ci).1 (cCl ci).2.2 ∈ cALL) (h3 : Cond.initialized (cCl ci).1 ∈ cALL) (hdef : ∀ k, k < (cCl ci).2.2 → defaultValue (cTyF ci k) = if cRf (ci + 1) k then .null else .int 0) (d : decode (mC M) pc = .ok (.new index, 3)) (kk : WP Γ (f, lo, mc, ms) M Φ (pc + 3) L (.ref (aN σ) :: st) (sA σ (ci + 1) (cCl ci).2.2)) : WP Γ (f, lo, mc + 1, ms + (cCl ci).2.2) M Φ pc L st σ := by
  intro p e R s m args below meth c H locs cells slots ls hO hS
  have hKn := hO.w.1 ci _ (cCl_at ci hci)
  have hsz := hS.2.1.2.2.1
  have hr := hS.1
  dsimp only at hr
  refine W.newcK hO.1 hO.2.1 hO.2.2.2.1 (cHts hO _ h1) (cHts hO _ h2) (cHts hO _ h3) rfl d (by omega) (by omega) hKn.2.1 rfl fun H1 kC hkC e1 z1 o1 => ?_
  rw [← hsz]
  refine kk p e R s m args below meth c H1 locs (cells + 1) (slots + (cCl ci).2.2) ls hO (hS.push (by omega) z1 o1 ?_)
  unfold cAt
  rw [if_pos (by omega)]
  refine ⟨rfl, (u_born (cTyF ci) (cHts hO) hU hKn hkC e1 (cTyF_ok ci hci)).to (fun k hk => ?_)⟩
  rw [hdef k hk]
  unfold cV
  rw [aI_sA, aR_sA, if_pos hsz.symm, if_pos hsz.symm]
  rfl
theorem WP.newarr {f lo mc ms kd n : Nat} {x : Int32} {at' : ArrayType} (hk : 11 ≤ kd) (hk2 : kd ≤ 13) (hty : newarray.typeOf at' = cTyA kd) (hw : Cond.arrayClass (cTyA kd) ∈ cALL) (hx : ¬ x < 0) (hn : x.toNatClampNeg = n) (hb : n ≤ 60000000) (d : decode (mC M) pc = .ok (.newarray at', 2)) (kk : WP Γ (f, lo, mc, ms) M Φ (pc + 2) L (.ref (aN σ) :: st) (sA σ kd n)) : WP Γ (f, lo, mc + 1, ms + n) M Φ pc L (.int x :: st) σ := by
  intro p e R s m args below meth c H locs cells slots ls hO hS
  have hsz := hS.2.1.2.2.1
  have hr := hS.1
  dsimp only at hr
  have hfc : s.vm.findClass ("[" ++ (cTyA kd).toString) = some (gA Γ kd) := by
    have h := (hO.w.arr hk (by omega)).2
    rcases (show kd = 11 ∨ kd = 12 ∨ kd = 13 by omega) with rfl | rfl | rfl <;> exact h
  have hcb : componentBytes (cTyA kd) ≤ 8 := by
    rcases (show kd = 11 ∨ kd = 12 ∨ kd = 13 by omega) with rfl | rfl | rfl <;> decide
  refine va_newaK hO.1 hO.2.1 (by rw [hty]; exact cHts hO _ hw) rfl d rfl hx hn (by rw [hty]; exact Nat.le_trans (Nat.mul_le_mul hb hcb) (by omega)) (by omega) (by omega) rfl fun H1 cA e1 z1 o1 _ hA => ?_
  rw [hty] at e1 hA
  have hcA : cA = gA Γ kd := Option.some.inj (hA.symm.trans hfc)
  rw [← hsz]
  refine kk p e R s m args below meth c H1 locs (cells + 1) (slots + n) ls hO (hS.push (by omega) z1 o1 ?_)
  unfold cAt
  rw [if_neg (by omega), e1, hcA]
  congr 2
  funext k
  unfold cV
  rw [aI_sA, aR_sA, if_pos hsz.symm, if_pos hsz.symm]
  rcases (show kd = 11 ∨ kd = 12 ∨ kd = 13 by omega) with rfl | rfl | rfl <;> rfl
theorem WP.anewarr {f lo mc ms n index : Nat} {x : Int32} (hw : Cond.classLink (mY M).cls index RX5 ∈ cALL) (hx : ¬ x < 0) (hn : x.toNatClampNeg = n) (hb : n ≤ 60000000) (d : decode (mC M) pc = .ok (.anewarray index, 3)) (kk : WP Γ (f, lo, mc, ms) M Φ (pc + 3) L (.ref (aN σ) :: st) (sA σ 15 n)) : WP Γ (f, lo, mc + 1, ms + n) M Φ pc L (.int x :: st) σ := by
  intro p e R s m args below meth c H locs cells slots ls hO hS
  have hsz := hS.2.1.2.2.1
  have hr := hS.1
  dsimp only at hr
  subst hn
  refine W.anew hO.1 hO.2.1 hO.2.2.2.1 (cHts hO _ hw) (va_AO.use hO.w.2.2.2.1.1) rfl d rfl hx (by omega) (by omega) (by omega) fun cA kA comp f1 f2 f3 f4 => ?_
  obtain ⟨kA', comp', g1, g2, g3, g4⟩ := (hO.w.arr (kd := 15) (by omega) (by omega)).2
  have hcA : cA = gA Γ 15 := Option.some.inj (f1.symm.trans g4)
  rw [← hsz]
  refine kk p e R s m args below meth c _ locs (cells + 1) (slots + x.toNatClampNeg) ls hO (hS.push (by omega) (Array.size_push _) (fun q hq => by rw [Array.getElem?_push, if_neg (Nat.ne_of_lt hq)]) ?_)
  unfold cAt
  rw [if_neg (by omega), Array.getElem?_push_size, arrV_new, hcA]
  congr 2
  funext k
  rw [cV_ref rfl, aR_sA, if_pos hsz.symm]
  rfl
theorem over_use {A : Array Value} {U : State} {t : FieldType} (h : (Cond.arrayOver (.array t)).before #[] U = true) : (Cond.arrayOver (.array t)).before A U = true := h
theorem WP.anewarrQ {f lo mc ms n index : Nat} {x : Int32} (hw : Cond.classLink (mY M).cls index (FieldType.array FieldType.int).toString ∈ cALL) (hx : ¬ x < 0) (hn : x.toNatClampNeg = n) (hb : n ≤ 60000000) (d : decode (mC M) pc = .ok (.anewarray index, 3)) (kk : WP Γ (f, lo, mc, ms) M Φ (pc + 3) L (.ref (aN σ) :: st) (sA σ 14 n)) : WP Γ (f, lo, mc + 1, ms + n) M Φ pc L (.int x :: st) σ := by
  intro p e R s m args below meth c H locs cells slots ls hO hS
  have hsz := hS.2.1.2.2.1
  have hr := hS.1
  dsimp only at hr
  subst hn
  refine W.anewA hO.1 hO.2.1 hO.2.2.2.1 (cHts hO _ hw) (over_use hO.w.2.2.2.1.2) rfl d rfl hx (by omega) (by omega) (by omega) fun cA kA comp f1 f2 f3 f4 => ?_
  have g4 : s.vm.findClass ("[" ++ (FieldType.array FieldType.int).toString) = some (gA Γ 14) := (hO.w.arr (kd := 14) (by omega) (by omega)).2
  have hcA : cA = gA Γ 14 := Option.some.inj (f1.symm.trans g4)
  rw [← hsz]
  refine kk p e R s m args below meth c _ locs (cells + 1) (slots + x.toNatClampNeg) ls hO (hS.push (by omega) (Array.size_push _) (fun q hq => by rw [Array.getElem?_push, if_neg (Nat.ne_of_lt hq)]) ?_)
  unfold cAt
  rw [if_neg (by omega), Array.getElem?_push_size, arrV_new, hcA]
  congr 2
  funext k
  rw [cV_ref rfl, aR_sA, if_pos hsz.symm]
  rfl
end CHP
