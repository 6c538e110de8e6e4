-- behind: 75
-- the world at the law's entry
def fl0 : List Cond := flatC (Jvm.Cond.and given_1 narrow_1)
def sPos (j : Nat) : Nat := [63, 261, 271, 280, 288, 295, 304, 312, 324, 335, 347, 356, 394, 422, 447, 474, 507, 539, 573, 607, 649, 684, 705, 730, 929, 940, 950, 959, 967, 977, 986, 999, 1011, 1024].getD j 0
def sTm (j : Nat) : Term := .string (cSTR.getD j ("", 0, "", 0)).1 (cSTR.getD j ("", 0, "", 0)).2.1
set_option maxRecDepth 100000 in
theorem st_ex : ∀ j, j < 34 → fl0[sPos j]? = some (Cond.exactly (sTm j) "java/lang/String") := by decide +kernel
set_option maxRecDepth 100000 in
theorem st_co : ∀ j, j < 34 → fl0[sPos j + 1]? = some (Cond.eq (.field (sTm j) "java/lang/String" "coder" "B") (.int 0)) := by decide +kernel
set_option maxRecDepth 100000 in
theorem st_ar : ∀ j, j < 34 → fl0[sPos j + 2]? = some (Cond.arrayOf (.field (sTm j) "java/lang/String" "value" "[B") .byte) := by decide +kernel
set_option maxRecDepth 100000 in
theorem st_le : ∀ j, j < 34 → fl0[sPos j + 3]? = some (Cond.eq (.length (.field (sTm j) "java/lang/String" "value" "[B")) (.int (Int32.ofNat (cTL j)))) := by decide +kernel
set_option maxRecDepth 100000 in
theorem st_el : ∀ j, j < 34 → ∀ i, i < cTL j → fl0[sPos j + 4 + i]? = some (Cond.eq (.elem (.field (sTm j) "java/lang/String" "value" "[B") (.int (Int32.ofNat i))) (.int (cTB j i))) := by decide +kernel
theorem st_nc : ∀ q ∈ cNC, Cond.not (.castable q.1 q.2) ∈ fl0 := by decide +kernel
theorem st_rf : ∀ q ∈ cSTR, Cond.stringRef q.1 q.2.1 q.2.2.1 ∈ tables_1 := by decide +kernel
