-- the world at the law's entry
def fl0 : List Cond := flatC (Jvm.Cond.and given_1 narrow_1)
def sPos (j : Nat) : Nat := [245, 443, 453, 462, 470, 477, 486, 494, 506, 517, 529, 538, 565, 603, 631, 656, 667, 678, 685, 695, 703, 713, 722, 736, 742, 755, 762, 796, 801, 835].getD j 0
def sTm (j : Nat) : Term := .string (cSTR.getD j ("", 0, "", 0)).1 (cSTR.getD j ("", 0, "", 0)).2.1
set_option maxRecDepth 100000 in
theorem st_ex : ∀ j, j < 30 → fl0[sPos j]? = some (Cond.exactly (sTm j) "java/lang/String") := by decide +kernel
set_option maxRecDepth 100000 in
theorem st_co : ∀ j, j < 30 → fl0[sPos j + 1]? = some (Cond.eq (.field (sTm j) "java/lang/String" "coder" "B") (.int 0)) := by decide +kernel
set_option maxRecDepth 100000 in
theorem st_ar : ∀ j, j < 30 → fl0[sPos j + 2]? = some (Cond.arrayOf (.field (sTm j) "java/lang/String" "value" "[B") .byte) := by decide +kernel
set_option maxRecDepth 100000 in
theorem st_le : ∀ j, j < 30 → fl0[sPos j + 3]? = some (Cond.eq (.length (.field (sTm j) "java/lang/String" "value" "[B")) (.int (Int32.ofNat (cTL j)))) := by decide +kernel
set_option maxRecDepth 100000 in
theorem st_el : ∀ j, j < 30 → ∀ i, i < cTL j → fl0[sPos j + 4 + i]? = some (Cond.eq (.elem (.field (sTm j) "java/lang/String" "value" "[B") (.int (Int32.ofNat i))) (.int (cTB j i))) := by decide +kernel
theorem st_nc : ∀ q ∈ cNC, Cond.not (.castable q.1 q.2) ∈ fl0 := by decide +kernel
theorem st_rf : ∀ q ∈ cSTR, Cond.stringRef q.1 q.2.1 q.2.2.1 ∈ tables_1 := by decide +kernel

def dO : Term := .static "java/lang/Integer" "DigitOnes" "[B"
def dT : Term := .static "java/lang/Integer" "DigitTens" "[B"
set_option maxRecDepth 100000 in
theorem dO_el : ∀ i, i < 100 → fl0[14 + i]? = some (Cond.eq (.elem dO (.int (Int32.ofNat i))) (.int (nI (48 + i % 10)))) := by decide +kernel
set_option maxRecDepth 100000 in
theorem dT_el : ∀ i, i < 100 → fl0[117 + i]? = some (Cond.eq (.elem dT (.int (Int32.ofNat i))) (.int (nI (48 + i / 10)))) := by decide +kernel
theorem dO_ar : fl0[12]? = some (Cond.arrayOf dO .byte) := by decide +kernel
theorem dT_ar : fl0[115]? = some (Cond.arrayOf dT .byte) := by decide +kernel
theorem dO_le : fl0[13]? = some (Cond.eq (.length dO) (.int (Int32.ofNat 100))) := by decide +kernel
theorem dT_le : fl0[116]? = some (Cond.eq (.length dT) (.int (Int32.ofNat 100))) := by decide +kernel
