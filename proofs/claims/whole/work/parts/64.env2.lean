/-! WHAT HOLDS AT THE LAW'S ENTRY: the constant texts -/
abbrev lwF : List Cond := flatC (Jvm.Cond.and given_1 narrow_1)
theorem le_ex : ∀ i : Nat, i < xsN → (Cond.exactly (.string (xsO.getD i "") (xsI.getD i 0)) "java/lang/String") ∈ lwF := by decide +kernel
theorem le_co : ∀ i : Nat, i < xsN → (Cond.eq (.field (.string (xsO.getD i "") (xsI.getD i 0)) "java/lang/String" "coder" "B") (.int 0)) ∈ lwF := by decide +kernel
theorem le_ar : ∀ i : Nat, i < xsN → (Cond.arrayOf (.field (.string (xsO.getD i "") (xsI.getD i 0)) "java/lang/String" "value" "[B") .byte) ∈ lwF := by decide +kernel
theorem le_le : ∀ i : Nat, i < xsN → (Cond.eq (.length (.field (.string (xsO.getD i "") (xsI.getD i 0)) "java/lang/String" "value" "[B")) (.int (Int32.ofNat (xsL.getD i 0)))) ∈ lwF := by decide +kernel
theorem le_N : ∀ i : Nat, i < xsN → xsL.getD i 0 < 2 ^ 31 := by decide +kernel
theorem le_sr : ∀ i : Nat, i < xsN → (Cond.stringRef (xsO.getD i "") (xsI.getD i 0) (xsT.getD i "")) ∈ lw_tbl := by decide +kernel
def leA (i j : Nat) : Cond := Cond.not (Cond.eq (.string (xsO.getD i "") (xsI.getD i 0)) (.string (xsO.getD j "") (xsI.getD j 0)))
