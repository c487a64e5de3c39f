/-! WHAT HOLDS AT THE LAW'S ENTRY, put together -/
theorem lw_elF {args : Array Value} {s : State} (fl : ∀ w ∈ lwF, w.before args s = true) : ∀ i : Nat, i < xsN → ∀ j : Nat, j < xsL.getD i 0 → (Cond.eq (.elem (.field (.string (xsO.getD i "") (xsI.getD i 0)) "java/lang/String" "value" "[B") (.int (Int32.ofNat j))) (.int ((xsB.getD i []).getD j 0))).before args s = true := by
  rw [leL_eq, leB_eq]
  intro i hi j hj
  exact fl _ (List.mem_of_getElem? (le_elI i hi j hj))
theorem lw_Ev {args : Array Value} {s : State} (hts : ∀ w ∈ lw_tbl, w.before args s = true) (hgv : (Jvm.Cond.and given_1 narrow_1).before args s = true) : ∃ ad av : Nat → Nat, xEv s.heap.size ad av s s.heap := by
  have fl : ∀ w ∈ lwF, w.before args s = true := flat_of_before _ hgv
  have hA : ∀ a : Nat, a < s.heap.size → ¬ (fun q : Nat => s.heap.size ≤ q) a := fun a h => Nat.not_le.mpr h
  obtain ⟨ad, av, h1, h2⟩ := vk_Sof (N := xsN) (tm := fun i => .string (xsO.getD i "") (xsI.getD i 0)) (len := xsL) (byt := xsB) (A := fun q => s.heap.size ≤ q) le_N (fun i hi => fl _ (le_ex i hi)) (fun i hi => fl _ (le_co i hi)) (fun i hi => fl _ (le_ar i hi)) (fun i hi => fl _ (le_le i hi)) (lw_elF fl) (fun i j hi hj hij => (le_nnA i j hi hj hij).imp (fl _) (fl _)) hA
  obtain ⟨t6, e6, T6⟩ := va_Tof (tm := .static "java/lang/Integer" "DigitTens" "[B") (ty := .byte) (N := 100) (f := xdT) (by decide) (fl _ (by decide +kernel)) (va_eqt (fl _ (by decide +kernel))) (fun j hj => va_eqt (fl _ (leT_m j hj))) hA
  obtain ⟨t7, e7, T7⟩ := va_Tof (tm := .static "java/lang/Integer" "DigitOnes" "[B") (ty := .byte) (N := 100) (f := xdO) (by decide) (fl _ (by decide +kernel)) (va_eqt (fl _ (by decide +kernel))) (fun j hj => va_eqt (fl _ (leO_m j hj))) hA
  refine ⟨ad, av, ?_, ?_, fun i hi => vk_R.of (hts _ (le_sr i hi)) (h2 i hi), h1, ⟨?_, ?_⟩, ⟨t6, ?_, T6⟩, ⟨t7, ?_, T7⟩, fun w hw => va_Nw.of (le_bt w hw) (hts _ (le_bd w hw)), fun i j hi hj hij => va_Nc.of (fl _ (le_nc i hi j hj hij))⟩
  · exact vx_Zqof (hts _ (by decide +kernel)) (hts _ (by decide +kernel)) (fl _ (by decide +kernel)) hA
  · exact vx_Zqof (hts _ (by decide +kernel)) (hts _ (by decide +kernel)) (fl _ (by decide +kernel)) hA
  · exact va_Zof (hts _ (by decide +kernel)) (hts _ (by decide +kernel)) (va_eqt (fl _ (by decide +kernel))) hA
  · exact va_Zqof (hts _ (by decide +kernel)) (hts _ (by decide +kernel)) (fl _ (by decide +kernel)) hA
  · exact va_Zref (hts _ (by decide +kernel)) (hts _ (by decide +kernel)) e6 hA
  · exact va_Zref (hts _ (by decide +kernel)) (hts _ (by decide +kernel)) e7 hA
