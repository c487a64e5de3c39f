/-! WHAT HOLDS AT THE LAW'S ENTRY: the classes, the arrays' classes -/
theorem lw_kn {args : Array Value} {s : State} (hts : ∀ w ∈ lw_tbl, w.before args s = true) : ∀ k : Nat, ∃ p : ClassId × (Nat → Nat), ∀ q : vw_C, vwCl[k]? = some q → u_Kn s q.1 q.2.1 q.2.2 p.1 p.2 := by
  intro k
  have g : ∀ (C : String) (T : u_T) (N : Nat), (∀ w ∈ u_ws C T N, w ∈ lw_tbl) → (.instantiable C N : Cond) ∈ lw_tbl → vwCl[k]? = some (C, T, N) → ∃ p : ClassId × (Nat → Nat), ∀ q : vw_C, vwCl[k]? = some q → u_Kn s q.1 q.2.1 q.2.2 p.1 p.2 := by
    intro C T N hin hi hk
    obtain ⟨c, i, h⟩ := u_known hts hin (hts _ hi)
    refine ⟨(c, i), fun q hq => ?_⟩
    rw [hk] at hq
    cases hq
    exact h
  match k, g with
  | 0, g => exact g RJ0 TJ0 4 (by decide +kernel) (by decide +kernel) rfl
  | 1, g => exact g RJ4 TJ4 4 (by decide +kernel) (by decide +kernel) rfl
  | 2, g => exact g RJx00060 TJx00060 6 (by decide +kernel) (by decide +kernel) rfl
  | 3, g => exact g RJx7c733 TJx7c733 6 (by decide +kernel) (by decide +kernel) rfl
  | 4, g => exact g RX0 TX0 8 (by decide +kernel) (by decide +kernel) rfl
  | 5, g => exact g RX1 TX1 1 (by decide +kernel) (by decide +kernel) rfl
  | 6, g => exact g RX2 TX2 3 (by decide +kernel) (by decide +kernel) rfl
  | 7, g => exact g RX3 TX3 5 (by decide +kernel) (by decide +kernel) rfl
  | 8, g => exact g RX4 TX4 5 (by decide +kernel) (by decide +kernel) rfl
  | 9, g => exact g RX5 TX5 12 (by decide +kernel) (by decide +kernel) rfl
  | 10, g => exact g RX6 TX6 4 (by decide +kernel) (by decide +kernel) rfl
  | 11, g => exact g RX7 TX7 11 (by decide +kernel) (by decide +kernel) rfl
  | 12, g => exact g RX8 TX8 20 (by decide +kernel) (by decide +kernel) rfl
  | k + 13, g => exact ⟨(0, fun _ => 0), fun q hq => absurd (List.getElem?_eq_some_iff.mp hq).1 (by show ¬ k + 13 < 13; omega)⟩
theorem xarr1 {args : Array Value} {s : State} {t : FieldType} (h : (Cond.arrayClass t).before args s = true) (ht : ∀ C, t ≠ .object C) : ∃ cA : ClassId, ArrOfT s cA t ∧ va_RA s cA t := by
  obtain ⟨cA, kA, comp, h1, h2, h3⟩ := Cond.arrayClass_spec h
  refine ⟨cA, fun n z => ⟨fun k h => (by cases h), kA, h2, comp, h3⟩, ?_⟩
  cases t <;> first | exact h1 | exact absurd rfl (ht _)
theorem xarr2 {args : Array Value} {s : State} {C : String} (h : (Cond.arrayOver (.object C)).before args s = true) : ∃ cA : ClassId, ArrOfT s cA (.object C) ∧ va_RA s cA (.object C) := by
  obtain ⟨comp, cA, kA, hcomp, hidx, hkA, hkindA, hnameA⟩ := Cond.arrayOver_spec h
  exact ⟨cA, fun n z => ⟨fun k h => (by cases h), kA, hkA, comp, hkindA⟩, kA, comp, hkA, hkindA, hcomp, hnameA⟩
theorem lw_K {args : Array Value} {s : State} (hts : ∀ w ∈ lw_tbl, w.before args s = true) (hA : xAO s) : ∃ (D : va_G) (ca : Nat → ClassId), va_K D vwCl (xT ca) s := by
  obtain ⟨f, hf⟩ := Classical.axiomOfChoice (lw_kn hts)
  obtain ⟨a0, b0⟩ := xarr1 (t := .int) (hts _ (by decide +kernel)) (fun C h => by cases h)
  obtain ⟨a1, b1⟩ := xarr1 (t := .char) (hts _ (by decide +kernel)) (fun C h => by cases h)
  obtain ⟨a2, b2⟩ := xarr1 (t := .byte) (hts _ (by decide +kernel)) (fun C h => by cases h)
  obtain ⟨a3, b3⟩ := xarr1 (t := .long) (hts _ (by decide +kernel)) (fun C h => by cases h)
  obtain ⟨a4, b4⟩ := xarr2 (C := RX0) hA.1
  obtain ⟨a5, b5⟩ := xarr2 (C := RX4) hA.2.1
  obtain ⟨a6, b6⟩ := xarr2 (C := RX5) hA.2.2
  obtain ⟨a7, b7⟩ := xarr1 (t := .double) (hts _ (by decide +kernel)) (fun C h => by cases h)
  refine ⟨(fun k => (f k).1, fun k => (f k).2), fun k => if k = 0 then a0 else if k = 1 then a1 else if k = 2 then a2 else if k = 3 then a3 else if k = 4 then a4 else if k = 5 then a5 else if k = 6 then a6 else a7, fun c q hq => hf c q hq, fun k q hq => ?_⟩
  match k, hq with
  | 0, hq => cases hq; exact b0
  | 1, hq => cases hq; exact b1
  | 2, hq => cases hq; exact b2
  | 3, hq => cases hq; exact b3
  | 4, hq => cases hq; exact b4
  | 5, hq => cases hq; exact b5
  | 6, hq => cases hq; exact b6
  | 7, hq => cases hq; exact b7
  | k + 8, hq => exact absurd (List.getElem?_eq_some_iff.mp hq).1 (by show ¬ k + 8 < 8; omega)
