/-! THE PURE PART: the model's weeks -/
theorem y_m_step {md W t : Nat} {S : Nat → Nat → Nat} {J : Nat → Int32} {ν : xM} (h : yM S J (ν (md + 1))) (hL : yL W t S) (hW : W < 100000000) (ht : t < S 16 0) : ∃ r ν1, (∀ f x, lX8_goesBy_14 md (f + 1) x (nI t) ν = lX8_goesBy_14 md f (x + r) (nI (t + 1)) ν1) ∧ yM (ystep S t) J (ν1 (md + 1)) ∧ (∀ a, a ≠ md + 1 → ν1 a = ν a) ∧ ((ystep S t 16 4 = S 16 4 ∧ r = 0) ∨ (ystep S t 16 4 = S 16 4 + 1 ∧ r = 1)) := by
  obtain ⟨⟨hn, h1, h2, h3, h4, h5, h6⟩, hP, hO⟩ := hL
  have p := hP t ht
  rw [if_neg (by omega)] at p
  have hk := ywk_le p
  have hwk := fun (ν' : xM) (h' : yM S J (ν' (md + 1))) => y_m_weekly (md := md) (ν := ν') h' hn p ht
  obtain ⟨p0, p1, p3, p4, p5, p6, p7, p8, p10, p11, u0, u1, u2, u3⟩ := p
  have h16 : t < 16 := by omega
  obtain ⟨q0, q1, q2, q3, q4, q5, q6, q7, q8, q9, q10⟩ := h.2.1 t ht
  have b5 : S t 5 < 2147483648 := by omega
  have g0 : ν (md + 1) 0 = nI (S 16 1) := h.1.1
  have g1 : ν (md + 1) 1 = nI (S 16 0) := h.1.2.1
  have g3 : ν (md + 1) 3 = nI (S 16 3) := h.1.2.2.2.1
  have g10 : ν (md + 1) 10 = nI (S 16 4) := h.1.2.2.2.2.2.2.2.2.2.2
  have r2 : ν (md + 1) (11 + 11 * t + 2) = nI (S t 3) := q2
  have r3 : ν (md + 1) (11 + 11 * t + 3) = nI (S t 4) := q3
  have r4 : ν (md + 1) (11 + 11 * t + 4) = nI (S t 5) := q4
  have r5 : ν (md + 1) (11 + 11 * t + 5) = nI (S t 6) := q5
  have nle := y_nle ht hn
  by_cases c1 : S t 5 = 1
  · have es : ystep S t = yrow S t (fun k => if k = 8 then S t 8 - S t 8 / 10 else S t k) := by unfold ystep; rw [if_pos c1]
    have r7 : ν (md + 1) (11 + 11 * t + 7) = nI (S t 8) := q7 c1
    have c0 : ¬ S t 5 = 0 := by omega
    refine ⟨0, xw ν (md + 1) (11 + 11 * t + 7) (nI (S t 8 - S t 8 / 10)), fun f x => ?_, ?_, fun a ha => xw_row ha, Or.inl ⟨by rw [es, yrow_n (by omega)], rfl⟩⟩
    · rw [Int32.add_zero]
      rw [lX8_goesBy_14]
      simp only [g1, if_neg nle, y_of4 h16, y_xb, r4, y_i1 b5, if_pos c1, y_of7 h16, r7, y_fallN (show S t 8 < 2147483648 by omega), y_lays7 h16, y_xbv]
      simp (disch := omega) only [y_wk, r4, y_i0 b5, if_neg c0, nI_1]
    · rw [es]
      refine yM_row h hn ht ?_ ?_ ?_ ?_ ?_ ?_ ?_ ?_ ?_ ?_ ?_ ⟨?_, ?_, ?_, ?_, ?_, ?_, ?_, ?_, ?_, ?_, ?_⟩ (fun u hu hne' k hk => ?_) (fun j hj => ?_)
      · simp (disch := omega) only [y_wk]
      · simp (disch := omega) only [y_wk]
      · simp (disch := omega) only [y_wk]
      · simp (disch := omega) only [y_wk]
      · simp (disch := omega) only [y_wk]; exact h.1.2.2.2.2.1
      · show _ = _ + (nI (S t 2) - nI (S t 2))
        rw [Int32.sub_self, Int32.add_zero]
        simp (disch := omega) only [y_wk]
      · show _ = _ + (nI (S t 9) - nI (S t 9))
        rw [Int32.sub_self, Int32.add_zero]
        simp (disch := omega) only [y_wk]
      · show _ = _ + (nI (S t 11) - nI (S t 11))
        rw [Int32.sub_self, Int32.add_zero]
        simp (disch := omega) only [y_wk]
      · simp (disch := omega) only [y_wk]; exact h.1.2.2.2.2.2.2.2.2.1
      · rw [yloss_c (c := fun k => if k = 8 then S t 8 - S t 8 / 10 else S t k) (d := S t) (by show S t 5 ≠ 3; omega) (by omega), Int32.sub_self, Int32.add_zero]
        simp (disch := omega) only [y_wk]
      · simp (disch := omega) only [y_wk]
      · show xw _ _ _ _ (md + 1) (11 + 11 * t + 0) = nI (S t 0)
        simp (disch := omega) only [y_wk]; exact q0
      · show xw _ _ _ _ (md + 1) (11 + 11 * t + 1) = nI (S t 1)
        simp (disch := omega) only [y_wk]; exact q1
      · show xw _ _ _ _ (md + 1) (11 + 11 * t + 2) = nI (S t 3)
        simp (disch := omega) only [y_wk]; exact q2
      · show xw _ _ _ _ (md + 1) (11 + 11 * t + 3) = nI (S t 4)
        simp (disch := omega) only [y_wk]; exact q3
      · show xw _ _ _ _ (md + 1) (11 + 11 * t + 4) = nI (S t 5)
        simp (disch := omega) only [y_wk]; exact q4
      · show xw _ _ _ _ (md + 1) (11 + 11 * t + 5) = nI (S t 6)
        simp (disch := omega) only [y_wk]; exact q5
      · show xw _ _ _ _ (md + 1) (11 + 11 * t + 6) = nI (S t 7)
        simp (disch := omega) only [y_wk]; exact q6
      · intro _
        show xw _ _ _ _ (md + 1) (11 + 11 * t + 7) = nI (S t 8 - S t 8 / 10)
        rw [xw_same]
      · show xw _ _ _ _ (md + 1) (11 + 11 * t + 8) = nI (S t 9)
        simp (disch := omega) only [y_wk]; exact q8
      · intro _
        show xw _ _ _ _ (md + 1) (11 + 11 * t + 9) = nI (S t 10)
        simp (disch := omega) only [y_wk]; exact q9 c1
      · intro _
        show xw _ _ _ _ (md + 1) (11 + 11 * t + 10) = nI (S t 12)
        simp (disch := omega) only [y_wk]; exact q10 c1
      · simp (disch := omega) only [y_wk]
      · simp (disch := omega) only [y_wk]; exact h.2.2 j hj
  by_cases c2 : S t 5 = 0
  · have uu := u0 c2
    have ew : (nI (S 16 1) - nI (S t 6)) = nI (S 16 1 - S t 6) := pk_sub (by omega)
    have b9 : ∀ (α : Type) (A B : α), (if (9 : Int32) ≤ nI (S 16 1 - S t 6) then A else B) = if 9 ≤ S 16 1 - S t 6 then A else B := fun α A B => y_ile (a := 9) (by decide) (by omega)
    by_cases c3 : S 16 1 < S t 6 + 9
    · have es : ystep S t = yrow S t (fun k => if k = 4 then S t 4 + ywk (S t) else S t k) := by unfold ystep; rw [if_neg c1, if_pos c2, if_pos c3]
      have c9 : ¬ 9 ≤ S 16 1 - S t 6 := by omega
      refine ⟨0, xw ν (md + 1) (11 + 11 * t + 3) (nI (S t 4 + ywk (S t))), fun f x => ?_, ?_, fun a ha => xw_row ha, Or.inl ⟨by rw [es, yrow_n (by omega)], rfl⟩⟩
      · rw [Int32.add_zero]
        rw [lX8_goesBy_14]
        simp only [g1, if_neg nle, y_of4 h16, y_xb, r4, y_i1 b5, if_neg c1, y_i0 b5, if_pos c2, y_of3 h16, r3, hwk ν h, nI_add, y_lays3 h16, y_xbv, y_of5 h16]
        simp (disch := omega) only [y_wk, r5, g0, ew, b9, if_neg c9, nI_1]
      · rw [es]
        refine yM_row h hn ht ?_ ?_ ?_ ?_ ?_ ?_ ?_ ?_ ?_ ?_ ?_ ⟨?_, ?_, ?_, ?_, ?_, ?_, ?_, ?_, ?_, ?_, ?_⟩ (fun u hu hne' k hk => ?_) (fun j hj => ?_)
        · simp (disch := omega) only [y_wk]
        · simp (disch := omega) only [y_wk]
        · simp (disch := omega) only [y_wk]
        · simp (disch := omega) only [y_wk]
        · simp (disch := omega) only [y_wk]; exact h.1.2.2.2.2.1
        · show _ = _ + (nI (S t 2) - nI (S t 2))
          rw [Int32.sub_self, Int32.add_zero]
          simp (disch := omega) only [y_wk]
        · show _ = _ + (nI (S t 9) - nI (S t 9))
          rw [Int32.sub_self, Int32.add_zero]
          simp (disch := omega) only [y_wk]
        · show _ = _ + (nI (S t 11) - nI (S t 11))
          rw [Int32.sub_self, Int32.add_zero]
          simp (disch := omega) only [y_wk]
        · simp (disch := omega) only [y_wk]; exact h.1.2.2.2.2.2.2.2.2.1
        · rw [yloss_c (c := fun k => if k = 4 then S t 4 + ywk (S t) else S t k) (d := S t) (by show S t 5 ≠ 3; omega) (by omega), Int32.sub_self, Int32.add_zero]
          simp (disch := omega) only [y_wk]
        · simp (disch := omega) only [y_wk]
        · show xw _ _ _ _ (md + 1) (11 + 11 * t + 0) = nI (S t 0)
          simp (disch := omega) only [y_wk]; exact q0
        · show xw _ _ _ _ (md + 1) (11 + 11 * t + 1) = nI (S t 1)
          simp (disch := omega) only [y_wk]; exact q1
        · show xw _ _ _ _ (md + 1) (11 + 11 * t + 2) = nI (S t 3)
          simp (disch := omega) only [y_wk]; exact q2
        · show xw _ _ _ _ (md + 1) (11 + 11 * t + 3) = nI (S t 4 + ywk (S t))
          rw [xw_same]
        · show xw _ _ _ _ (md + 1) (11 + 11 * t + 4) = nI (S t 5)
          simp (disch := omega) only [y_wk]; exact q4
        · show xw _ _ _ _ (md + 1) (11 + 11 * t + 5) = nI (S t 6)
          simp (disch := omega) only [y_wk]; exact q5
        · show xw _ _ _ _ (md + 1) (11 + 11 * t + 6) = nI (S t 7)
          simp (disch := omega) only [y_wk]; exact q6
        · intro (z : S t 5 = 1); exact absurd z c1
        · show xw _ _ _ _ (md + 1) (11 + 11 * t + 8) = nI (S t 9)
          simp (disch := omega) only [y_wk]; exact q8
        · intro (z : S t 5 = 1); exact absurd z c1
        · intro (z : S t 5 = 1); exact absurd z c1
        · simp (disch := omega) only [y_wk]
        · simp (disch := omega) only [y_wk]; exact h.2.2 j hj
    · have es : ystep S t = yu (yrow S t (fun k => if k = 4 then S t 4 + ywk (S t) else if k = 5 then 1 else if k = 8 then ydue S t else if k = 10 then ydue S t else if k = 12 then S 16 4 else S t k)) 16 4 (S 16 4 + 1) := by unfold ystep; rw [if_neg c1, if_pos c2, if_neg c3]
      have c9 : 9 ≤ S 16 1 - S t 6 := by omega
      have ed : nI (S t 3) + nI (S t 4 + ywk (S t)) + nI (S 16 3) = nI (ydue S t) := by rw [nI_add, nI_add]; rfl
      have hm : yM (yrow S t (fun k => if k = 4 then S t 4 + ywk (S t) else if k = 5 then 1 else if k = 8 then ydue S t else if k = 10 then ydue S t else if k = 12 then S 16 4 else S t k)) J ((xw (xw (xw (xw (xw ν (md + 1) (11 + 11 * t + 3) (nI (S t 4 + ywk (S t)))) (md + 1) (11 + 11 * t + 4) 1) (md + 1) (11 + 11 * t + 9) (nI (ydue S t))) (md + 1) (11 + 11 * t + 7) (nI (ydue S t))) (md + 1) (11 + 11 * t + 10) (nI (S 16 4))) (md + 1)) := by
        refine yM_row h hn ht ?_ ?_ ?_ ?_ ?_ ?_ ?_ ?_ ?_ ?_ ?_ ⟨?_, ?_, ?_, ?_, ?_, ?_, ?_, ?_, ?_, ?_, ?_⟩ (fun u hu hne' k hk => ?_) (fun j hj => ?_)
        · simp (disch := omega) only [y_wk]
        · simp (disch := omega) only [y_wk]
        · simp (disch := omega) only [y_wk]
        · simp (disch := omega) only [y_wk]
        · simp (disch := omega) only [y_wk]; exact h.1.2.2.2.2.1
        · show _ = _ + (nI (S t 2) - nI (S t 2))
          rw [Int32.sub_self, Int32.add_zero]
          simp (disch := omega) only [y_wk]
        · show _ = _ + (nI (S t 9) - nI (S t 9))
          rw [Int32.sub_self, Int32.add_zero]
          simp (disch := omega) only [y_wk]
        · show _ = _ + (nI (S t 11) - nI (S t 11))
          rw [Int32.sub_self, Int32.add_zero]
          simp (disch := omega) only [y_wk]
        · simp (disch := omega) only [y_wk]; exact h.1.2.2.2.2.2.2.2.2.1
        · rw [yloss_c (c := fun k => if k = 4 then S t 4 + ywk (S t) else if k = 5 then 1 else if k = 8 then ydue S t else if k = 10 then ydue S t else if k = 12 then S 16 4 else S t k) (d := S t) (by show (1 : Nat) ≠ 3; decide) (by omega), Int32.sub_self, Int32.add_zero]
          simp (disch := omega) only [y_wk]
        · simp (disch := omega) only [y_wk]
        · show xw _ _ _ _ (md + 1) (11 + 11 * t + 0) = nI (S t 0)
          simp (disch := omega) only [y_wk]; exact q0
        · show xw _ _ _ _ (md + 1) (11 + 11 * t + 1) = nI (S t 1)
          simp (disch := omega) only [y_wk]; exact q1
        · show xw _ _ _ _ (md + 1) (11 + 11 * t + 2) = nI (S t 3)
          simp (disch := omega) only [y_wk]; exact q2
        · show xw _ _ _ _ (md + 1) (11 + 11 * t + 3) = nI (S t 4 + ywk (S t))
          simp (disch := omega) only [y_wk, xw_same]
        · show xw _ _ _ _ (md + 1) (11 + 11 * t + 4) = nI 1
          simp (disch := omega) only [y_wk, xw_same]; rfl
        · show xw _ _ _ _ (md + 1) (11 + 11 * t + 5) = nI (S t 6)
          simp (disch := omega) only [y_wk]; exact q5
        · show xw _ _ _ _ (md + 1) (11 + 11 * t + 6) = nI (S t 7)
          simp (disch := omega) only [y_wk]; exact q6
        · intro _
          show xw _ _ _ _ (md + 1) (11 + 11 * t + 7) = nI (ydue S t)
          simp (disch := omega) only [y_wk, xw_same]
        · show xw _ _ _ _ (md + 1) (11 + 11 * t + 8) = nI (S t 9)
          simp (disch := omega) only [y_wk]; exact q8
        · intro _
          show xw _ _ _ _ (md + 1) (11 + 11 * t + 9) = nI (ydue S t)
          simp (disch := omega) only [y_wk, xw_same]
        · intro _
          show xw _ _ _ _ (md + 1) (11 + 11 * t + 10) = nI (S 16 4)
          rw [xw_same]
        · simp (disch := omega) only [y_wk]
        · simp (disch := omega) only [y_wk]; exact h.2.2 j hj
      refine ⟨1, _, fun f x => ?_, by rw [es]; exact yM_lots hm (by rw [yrow_n (by omega)]; exact hn), fun a ha => by rw [xw_row ha, xw_row ha, xw_row ha, xw_row ha, xw_row ha, xw_row ha], Or.inr ⟨by rw [es, yu_s], rfl⟩⟩
      rw [lX8_goesBy_14]
      simp only [g1, if_neg nle, y_of4 h16, y_xb, r4, y_i1 b5, if_neg c1, y_i0 b5, if_pos c2, y_of3 h16, r3, hwk ν h, nI_add, y_lays3 h16, y_xbv, y_of5 h16]
      simp (disch := omega) only [y_wk, r5, g0, ew, b9, if_pos c9, y_lays4 h16, y_xbv, fX8_owed, y_of2 h16, y_of3 h16, y_xb, r2, xw_same, g3, y_lays9 h16, y_of9 h16, y_lays7 h16, g10, y_lays10 h16, ed, nI_1]
  · have es : ystep S t = S := by unfold ystep; rw [if_neg c1, if_neg c2]
    refine ⟨0, ν, fun f x => ?_, by rw [es]; exact h, fun a _ => rfl, Or.inl ⟨by rw [es], rfl⟩⟩
    rw [Int32.add_zero]
    rw [lX8_goesBy_14]
    simp only [g1, if_neg nle, y_of4 h16, y_xb, r4, y_i1 b5, if_neg c1, y_i0 b5, if_neg c2, nI_1]
theorem y_m_walk {md W n : Nat} {J : Nat → Int32} (hW : W < 100000000) : ∀ u t f x (S : Nat → Nat → Nat) (ν : xM), t + u = n → S 16 0 = n → u < f → yL W t S → yM S J (ν (md + 1)) → ∃ ν1, lX8_goesBy_14 md f x (nI t) ν = some (x + (nI (ywalk S t u 16 4) - nI (S 16 4)), ν1) ∧ yM (ywalk S t u) J (ν1 (md + 1)) ∧ ∀ a, a ≠ md + 1 → ν1 a = ν a := by
  intro u
  induction u with
  | zero =>
    intro t f x S ν ht hs hf hL h
    obtain ⟨f, rfl⟩ : ∃ f', f = f' + 1 := ⟨f - 1, by omega⟩
    obtain rfl : t = n := by omega
    refine ⟨ν, ?_, h, fun a _ => rfl⟩
    rw [lX8_goesBy_14, h.1.2.1, hs, if_pos (Int32.le_refl _)]
    show some (x, ν) = some (x + (nI (S 16 4) - nI (S 16 4)), ν)
    rw [Int32.sub_self, Int32.add_zero]
  | succ u ih =>
    intro t f x S ν ht hs hf hL h
    obtain ⟨f, rfl⟩ : ∃ f', f = f' + 1 := ⟨f - 1, by omega⟩
    have ht' : t < S 16 0 := by omega
    have hn := hL.1.1
    obtain ⟨r, m, k1, k2, k3, k4⟩ := y_m_step h hL hW ht'
    have hL1 := yL_step hL ht'
    have s0 : ystep S t 16 0 = n := (ystep_sc (by omega) (by decide)).trans hs
    obtain ⟨m1, l1, l2, l3⟩ := ih (t + 1) f (x + r) (ystep S t) m (by omega) s0 (by omega) hL1 k2
    refine ⟨m1, ?_, l2, fun a ha => (l3 a ha).trans (k3 a ha)⟩
    rw [k1, l1]
    show some (x + r + (nI (ywalk (ystep S t) (t + 1) u 16 4) - nI (ystep S t 16 4)), m1) = some (x + (nI (ywalk (ystep S t) (t + 1) u 16 4) - nI (S 16 4)), m1)
    rcases k4 with ⟨k4, rfl⟩ | ⟨k4, rfl⟩
    · rw [k4, Int32.add_zero]
    · rw [k4, nI_succ (S 16 4)]
      congr 2
      grind
theorem y_m_week {md W : Nat} {S : Nat → Nat → Nat} {J : Nat → Int32} {ν : xM} (h : yM S J (ν (md + 1))) (hI : yI W S) (hW : W < 90000000) : ∃ ν1, fX8_goesBy md ν = some (nI (yweek S 16 4) - nI (S 16 4), ν1) ∧ yM (yweek S) J (ν1 (md + 1)) ∧ ∀ a, a ≠ md + 1 → ν1 a = ν a := by
  have hn := hI.1.1
  have e0 : yu S 16 1 (S 16 1 + 1) 16 0 = S 16 0 := yu_k (by omega)
  have e4 : yu S 16 1 (S 16 1 + 1) 16 4 = S 16 4 := yu_k (by omega)
  have hm : yM (yu S 16 1 (S 16 1 + 1)) J ((xw ν (md + 1) 0 (nI (S 16 1 + 1))) (md + 1)) := by
    obtain ⟨⟨h0, h1, h2, h3, h4, h5, h6, h7, h8, h9, h10⟩, hr, hj⟩ := h
    have er : ∀ t, t < S 16 0 → yu S 16 1 (S 16 1 + 1) t = S t := fun t ht => yu_n (by omega)
    have es : ∀ F : (Nat → Nat) → Int32, ysI (fun u => F (yu S 16 1 (S 16 1 + 1) u)) 0 (S 16 0) = ysI (fun u => F (S u)) 0 (S 16 0) := fun F => ysI_ext (fun j _ hj => by show F (yu S 16 1 (S 16 1 + 1) j) = F (S j); rw [er j (by omega)])
    refine ⟨⟨?_, ?_, ?_, ?_, ?_, ?_, ?_, ?_, ?_, ?_, ?_⟩, fun t ht => ?_, fun j hj6 => ?_⟩
    · rw [xw_same, yu_s]
    · rw [y_wk (by decide), e0, h1]
    · rw [y_wk (by decide), yu_k (by omega), h2]
    · rw [y_wk (by decide), yu_k (by omega), h3]
    · rw [y_wk (by decide), h4]
    · rw [y_wk (by decide), e0, h5]; exact (es (fun d => nI (d 2))).symm
    · rw [y_wk (by decide), e0, h6]; exact (es (fun d => nI (d 9))).symm
    · rw [y_wk (by decide), e0, h7]; exact (es (fun d => nI (d 11))).symm
    · rw [y_wk (by decide), h8]
    · rw [y_wk (by decide), e0, h9]; exact (es (fun d => nI (yloss d))).symm
    · rw [y_wk (by decide), e4, h10]
    · rw [e0] at ht
      rw [er t ht]
      have q := hr t ht
      unfold yQ at q ⊢
      simp (disch := omega) only [y_wk]
      exact q
    · rw [y_wk (by omega), y_wk (by omega)]
      exact hj j hj6
  obtain ⟨m, k1, k2, k3⟩ := y_m_walk (md := md) (J := J) (show W + 1 < 100000000 by omega) (S 16 0) 0 xfu 0 (yu S 16 1 (S 16 1 + 1)) (xw ν (md + 1) 0 (nI (S 16 1 + 1))) (by omega) e0 (by unfold xfu; omega) (yL_0 hI) hm
  rw [e4, Int32.zero_add] at k1
  refine ⟨m, ?_, k2, fun a ha => by rw [k3 a ha, xw_row ha]⟩
  rw [fX8_goesBy, h.1.1, nI_1]
  exact k1
theorem y_m_wloop {md k : Nat} {J : Nat → Int32} (hk : k ≤ 20) : ∀ u j f x (S : Nat → Nat → Nat) (μ ν : xM) (W b : Nat), j + u = k → u < f → yI W S → W + u < 90000000 → yC b S J μ → yM S J (ν (md + 1)) → ∃ ν1, lX8_pass_36 md (nI k) f x (nI j) ν = some (x + (nI (yweeks S u 16 4) - nI (S 16 4)), ν1) ∧ yM (yweeks S u) J (ν1 (md + 1)) ∧ ∀ a, a ≠ md + 1 → ν1 a = ν a := by
  intro u
  induction u with
  | zero =>
    intro j f x S μ ν W b hj hf hI hW hC h
    obtain ⟨f, rfl⟩ : ∃ f', f = f' + 1 := ⟨f - 1, by omega⟩
    refine ⟨ν, ?_, h, fun a _ => rfl⟩
    rw [lX8_pass_36, if_pos ((nI_leI (by omega) (by omega)).mpr (by omega))]
    show some (x, ν) = some (x + (nI (S 16 4) - nI (S 16 4)), ν)
    rw [Int32.sub_self, Int32.add_zero]
  | succ u ih =>
    intro j f x S μ ν W b hj hf hI hW hC h
    obtain ⟨f, rfl⟩ : ∃ f', f = f' + 1 := ⟨f - 1, by omega⟩
    obtain ⟨m0, -, c2, -, c4⟩ := y_c_week hC hI (by omega)
    obtain ⟨m, k1, k2, k3⟩ := y_m_week h hI (by omega)
    obtain ⟨m1, l1, l2, l3⟩ := ih (j + 1) f (x + (nI (yweek S 16 4) - nI (S 16 4))) (yweek S) m0 m (W + 1) b (by omega) (by omega) c4 (by omega) c2 k2
    refine ⟨m1, ?_, l2, fun a ha => (l3 a ha).trans (k3 a ha)⟩
    rw [lX8_pass_36, if_neg (fun q => by have := (nI_leI (by omega) (by omega)).mp q; omega), k1, y_xb, nI_1, l1]
    show some (x + (nI (yweek S 16 4) - nI (S 16 4)) + (nI (yweeks (yweek S) u 16 4) - nI (yweek S 16 4)), m1) = some (x + (nI (yweeks (yweek S) u 16 4) - nI (S 16 4)), m1)
    congr 2
    grind
theorem y_m_pass {md W b : Nat} {S : Nat → Nat → Nat} {J : Nat → Int32} {μ ν : xM} (hC : yC b S J μ) (h : yM S J (ν (md + 1))) (hI : yI W S) (hW : W < 80000000) (p1 p2 p3 : Int32) : yMo md 119 (yv 119 p1 p2 p3 S J) (yopR 119 p1 p2 p3 S J) (yopS 119 p1 p2 p3 S) (yopJ 119 p1 p2 p3 S J) ν (fX8_pass md p1 ν) := by
  rw [yv_119]
  by_cases c1 : p1 < 1 ∨ 20 < p1
  · have c2 : ¬ (1 ≤ p1 ∧ p1 ≤ 20) := fun q => c1.elim (Int32.not_lt.mpr q.1) (Int32.not_lt.mpr q.2)
    rw [if_pos c1]
    refine ⟨fun _ => ?_, fun q => absurd q (show ¬ (0 : Int32) < -2 by decide), fun q => absurd q (show ¬ (-2 : Int32) = 0 by decide)⟩
    simp only [fX8_pass, y_in, y_xb, if_neg c2, if_true, y_fails1, if_neg y_n10]
    rfl
  · have c2 : 1 ≤ p1 ∧ p1 ≤ 20 := ⟨Int32.not_lt.mp (fun q => c1 (Or.inl q)), Int32.not_lt.mp (fun q => c1 (Or.inr q))⟩
    rw [if_neg c1]
    refine ⟨fun q => absurd q (show ¬ (0 : Int32) < 0 by decide), fun q => absurd q (show ¬ (0 : Int32) < 0 by decide), fun _ ν1 hk hg => ?_⟩
    obtain ⟨k, rfl, k1, k2⟩ := y_rng (p := p1) (lo := 1) (hi := 20) (by decide) (fun q => c1 (Or.inl q)) (fun q => c1 (Or.inr q)) (by decide)
    obtain ⟨d1, d2, d3⟩ := yD_119 (k := k) (p2 := p2) (p3 := p3) (S := S) (J := J) (by omega)
    rw [d1, d2, d3]
    obtain ⟨m, l1, l2, l3⟩ := y_m_wloop (md := md) (J := J) k2 k 0 xfu 0 S μ ν1 W b (by omega) (by unfold xfu; omega) hI (by omega) hC (by rw [hg]; exact h)
    rw [Int32.zero_add] at l1
    refine ⟨m, ?_, l2, l3⟩
    simp only [fX8_pass, y_in, y_xb, if_pos c2, if_neg y_n10, if_true, y_fails0, hk, y_xbv]
    exact l1
