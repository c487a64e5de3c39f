/-! THE PURE PART: the model's pledge and weeks -/
theorem y_m_zero {md t : Nat} {p1 p2 p3 : Int32} (ht : t < 16) : ∀ u j f (ν : xM), j + u = 11 → u < f → ∃ ν', lX8_pledge_140 md p1 p2 p3 f (nI t) (nI j) ν = lX8_pledge_140 md p1 p2 p3 (f - u) (nI t) (nI 11) ν' ∧ (∀ a, a ≠ md + 1 → ν' a = ν a) ∧ (∀ i, (i < 11 + 11 * t + j ∨ 11 + 11 * t + 11 ≤ i) → ν' (md + 1) i = ν (md + 1) i) ∧ ∀ k, j ≤ k → k < 11 → ν' (md + 1) (11 + 11 * t + k) = 0 := by
  intro u
  induction u with
  | zero =>
    intro j f ν hj hf
    obtain rfl : j = 11 := by omega
    exact ⟨ν, rfl, fun a _ => rfl, fun i _ => rfl, fun k k1 k2 => by omega⟩
  | succ u ih =>
    intro j f ν hj hf
    obtain ⟨f, rfl⟩ : ∃ f', f = f' + 1 := ⟨f - 1, by omega⟩
    obtain ⟨ν', k1, k2, k3, k4⟩ := ih (j + 1) f (xw ν (md + 1) (11 + 11 * t + j) 0) (by omega) (by omega)
    refine ⟨ν', ?_, fun a ha => by rw [k2 a ha, xw_row ha], fun i hi => by rw [k3 i (by omega), y_wk (by omega)], fun k h1 h2 => ?_⟩
    · rw [lX8_pledge_140, if_neg (show ¬ (11 : Int32) ≤ nI j from fun q => by have := (nI_leI (a := 11) (b := j) (by decide) (by omega)).mp q; omega), y_lays ht (by omega), y_xbv, nI_1, k1, show f + 1 - (u + 1) = f - u by omega]
    · by_cases c : k = j
      · subst c
        rw [k3 _ (by omega), xw_same]
      · exact k4 k (by omega) h2
theorem y_m_pledge {md W : Nat} {S : Nat → Nat → Nat} {J : Nat → Int32} {ν : xM} (h : yM S J (ν (md + 1))) (hI : yI W S) (p1 p2 p3 : Int32) : yMo md 112 (yv 112 p1 p2 p3 S J) (yopR 112 p1 p2 p3 S J) (yopS 112 p1 p2 p3 S) (yopJ 112 p1 p2 p3 S J) ν (fX8_pledge md p1 p2 p3 ν) := by
  have hn := hI.1.1
  have hne : md + 1 ≠ md := by omega
  rw [yv_112]
  have r1 : ν (md + 1) 1 = nI (S 16 0) := h.1.2.1
  have r4 : ν (md + 1) 4 = J 0 := h.1.2.2.2.2.1
  have b16 : (nI (S 16 0) = 16) = (S 16 0 = 16) := y_eqN (b := 16) (by omega) (by decide)
  by_cases c1 : p1 < 0 ∨ 6 ≤ p1
  · have v : yvP p1 p2 p3 S J = (-1, 0) := by unfold yvP; rw [if_pos c1]
    have c2 : ¬ (0 ≤ p1 ∧ p1 ≤ 5) := by
      rintro ⟨u1, u2⟩
      rcases c1 with c1 | c1
      · exact Int32.not_lt.mpr u1 c1
      · have := Int32.le_trans c1 u2
        exact absurd this (by decide)
    rw [v]
    refine ⟨fun _ => ?_, fun q => absurd q (show ¬ (0 : Int32) < -1 by decide), fun q => absurd q (show ¬ (-1 : Int32) = 0 by decide)⟩
    simp only [fX8_pledge, y_in, y_xb, if_neg c2, if_true, y_fails1, if_neg y_n10]
    rfl
  obtain ⟨ow, how, rfl⟩ := y_nin (n := 6) (by decide) c1
  have c1' : 0 ≤ nI ow ∧ nI ow ≤ 5 := ⟨nI_pos' (by omega), show nI ow ≤ nI 5 from (nI_leI (by omega) (by decide)).mpr (by omega)⟩
  by_cases c2 : p2 < 1 ∨ 999 < p2
  · have v : yvP (nI ow) p2 p3 S J = (-2, 0) := by unfold yvP; rw [if_neg c1, if_pos (c2.elim Or.inl (fun q => Or.inr (Or.inl q)))]
    have c2' : ¬ (1 ≤ p2 ∧ p2 ≤ 999) := fun q => c2.elim (Int32.not_lt.mpr q.1) (Int32.not_lt.mpr q.2)
    rw [v]
    refine ⟨fun _ => ?_, fun q => absurd q (show ¬ (0 : Int32) < -2 by decide), fun q => absurd q (show ¬ (-2 : Int32) = 0 by decide)⟩
    simp only [fX8_pledge, y_in, y_xb, if_pos c1', if_neg c2', if_true, y_fails2, if_neg y_n10]
    rfl
  have c2' : 1 ≤ p2 ∧ p2 ≤ 999 := ⟨Int32.not_lt.mp (fun q => c2 (Or.inl q)), Int32.not_lt.mp (fun q => c2 (Or.inr q))⟩
  by_cases c3 : p3 < 1
  · have v : yvP (nI ow) p2 p3 S J = (-2, 0) := by unfold yvP; rw [if_neg c1, if_pos (Or.inr (Or.inr c3))]
    rw [v]
    refine ⟨fun _ => ?_, fun q => absurd q (show ¬ (0 : Int32) < -2 by decide), fun q => absurd q (show ¬ (-2 : Int32) = 0 by decide)⟩
    simp only [fX8_pledge, y_in, y_xb, if_pos c1', if_pos c2', if_pos c3, y_fails2, if_neg y_n10]
    rfl
  have c23 : ¬ (p2 < 1 ∨ 999 < p2 ∨ p3 < 1) := fun q => q.elim (fun q => c2 (Or.inl q)) (fun q => q.elim (fun q => c2 (Or.inr q)) c3)
  by_cases c4 : p3 ≤ p2 * 60 / 100
  · by_cases c5 : S 16 0 = 16
    · have v : yvP (nI ow) p2 p3 S J = (1, 16) := by unfold yvP; rw [if_neg c1, if_neg c23, if_neg (show ¬ ¬ (p3 ≤ p2 * 60 / 100) from fun q => q c4), if_pos (by omega)]
      rw [v]
      refine ⟨fun q => absurd q (show ¬ (1 : Int32) < 0 by decide), fun _ => ?_, fun q => absurd q (show ¬ (1 : Int32) = 0 by decide)⟩
      simp only [fX8_pledge, y_in, y_xb, if_pos c1', if_pos c2', if_neg c3, y_fails0, if_neg y_n10, if_true, if_pos c4, y_wn hne, r1, b16, if_pos c5, y_refuses, yrf_7]
      rfl
    · by_cases c6 : p3 ≤ J 0
      · have v : yvP (nI ow) p2 p3 S J = (0, 0) := by unfold yvP; rw [if_neg c1, if_neg c23, if_neg (show ¬ ¬ (p3 ≤ p2 * 60 / 100) from fun q => q c4), if_neg (by omega), if_neg (show ¬ ¬ (p3 ≤ J 0) from fun q => q c6)]
        obtain ⟨ow', wo, lo, e1, rfl, rfl, k1, k2, k3, k4, k5, k6⟩ := yv_P (by rw [v])
        rw [v]
        refine ⟨fun q => absurd q (by decide), fun q => absurd q (by decide), fun _ ν1 hk hg => ?_⟩
        obtain ⟨d1, d2, d3⟩ := yD_112 (ow := ow) (wo := wo) (lo := lo) (S := S) (J := J) (by omega) (by omega) (by omega)
        rw [d1, d2, d3]
        have h1 : yM S J (ν1 (md + 1)) := by rw [hg]; exact h
        have s1 : ν1 (md + 1) 1 = nI (S 16 0) := h1.1.2.1
        obtain ⟨ν', z1, z2, z3, z4⟩ := y_m_zero (md := md) (p1 := nI ow) (p2 := nI wo) (p3 := nI lo) k5 11 0 xfu (xw ν1 (md + 1) 1 (nI (S 16 0 + 1))) (by omega) (by unfold xfu; omega)
        have f0 : ν' (md + 1) 0 = nI (S 16 1) := by rw [z3 0 (by omega), y_wk (by omega)]; exact h1.1.1
        have f1 : ν' (md + 1) 1 = nI (S 16 0 + 1) := by rw [z3 1 (by omega), xw_same]
        have f2 : ν' (md + 1) 2 = nI (S 16 2) := by rw [z3 2 (by omega), y_wk (by omega)]; exact h1.1.2.2.1
        have f4 : ν' (md + 1) 4 = J 0 := by rw [z3 4 (by omega), y_wk (by omega)]; exact h1.1.2.2.2.2.1
        have fo : ∀ i, i ≠ 1 → (i < 11 + 11 * S 16 0 ∨ 11 + 11 * S 16 0 + 11 ≤ i) → ν' (md + 1) i = ν1 (md + 1) i := fun i i1 io => by rw [z3 i (by omega), y_wk i1]
        have f5 : ν' (md + 1) 5 = ν1 (md + 1) 5 := fo 5 (by omega) (by omega)
        refine ⟨xw (xw (xw (xw (xw (xw (xw ν' (md + 1) (11 + 11 * S 16 0 + 0) (nI ow)) (md + 1) (11 + 11 * S 16 0 + 1) (nI wo)) (md + 1) (11 + 11 * S 16 0 + 2) (nI lo)) (md + 1) (11 + 11 * S 16 0 + 5) (nI (S 16 1))) (md + 1) (11 + 11 * S 16 0 + 6) (nI (S 16 2))) (md + 1) 4 (J 0 - nI lo)) (md + 1) 5 (ν1 (md + 1) 5 + nI lo), ?_, ?_, fun a ha => by rw [xw_row ha, xw_row ha, xw_row ha, xw_row ha, xw_row ha, xw_row ha, xw_row ha, z2 a ha, xw_row ha]⟩
        · simp only [fX8_pledge, y_in, y_xb, if_pos c1', if_pos c2', if_neg c3, y_fails0, if_neg y_n10, if_true, if_pos c4, y_wn hne, r1, b16, if_neg c5, r4, if_pos c6, hk, y_xbv, s1, nI_1]
          have hF : 11 < xfu := by unfold xfu; omega
          generalize xfu = F at z1 hF ⊢
          refine (z1.trans ?_)
          obtain ⟨f9, hf9⟩ : ∃ f9, F - 11 = f9 + 1 := ⟨F - 12, by omega⟩
          rw [hf9, lX8_pledge_140, if_pos (show (11 : Int32) ≤ nI 11 from Int32.le_refl _), y_lays0 k5, y_xbv, y_lays1 k5, y_xbv, y_lays2 k5, y_xbv]
          simp (disch := omega) only [y_wk, f0, y_lays5 k5, y_xbv, f2, y_lays6 k5, f4, f5]
        · -- the row behind it
          obtain ⟨⟨g0, g1, g2, g3, g4, g5, g6, g7, g8, g9, g10⟩, hr, hj⟩ := h1
          have hL : ∀ u, u < S 16 0 → yLend S ow wo lo u = S u := fun u hu => by unfold yLend; rw [yu_n (by omega), yrow_n (by omega)]
          have hLn : ∀ k, yLend S ow wo lo (S 16 0) k = (if k = 0 then ow else if k = 1 then wo else if k = 2 then lo else if k = 3 then lo else if k = 6 then S 16 1 else if k = 7 then S 16 2 else 0) := fun k => by unfold yLend; rw [yu_n (by omega), yrow_t]
          have hL0 : yLend S ow wo lo 16 0 = S 16 0 + 1 := yu_s
          have hLk : ∀ k, k ≠ 0 → yLend S ow wo lo 16 k = S 16 k := fun k hk => by unfold yLend; rw [yu_k hk, yrow_n (by omega)]
          have hs : ∀ F : (Nat → Nat) → Int32, ysI (fun u => F (yLend S ow wo lo u)) 0 (S 16 0 + 1) = ysI (fun u => F (S u)) 0 (S 16 0) + F (yLend S ow wo lo (S 16 0)) := by
            intro F
            rw [ysI_snoc, ysI_ext (h := fun u => F (S u)) (fun j _ hj => by show F (yLend S ow wo lo j) = F (S j); rw [hL j (by omega)]), Nat.zero_add]
          refine ⟨⟨?_, ?_, ?_, ?_, ?_, ?_, ?_, ?_, ?_, ?_, ?_⟩, fun u hu => ?_, fun j hj6 => ?_⟩
          · rw [hLk 1 (by decide)]
            simp (disch := omega) only [y_wk]
            exact f0
          · rw [hL0]
            simp (disch := omega) only [y_wk]
            exact f1
          · rw [hLk 2 (by decide)]
            simp (disch := omega) only [y_wk]
            exact f2
          · rw [hLk 3 (by decide)]
            simp (disch := omega) only [y_wk]
            rw [fo 3 (by omega) (by omega), g3]
          · simp (disch := omega) only [y_wk, xw_same, yj_s]
          · rw [hL0, hs (fun d => nI (d 2)), hLn 2, xw_same, g5]
            rfl
          · rw [hL0, hs (fun d => nI (d 9)), hLn 9]
            simp (disch := omega) only [y_wk]
            rw [fo 6 (by omega) (by omega), g6]
            exact (Int32.add_zero _).symm
          · rw [hL0, hs (fun d => nI (d 11)), hLn 11]
            simp (disch := omega) only [y_wk]
            rw [fo 7 (by omega) (by omega), g7]
            exact (Int32.add_zero _).symm
          · simp (disch := omega) only [y_wk]
            rw [fo 8 (by omega) (by omega), g8]
            exact ysI_ext (fun j _ _ => (yj_n (by omega)).symm)
          · have l0 : yloss (yLend S ow wo lo (S 16 0)) = 0 := by unfold yloss; rw [hLn 5]; rfl
            rw [hL0, hs (fun d => nI (yloss d)), l0]
            simp (disch := omega) only [y_wk]
            rw [fo 9 (by omega) (by omega), g9]
            exact (Int32.add_zero _).symm
          · rw [hLk 4 (by decide)]
            simp (disch := omega) only [y_wk]
            rw [fo 10 (by omega) (by omega), g10]
          · rw [hL0] at hu
            by_cases cu : u = S 16 0
            · subst cu
              refine ⟨?_, ?_, ?_, ?_, ?_, ?_, ?_, ?_, ?_, ?_, ?_⟩
              · rw [hLn 0]
                show xw _ _ _ _ (md + 1) (11 + 11 * S 16 0 + 0) = nI ow
                simp (disch := omega) only [y_wk, xw_same]
              · rw [hLn 1]
                show xw _ _ _ _ (md + 1) (11 + 11 * S 16 0 + 1) = nI wo
                simp (disch := omega) only [y_wk, xw_same]
              · rw [hLn 3]
                show xw _ _ _ _ (md + 1) (11 + 11 * S 16 0 + 2) = nI lo
                simp (disch := omega) only [y_wk, xw_same]
              · rw [hLn 4]
                show xw _ _ _ _ (md + 1) (11 + 11 * S 16 0 + 3) = nI 0
                simp (disch := omega) only [y_wk]
                exact z4 3 (by omega) (by omega)
              · rw [hLn 5]
                show xw _ _ _ _ (md + 1) (11 + 11 * S 16 0 + 4) = nI 0
                simp (disch := omega) only [y_wk]
                exact z4 4 (by omega) (by omega)
              · rw [hLn 6]
                show xw _ _ _ _ (md + 1) (11 + 11 * S 16 0 + 5) = nI (S 16 1)
                simp (disch := omega) only [y_wk, xw_same]
              · rw [hLn 7]
                show xw _ _ _ _ (md + 1) (11 + 11 * S 16 0 + 6) = nI (S 16 2)
                simp (disch := omega) only [y_wk, xw_same]
              · rw [hLn 5]; intro (q : (0 : Nat) = 1); exact absurd q (by decide)
              · rw [hLn 9]
                show xw _ _ _ _ (md + 1) (11 + 11 * S 16 0 + 8) = nI 0
                simp (disch := omega) only [y_wk]
                exact z4 8 (by omega) (by omega)
              · rw [hLn 5]; intro (q : (0 : Nat) = 1); exact absurd q (by decide)
              · rw [hLn 5]; intro (q : (0 : Nat) = 1); exact absurd q (by decide)
            · have hu' : u < S 16 0 := by omega
              rw [hL u hu']
              have q := hr u hu'
              have e : ∀ k, k < 11 → ν' (md + 1) (11 + 11 * u + k) = ν1 (md + 1) (11 + 11 * u + k) := fun k hk => fo _ (by omega) (by omega)
              unfold yQ at q ⊢
              simp (disch := omega) only [y_wk, e]
              exact q
          · rw [yj_n (by omega), yj_n (by omega)]
            simp (disch := omega) only [y_wk]
            rw [fo (187 + j) (by omega) (by omega), fo (193 + j) (by omega) (by omega)]
            exact hj j hj6
      · have v : yvP (nI ow) p2 p3 S J = (3, J 0) := by unfold yvP; rw [if_neg c1, if_neg c23, if_neg (show ¬ ¬ (p3 ≤ p2 * 60 / 100) from fun q => q c4), if_neg (by omega), if_pos c6]
        rw [v]
        refine ⟨fun q => absurd q (show ¬ (3 : Int32) < 0 by decide), fun _ => ?_, fun q => absurd q (show ¬ (3 : Int32) = 0 by decide)⟩
        simp only [fX8_pledge, y_in, y_xb, if_pos c1', if_pos c2', if_neg c3, y_fails0, if_neg y_n10, if_true, if_pos c4, y_wn hne, r1, b16, if_neg c5, r4, if_neg c6, y_refuses, yrf_7]
        rfl
  · have v : yvP (nI ow) p2 p3 S J = (2, p2 * 60 / 100) := by unfold yvP; rw [if_neg c1, if_neg c23, if_pos c4]
    rw [v]
    refine ⟨fun q => absurd q (show ¬ (2 : Int32) < 0 by decide), fun _ => ?_, fun q => absurd q (show ¬ (2 : Int32) = 0 by decide)⟩
    simp only [fX8_pledge, y_in, y_xb, if_pos c1', if_pos c2', if_neg c3, y_fails0, if_neg y_n10, if_true, if_neg c4, y_refuses, yrf_7]
    rfl
