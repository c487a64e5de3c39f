/-! THE PURE PART: answers (2) -/
theorem y_nm1 {v : Nat} (h : v < 2147483648) : ¬ nI v = -1 := fun q => absurd (show nI v < 0 by rw [q]; decide) (nI_pos h)
theorem y_m_nq {md t k W : Nat} {S : Nat → Nat → Nat} {J : Nat → Int32} {ν : xM} (h : yM S J (ν (md + 1))) (hI : yI W S) (hW : W < 100000000) (ht : t < S 16 0) (hk : k ≤ 20) : fX8_isNoQuote md (nI t) (nI k) ν = some (if S t 5 = 0 ∧ S 16 1 + k < S t 6 + 9 then 0 else 1, xw ν md 7 (if S t 5 = 0 ∧ S 16 1 + k < S t 6 + 9 then 0 else 3)) := by
  have hn := hI.1.1
  have h16 : t < 16 := by omega
  obtain ⟨q0, q1, q2, q3, q4, -⟩ := h.2.1 t ht
  obtain ⟨p0, p1, p3, p4, p5, p6, p7, p8, p10, p11, u0, -⟩ := hI.2.1 t ht
  have b5 : S t 5 < 2147483648 := by omega
  have r4 : ν (md + 1) (11 + 11 * t + 4) = nI (S t 5) := q4
  have c1 : ¬ (nI t < 0 ∨ nI (S 16 0) ≤ nI t) := fun q => q.elim (nI_pos (by omega)) (y_nle ht hn)
  have c2 : 0 ≤ nI k ∧ nI k ≤ 20 := ⟨nI_pos' (by omega), show nI k ≤ nI 20 from (nI_leI (by omega) (by decide)).mpr hk⟩
  simp only [fX8_isNoQuote, y_isTicket h hn, if_neg c1, y_xb, if_neg y_n10, y_in, if_pos c2, y_of4 h16, r4, y_i0 b5, y_m_isOver h hI hW hk ht, y_fails0, y_fails3, y_xk y_zf, y_xk y_zt]
  by_cases c3 : S t 5 = 0
  · rw [if_pos c3]
    by_cases c4 : nI k ≤ 0
    · have hk0 : k = 0 := by have := (nI_leI (a := k) (b := 0) (by omega) (by decide)).mp c4; omega
      have cc : S t 5 = 0 ∧ S 16 1 + k < S t 6 + 9 := ⟨c3, by have := u0 c3; omega⟩
      rw [if_pos c4, if_pos cc, if_pos cc]
    · rw [if_neg c4]
      by_cases c5 : S t 6 + 9 ≤ S 16 1 + k
      · have cc : ¬ (S t 5 = 0 ∧ S 16 1 + k < S t 6 + 9) := fun q => by omega
        rw [if_pos c5, if_neg y_n10, if_neg cc, if_neg cc]
      · have cc : S t 5 = 0 ∧ S 16 1 + k < S t 6 + 9 := ⟨c3, by omega⟩
        rw [if_neg c5, if_pos rfl, if_pos cc, if_pos cc]
  · have cc : ¬ (S t 5 = 0 ∧ S 16 1 + k < S t 6 + 9) := fun q => c3 q.1
    rw [if_neg c3, if_neg cc, if_neg cc]
theorem y_L12 {x i : Nat} {μ : xM} (s1 s2 s3 : Int32) (h : yInv x i μ) (hi : i < 512) : ∃ μ1, gL_12 x (x + 251) (x + 259) s1 s2 s3 μ = some μ1 ∧ yInv x (i + 1) μ1 ∧ μ1 (x + 249) = μ (x + 249) := by
  have hh := h
  obtain ⟨⟨S, J, ⟨hI, hJ⟩, hC, hB⟩, -⟩ := h
  have hn := hI.1.1
  have hB1 : yM S J (μ (x + 251 + 1)) := hB
  rw [gL_12]
  by_cases c1 : s1 < 0 ∨ nI (S 16 0) ≤ s1
  · refine y_qT (M := fun m => fX8_quote (x + 251) s1 s2 m) (code := 1) (r2 := 0) hh ?_ ?_ (by decide)
    · rw [fL_quote, fX7_quote, y_dT hC, if_pos c1, y_xcbS 3, y_xchS 3, if_pos rfl]
    · simp only [fX8_quote, fX8_isNoQuote, y_isTicket hB1 hn, if_pos c1, y_xb, if_true, y_fails1, y_xk y_zt, if_neg y_n10]
  obtain ⟨t, ht, rfl⟩ := y_nin (by omega) c1
  by_cases c2 : s2 < 0 ∨ 20 < s2
  · refine y_qT (M := fun m => fX8_quote (x + 251) (nI t) s2 m) (code := 2) (r2 := 0) hh ?_ ?_ (by decide)
    · rw [fL_quote, fX7_quote, y_dT hC, if_neg c1, y_xcb0, y_dR, if_pos c2, y_xcbS 1, y_xchS 1, if_neg (by decide), if_pos rfl]
    · simp only [fX8_quote, fX8_isNoQuote, y_isTicket hB1 hn, if_neg c1, y_xb, if_neg y_n10, y_in, if_neg (y_niR c2), if_true, y_fails2, y_xk y_zt]
  obtain ⟨k, rfl, -, hk⟩ := y_rng (p := s2) (lo := 0) (hi := 20) (by decide) (fun q => c2 (Or.inl q)) (fun q => c2 (Or.inr q)) (by decide)
  have p := hI.2.1 t ht
  have e := hC.2.1 t ht
  have hw := hI.1.2.1
  by_cases c3 : S t 5 = 0 ∧ S 16 1 + k < S t 6 + 9
  · refine y_qA (M := fun m => fX8_quote (x + 251) (nI t) (nI k) m) (r := nI (S t 3 + S t 4 + ywk (S t) * k)) hh ?_ ?_
    · rw [fL_quote, fX7_quote, y_dT hC, if_neg c1, y_xcb0, y_dR, if_neg c2, y_xcb0, y_xk (y_in16 ht hn), y_cl ht hn, hC.1.2.1, nI_add, y_isRunningIn p (by omega) (by omega) e, y_xb, if_pos c3, y_dS1, y_xcb0, y_xk (y_in16 ht hn), y_costBehind p e, y_xb, y_xch0]
    · have hB2 : yM S J ((xw μ (x + 259) 0 (nI (S t 3 + S t 4 + ywk (S t) * k))) (x + 251 + 1)) := by rw [xw_row (by omega)]; exact hB1
      have hB3 := yM_7 (v := 0) hB2
      show fX8_quote (x + 251) (nI t) (nI k) _ = _
      rw [fX8_quote, y_m_nq hB2 hI (by omega) ht hk, y_xb, if_pos c3, if_pos rfl, if_pos c3, y_m_owed hB3 hn ht, y_xb, y_m_weekly hB3 hn p ht, y_xb, pk_mul, nI_add, Nat.mul_comm k]
  · refine y_qT (M := fun m => fX8_quote (x + 251) (nI t) (nI k) m) (code := 3) (r2 := 0) hh ?_ ?_ (by decide)
    · rw [fL_quote, fX7_quote, y_dT hC, if_neg c1, y_xcb0, y_dR, if_neg c2, y_xcb0, y_xk (y_in16 ht hn), y_cl ht hn, hC.1.2.1, nI_add, y_isRunningIn p (by omega) (by omega) e, y_xb, if_neg c3, y_dS0, y_xcbS 4, y_xchS 4, if_neg (by decide), if_neg (by decide), if_pos rfl]
    · show fX8_quote (x + 251) (nI t) (nI k) _ = _
      rw [fX8_quote, y_m_nq hB1 hI (by omega) ht hk, y_xb, if_neg c3, if_neg y_n10, if_neg c3]
theorem y_L13 {x i : Nat} {μ : xM} (s1 s2 s3 : Int32) (h : yInv x i μ) (hi : i < 512) : ∃ μ1, gL_13 x (x + 251) (x + 259) s1 s2 s3 μ = some μ1 ∧ yInv x (i + 1) μ1 ∧ μ1 (x + 249) = μ (x + 249) := by
  have hh := h
  obtain ⟨⟨S, J, ⟨hI, hJ⟩, hC, hB⟩, -⟩ := h
  have hn := hI.1.1
  have hB1 : yM S J (μ (x + 251 + 1)) := hB
  rw [gL_13]
  by_cases c1 : s1 < 0 ∨ nI (S 16 0) ≤ s1
  · refine y_qT (M := fun m => fX8_quoteAgain (x + 251) s1 s2 m) (code := 1) (r2 := 0) hh ?_ ?_ (by decide)
    · rw [fL_quoteAgain, fX7_quoteAgain, y_dT hC, if_pos c1, y_xcbS 3, y_xchS 3, if_pos rfl]
    · simp only [fX8_quoteAgain, fX8_isNoQuote, y_isTicket hB1 hn, if_pos c1, y_xb, if_true, y_fails1, y_xk y_zt, if_neg y_n10]
  obtain ⟨t, ht, rfl⟩ := y_nin (by omega) c1
  by_cases c2 : s2 < 0 ∨ 20 < s2
  · refine y_qT (M := fun m => fX8_quoteAgain (x + 251) (nI t) s2 m) (code := 2) (r2 := 0) hh ?_ ?_ (by decide)
    · rw [fL_quoteAgain, fX7_quoteAgain, y_dT hC, if_neg c1, y_xcb0, y_dR, if_pos c2, y_xcbS 1, y_xchS 1, if_neg (by decide), if_pos rfl]
    · simp only [fX8_quoteAgain, fX8_isNoQuote, y_isTicket hB1 hn, if_neg c1, y_xb, if_neg y_n10, y_in, if_neg (y_niR c2), if_true, y_fails2, y_xk y_zt]
  obtain ⟨k, rfl, -, hk⟩ := y_rng (p := s2) (lo := 0) (hi := 20) (by decide) (fun q => c2 (Or.inl q)) (fun q => c2 (Or.inr q)) (by decide)
  have p := hI.2.1 t ht
  have e := hC.2.1 t ht
  have hw := hI.1.2.1
  have hwk := ywk_le p
  by_cases c3 : S t 5 = 0 ∧ S 16 1 + k < S t 6 + 9
  · have hm : ywk (S t) * k ≤ 36 * 20 := Nat.mul_le_mul hwk hk
    have n1 : ¬ nI (S t 3 + S t 4 + ywk (S t) * k) = -1 := y_nm1 (by have := p.2.2.1; have := p.2.2.2.1; omega)
    refine y_qA (M := fun m => fX8_quoteAgain (x + 251) (nI t) (nI k) m) (r := nI (S t 3 + S t 4 + ywk (S t) * k)) hh ?_ ?_
    · rw [fL_quoteAgain, fX7_quoteAgain, y_dT hC, if_neg c1, y_xcb0, y_dR, if_neg c2, y_xcb0, y_xk (y_in16 ht hn), y_cl ht hn, hC.1.2.1, y_costWeekByWeek p (by omega) e hk, y_xb, if_pos c3, if_neg n1, y_dS1, y_xcb0, y_xch0]
    · have hB2 : yM S J ((xw μ (x + 259) 0 (nI (S t 3 + S t 4 + ywk (S t) * k))) (x + 251 + 1)) := by rw [xw_row (by omega)]; exact hB1
      have hB3 := yM_7 (v := 0) hB2
      show fX8_quoteAgain (x + 251) (nI t) (nI k) _ = _
      rw [fX8_quoteAgain, y_m_nq hB2 hI (by omega) ht hk, y_xb, if_pos c3, if_pos rfl, if_pos c3, y_m_owed hB3 hn ht, y_xb]
      exact y_m_qloop hB3 hI ht hk k 0 xfu _ (by omega) (by unfold xfu; omega)
  · refine y_qT (M := fun m => fX8_quoteAgain (x + 251) (nI t) (nI k) m) (code := 3) (r2 := 0) hh ?_ ?_ (by decide)
    · rw [fL_quoteAgain, fX7_quoteAgain, y_dT hC, if_neg c1, y_xcb0, y_dR, if_neg c2, y_xcb0, y_xk (y_in16 ht hn), y_cl ht hn, hC.1.2.1, y_costWeekByWeek p (by omega) e hk, y_xb, if_neg c3, if_pos rfl, y_dS0, y_xcbS 4, y_xchS 4, if_neg (by decide), if_neg (by decide), if_pos rfl]
    · show fX8_quoteAgain (x + 251) (nI t) (nI k) _ = _
      rw [fX8_quoteAgain, y_m_nq hB1 hI (by omega) ht hk, y_xb, if_neg c3, if_neg y_n10, if_neg c3]
theorem y_L14 {x i : Nat} {μ : xM} (s1 s2 s3 : Int32) (h : yInv x i μ) (hi : i < 512) : ∃ μ1, gL_14 x (x + 251) (x + 259) s1 s2 s3 μ = some μ1 ∧ yInv x (i + 1) μ1 ∧ μ1 (x + 249) = μ (x + 249) := by
  have hh := h
  obtain ⟨⟨S, J, ⟨hI, hJ⟩, hC, hB⟩, -⟩ := h
  have hn := hI.1.1
  have hB1 : yM S J (μ (x + 251 + 1)) := hB
  rw [gL_14]
  by_cases c2 : s1 < 0 ∨ 20 < s1
  · refine y_qT (M := fun m => fX8_willBeLots (x + 251) s1 m) (code := 1) (r2 := 0) hh ?_ ?_ (by decide)
    · rw [fL_willBeLots, fX7_willBeLots, y_dR, if_pos c2, y_xcbS 1, y_xchS 1, if_pos rfl]
    · simp only [fX8_willBeLots, y_xb, y_in, if_neg (y_niR c2), if_true, y_fails1, if_neg y_n10]
  obtain ⟨k, rfl, -, hk⟩ := y_rng (p := s1) (lo := 0) (hi := 20) (by decide) (fun q => c2 (Or.inl q)) (fun q => c2 (Or.inr q)) (by decide)
  refine y_qA (M := fun m => fX8_willBeLots (x + 251) (nI k) m) (r := ysI (ylot S k) 0 (S 16 0)) hh ?_ ?_
  · rw [fL_willBeLots, fX7_willBeLots, y_dR, if_neg c2, y_xcb0, y_lotsByTerms hC hI (by omega) hk, y_xb, y_xch0]
  · have hB2 : yM S J ((xw μ (x + 259) 0 (ysI (ylot S k) 0 (S 16 0))) (x + 251 + 1)) := by rw [xw_row (by omega)]; exact hB1
    have hB3 := yM_7 (v := 0) hB2
    simp only [fX8_willBeLots, y_xb, y_in, if_pos (y_inR c2), if_neg y_n10, y_fails0, if_true, y_m_lotsIn hB3 hI (show 400 * i < 100000000 by omega) hk]
theorem y_L15 {x i : Nat} {μ : xM} (s1 s2 s3 : Int32) (h : yInv x i μ) (hi : i < 512) : ∃ μ1, gL_15 x (x + 251) (x + 259) s1 s2 s3 μ = some μ1 ∧ yInv x (i + 1) μ1 ∧ μ1 (x + 249) = μ (x + 249) := by
  have hh := h
  obtain ⟨⟨S, J, ⟨hI, hJ⟩, hC, hB⟩, -⟩ := h
  have hn := hI.1.1
  have hB1 : yM S J (μ (x + 251 + 1)) := hB
  rw [gL_15]
  by_cases c2 : s1 < 0 ∨ 20 < s1
  · refine y_qT (M := fun m => fX8_willBeLotsAgain (x + 251) s1 m) (code := 1) (r2 := 0) hh ?_ ?_ (by decide)
    · rw [fL_willBeLotsAgain, fX7_willBeLotsAgain, y_dR, if_pos c2, y_xcbS 1, y_xchS 1, if_pos rfl]
    · simp only [fX8_willBeLotsAgain, y_xb, y_in, if_neg (y_niR c2), if_true, y_fails1, if_neg y_n10]
  obtain ⟨k, rfl, -, hk⟩ := y_rng (p := s1) (lo := 0) (hi := 20) (by decide) (fun q => c2 (Or.inl q)) (fun q => c2 (Or.inr q)) (by decide)
  refine y_qA (M := fun m => fX8_willBeLotsAgain (x + 251) (nI k) m) (r := ysI (ylot S k) 0 (S 16 0)) hh ?_ ?_
  · rw [fL_willBeLotsAgain, fX7_willBeLotsAgain, y_dR, if_neg c2, y_xcb0, y_lotsWeekByWeek hC hI (by omega) hk, y_xb, y_xch0]
  · have hB2 : yM S J ((xw μ (x + 259) 0 (ysI (ylot S k) 0 (S 16 0))) (x + 251 + 1)) := by rw [xw_row (by omega)]; exact hB1
    have hB3 := yM_7 (v := 0) hB2
    simp only [fX8_willBeLotsAgain, y_xb, y_in, if_pos (y_inR c2), if_neg y_n10, y_fails0, if_true, y_m_lotsIn hB3 hI (show 400 * i < 100000000 by omega) hk]
theorem y_L16 {x i : Nat} {μ : xM} (s1 s2 s3 : Int32) (h : yInv x i μ) (hi : i < 512) : ∃ μ1, gL_16 x (x + 251) (x + 259) s1 s2 s3 μ = some μ1 ∧ yInv x (i + 1) μ1 ∧ μ1 (x + 249) = μ (x + 249) := by
  have hh := h
  obtain ⟨⟨S, J, ⟨hI, hJ⟩, hC, hB⟩, -⟩ := h
  have hn := hI.1.1
  have hB1 : yM S J (μ (x + 251 + 1)) := hB
  rw [gL_16]
  by_cases c1 : s1 < 0 ∨ nI (S 16 0) ≤ s1
  · refine y_qT (M := fun m => fX8_willReserve (x + 251) s1 s2 m) (code := 1) (r2 := 0) hh ?_ ?_ (by decide)
    · rw [fL_willReserve, fX7_willReserve, y_dT hC, if_pos c1, y_xcbS 3, y_xchS 3, if_pos rfl]
    · simp only [fX8_willReserve, y_isTicket hB1 hn, if_pos c1, y_xb, if_true, y_fails1, if_neg y_n10]
  obtain ⟨t, ht, rfl⟩ := y_nin (by omega) c1
  by_cases c2 : s2 < 0 ∨ 20 < s2
  · refine y_qT (M := fun m => fX8_willReserve (x + 251) (nI t) s2 m) (code := 2) (r2 := 0) hh ?_ ?_ (by decide)
    · rw [fL_willReserve, fX7_willReserve, y_dT hC, if_neg c1, y_xcb0, y_dR, if_pos c2, y_xcbS 1, y_xchS 1, if_neg (by decide), if_pos rfl]
    · simp only [fX8_willReserve, y_isTicket hB1 hn, if_neg c1, y_xb, if_neg y_n10, y_in, if_neg (y_niR c2), if_true, y_fails2]
  obtain ⟨k, rfl, -, hk⟩ := y_rng (p := s2) (lo := 0) (hi := 20) (by decide) (fun q => c2 (Or.inl q)) (fun q => c2 (Or.inr q)) (by decide)
  obtain ⟨p0, p1, p3, p4, p5, p6, p7, p8, -⟩ := hI.2.1 t ht
  have e := hC.2.1 t ht
  have h16 : t < 16 := by omega
  have b5 : S t 5 < 2147483648 := by omega
  obtain ⟨q0, q1, q2, q3, q4, q5, q6, q7, -⟩ := hB1.2.1 t ht
  have r4 : μ (x + 251 + 1) (11 + 11 * t + 4) = nI (S t 5) := q4
  have hne : x + 251 + 1 ≠ x + 251 := by omega
  have hne2 : x + 251 + 1 ≠ x + 259 := by omega
  by_cases c3 : S t 5 = 1
  · have r7 : μ (x + 251 + 1) (11 + 11 * t + 7) = nI (S t 8) := q7 c3
    refine y_qA (M := fun m => fX8_willReserve (x + 251) (nI t) (nI k) m) (r := nI (yfall (S t 8) k)) hh ?_ ?_
    · rw [fL_willReserve, fX7_willReserve, y_dT hC, if_neg c1, y_xcb0, y_dR, if_neg c2, y_xcb0, y_xk (y_in16 ht hn), y_cl ht hn, e 5 (by decide), y_i1 b5, if_pos c3, y_dS1, y_xcb0, y_xk (y_in16 ht hn), y_reserveBehind hk (e 8 (by decide)) (by omega), y_xb, y_xch0]
    · have hB2 : yM S J ((xw μ (x + 259) 0 (nI (yfall (S t 8) k))) (x + 251 + 1)) := by rw [xw_row (by omega)]; exact hB1
      simp only [fX8_willReserve, y_isTicket hB2 hn, if_neg c1, y_xb, if_neg y_n10, y_in, if_pos (y_inR c2), y_of4 h16, y_of7 h16, y_wn hne, y_wn hne2, r4, y_i1 b5, if_pos c3, y_fails0, if_true, r7]
      exact y_m_rloop hk k 0 xfu (S t 8) (by omega) (by unfold xfu; omega) (by omega)
  · refine y_qT (M := fun m => fX8_willReserve (x + 251) (nI t) (nI k) m) (code := 3) (r2 := 0) hh ?_ ?_ (by decide)
    · rw [fL_willReserve, fX7_willReserve, y_dT hC, if_neg c1, y_xcb0, y_dR, if_neg c2, y_xcb0, y_xk (y_in16 ht hn), y_cl ht hn, e 5 (by decide), y_i1 b5, if_neg c3, y_dS0, y_xcbS 4, y_xchS 4, if_neg (by decide), if_neg (by decide), if_pos rfl]
    · simp only [fX8_willReserve, y_isTicket hB1 hn, if_neg c1, y_xb, if_neg y_n10, y_in, if_pos (y_inR c2), y_of4 h16, y_wn hne, y_wn hne2, r4, y_i1 b5, if_neg c3, y_fails3]
theorem y_cnt {o n : Nat} {S : Nat → Nat → Nat} {s : Int32} (ho : o < 6) : ysI (fun t => if nI (S t 5) = s ∧ (nI o = -1 ∨ nI (S t 0) = nI o) then 1 else 0) 0 n = ysI (fun t => if nI (S t 5) = s ∧ nI (S t 0) = nI o then 1 else 0) 0 n := by
  refine ysI_ext (fun t _ _ => ?_)
  have h9 : ¬ nI o = -1 := y_nm1 (by omega)
  by_cases c3 : nI (S t 5) = s <;> by_cases c4 : nI (S t 0) = nI o <;> simp [c3, c4, h9]
theorem y_cntA {n : Nat} {S : Nat → Nat → Nat} {s : Int32} : ysI (fun t => if nI (S t 5) = s ∧ ((-1 : Int32) = -1 ∨ nI (S t 0) = -1) then 1 else 0) 0 n = ysI (fun t => if nI (S t 5) = s then 1 else 0) 0 n := by
  refine ysI_ext (fun t _ _ => ?_)
  by_cases c3 : nI (S t 5) = s <;> simp [c3]
theorem y_L17 {x i : Nat} {μ : xM} (s1 s2 s3 : Int32) (h : yInv x i μ) (hi : i < 512) : ∃ μ1, gL_17 x (x + 251) (x + 259) s1 s2 s3 μ = some μ1 ∧ yInv x (i + 1) μ1 ∧ μ1 (x + 249) = μ (x + 249) := by
  have hh := h
  obtain ⟨⟨S, J, ⟨hI, hJ⟩, hC, hB⟩, -⟩ := h
  have hn := hI.1.1
  have hB1 : yM S J (μ (x + 251 + 1)) := hB
  have hB3 : ∀ v : Int32, yM S J ((xw (xw μ (x + 259) 0 v) (x + 251) 7 0) (x + 251 + 1)) := fun v => yM_7 (by rw [xw_row (by omega)]; exact hB1)
  have hne : x + 251 + 1 ≠ x + 251 := by omega
  have hne2 : x + 251 + 1 ≠ x + 259 := by omega
  rw [gL_17]
  by_cases c1 : s1 < 0 ∨ 6 ≤ s1
  · have c1' : ¬ (0 ≤ s1 ∧ s1 ≤ 5) := by
      rintro ⟨u1, u2⟩
      rcases c1 with c1 | c1
      · exact Int32.not_lt.mpr u1 c1
      · have := Int32.le_trans c1 u2
        exact absurd this (by decide)
    refine y_qT (M := fun m => fX8_ownerOf (x + 251) s1 s2 m) (code := 1) (r2 := 0) hh ?_ ?_ (by decide)
    · rw [fL_ownerOf, fX7_ownerOf, y_own, y_xb, if_pos c1, if_pos rfl, y_xchS 0, if_pos rfl]
    · simp only [fX8_ownerOf, y_xb, y_in, if_neg c1', if_true, y_fails1, if_neg y_n10]
  obtain ⟨o, ho, rfl⟩ := y_nin (n := 6) (by decide) c1
  have c1' : 0 ≤ nI o ∧ nI o ≤ 5 := ⟨nI_pos' (by omega), show nI o ≤ nI 5 from (nI_leI (by omega) (by decide)).mpr (by omega)⟩
  have e1 : (187 : Int32) + nI o = nI (187 + o) := nI_add 187 o
  have e2 : (193 : Int32) + nI o = nI (193 + o) := nI_add 193 o
  have i1 : vp_in (nI (187 + o)) 199 := vp_in_nI (by omega) (by decide)
  have i2 : vp_in (nI (193 + o)) 199 := vp_in_nI (by omega) (by decide)
  have l1 : (nI (187 + o)).toNatClampNeg = 187 + o := nI_clamp (by omega)
  have l2 : (nI (193 + o)).toNatClampNeg = 193 + o := nI_clamp (by omega)
  have r1 : μ (x + 251 + 1) (187 + o) = J (1 + o) := (hB1.2.2 o ho).1
  have r2 : μ (x + 251 + 1) (193 + o) = J (7 + o) := (hB1.2.2 o ho).2
  have hc0 := (hC.2.2 o ho).1
  have hc1 := (hC.2.2 o ho).2
  have clo : (nI o).toNatClampNeg = o := nI_clamp (by omega)
  have vo : vp_in (nI o) 6 := vp_in_nI ho (by decide)
  by_cases c2 : s2 < 0 ∨ 6 < s2
  · refine y_qT (M := fun m => fX8_ownerOf (x + 251) (nI o) s2 m) (code := 2) (r2 := 0) hh ?_ ?_ (by decide)
    · rw [fL_ownerOf, fX7_ownerOf, y_own, y_xb, if_neg c1, if_neg y_n10, y_dR, if_pos c2, y_xcbS 1, y_xchS 1, if_neg (by decide), if_pos rfl]
    · simp only [fX8_ownerOf, y_xb, y_in, if_pos c1', if_neg (y_niR c2), if_true, y_fails2, if_neg y_n10]
  obtain ⟨k, rfl, -, hk⟩ := y_rng (p := s2) (lo := 0) (hi := 6) (by decide) (fun q => c2 (Or.inl q)) (fun q => c2 (Or.inr q)) (by decide)
  have hk' : k = 0 ∨ k = 1 ∨ k = 2 ∨ k = 3 ∨ k = 4 ∨ k = 5 ∨ k = 6 := by omega
  rcases hk' with rfl | rfl | rfl | rfl | rfl | rfl | rfl
  · refine y_qA (M := fun m => fX8_ownerOf (x + 251) (nI o) (nI 0) m) (r := ysI (fun t => if nI (S t 5) = 0 ∧ nI (S t 0) = nI o then 1 else 0) 0 (S 16 0)) hh ?_ ?_
    · rw [fL_ownerOf, fX7_ownerOf, y_own, y_xb, if_neg c1, if_neg y_n10, y_dR, if_neg c2, y_xcb0, if_pos (show nI 0 = 0 from rfl), y_countOf hC hn, y_xb, y_cnt ho, y_xch0]
    · simp only [fX8_ownerOf, y_xb, y_in, if_pos c1', if_pos (y_inR c2), if_neg y_n10, if_true, y_fails0, if_pos (show nI 0 = 0 from rfl), y_m_ofOwner (hB3 _) hn]
  · refine y_qA (M := fun m => fX8_ownerOf (x + 251) (nI o) (nI 1) m) (r := ysI (fun t => if nI (S t 5) = 0 ∧ nI (S t 0) = nI o then nI (S t 3) + nI (S t 4) else 0) 0 (S 16 0)) hh ?_ ?_
    · rw [fL_ownerOf, fX7_ownerOf, y_own, y_xb, if_neg c1, if_neg y_n10, y_dR, if_neg c2, y_xcb0, if_neg (show ¬ nI 1 = 0 by decide), if_pos (show nI 1 = 1 from rfl), y_owedBy hC hn, y_xb, y_xch0]
    · simp only [fX8_ownerOf, y_xb, y_in, if_pos c1', if_pos (y_inR c2), if_neg y_n10, if_true, y_fails0, if_neg (show ¬ nI 1 = 0 by decide), if_pos (show nI 1 = 1 from rfl), y_m_owedBy (hB3 _) hn]
  · refine y_qA (M := fun m => fX8_ownerOf (x + 251) (nI o) (nI 2) m) (r := ysI (fun t => if nI (S t 5) = 1 ∧ nI (S t 0) = nI o then 1 else 0) 0 (S 16 0)) hh ?_ ?_
    · rw [fL_ownerOf, fX7_ownerOf, y_own, y_xb, if_neg c1, if_neg y_n10, y_dR, if_neg c2, y_xcb0, if_neg (show ¬ nI 2 = 0 by decide), if_neg (show ¬ nI 2 = 1 by decide), if_pos (show nI 2 = 2 from rfl), y_countOf hC hn, y_xb, y_cnt ho, y_xch0]
    · simp only [fX8_ownerOf, y_xb, y_in, if_pos c1', if_pos (y_inR c2), if_neg y_n10, if_true, y_fails0, if_neg (show ¬ nI 2 = 0 by decide), if_neg (show ¬ nI 2 = 1 by decide), if_pos (show nI 2 = 2 from rfl), y_m_ofOwner (hB3 _) hn]
  · refine y_qA (M := fun m => fX8_ownerOf (x + 251) (nI o) (nI 3) m) (r := ysI (fun t => if nI (S t 5) = 2 ∧ nI (S t 0) = nI o then 1 else 0) 0 (S 16 0)) hh ?_ ?_
    · rw [fL_ownerOf, fX7_ownerOf, y_own, y_xb, if_neg c1, if_neg y_n10, y_dR, if_neg c2, y_xcb0, if_neg (show ¬ nI 3 = 0 by decide), if_neg (show ¬ nI 3 = 1 by decide), if_neg (show ¬ nI 3 = 2 by decide), if_pos (show nI 3 = 3 from rfl), y_countOf hC hn, y_xb, y_cnt ho, y_xch0]
    · simp only [fX8_ownerOf, y_xb, y_in, if_pos c1', if_pos (y_inR c2), if_neg y_n10, if_true, y_fails0, if_neg (show ¬ nI 3 = 0 by decide), if_neg (show ¬ nI 3 = 1 by decide), if_neg (show ¬ nI 3 = 2 by decide), if_pos (show nI 3 = 3 from rfl), y_m_ofOwner (hB3 _) hn]
  · refine y_qA (M := fun m => fX8_ownerOf (x + 251) (nI o) (nI 4) m) (r := ysI (fun t => if nI (S t 5) = 3 ∧ nI (S t 0) = nI o then 1 else 0) 0 (S 16 0)) hh ?_ ?_
    · rw [fL_ownerOf, fX7_ownerOf, y_own, y_xb, if_neg c1, if_neg y_n10, y_dR, if_neg c2, y_xcb0, if_neg (show ¬ nI 4 = 0 by decide), if_neg (show ¬ nI 4 = 1 by decide), if_neg (show ¬ nI 4 = 2 by decide), if_neg (show ¬ nI 4 = 3 by decide), if_pos (show nI 4 = 4 from rfl), y_countOf hC hn, y_xb, y_cnt ho, y_xch0]
    · simp only [fX8_ownerOf, y_xb, y_in, if_pos c1', if_pos (y_inR c2), if_neg y_n10, if_true, y_fails0, if_neg (show ¬ nI 4 = 0 by decide), if_neg (show ¬ nI 4 = 1 by decide), if_neg (show ¬ nI 4 = 2 by decide), if_neg (show ¬ nI 4 = 3 by decide), if_pos (show nI 4 = 4 from rfl), y_m_ofOwner (hB3 _) hn]
  · refine y_qA (M := fun m => fX8_ownerOf (x + 251) (nI o) (nI 5) m) (r := J (1 + o)) hh ?_ ?_
    · rw [fL_ownerOf, fX7_ownerOf, y_own, y_xb, if_neg c1, if_neg y_n10, y_dR, if_neg c2, y_xcb0, if_neg (show ¬ nI 5 = 0 by decide), if_neg (show ¬ nI 5 = 1 by decide), if_neg (show ¬ nI 5 = 2 by decide), if_neg (show ¬ nI 5 = 3 by decide), if_neg (show ¬ nI 5 = 4 by decide), if_pos (show nI 5 = 5 from rfl), y_xk vo, clo, hc0, y_xch0]
    · simp only [fX8_ownerOf, y_xb, y_in, if_pos c1', if_pos (y_inR c2), if_neg y_n10, if_true, y_fails0, if_neg (show ¬ nI 5 = 0 by decide), if_neg (show ¬ nI 5 = 1 by decide), if_neg (show ¬ nI 5 = 2 by decide), if_neg (show ¬ nI 5 = 3 by decide), if_neg (show ¬ nI 5 = 4 by decide), if_pos (show nI 5 = 5 from rfl), e1, y_xk i1, l1, y_wn hne, y_wn hne2, r1]
  · refine y_qA (M := fun m => fX8_ownerOf (x + 251) (nI o) (nI 6) m) (r := J (7 + o)) hh ?_ ?_
    · rw [fL_ownerOf, fX7_ownerOf, y_own, y_xb, if_neg c1, if_neg y_n10, y_dR, if_neg c2, y_xcb0, if_neg (show ¬ nI 6 = 0 by decide), if_neg (show ¬ nI 6 = 1 by decide), if_neg (show ¬ nI 6 = 2 by decide), if_neg (show ¬ nI 6 = 3 by decide), if_neg (show ¬ nI 6 = 4 by decide), if_neg (show ¬ nI 6 = 5 by decide), y_xk vo, clo, hc1, y_xch0]
    · simp only [fX8_ownerOf, y_xb, y_in, if_pos c1', if_pos (y_inR c2), if_neg y_n10, if_true, y_fails0, if_neg (show ¬ nI 6 = 0 by decide), if_neg (show ¬ nI 6 = 1 by decide), if_neg (show ¬ nI 6 = 2 by decide), if_neg (show ¬ nI 6 = 3 by decide), if_neg (show ¬ nI 6 = 4 by decide), if_neg (show ¬ nI 6 = 5 by decide), e2, y_xk i2, l2, y_wn hne, y_wn hne2, r2]
theorem y_L18 {x i : Nat} {μ : xM} (s1 s2 s3 : Int32) (h : yInv x i μ) (hi : i < 512) : ∃ μ1, gL_18 x (x + 251) (x + 259) s1 s2 s3 μ = some μ1 ∧ yInv x (i + 1) μ1 ∧ μ1 (x + 249) = μ (x + 249) := by
  have hh := h
  obtain ⟨⟨S, J, ⟨hI, hJ⟩, hC, hB⟩, -⟩ := h
  have hn := hI.1.1
  have hne : x + 251 + 1 ≠ x + 251 := by omega
  have hB1 : yM S J (μ (x + 251 + 1)) := hB
  obtain ⟨g0, g1, g2, g3, g4, g5, g6, g7, g8, -⟩ := hB1.1
  refine ⟨xw μ (x + 251) 7 0, ?_, yInv_q hh (fun a a1 _ => xw_row a1) (fun k k7 => y_wk k7), xw_row (by omega)⟩
  by_cases c : s1 = 0
  · rw [gL_18, if_pos c, fX7_cash, if_pos rfl, y_xb, if_pos c, fX8_cash, if_pos rfl, y_xb, y_wn hne, g4, hC.1.2.2.2.2, if_pos rfl]
  · rw [gL_18, if_neg c, fX7_cash, if_neg y_n10, y_cashFromAccounts hC hn, y_xb, y_xb, if_neg c, fX8_cash, if_neg y_n10, y_xb, y_wn hne, y_wn hne, y_wn hne, y_wn hne, g5, g6, g7, g8]
    exact if_pos rfl
theorem y_L19 {x i : Nat} {μ : xM} (s1 s2 s3 : Int32) (h : yInv x i μ) (hi : i < 512) : ∃ μ1, gL_19 x (x + 251) (x + 259) s1 s2 s3 μ = some μ1 ∧ yInv x (i + 1) μ1 ∧ μ1 (x + 249) = μ (x + 249) := by
  have hh := h
  obtain ⟨⟨S, J, ⟨hI, hJ⟩, hC, hB⟩, -⟩ := h
  have hn := hI.1.1
  have hne : x + 251 + 1 ≠ x + 251 := by omega
  have hB1 : yM S J (μ (x + 251 + 1)) := hB
  obtain ⟨g0, g1, g2, g3, g4, g5, g6, g7, g8, -⟩ := hB1.1
  refine ⟨xw μ (x + 251) 7 0, ?_, yInv_q hh (fun a a1 _ => xw_row a1) (fun k k7 => y_wk k7), xw_row (by omega)⟩
  have hm : fX8_isWell (x + 251) μ = some (if J 0 = ycash S J then 1 else 0, xw μ (x + 251) 7 0) := by
    rw [fX8_isWell, y_wn hne, y_wn hne, y_wn hne, y_wn hne, y_wn hne, g4, g5, g6, g7, g8]
    by_cases c : J 0 = ycash S J
    · rw [if_pos c]; exact if_pos c
    · rw [if_neg c]; exact if_neg c
  have hc : fX7_isWell x μ = some (if J 0 = ycash S J then 1 else 0, μ) := by
    rw [fX7_isWell, y_cashFromAccounts hC hn, y_xb, hC.1.2.2.2.2]
    by_cases c : J 0 = ycash S J
    · rw [if_pos c, if_pos c, y_isCostTheSame hC hI (by omega), y_xb, if_neg y_n10, show (20 : Int32) = nI 20 from rfl, y_lotsByTerms hC hI (by omega) (by decide), y_xb, y_lotsWeekByWeek hC hI (by omega) (by decide), y_xb, if_pos rfl]
    · rw [if_neg c, if_neg c]
  rw [gL_19, hc, y_xb, hm, y_xb, if_pos rfl]
theorem y_L24 {x i : Nat} {μ : xM} (s1 s2 s3 : Int32) (h : yInv x i μ) (hi : i < 512) : ∃ μ1, gL_24 x (x + 251) (x + 259) s1 s2 s3 μ = some μ1 ∧ yInv x (i + 1) μ1 ∧ μ1 (x + 249) = μ (x + 249) := by
  have hE := h.2.2.2.2.2.1
  refine ⟨xw μ (x + 251) 7 0, ?_, yInv_q h (fun a a1 _ => xw_row a1) (fun k k7 => y_wk k7), xw_row (by omega)⟩
  rw [gL_24, fX7_errorPosition, y_xb, fX8_errorPosition, y_xb, y_wk (by decide), hE, if_pos rfl]
theorem y_L26 {x i : Nat} {μ : xM} (s1 s2 s3 : Int32) (h : yInv x i μ) (hi : i < 512) : ∃ μ1, gL_26 x (x + 251) (x + 259) s1 s2 s3 μ = some μ1 ∧ yInv x (i + 1) μ1 ∧ μ1 (x + 249) = μ (x + 249) := by
  have hh := h
  obtain ⟨⟨S, J, ⟨hI, hJ⟩, hC, hB⟩, ⟨q, c, -, -, -, hh2, hh3, -⟩, -, -, ⟨L, -, hl1, hl2, -⟩, -⟩ := h
  have hn := hI.1.1
  have hB1 : yM S J (μ (x + 251 + 1)) := hB
  have hB3 : ∀ v : Int32, yM S J ((xw (xw μ (x + 259) 0 v) (x + 251) 7 0) (x + 251 + 1)) := fun v => yM_7 (by rw [xw_row (by omega)]; exact hB1)
  have hne : x + 251 + 1 ≠ x + 251 := by omega
  have hne2 : x + 251 + 1 ≠ x + 259 := by omega
  have hne3 : x + 251 ≠ x + 259 := by omega
  obtain ⟨g0, g1, g2, g3, g4, g5, g6, g7, g8, g9, g10⟩ := hB1.1
  have a20 : nI 2 - (2 : Int32) = 0 := by decide
  have a31 : nI 3 - (2 : Int32) = 1 := by decide
  have a42 : nI 4 - (2 : Int32) = 2 := by decide
  have a53 : nI 5 - (2 : Int32) = 3 := by decide
  rw [gL_26]
  by_cases c2 : s1 < 0 ∨ 15 < s1
  · refine y_qT (M := fun m => fX8_account (x + 251) s1 m) (code := 1) (r2 := 0) hh ?_ ?_ (by decide)
    · rw [fL_account, fX7_account, y_dR, if_pos c2, y_xcbS 1, y_xchS 1, if_pos rfl]
    · simp only [fX8_account, y_xb, y_in, if_neg (y_niR c2), if_true, y_fails1, if_neg y_n10]
  obtain ⟨k, rfl, -, hk⟩ := y_rng (p := s1) (lo := 0) (hi := 15) (by decide) (fun q => c2 (Or.inl q)) (fun q => c2 (Or.inr q)) (by decide)
  have hk' : k = 0 ∨ k = 1 ∨ k = 2 ∨ k = 3 ∨ k = 4 ∨ k = 5 ∨ k = 6 ∨ k = 7 ∨ k = 8 ∨ k = 9 ∨ k = 10 ∨ k = 11 ∨ k = 12 ∨ k = 13 ∨ k = 14 ∨ k = 15 := by omega
  rcases hk' with rfl | rfl | rfl | rfl | rfl | rfl | rfl | rfl | rfl | rfl | rfl | rfl | rfl | rfl | rfl | rfl
  · refine y_qA (M := fun m => fX8_account (x + 251) (nI 0) m) (r := nI (S 16 1)) hh ?_ ?_
    · rw [fL_account, fX7_account, y_dR, if_neg c2, y_xcb0, if_pos (show nI 0 = 0 from rfl), hC.1.2.1, y_xch0]
    · simp only [fX8_account, y_xb, y_in, if_pos (y_inR c2), if_neg y_n10, if_true, y_fails0, if_pos (show nI 0 = 0 from rfl), y_wn hne, y_wn hne2, g0]
  · refine y_qA (M := fun m => fX8_account (x + 251) (nI 1) m) (r := nI (S 16 0)) hh ?_ ?_
    · rw [fL_account, fX7_account, y_dR, if_neg c2, y_xcb0, if_neg (show ¬ nI 1 = 0 by decide), if_pos (show nI 1 = 1 from rfl), hC.1.1, y_xch0]
    · simp only [fX8_account, y_xb, y_in, if_pos (y_inR c2), if_neg y_n10, if_true, y_fails0, if_neg (show ¬ nI 1 = 0 by decide), if_pos (show nI 1 = 1 from rfl), y_wn hne, y_wn hne2, g1]
  · refine y_qA (M := fun m => fX8_account (x + 251) (nI 2) m) (r := ysI (fun t => if nI (S t 5) = 0 then 1 else 0) 0 (S 16 0)) hh ?_ ?_
    · rw [fL_account, fX7_account, y_dR, if_neg c2, y_xcb0, if_neg (show ¬ nI 2 = 0 by decide), if_neg (show ¬ nI 2 = 1 by decide), if_pos (show nI 2 = 2 from rfl), y_countOf hC hn, y_xb, y_cntA, y_xch0]
    · simp only [fX8_account, y_xb, y_in, if_pos (y_inR c2), if_neg y_n10, if_true, y_fails0, if_neg (show ¬ nI 2 = 0 by decide), if_neg (show ¬ nI 2 = 1 by decide), if_pos (show nI 2 = 2 from rfl), a20, y_m_many (hB3 _) hn]
  · refine y_qA (M := fun m => fX8_account (x + 251) (nI 3) m) (r := ysI (fun t => if nI (S t 5) = 1 then 1 else 0) 0 (S 16 0)) hh ?_ ?_
    · rw [fL_account, fX7_account, y_dR, if_neg c2, y_xcb0, if_neg (show ¬ nI 3 = 0 by decide), if_neg (show ¬ nI 3 = 1 by decide), if_neg (show ¬ nI 3 = 2 by decide), if_pos (show nI 3 = 3 from rfl), y_countOf hC hn, y_xb, y_cntA, y_xch0]
    · simp only [fX8_account, y_xb, y_in, if_pos (y_inR c2), if_neg y_n10, if_true, y_fails0, if_neg (show ¬ nI 3 = 0 by decide), if_neg (show ¬ nI 3 = 1 by decide), if_neg (show ¬ nI 3 = 2 by decide), if_pos (show nI 3 = 3 from rfl), a31, y_m_many (hB3 _) hn]
  · refine y_qA (M := fun m => fX8_account (x + 251) (nI 4) m) (r := ysI (fun t => if nI (S t 5) = 2 then 1 else 0) 0 (S 16 0)) hh ?_ ?_
    · rw [fL_account, fX7_account, y_dR, if_neg c2, y_xcb0, if_neg (show ¬ nI 4 = 0 by decide), if_neg (show ¬ nI 4 = 1 by decide), if_neg (show ¬ nI 4 = 2 by decide), if_neg (show ¬ nI 4 = 3 by decide), if_pos (show nI 4 = 4 from rfl), y_countOf hC hn, y_xb, y_cntA, y_xch0]
    · simp only [fX8_account, y_xb, y_in, if_pos (y_inR c2), if_neg y_n10, if_true, y_fails0, if_neg (show ¬ nI 4 = 0 by decide), if_neg (show ¬ nI 4 = 1 by decide), if_neg (show ¬ nI 4 = 2 by decide), if_neg (show ¬ nI 4 = 3 by decide), if_pos (show nI 4 = 4 from rfl), a42, y_m_many (hB3 _) hn]
  · refine y_qA (M := fun m => fX8_account (x + 251) (nI 5) m) (r := ysI (fun t => if nI (S t 5) = 3 then 1 else 0) 0 (S 16 0)) hh ?_ ?_
    · rw [fL_account, fX7_account, y_dR, if_neg c2, y_xcb0, if_neg (show ¬ nI 5 = 0 by decide), if_neg (show ¬ nI 5 = 1 by decide), if_neg (show ¬ nI 5 = 2 by decide), if_neg (show ¬ nI 5 = 3 by decide), if_neg (show ¬ nI 5 = 4 by decide), if_pos (show nI 5 = 5 from rfl), y_countOf hC hn, y_xb, y_cntA, y_xch0]
    · simp only [fX8_account, y_xb, y_in, if_pos (y_inR c2), if_neg y_n10, if_true, y_fails0, if_neg (show ¬ nI 5 = 0 by decide), if_neg (show ¬ nI 5 = 1 by decide), if_neg (show ¬ nI 5 = 2 by decide), if_neg (show ¬ nI 5 = 3 by decide), if_neg (show ¬ nI 5 = 4 by decide), if_pos (show nI 5 = 5 from rfl), a53, y_m_many (hB3 _) hn]
  · refine y_qA (M := fun m => fX8_account (x + 251) (nI 6) m) (r := ysI (fun t => nI (S t 2)) 0 (S 16 0)) hh ?_ ?_
    · rw [fL_account, fX7_account, y_dR, if_neg c2, y_xcb0, if_neg (show ¬ nI 6 = 0 by decide), if_neg (show ¬ nI 6 = 1 by decide), if_neg (show ¬ nI 6 = 2 by decide), if_neg (show ¬ nI 6 = 3 by decide), if_neg (show ¬ nI 6 = 4 by decide), if_neg (show ¬ nI 6 = 5 by decide), if_pos (show nI 6 = 6 from rfl), y_sumOfLent hC hn, y_xb, y_xch0]
    · simp only [fX8_account, y_xb, y_in, if_pos (y_inR c2), if_neg y_n10, if_true, y_fails0, if_neg (show ¬ nI 6 = 0 by decide), if_neg (show ¬ nI 6 = 1 by decide), if_neg (show ¬ nI 6 = 2 by decide), if_neg (show ¬ nI 6 = 3 by decide), if_neg (show ¬ nI 6 = 4 by decide), if_neg (show ¬ nI 6 = 5 by decide), if_pos (show nI 6 = 6 from rfl), y_wn hne, y_wn hne2, g5]
  · refine y_qA (M := fun m => fX8_account (x + 251) (nI 7) m) (r := ysI (fun t => nI (S t 9)) 0 (S 16 0)) hh ?_ ?_
    · rw [fL_account, fX7_account, y_dR, if_neg c2, y_xcb0, if_neg (show ¬ nI 7 = 0 by decide), if_neg (show ¬ nI 7 = 1 by decide), if_neg (show ¬ nI 7 = 2 by decide), if_neg (show ¬ nI 7 = 3 by decide), if_neg (show ¬ nI 7 = 4 by decide), if_neg (show ¬ nI 7 = 5 by decide), if_neg (show ¬ nI 7 = 6 by decide), if_pos (show nI 7 = 7 from rfl), y_sumOfPaid hC hn, y_xb, y_xch0]
    · simp only [fX8_account, y_xb, y_in, if_pos (y_inR c2), if_neg y_n10, if_true, y_fails0, if_neg (show ¬ nI 7 = 0 by decide), if_neg (show ¬ nI 7 = 1 by decide), if_neg (show ¬ nI 7 = 2 by decide), if_neg (show ¬ nI 7 = 3 by decide), if_neg (show ¬ nI 7 = 4 by decide), if_neg (show ¬ nI 7 = 5 by decide), if_neg (show ¬ nI 7 = 6 by decide), if_pos (show nI 7 = 7 from rfl), y_wn hne, y_wn hne2, g6]
  · refine y_qA (M := fun m => fX8_account (x + 251) (nI 8) m) (r := ysI (fun t => nI (S t 11)) 0 (S 16 0)) hh ?_ ?_
    · rw [fL_account, fX7_account, y_dR, if_neg c2, y_xcb0, if_neg (show ¬ nI 8 = 0 by decide), if_neg (show ¬ nI 8 = 1 by decide), if_neg (show ¬ nI 8 = 2 by decide), if_neg (show ¬ nI 8 = 3 by decide), if_neg (show ¬ nI 8 = 4 by decide), if_neg (show ¬ nI 8 = 5 by decide), if_neg (show ¬ nI 8 = 6 by decide), if_neg (show ¬ nI 8 = 7 by decide), if_pos (show nI 8 = 8 from rfl), y_sumOfPrices hC hn, y_xb, y_xch0]
    · simp only [fX8_account, y_xb, y_in, if_pos (y_inR c2), if_neg y_n10, if_true, y_fails0, if_neg (show ¬ nI 8 = 0 by decide), if_neg (show ¬ nI 8 = 1 by decide), if_neg (show ¬ nI 8 = 2 by decide), if_neg (show ¬ nI 8 = 3 by decide), if_neg (show ¬ nI 8 = 4 by decide), if_neg (show ¬ nI 8 = 5 by decide), if_neg (show ¬ nI 8 = 6 by decide), if_neg (show ¬ nI 8 = 7 by decide), if_pos (show nI 8 = 8 from rfl), y_wn hne, y_wn hne2, g7]
  · refine y_qA (M := fun m => fX8_account (x + 251) (nI 9) m) (r := ysI (fun j => J (7 + j)) 0 6) hh ?_ ?_
    · rw [fL_account, fX7_account, y_dR, if_neg c2, y_xcb0, if_neg (show ¬ nI 9 = 0 by decide), if_neg (show ¬ nI 9 = 1 by decide), if_neg (show ¬ nI 9 = 2 by decide), if_neg (show ¬ nI 9 = 3 by decide), if_neg (show ¬ nI 9 = 4 by decide), if_neg (show ¬ nI 9 = 5 by decide), if_neg (show ¬ nI 9 = 6 by decide), if_neg (show ¬ nI 9 = 7 by decide), if_neg (show ¬ nI 9 = 8 by decide), if_pos (show nI 9 = 9 from rfl), y_sumOfClaimed hC, y_xb, y_xch0]
    · simp only [fX8_account, y_xb, y_in, if_pos (y_inR c2), if_neg y_n10, if_true, y_fails0, if_neg (show ¬ nI 9 = 0 by decide), if_neg (show ¬ nI 9 = 1 by decide), if_neg (show ¬ nI 9 = 2 by decide), if_neg (show ¬ nI 9 = 3 by decide), if_neg (show ¬ nI 9 = 4 by decide), if_neg (show ¬ nI 9 = 5 by decide), if_neg (show ¬ nI 9 = 6 by decide), if_neg (show ¬ nI 9 = 7 by decide), if_neg (show ¬ nI 9 = 8 by decide), if_pos (show nI 9 = 9 from rfl), y_wn hne, y_wn hne2, g8]
  · refine y_qA (M := fun m => fX8_account (x + 251) (nI 10) m) (r := ysI (fun j => J (1 + j)) 0 6) hh ?_ ?_
    · rw [fL_account, fX7_account, y_dR, if_neg c2, y_xcb0, if_neg (show ¬ nI 10 = 0 by decide), if_neg (show ¬ nI 10 = 1 by decide), if_neg (show ¬ nI 10 = 2 by decide), if_neg (show ¬ nI 10 = 3 by decide), if_neg (show ¬ nI 10 = 4 by decide), if_neg (show ¬ nI 10 = 5 by decide), if_neg (show ¬ nI 10 = 6 by decide), if_neg (show ¬ nI 10 = 7 by decide), if_neg (show ¬ nI 10 = 8 by decide), if_neg (show ¬ nI 10 = 9 by decide), if_pos (show nI 10 = 10 from rfl), y_sumOfLeft hC, y_xb, y_xch0]
    · simp only [fX8_account, y_xb, y_in, if_pos (y_inR c2), if_neg y_n10, if_true, y_fails0, if_neg (show ¬ nI 10 = 0 by decide), if_neg (show ¬ nI 10 = 1 by decide), if_neg (show ¬ nI 10 = 2 by decide), if_neg (show ¬ nI 10 = 3 by decide), if_neg (show ¬ nI 10 = 4 by decide), if_neg (show ¬ nI 10 = 5 by decide), if_neg (show ¬ nI 10 = 6 by decide), if_neg (show ¬ nI 10 = 7 by decide), if_neg (show ¬ nI 10 = 8 by decide), if_neg (show ¬ nI 10 = 9 by decide), if_pos (show nI 10 = 10 from rfl), y_m_leftAll (hB3 _)]
  · refine y_qA (M := fun m => fX8_account (x + 251) (nI 11) m) (r := ysI (fun t => nI (yloss (S t))) 0 (S 16 0)) hh ?_ ?_
    · rw [fL_account, fX7_account, y_dR, if_neg c2, y_xcb0, if_neg (show ¬ nI 11 = 0 by decide), if_neg (show ¬ nI 11 = 1 by decide), if_neg (show ¬ nI 11 = 2 by decide), if_neg (show ¬ nI 11 = 3 by decide), if_neg (show ¬ nI 11 = 4 by decide), if_neg (show ¬ nI 11 = 5 by decide), if_neg (show ¬ nI 11 = 6 by decide), if_neg (show ¬ nI 11 = 7 by decide), if_neg (show ¬ nI 11 = 8 by decide), if_neg (show ¬ nI 11 = 9 by decide), if_neg (show ¬ nI 11 = 10 by decide), if_pos (show nI 11 = 11 from rfl), y_sumOfLosses hC hI, y_xb, y_xch0]
    · simp only [fX8_account, y_xb, y_in, if_pos (y_inR c2), if_neg y_n10, if_true, y_fails0, if_neg (show ¬ nI 11 = 0 by decide), if_neg (show ¬ nI 11 = 1 by decide), if_neg (show ¬ nI 11 = 2 by decide), if_neg (show ¬ nI 11 = 3 by decide), if_neg (show ¬ nI 11 = 4 by decide), if_neg (show ¬ nI 11 = 5 by decide), if_neg (show ¬ nI 11 = 6 by decide), if_neg (show ¬ nI 11 = 7 by decide), if_neg (show ¬ nI 11 = 8 by decide), if_neg (show ¬ nI 11 = 9 by decide), if_neg (show ¬ nI 11 = 10 by decide), if_pos (show nI 11 = 11 from rfl), y_wn hne, y_wn hne2, g9]
  · refine y_qA (M := fun m => fX8_account (x + 251) (nI 12) m) (r := nI (S 16 2)) hh ?_ ?_
    · rw [fL_account, fX7_account, y_dR, if_neg c2, y_xcb0, if_neg (show ¬ nI 12 = 0 by decide), if_neg (show ¬ nI 12 = 1 by decide), if_neg (show ¬ nI 12 = 2 by decide), if_neg (show ¬ nI 12 = 3 by decide), if_neg (show ¬ nI 12 = 4 by decide), if_neg (show ¬ nI 12 = 5 by decide), if_neg (show ¬ nI 12 = 6 by decide), if_neg (show ¬ nI 12 = 7 by decide), if_neg (show ¬ nI 12 = 8 by decide), if_neg (show ¬ nI 12 = 9 by decide), if_neg (show ¬ nI 12 = 10 by decide), if_neg (show ¬ nI 12 = 11 by decide), if_pos (show nI 12 = 12 from rfl), hC.1.2.2.1, y_xch0]
    · simp only [fX8_account, y_xb, y_in, if_pos (y_inR c2), if_neg y_n10, if_true, y_fails0, if_neg (show ¬ nI 12 = 0 by decide), if_neg (show ¬ nI 12 = 1 by decide), if_neg (show ¬ nI 12 = 2 by decide), if_neg (show ¬ nI 12 = 3 by decide), if_neg (show ¬ nI 12 = 4 by decide), if_neg (show ¬ nI 12 = 5 by decide), if_neg (show ¬ nI 12 = 6 by decide), if_neg (show ¬ nI 12 = 7 by decide), if_neg (show ¬ nI 12 = 8 by decide), if_neg (show ¬ nI 12 = 9 by decide), if_neg (show ¬ nI 12 = 10 by decide), if_neg (show ¬ nI 12 = 11 by decide), if_pos (show nI 12 = 12 from rfl), y_wn hne, y_wn hne2, g2]
  · refine y_qA (M := fun m => fX8_account (x + 251) (nI 13) m) (r := nI (S 16 3)) hh ?_ ?_
    · rw [fL_account, fX7_account, y_dR, if_neg c2, y_xcb0, if_neg (show ¬ nI 13 = 0 by decide), if_neg (show ¬ nI 13 = 1 by decide), if_neg (show ¬ nI 13 = 2 by decide), if_neg (show ¬ nI 13 = 3 by decide), if_neg (show ¬ nI 13 = 4 by decide), if_neg (show ¬ nI 13 = 5 by decide), if_neg (show ¬ nI 13 = 6 by decide), if_neg (show ¬ nI 13 = 7 by decide), if_neg (show ¬ nI 13 = 8 by decide), if_neg (show ¬ nI 13 = 9 by decide), if_neg (show ¬ nI 13 = 10 by decide), if_neg (show ¬ nI 13 = 11 by decide), if_neg (show ¬ nI 13 = 12 by decide), if_pos (show nI 13 = 13 from rfl), hC.1.2.2.2.1, y_xch0]
    · simp only [fX8_account, y_xb, y_in, if_pos (y_inR c2), if_neg y_n10, if_true, y_fails0, if_neg (show ¬ nI 13 = 0 by decide), if_neg (show ¬ nI 13 = 1 by decide), if_neg (show ¬ nI 13 = 2 by decide), if_neg (show ¬ nI 13 = 3 by decide), if_neg (show ¬ nI 13 = 4 by decide), if_neg (show ¬ nI 13 = 5 by decide), if_neg (show ¬ nI 13 = 6 by decide), if_neg (show ¬ nI 13 = 7 by decide), if_neg (show ¬ nI 13 = 8 by decide), if_neg (show ¬ nI 13 = 9 by decide), if_neg (show ¬ nI 13 = 10 by decide), if_neg (show ¬ nI 13 = 11 by decide), if_neg (show ¬ nI 13 = 12 by decide), if_pos (show nI 13 = 13 from rfl), y_wn hne, y_wn hne2, g3]
  · refine y_qA (M := fun m => fX8_account (x + 251) (nI 14) m) (r := nI L) hh ?_ ?_
    · rw [fL_account, fX7_account, y_dR, if_neg c2, y_xcb0, if_neg (show ¬ nI 14 = 0 by decide), if_neg (show ¬ nI 14 = 1 by decide), if_neg (show ¬ nI 14 = 2 by decide), if_neg (show ¬ nI 14 = 3 by decide), if_neg (show ¬ nI 14 = 4 by decide), if_neg (show ¬ nI 14 = 5 by decide), if_neg (show ¬ nI 14 = 6 by decide), if_neg (show ¬ nI 14 = 7 by decide), if_neg (show ¬ nI 14 = 8 by decide), if_neg (show ¬ nI 14 = 9 by decide), if_neg (show ¬ nI 14 = 10 by decide), if_neg (show ¬ nI 14 = 11 by decide), if_neg (show ¬ nI 14 = 12 by decide), if_neg (show ¬ nI 14 = 13 by decide), if_pos (show nI 14 = 14 from rfl), hl1, y_xch0]
    · simp only [fX8_account, y_xb, y_in, if_pos (y_inR c2), if_neg y_n10, if_true, y_fails0, if_neg (show ¬ nI 14 = 0 by decide), if_neg (show ¬ nI 14 = 1 by decide), if_neg (show ¬ nI 14 = 2 by decide), if_neg (show ¬ nI 14 = 3 by decide), if_neg (show ¬ nI 14 = 4 by decide), if_neg (show ¬ nI 14 = 5 by decide), if_neg (show ¬ nI 14 = 6 by decide), if_neg (show ¬ nI 14 = 7 by decide), if_neg (show ¬ nI 14 = 8 by decide), if_neg (show ¬ nI 14 = 9 by decide), if_neg (show ¬ nI 14 = 10 by decide), if_neg (show ¬ nI 14 = 11 by decide), if_neg (show ¬ nI 14 = 12 by decide), if_neg (show ¬ nI 14 = 13 by decide), if_pos (show nI 14 = 14 from rfl), y_wk (show (13 : Nat) ≠ 7 by decide), y_wn hne3, hl2]
  · refine y_qA (M := fun m => fX8_account (x + 251) (nI 15) m) (r := nI c) hh ?_ ?_
    · rw [fL_account, fX7_account, y_dR, if_neg c2, y_xcb0, if_neg (show ¬ nI 15 = 0 by decide), if_neg (show ¬ nI 15 = 1 by decide), if_neg (show ¬ nI 15 = 2 by decide), if_neg (show ¬ nI 15 = 3 by decide), if_neg (show ¬ nI 15 = 4 by decide), if_neg (show ¬ nI 15 = 5 by decide), if_neg (show ¬ nI 15 = 6 by decide), if_neg (show ¬ nI 15 = 7 by decide), if_neg (show ¬ nI 15 = 8 by decide), if_neg (show ¬ nI 15 = 9 by decide), if_neg (show ¬ nI 15 = 10 by decide), if_neg (show ¬ nI 15 = 11 by decide), if_neg (show ¬ nI 15 = 12 by decide), if_neg (show ¬ nI 15 = 13 by decide), if_neg (show ¬ nI 15 = 14 by decide), hh2, y_xch0]
    · simp only [fX8_account, y_xb, y_in, if_pos (y_inR c2), if_neg y_n10, if_true, y_fails0, if_neg (show ¬ nI 15 = 0 by decide), if_neg (show ¬ nI 15 = 1 by decide), if_neg (show ¬ nI 15 = 2 by decide), if_neg (show ¬ nI 15 = 3 by decide), if_neg (show ¬ nI 15 = 4 by decide), if_neg (show ¬ nI 15 = 5 by decide), if_neg (show ¬ nI 15 = 6 by decide), if_neg (show ¬ nI 15 = 7 by decide), if_neg (show ¬ nI 15 = 8 by decide), if_neg (show ¬ nI 15 = 9 by decide), if_neg (show ¬ nI 15 = 10 by decide), if_neg (show ¬ nI 15 = 11 by decide), if_neg (show ¬ nI 15 = 12 by decide), if_neg (show ¬ nI 15 = 13 by decide), if_neg (show ¬ nI 15 = 14 by decide), y_wk (show (5 : Nat) ≠ 7 by decide), y_wn hne3, hh3]
