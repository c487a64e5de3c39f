/-! THE PURE PART: the calls, one by one -/
theorem yex_1 : yex (-1) = 1 := by unfold yex; rw [if_pos rfl]
theorem yex_2 : yex (-2) = 2 := by unfold yex; rw [if_neg (by decide), if_neg (by decide)]
theorem yex_3 : yex (-3) = 4 := by unfold yex; rw [if_neg (by decide), if_pos rfl]
theorem yth_1 {K : Int32} : yth K (-1) = 1 := by unfold yth; rw [if_neg (fun q => absurd q.1 (by decide))]
theorem yth_2 {K : Int32} (h : K = 112 ∨ K = 121 ∨ K = 115) : yth K (-2) = 2 := by unfold yth; rw [if_pos ⟨rfl, h⟩]
theorem yth_2n {K : Int32} (h : ¬ (K = 112 ∨ K = 121 ∨ K = 115)) : yth K (-2) = 1 := by unfold yth; rw [if_neg (fun q => h q.2)]
theorem yla_3 {K : Int32} (h : K = 112 ∨ K = 121 ∨ K = 115) : yla K = 3 := by unfold yla; rw [if_pos h]
theorem yla_2 {K : Int32} (h : ¬ (K = 112 ∨ K = 121 ∨ K = 115)) : yla K = 2 := by unfold yla; rw [if_neg h]
theorem y_L0 {x i : Nat} {μ : xM} (s1 s2 s3 : Int32) (h : yInv x i μ) (hi : i < 512) : ∃ μ1, gL_0 x (x + 251) (x + 259) s1 s2 s3 μ = some μ1 ∧ yInv x (i + 1) μ1 ∧ μ1 (x + 249) = μ (x + 249) := by
  rw [gL_0, fL_pledge, fX7_pledge]
  refine y_chg (K := 112) (M := fun m => fX8_pledge (x + 251) s1 s2 s3 m) h hi (Or.inr (Or.inr (Or.inr (Or.inr (Or.inl rfl))))) (y_charC 112 (by decide)) (fun W S J b μ' ν hW hI hC hB => y_m_pledge hB hI s1 s2 s3) (fun v m hr => ⟨fun hv => ?_, fun hv => ?_⟩)
  · rcases hr with ⟨rfl, q⟩ | ⟨rfl, q⟩ | ⟨rfl, q⟩ | q | q
    · rw [yex_1, yth_1]; rfl
    · rw [yex_2, yth_2 (Or.inl rfl)]; rfl
    · exact absurd q (by decide)
    · exact (y_irr hv q.1).elim
    · rw [q] at hv; exact absurd hv (by decide)
  · rw [yla_3 (Or.inl rfl)]; rfl
theorem y_L1 {x i : Nat} {μ : xM} (s1 s2 s3 : Int32) (h : yInv x i μ) (hi : i < 512) : ∃ μ1, gL_1 x (x + 251) (x + 259) s1 s2 s3 μ = some μ1 ∧ yInv x (i + 1) μ1 ∧ μ1 (x + 249) = μ (x + 249) := by
  rw [gL_1, fL_rate, fX7_rate]
  refine y_chg (K := 37) (M := fun m => fX8_rate (x + 251) s1 m) h hi (Or.inl rfl) (y_charC 37 (by decide)) (fun W S J b μ' ν hW hI hC hB => y_m_rate hB hI.1.1 s1 0 0) (fun v m hr => ⟨fun hv => ?_, fun hv => ?_⟩)
  · rcases hr with ⟨rfl, q⟩ | ⟨rfl, q⟩ | ⟨rfl, q⟩ | q | q
    · exact absurd q (by decide)
    · rw [yex_2, yth_2n (by decide)]; rfl
    · exact absurd q (by decide)
    · exact (y_irr hv q.1).elim
    · rw [q] at hv; exact absurd hv (by decide)
  · rw [yla_2 (by decide)]; rfl
theorem y_L2 {x i : Nat} {μ : xM} (s1 s2 s3 : Int32) (h : yInv x i μ) (hi : i < 512) : ∃ μ1, gL_2 x (x + 251) (x + 259) s1 s2 s3 μ = some μ1 ∧ yInv x (i + 1) μ1 ∧ μ1 (x + 249) = μ (x + 249) := by
  rw [gL_2, fL_fee, fX7_fee]
  refine y_chg (K := 102) (M := fun m => fX8_fee (x + 251) s1 m) h hi (Or.inr (Or.inr (Or.inl rfl))) (y_charC 102 (by decide)) (fun W S J b μ' ν hW hI hC hB => y_m_fee hB hI.1.1 s1 0 0) (fun v m hr => ⟨fun hv => ?_, fun hv => ?_⟩)
  · rcases hr with ⟨rfl, q⟩ | ⟨rfl, q⟩ | ⟨rfl, q⟩ | q | q
    · exact absurd q (by decide)
    · rw [yex_2, yth_2n (by decide)]; rfl
    · exact absurd q (by decide)
    · exact (y_irr hv q.1).elim
    · rw [q] at hv; exact absurd hv (by decide)
  · rw [yla_2 (by decide)]; rfl
theorem y_L3 {x i : Nat} {μ : xM} (s1 s2 s3 : Int32) (h : yInv x i μ) (hi : i < 512) : ∃ μ1, gL_3 x (x + 251) (x + 259) s1 s2 s3 μ = some μ1 ∧ yInv x (i + 1) μ1 ∧ μ1 (x + 249) = μ (x + 249) := by
  rw [gL_3, fL_pass, fX7_pass]
  refine y_chg (K := 119) (M := fun m => fX8_pass (x + 251) s1 m) h hi (Or.inr (Or.inr (Or.inr (Or.inr (Or.inr (Or.inr (Or.inr (Or.inl rfl)))))))) (y_charC 119 (by decide)) (fun W S J b μ' ν hW hI hC hB => y_m_pass hC hB hI hW s1 0 0) (fun v m hr => ⟨fun hv => ?_, fun hv => ?_⟩)
  · rcases hr with ⟨rfl, q⟩ | ⟨rfl, q⟩ | ⟨rfl, q⟩ | q | q
    · exact absurd q (by decide)
    · rw [yex_2, yth_2n (by decide)]; rfl
    · exact absurd q (by decide)
    · exact (y_irr hv q.1).elim
    · rw [q] at hv; exact absurd hv (by decide)
  · rcases hr with ⟨rfl, q⟩ | ⟨rfl, q⟩ | ⟨rfl, q⟩ | q | q
    · exact absurd hv (by decide)
    · exact absurd hv (by decide)
    · exact absurd hv (by decide)
    · exact absurd rfl q.2.2
    · rw [q] at hv; exact absurd hv (by decide)
theorem y_L4 {x i : Nat} {μ : xM} (s1 s2 s3 : Int32) (h : yInv x i μ) (hi : i < 512) : ∃ μ1, gL_4 x (x + 251) (x + 259) s1 s2 s3 μ = some μ1 ∧ yInv x (i + 1) μ1 ∧ μ1 (x + 249) = μ (x + 249) := by
  rw [gL_4, fL_redeem, fX7_redeem]
  refine y_chg (K := 114) (M := fun m => fX8_redeem (x + 251) s1 m) h hi (Or.inr (Or.inr (Or.inr (Or.inr (Or.inr (Or.inl rfl)))))) (y_charC 114 (by decide)) (fun W S J b μ' ν hW hI hC hB => y_m_redeem hB hI s1 0 0) (fun v m hr => ⟨fun hv => ?_, fun hv => ?_⟩)
  · rcases hr with ⟨rfl, q⟩ | ⟨rfl, q⟩ | ⟨rfl, q⟩ | q | q
    · exact absurd q (by decide)
    · exact absurd q (by decide)
    · rw [yex_3, yth_3]; rfl
    · exact (y_irr hv q.1).elim
    · rw [q] at hv; exact absurd hv (by decide)
  · rw [yla_2 (by decide)]; rfl
theorem y_L5 {x i : Nat} {μ : xM} (s1 s2 s3 : Int32) (h : yInv x i μ) (hi : i < 512) : ∃ μ1, gL_5 x (x + 251) (x + 259) s1 s2 s3 μ = some μ1 ∧ yInv x (i + 1) μ1 ∧ μ1 (x + 249) = μ (x + 249) := by
  rw [gL_5, fL_pay, fX7_pay]
  refine y_chg (K := 121) (M := fun m => fX8_pay (x + 251) s1 s2 m) h hi (Or.inr (Or.inr (Or.inr (Or.inr (Or.inr (Or.inr (Or.inr (Or.inr rfl)))))))) (y_charC 121 (by decide)) (fun W S J b μ' ν hW hI hC hB => y_m_pay hB hI s1 s2 0) (fun v m hr => ⟨fun hv => ?_, fun hv => ?_⟩)
  · rcases hr with ⟨rfl, q⟩ | ⟨rfl, q⟩ | ⟨rfl, q⟩ | q | q
    · exact absurd q (by decide)
    · rw [yex_2, yth_2 (Or.inr (Or.inl rfl))]; rfl
    · rw [yex_3, yth_3]; rfl
    · exact (y_irr hv q.1).elim
    · rw [q] at hv; exact absurd hv (by decide)
  · rw [yla_3 (Or.inr (Or.inl rfl))]; rfl
theorem y_L6 {x i : Nat} {μ : xM} (s1 s2 s3 : Int32) (h : yInv x i μ) (hi : i < 512) : ∃ μ1, gL_6 x (x + 251) (x + 259) s1 s2 s3 μ = some μ1 ∧ yInv x (i + 1) μ1 ∧ μ1 (x + 249) = μ (x + 249) := by
  rw [gL_6, fL_renew, fX7_renew]
  refine y_chg (K := 110) (M := fun m => fX8_renew (x + 251) s1 m) h hi (Or.inr (Or.inr (Or.inr (Or.inl rfl)))) (y_charC 110 (by decide)) (fun W S J b μ' ν hW hI hC hB => y_m_renew hB hI s1 0 0) (fun v m hr => ⟨fun hv => ?_, fun hv => ?_⟩)
  · rcases hr with ⟨rfl, q⟩ | ⟨rfl, q⟩ | ⟨rfl, q⟩ | q | q
    · exact absurd q (by decide)
    · exact absurd q (by decide)
    · rw [yex_3, yth_3]; rfl
    · exact (y_irr hv q.1).elim
    · rw [q] at hv; exact absurd hv (by decide)
  · rw [yla_2 (by decide)]; rfl
theorem y_L8 {x i : Nat} {μ : xM} (s1 s2 s3 : Int32) (h : yInv x i μ) (hi : i < 512) : ∃ μ1, gL_8 x (x + 251) (x + 259) s1 s2 s3 μ = some μ1 ∧ yInv x (i + 1) μ1 ∧ μ1 (x + 249) = μ (x + 249) := by
  rw [gL_8, fL_sell, fX7_sell]
  refine y_chg (K := 115) (M := fun m => fX8_sell (x + 251) s1 s2 m) h hi (Or.inr (Or.inr (Or.inr (Or.inr (Or.inr (Or.inr (Or.inl rfl))))))) (y_charC 115 (by decide)) (fun W S J b μ' ν hW hI hC hB => y_m_sell hB hI s1 s2 0) (fun v m hr => ⟨fun hv => ?_, fun hv => ?_⟩)
  · rcases hr with ⟨rfl, q⟩ | ⟨rfl, q⟩ | ⟨rfl, q⟩ | q | q
    · exact absurd q (by decide)
    · rw [yex_2, yth_2 (Or.inr (Or.inr rfl))]; rfl
    · rw [yex_3, yth_3]; rfl
    · exact (y_irr hv q.1).elim
    · rw [q] at hv; exact absurd hv (by decide)
  · rw [yla_3 (Or.inr (Or.inr rfl))]; rfl
theorem y_L9 {x i : Nat} {μ : xM} (s1 s2 s3 : Int32) (h : yInv x i μ) (hi : i < 512) : ∃ μ1, gL_9 x (x + 251) (x + 259) s1 s2 s3 μ = some μ1 ∧ yInv x (i + 1) μ1 ∧ μ1 (x + 249) = μ (x + 249) := by
  rw [gL_9, fL_claim, fX7_claim]
  refine y_chg (K := 99) (M := fun m => fX8_claim (x + 251) s1 m) h hi (Or.inr (Or.inl rfl)) (y_charC 99 (by decide)) (fun W S J b μ' ν hW hI hC hB => y_m_claim hB hI s1 0 0) (fun v m hr => ⟨fun hv => ?_, fun hv => ?_⟩)
  · rcases hr with ⟨rfl, q⟩ | ⟨rfl, q⟩ | ⟨rfl, q⟩ | q | q
    · rw [yex_1, yth_1]; rfl
    · exact absurd q (by decide)
    · exact absurd q (by decide)
    · exact (y_irr hv q.1).elim
    · rw [q] at hv; exact absurd hv (by decide)
  · rw [yla_2 (by decide)]; rfl
-- calls that only answer
theorem y_qT {x i : Nat} {μ : xM} {code r2 : Int32} {o1 : Option (Int32 × xM)} {M : xM → Option (Int32 × xM)} (h : yInv x i μ) (h1 : o1 = some (code, μ)) (h2 : M μ = some (r2, xw μ (x + 251) 7 code)) (h0 : code ≠ 0) : ∃ μ1, xb o1 (fun r1 m1 => xb (M m1) (fun r2 m2 => xb (fX8_thrown (x + 251) m2) (fun r3 m3 => if r3 = r1 then (if r1 = 0 then (if lg_cmp ((m3 (x + 259) 0)).toInt64 r2.toInt64 = 0 then (some m3) else (none)) else (some m3)) else (none)))) = some μ1 ∧ yInv x (i + 1) μ1 ∧ μ1 (x + 249) = μ (x + 249) :=
  ⟨_, y_gl h1 h2 (xw_same _ _ _ _) (fun q => absurd q h0), yInv_q h (fun a a1 _ => xw_row a1) (fun k k7 => y_wk k7), xw_row (by omega)⟩
theorem y_qA {x i : Nat} {μ : xM} {r : Int32} {o1 : Option (Int32 × xM)} {M : xM → Option (Int32 × xM)} (h : yInv x i μ) (h1 : o1 = some (0, xw μ (x + 259) 0 r)) (h2 : M (xw μ (x + 259) 0 r) = some (r, xw (xw μ (x + 259) 0 r) (x + 251) 7 0)) : ∃ μ1, xb o1 (fun r1 m1 => xb (M m1) (fun r2 m2 => xb (fX8_thrown (x + 251) m2) (fun r3 m3 => if r3 = r1 then (if r1 = 0 then (if lg_cmp ((m3 (x + 259) 0)).toInt64 r2.toInt64 = 0 then (some m3) else (none)) else (some m3)) else (none)))) = some μ1 ∧ yInv x (i + 1) μ1 ∧ μ1 (x + 249) = μ (x + 249) :=
  ⟨_, y_gl h1 h2 (xw_same _ _ _ _) (fun _ => by rw [y_wn (by omega), xw_same]), yInv_q h (fun a a1 a2 => by rw [xw_row a1, xw_row a2]) (fun k k7 => by rw [y_wk k7, y_wn (by omega)]), by rw [xw_row (by omega), xw_row (by omega)]⟩
theorem y_dT {x : Nat} {S : Nat → Nat → Nat} {J : Nat → Int32} {μ : xM} (hC : yC (x + 1) S J μ) (p : Int32) : fX7_demandTicket x p μ = some (if p < 0 ∨ nI (S 16 0) ≤ p then (4, 0) else (0, 0), μ) := by
  rw [fX7_demandTicket, y_tick hC, y_xb]
  by_cases c : p < 0 ∨ nI (S 16 0) ≤ p
  · rw [if_pos c, if_pos rfl, if_pos c]
  · rw [if_neg c, if_neg y_n10, if_neg c]
theorem y_dR (p lo hi : Int32) (μ : xM) : fX7_demandRange p lo hi μ = some (if p < lo ∨ hi < p then (2, 0) else (0, 0), μ) := by
  rw [fX7_demandRange]
  by_cases c1 : p < lo
  · rw [if_pos c1, if_pos (Or.inl c1)]
  · rw [if_neg c1]
    by_cases c2 : p ≤ hi
    · rw [if_pos c2, if_neg (show ¬ (p < lo ∨ hi < p) from fun q => q.elim c1 (Int32.not_lt.mpr c2))]
    · rw [if_neg c2, if_pos (Or.inr (Int32.not_le.mp c2))]
theorem y_dS1 (μ : xM) : fX7_demandState 1 μ = some ((0, 0), μ) := by rw [fX7_demandState, if_neg y_n10]
theorem y_dS0 (μ : xM) : fX7_demandState 0 μ = some ((5, 0), μ) := by rw [fX7_demandState, if_pos rfl]
theorem y_inR {p lo hi : Int32} (c : ¬ (p < lo ∨ hi < p)) : lo ≤ p ∧ p ≤ hi := ⟨Int32.not_lt.mp (fun q => c (Or.inl q)), Int32.not_lt.mp (fun q => c (Or.inr q))⟩
theorem y_niR {p lo hi : Int32} (c : p < lo ∨ hi < p) : ¬ (lo ≤ p ∧ p ≤ hi) := fun q => c.elim (Int32.not_lt.mpr q.1) (Int32.not_lt.mpr q.2)
theorem y_L7 {x i : Nat} {μ : xM} (s1 s2 s3 : Int32) (h : yInv x i μ) (hi : i < 512) : ∃ μ1, gL_7 x (x + 251) (x + 259) s1 s2 s3 μ = some μ1 ∧ yInv x (i + 1) μ1 ∧ μ1 (x + 249) = μ (x + 249) := by
  have hh := h
  obtain ⟨⟨S, J, ⟨hI, hJ⟩, hC, hB⟩, -⟩ := h
  have hn := hI.1.1
  have hB1 : yM S J (μ (x + 251 + 1)) := hB
  rw [gL_7]
  by_cases c1 : s1 < 0 ∨ nI (S 16 0) ≤ s1
  · refine y_qT (M := fun m => fX8_pledgeOf (x + 251) s1 s2 m) (code := 1) (r2 := 0) hh ?_ ?_ (by decide)
    · rw [fL_pledgeOf, fX7_pledgeOf, y_dT hC, if_pos c1, y_xcbS 3, y_xchS 3, if_pos rfl]
    · simp only [fX8_pledgeOf, y_isTicket hB1 hn, if_pos c1, y_xb, if_true, y_fails1, if_neg y_n10]
  obtain ⟨t, ht, rfl⟩ := y_nin (by omega) c1
  by_cases c2 : s2 < 0 ∨ 8 < s2
  · refine y_qT (M := fun m => fX8_pledgeOf (x + 251) (nI t) s2 m) (code := 2) (r2 := 0) hh ?_ ?_ (by decide)
    · rw [fL_pledgeOf, fX7_pledgeOf, y_dT hC, if_neg c1, y_xcb0, y_dR, if_pos c2, y_xcbS 1, y_xchS 1, if_neg (by decide), if_pos rfl]
    · simp only [fX8_pledgeOf, y_isTicket hB1 hn, if_neg c1, y_xb, if_neg y_n10, y_in, if_neg (y_niR c2), if_true, y_fails2]
  obtain ⟨k, rfl, -, hk⟩ := y_rng (p := s2) (lo := 0) (hi := 8) (by decide) (fun q => c2 (Or.inl q)) (fun q => c2 (Or.inr q)) (by decide)
  obtain ⟨p0, p1, p3, p4, p5, p6, p7, p8, p10, p11, u0, u1, u2, u3⟩ := hI.2.1 t ht
  obtain ⟨q0, q1, q2, q3, q4, q5, q6, q7, q8, -⟩ := hB1.2.1 t ht
  have h16 : t < 16 := by omega
  have e := hC.2.1 t ht
  have b5 : S t 5 < 2147483648 := by omega
  have r4 : μ (x + 251 + 1) (11 + 11 * t + 4) = nI (S t 5) := q4
  have hne : x + 251 + 1 ≠ x + 251 := by omega
  have hne2 : x + 251 + 1 ≠ x + 259 := by omega
  have n7 : ∀ j, j < 9 → j ≠ 7 → ¬ nI j = 7 := fun j hj h7 q => h7 ((nI_eq (a := j) (b := 7) (by omega) (by decide)).mp q)
  -- the class's number and the model's
  have key : ∀ v : Int32, fX5_number (x + 1 + 1 + 1 + t) (nI k) μ = some (v, μ) → (k ≠ 7 → μ (x + 251 + 1) (11 + 11 * t + k) = v) → (k = 7 → (S t 5 = 1 → μ (x + 251 + 1) (11 + 11 * t + 7) = v) ∧ (S t 5 ≠ 1 → v = 0)) → ∃ μ1, xb (fL_pledgeOf x (nI t) (nI k) (x + 259) μ) (fun r1 m1 => xb (fX8_pledgeOf (x + 251) (nI t) (nI k) m1) (fun r2 m2 => xb (fX8_thrown (x + 251) m2) (fun r3 m3 => if r3 = r1 then (if r1 = 0 then (if lg_cmp ((m3 (x + 259) 0)).toInt64 r2.toInt64 = 0 then (some m3) else (none)) else (some m3)) else (none)))) = some μ1 ∧ yInv x (i + 1) μ1 ∧ μ1 (x + 249) = μ (x + 249) := by
    intro v hv h1 h2
    refine y_qA (M := fun m => fX8_pledgeOf (x + 251) (nI t) (nI k) m) (r := v) hh ?_ ?_
    · rw [fL_pledgeOf, fX7_pledgeOf, y_dT hC, if_neg c1, y_xcb0, y_dR, if_neg c2, y_xcb0, y_xk (y_in16 ht hn), y_cl ht hn, hv, y_xb, y_xch0]
    · have hB2 : yM S J ((xw μ (x + 259) 0 v) (x + 251 + 1)) := by rw [xw_row hne2]; exact hB1
      have hk11 : k < 11 := by omega
      simp only [fX8_pledgeOf, y_isTicket hB2 hn, if_neg c1, y_xb, if_neg y_n10, y_in, if_pos (y_inR c2), y_fails0, if_true, y_of4 h16, y_wn hne, y_wn hne2, r4, y_i1 b5, y_of h16 hk11]
      by_cases ck : k = 7
      · subst ck
        rw [if_pos (show nI 7 = 7 from rfl)]
        by_cases c5 : S t 5 = 1
        · rw [if_pos c5, (h2 rfl).1 c5]
        · rw [if_neg c5, (h2 rfl).2 c5]
      · rw [if_neg (n7 k (by omega) ck), h1 ck]
  have hk' : k = 0 ∨ k = 1 ∨ k = 2 ∨ k = 3 ∨ k = 4 ∨ k = 5 ∨ k = 6 ∨ k = 7 ∨ k = 8 := by omega
  rcases hk' with rfl | rfl | rfl | rfl | rfl | rfl | rfl | rfl | rfl
  · exact key (nI (S t 0)) (by rw [fX5_number, if_pos (show nI 0 = 0 from rfl), e 0 (by decide)]) (fun _ => q0) (fun q => absurd q (by decide))
  · exact key (nI (S t 1)) (by rw [fX5_number, if_neg (by decide), if_pos (show nI 1 = 1 from rfl), e 1 (by decide)]) (fun _ => q1) (fun q => absurd q (by decide))
  · exact key (nI (S t 3)) (by rw [fX5_number, if_neg (by decide), if_neg (by decide), if_pos (show nI 2 = 2 from rfl), e 3 (by decide)]) (fun _ => q2) (fun q => absurd q (by decide))
  · exact key (nI (S t 4)) (by rw [fX5_number, if_neg (by decide), if_neg (by decide), if_neg (by decide), if_pos (show nI 3 = 3 from rfl), e 4 (by decide)]) (fun _ => q3) (fun q => absurd q (by decide))
  · exact key (nI (S t 5)) (by rw [fX5_number, if_neg (by decide), if_neg (by decide), if_neg (by decide), if_neg (by decide), if_pos (show nI 4 = 4 from rfl), e 5 (by decide)]) (fun _ => q4) (fun q => absurd q (by decide))
  · exact key (nI (S t 6)) (by rw [fX5_number, if_neg (by decide), if_neg (by decide), if_neg (by decide), if_neg (by decide), if_neg (by decide), if_pos (show nI 5 = 5 from rfl), e 6 (by decide)]) (fun _ => q5) (fun q => absurd q (by decide))
  · exact key (nI (S t 7)) (by rw [fX5_number, if_neg (by decide), if_neg (by decide), if_neg (by decide), if_neg (by decide), if_neg (by decide), if_neg (by decide), if_pos (show nI 6 = 6 from rfl), e 7 (by decide)]) (fun _ => q6) (fun q => absurd q (by decide))
  · exact key (nI (S t 8)) (by rw [fX5_number, if_neg (by decide), if_neg (by decide), if_neg (by decide), if_neg (by decide), if_neg (by decide), if_neg (by decide), if_neg (by decide), if_pos (show nI 7 = 7 from rfl), e 8 (by decide)]) (fun q => absurd rfl q) (fun _ => ⟨q7, fun c5 => by rw [u2 c5]; rfl⟩)
  · exact key (nI (S t 9)) (by rw [fX5_number, if_neg (by decide), if_neg (by decide), if_neg (by decide), if_neg (by decide), if_neg (by decide), if_neg (by decide), if_neg (by decide), if_neg (by decide), e 9 (by decide)]) (fun _ => q8) (fun q => absurd q (by decide))
theorem y_L10 {x i : Nat} {μ : xM} (s1 s2 s3 : Int32) (h : yInv x i μ) (hi : i < 512) : ∃ μ1, gL_10 x (x + 251) (x + 259) s1 s2 s3 μ = some μ1 ∧ yInv x (i + 1) μ1 ∧ μ1 (x + 249) = μ (x + 249) := by
  have hh := h
  obtain ⟨⟨S, J, ⟨hI, hJ⟩, hC, hB⟩, -⟩ := h
  have hn := hI.1.1
  have hB1 : ∀ v : Int32, yM S J ((xw μ (x + 259) 0 v) (x + 251 + 1)) := fun v => by rw [xw_row (by omega)]; exact hB
  have hcl := y_lotInPlace hC hI (by omega) false s1
  have hmo : ∀ ν : xM, yM S J (ν (x + 251 + 1)) → _ := fun ν hν => y_m_lotAt (ν := ν) (md := x + 251) hν hI (by omega) s1
  rw [if_neg (show ¬ false = true by decide)] at hcl
  rw [gL_10]
  cases hf : yfd (yplc S false s1) 0 (S 16 0) with
  | none =>
    rw [hf] at hcl
    refine y_qT (M := fun m => fX8_lotAt (x + 251) s1 m) (code := 1) (r2 := 0) hh ?_ ?_ (by decide)
    · rw [fL_lotAt, fX7_lotAt, hcl, y_xb, fX7_demandFound, if_pos rfl, y_xcbS 3, y_xchS 3, if_pos rfl]
    · show fX8_lotAt (x + 251) s1 μ = _
      rw [hmo μ hB, hf]
  | some j =>
    have hj := yfd_lt hf
    rw [hf] at hcl
    refine y_qA (M := fun m => fX8_lotAt (x + 251) s1 m) (r := nI j) hh ?_ ?_
    · rw [fL_lotAt, fX7_lotAt, hcl, y_xb, fX7_demandFound, if_neg (fun q => absurd (show nI j < 0 by rw [show nI j = -1 from q]; decide) (nI_pos (by omega))), y_xcb0, y_xch0]
    · show fX8_lotAt (x + 251) s1 _ = _
      rw [hmo _ (hB1 _), hf]
theorem y_L11 {x i : Nat} {μ : xM} (s1 s2 s3 : Int32) (h : yInv x i μ) (hi : i < 512) : ∃ μ1, gL_11 x (x + 251) (x + 259) s1 s2 s3 μ = some μ1 ∧ yInv x (i + 1) μ1 ∧ μ1 (x + 249) = μ (x + 249) := by
  have hh := h
  obtain ⟨⟨S, J, ⟨hI, hJ⟩, hC, hB⟩, -⟩ := h
  have hn := hI.1.1
  have hB1 : ∀ v : Int32, yM S J ((xw μ (x + 259) 0 v) (x + 251 + 1)) := fun v => by rw [xw_row (by omega)]; exact hB
  have hcl := y_lotInPlace hC hI (by omega) true s1
  have hmo : ∀ ν : xM, yM S J (ν (x + 251 + 1)) → _ := fun ν hν => y_m_ranked (ν := ν) (md := x + 251) hν hI s1
  rw [if_pos rfl] at hcl
  rw [gL_11]
  cases hf : yfd (yplc S true s1) 0 (S 16 0) with
  | none =>
    rw [hf] at hcl
    refine y_qT (M := fun m => fX8_ranked (x + 251) s1 m) (code := 1) (r2 := 0) hh ?_ ?_ (by decide)
    · rw [fL_ranked, fX7_ranked, hcl, y_xb, fX7_demandFound, if_pos rfl, y_xcbS 3, y_xchS 3, if_pos rfl]
    · show fX8_ranked (x + 251) s1 μ = _
      rw [hmo μ hB, hf]
  | some j =>
    have hj := yfd_lt hf
    rw [hf] at hcl
    refine y_qA (M := fun m => fX8_ranked (x + 251) s1 m) (r := nI j) hh ?_ ?_
    · rw [fL_ranked, fX7_ranked, hcl, y_xb, fX7_demandFound, if_neg (fun q => absurd (show nI j < 0 by rw [show nI j = -1 from q]; decide) (nI_pos (by omega))), y_xcb0, y_xch0]
    · show fX8_ranked (x + 251) s1 _ = _
      rw [hmo _ (hB1 _), hf]
