/-! THE PURE PART: the changes as the model makes them -/
theorem y_isTicket {md : Nat} {S : Nat → Nat → Nat} {J : Nat → Int32} {ν : xM} (h : yM S J (ν (md + 1))) (hn : S 16 0 ≤ 16) (p : Int32) : fX8_isTicket md p ν = some (if p < 0 ∨ nI (S 16 0) ≤ p then 0 else 1, ν) := by
  rw [fX8_isTicket, y_in, y_xb, h.1.2.1]
  have key : (0 ≤ p ∧ p ≤ nI (S 16 0) - 1) ↔ ¬ (p < 0 ∨ nI (S 16 0) ≤ p) := by
    have e : (nI (S 16 0) - 1).toInt = ((S 16 0 : Nat) : Int) - 1 := pk_sub_toInt (a := S 16 0) (b := 1) (by omega) (by decide)
    have e0 : (0 : Int32).toInt = 0 := by decide
    rw [Int32.le_iff_toInt_le, Int32.le_iff_toInt_le, Int32.lt_iff_toInt_lt, Int32.le_iff_toInt_le, e, e0, nI_toInt (by omega)]
    omega
  by_cases c : p < 0 ∨ nI (S 16 0) ≤ p
  · rw [if_neg (show ¬ (0 ≤ p ∧ p ≤ nI (S 16 0) - 1) from fun q => key.mp q c), if_pos c, y_xk y_zf]
  · rw [if_pos (key.mpr c), if_neg c, y_xk y_zt]
theorem yM_row {S : Nat → Nat → Nat} {J J1 : Nat → Int32} {g g1 : Nat → Int32} {t : Nat} {c : Nat → Nat} (h : yM S J g) (hn : S 16 0 ≤ 16) (ht : t < S 16 0) (e0 : g1 0 = g 0) (e1 : g1 1 = g 1) (e2 : g1 2 = g 2) (e3 : g1 3 = g 3) (e4 : g1 4 = J1 0) (e5 : g1 5 = g 5 + (nI (c 2) - nI (S t 2))) (e6 : g1 6 = g 6 + (nI (c 9) - nI (S t 9))) (e7 : g1 7 = g 7 + (nI (c 11) - nI (S t 11))) (e8 : g1 8 = ysI (fun j => J1 (7 + j)) 0 6) (e9 : g1 9 = g 9 + (nI (yloss c) - nI (yloss (S t)))) (e10 : g1 10 = g 10) (eq : yQ c (fun k => g1 (11 + 11 * t + k))) (er : ∀ u, u < S 16 0 → u ≠ t → ∀ k, k < 11 → g1 (11 + 11 * u + k) = g (11 + 11 * u + k)) (ej : ∀ j, j < 6 → g1 (187 + j) = J1 (1 + j) ∧ g1 (193 + j) = J1 (7 + j)) : yM (yrow S t c) J1 g1 := by
  obtain ⟨⟨h0, h1, h2, h3, h4, h5, h6, h7, h8, h9, h10⟩, hr, hj⟩ := h
  have h16 : yrow S t c 16 = S 16 := yrow_n (by omega)
  have hs : ∀ F : (Nat → Nat) → Int32, ysI (fun u => F (yrow S t c u)) 0 (S 16 0) = ysI (fun u => F (S u)) 0 (S 16 0) + (F c - F (S t)) := by
    intro F
    have e := ysI_upd (g := fun u => F (S u)) (h := fun u => F (yrow S t c u)) (i := t) (u := S 16 0) (t := 0) (by omega) (by omega) (fun j _ _ hj => by show F (yrow S t c j) = F (S j); rw [yrow_n hj])
    rw [e]
    show _ + (F (yrow S t c t) - F (S t)) = _
    rw [yrow_t]
  refine ⟨⟨by rw [e0, h16, h0], by rw [e1, h16, h1], by rw [e2, h16, h2], by rw [e3, h16, h3], e4, ?_, ?_, ?_, e8, ?_, by rw [e10, h16, h10]⟩, fun u hu => ?_, ej⟩
  · rw [e5, h5, h16]; exact (hs (fun d => nI (d 2))).symm
  · rw [e6, h6, h16]; exact (hs (fun d => nI (d 9))).symm
  · rw [e7, h7, h16]; exact (hs (fun d => nI (d 11))).symm
  · rw [e9, h9, h16]; exact (hs (fun d => nI (yloss d))).symm
  · rw [h16] at hu
    by_cases cu : u = t
    · subst cu; rw [yrow_t]; exact eq
    · rw [yrow_n cu]
      have q := hr u hu
      have r := er u hu cu
      unfold yQ at q ⊢
      simp only [r 0 (by decide), r 1 (by decide), r 2 (by decide), r 3 (by decide), r 4 (by decide), r 5 (by decide), r 6 (by decide), r 7 (by decide), r 8 (by decide), r 9 (by decide), r 10 (by decide)]
      exact q
theorem yM_lots {S : Nat → Nat → Nat} {J : Nat → Int32} {ν : xM} {r v : Nat} (h : yM S J (ν r)) (hn : S 16 0 ≤ 16) : yM (yu S 16 4 v) J ((xw ν r 10 (nI v)) r) := by
  obtain ⟨⟨h0, h1, h2, h3, h4, h5, h6, h7, h8, h9, h10⟩, hr, hj⟩ := h
  have e : ∀ k, k ≠ 4 → yu S 16 4 v 16 k = S 16 k := fun k hk => yu_k hk
  have er : ∀ t, t < S 16 0 → yu S 16 4 v t = S t := fun t ht => yu_n (by omega)
  have es : ∀ F : (Nat → Nat) → Int32, ysI (fun u => F (yu S 16 4 v u)) 0 (S 16 0) = ysI (fun u => F (S u)) 0 (S 16 0) := fun F => ysI_ext (fun j _ hj => by show F (yu S 16 4 v j) = F (S j); rw [er j (by omega)])
  refine ⟨⟨?_, ?_, ?_, ?_, ?_, ?_, ?_, ?_, ?_, ?_, ?_⟩, fun t ht => ?_, fun j hj6 => ?_⟩
  · rw [y_wk (by decide), e 1 (by decide), h0]
  · rw [y_wk (by decide), e 0 (by decide), h1]
  · rw [y_wk (by decide), e 2 (by decide), h2]
  · rw [y_wk (by decide), e 3 (by decide), h3]
  · rw [y_wk (by decide), h4]
  · rw [y_wk (by decide), e 0 (by decide), h5]; exact (es (fun d => nI (d 2))).symm
  · rw [y_wk (by decide), e 0 (by decide), h6]; exact (es (fun d => nI (d 9))).symm
  · rw [y_wk (by decide), e 0 (by decide), h7]; exact (es (fun d => nI (d 11))).symm
  · rw [y_wk (by decide), h8]
  · rw [y_wk (by decide), e 0 (by decide), h9]; exact (es (fun d => nI (yloss d))).symm
  · rw [xw_same, yu_s]
  · rw [e 0 (by decide)] at ht
    rw [er t ht]
    have q := hr t ht
    unfold yQ at q ⊢
    simp (disch := omega) only [y_wk]
    exact q
  · rw [y_wk (by omega), y_wk (by omega)]
    exact hj j hj6
-- the outcome of a change of the model
def yth (K v : Int32) : Int32 := if v = -2 ∧ (K = 112 ∨ K = 121 ∨ K = 115) then 2 else 1
def yla (K : Int32) : Int32 := if K = 112 ∨ K = 121 ∨ K = 115 then 3 else 2
def yMo (md : Nat) (K : Int32) (v : Int32 × Int32) (R : Int32) (S1 : Nat → Nat → Nat) (J1 : Nat → Int32) (ν : xM) (o : Option (Int32 × xM)) : Prop :=
  (v.1 < 0 → o = some (0, xw ν md 7 (yth K v.1))) ∧ (0 < v.1 → o = some (0, yrf md (yla K) v.1 v.2 ν)) ∧ (v.1 = 0 → ∀ ν1, fX8_keeps md (md + 1) (xw ν md 7 0) = some ν1 → ν1 (md + 1) = ν (md + 1) → ∃ ν2, o = some (R, ν2) ∧ yM S1 J1 (ν2 (md + 1)) ∧ ∀ a, a ≠ md + 1 → ν2 a = ν1 a)
theorem yrf_7 {md : Nat} {p q d v : Int32} {ν : xM} : yrf md p q d (xw ν md 7 v) = yrf md p q d ν := by unfold yrf; rw [y_xw2]
theorem y_n10 : ¬ (1 : Int32) = 0 := by decide
theorem yM_7 {md : Nat} {S : Nat → Nat → Nat} {J : Nat → Int32} {ν : xM} {v : Int32} (h : yM S J (ν (md + 1))) : yM S J ((xw ν md 7 v) (md + 1)) := by rw [xw_row (by omega)]; exact h
-- rate and fee
theorem yM_sc {S : Nat → Nat → Nat} {J : Nat → Int32} {ν : xM} {r k v : Nat} (h : yM S J (ν r)) (hn : S 16 0 ≤ 16) (hk : k = 2 ∨ k = 3) : yM (yu S 16 k v) J ((xw ν r k (nI v)) r) := by
  obtain ⟨⟨h0, h1, h2, h3, h4, h5, h6, h7, h8, h9, h10⟩, hr, hj⟩ := h
  have e0 : yu S 16 k v 16 0 = S 16 0 := yu_k (by omega)
  have er : ∀ t, t < S 16 0 → yu S 16 k v t = S t := fun t ht => yu_n (by omega)
  have es : ∀ F : (Nat → Nat) → Int32, ysI (fun u => F (yu S 16 k v u)) 0 (S 16 0) = ysI (fun u => F (S u)) 0 (S 16 0) := fun F => ysI_ext (fun j _ hj => by show F (yu S 16 k v j) = F (S j); rw [er j (by omega)])
  refine ⟨⟨?_, ?_, ?_, ?_, ?_, ?_, ?_, ?_, ?_, ?_, ?_⟩, fun t ht => ?_, fun j hj6 => ?_⟩
  · rw [y_wk (by omega), yu_k (by omega), h0]
  · rw [y_wk (by omega), e0, h1]
  · by_cases c : k = 2
    · subst c; rw [xw_same, yu_s]
    · rw [y_wk (by omega), yu_k (by omega), h2]
  · by_cases c : k = 3
    · subst c; rw [xw_same, yu_s]
    · rw [y_wk (by omega), yu_k (by omega), h3]
  · rw [y_wk (by omega), h4]
  · rw [y_wk (by omega), e0, h5]; exact (es (fun d => nI (d 2))).symm
  · rw [y_wk (by omega), e0, h6]; exact (es (fun d => nI (d 9))).symm
  · rw [y_wk (by omega), e0, h7]; exact (es (fun d => nI (d 11))).symm
  · rw [y_wk (by omega), h8]
  · rw [y_wk (by omega), e0, h9]; exact (es (fun d => nI (yloss d))).symm
  · rw [y_wk (by omega), yu_k (by omega), h10]
  · rw [e0] at ht
    rw [er t ht]
    have q := hr t ht
    unfold yQ at q ⊢
    simp (disch := omega) only [y_wk]
    exact q
  · rw [y_wk (by omega), y_wk (by omega)]
    exact hj j hj6
theorem y_m_rate {md : Nat} {S : Nat → Nat → Nat} {J : Nat → Int32} {ν : xM} (h : yM S J (ν (md + 1))) (hn : S 16 0 ≤ 16) (p1 p2 p3 : Int32) : yMo md 37 (yv 37 p1 p2 p3 S J) (yopR 37 p1 p2 p3 S J) (yopS 37 p1 p2 p3 S) (yopJ 37 p1 p2 p3 S J) ν (fX8_rate md p1 ν) := by
  rw [yv_37]
  have h2 : ν (md + 1) 2 = nI (S 16 2) := h.1.2.2.1
  have hne : md + 1 ≠ md := by omega
  by_cases c1 : p1 < 1 ∨ 60 < p1
  · have v : yvS (nI (S 16 2)) p1 1 60 = (-2, 0) := by unfold yvS; rw [if_pos c1]
    have c2 : ¬ (1 ≤ p1 ∧ p1 ≤ 60) := fun q => c1.elim (Int32.not_lt.mpr q.1) (Int32.not_lt.mpr q.2)
    rw [v]
    refine ⟨fun _ => ?_, fun q => absurd q (by decide), fun q => absurd q (by decide)⟩
    simp only [fX8_rate, y_in, y_xb, if_neg c2, if_true, y_fails1, if_neg y_n10]
    rfl
  · have c2 : 1 ≤ p1 ∧ p1 ≤ 60 := ⟨Int32.not_lt.mp (fun q => c1 (Or.inl q)), Int32.not_lt.mp (fun q => c1 (Or.inr q))⟩
    by_cases c3 : p1 = nI (S 16 2)
    · have v : yvS (nI (S 16 2)) p1 1 60 = (10, nI (S 16 2)) := by unfold yvS; rw [if_neg c1, if_pos c3]
      rw [v]
      refine ⟨fun q => absurd q (show ¬ (10 : Int32) < 0 by decide), fun _ => ?_, fun q => absurd q (show ¬ (10 : Int32) = 0 by decide)⟩
      simp only [fX8_rate, y_in, y_xb, if_pos c2, if_true, y_fails0, if_neg y_n10, y_wn hne, h2, if_pos c3, y_refuses, yrf_7]
      rw [c3]
      rfl
    · have v : yvS (nI (S 16 2)) p1 1 60 = (0, 0) := by unfold yvS; rw [if_neg c1, if_neg c3]
      rw [v]
      refine ⟨fun q => absurd q (by decide), fun q => absurd q (by decide), fun _ ν1 hk hg => ?_⟩
      obtain ⟨q, rfl, k1, k2⟩ := y_rng (p := p1) (lo := 1) (hi := 60) (by decide) (fun q => c1 (Or.inl q)) (fun q => c1 (Or.inr q)) (by decide)
      obtain ⟨d1, d2, d3⟩ := yD_37 (q := q) (p2 := p2) (p3 := p3) (S := S) (J := J) (by omega)
      rw [d1, d2, d3]
      refine ⟨xw ν1 (md + 1) 2 (nI q), ?_, yM_sc (by rw [hg]; exact h) hn (Or.inl rfl), fun a ha => xw_row ha⟩
      simp only [fX8_rate, y_in, y_xb, if_pos c2, if_true, y_fails0, if_neg y_n10, y_wn hne, h2, if_neg c3, hk, y_xbv, hg]
theorem y_m_fee {md : Nat} {S : Nat → Nat → Nat} {J : Nat → Int32} {ν : xM} (h : yM S J (ν (md + 1))) (hn : S 16 0 ≤ 16) (p1 p2 p3 : Int32) : yMo md 102 (yv 102 p1 p2 p3 S J) (yopR 102 p1 p2 p3 S J) (yopS 102 p1 p2 p3 S) (yopJ 102 p1 p2 p3 S J) ν (fX8_fee md p1 ν) := by
  rw [yv_102]
  have h2 : ν (md + 1) 3 = nI (S 16 3) := h.1.2.2.2.1
  have hne : md + 1 ≠ md := by omega
  by_cases c1 : p1 < 0 ∨ 20 < p1
  · have v : yvS (nI (S 16 3)) p1 0 20 = (-2, 0) := by unfold yvS; rw [if_pos c1]
    have c2 : ¬ (0 ≤ p1 ∧ p1 ≤ 20) := fun q => c1.elim (Int32.not_lt.mpr q.1) (Int32.not_lt.mpr q.2)
    rw [v]
    refine ⟨fun _ => ?_, fun q => absurd q (by decide), fun q => absurd q (by decide)⟩
    simp only [fX8_fee, y_in, y_xb, if_neg c2, if_true, y_fails1, if_neg y_n10]
    rfl
  · have c2 : 0 ≤ p1 ∧ p1 ≤ 20 := ⟨Int32.not_lt.mp (fun q => c1 (Or.inl q)), Int32.not_lt.mp (fun q => c1 (Or.inr q))⟩
    by_cases c3 : p1 = nI (S 16 3)
    · have v : yvS (nI (S 16 3)) p1 0 20 = (10, nI (S 16 3)) := by unfold yvS; rw [if_neg c1, if_pos c3]
      rw [v]
      refine ⟨fun q => absurd q (show ¬ (10 : Int32) < 0 by decide), fun _ => ?_, fun q => absurd q (show ¬ (10 : Int32) = 0 by decide)⟩
      simp only [fX8_fee, y_in, y_xb, if_pos c2, if_true, y_fails0, if_neg y_n10, y_wn hne, h2, if_pos c3, y_refuses, yrf_7]
      rw [c3]
      rfl
    · have v : yvS (nI (S 16 3)) p1 0 20 = (0, 0) := by unfold yvS; rw [if_neg c1, if_neg c3]
      rw [v]
      refine ⟨fun q => absurd q (by decide), fun q => absurd q (by decide), fun _ ν1 hk hg => ?_⟩
      obtain ⟨q, rfl, k1, k2⟩ := y_rng (p := p1) (lo := 0) (hi := 20) (by decide) (fun q => c1 (Or.inl q)) (fun q => c1 (Or.inr q)) (by decide)
      obtain ⟨d1, d2, d3⟩ := yD_102 (q := q) (p2 := p2) (p3 := p3) (S := S) (J := J) (by omega)
      rw [d1, d2, d3]
      refine ⟨xw ν1 (md + 1) 3 (nI q), ?_, yM_sc (by rw [hg]; exact h) hn (Or.inr rfl), fun a ha => xw_row ha⟩
      simp only [fX8_fee, y_in, y_xb, if_pos c2, if_true, y_fails0, if_neg y_n10, y_wn hne, h2, if_neg c3, hk, y_xbv, hg]
