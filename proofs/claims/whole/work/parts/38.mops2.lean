/-! THE PURE PART: the model's redeem, pay, renew -/
def yco (md t : Nat) (q : Int32) (ν : xM) : xM := xw (xw (xw ν (md + 1) 4 (ν (md + 1) 4 + q)) (md + 1) 6 (ν (md + 1) 6 + q)) (md + 1) (11 + 11 * t + 8) (ν (md + 1) (11 + 11 * t + 8) + q)
theorem y_comes {md t : Nat} {q : Int32} {ν : xM} (ht : t < 16) : fX8_comes md (nI t) q ν = some (yco md t q ν) := by
  rw [fX8_comes, y_of8 ht, y_xb, y_lays8 ht, y_xbv]
  simp (disch := omega) only [y_wk, yco]
theorem yco_o {md t i : Nat} {q : Int32} {ν : xM} (h4 : i ≠ 4) (h6 : i ≠ 6) (h8 : i ≠ 11 + 11 * t + 8) : yco md t q ν (md + 1) i = ν (md + 1) i := by
  unfold yco
  rw [y_wk h8, y_wk h6, y_wk h4]
theorem yco_4 {md t : Nat} {q : Int32} {ν : xM} : yco md t q ν (md + 1) 4 = ν (md + 1) 4 + q := by
  unfold yco
  rw [y_wk (by omega), y_wk (by omega), xw_same]
theorem yco_6 {md t : Nat} {q : Int32} {ν : xM} : yco md t q ν (md + 1) 6 = ν (md + 1) 6 + q := by
  unfold yco
  rw [y_wk (by omega), xw_same]
theorem yco_8 {md t : Nat} {q : Int32} {ν : xM} : yco md t q ν (md + 1) (11 + 11 * t + 8) = ν (md + 1) (11 + 11 * t + 8) + q := by
  unfold yco
  rw [xw_same]
theorem yco_f {md t a : Nat} {q : Int32} {ν : xM} (h : a ≠ md + 1) : yco md t q ν a = ν a := by
  unfold yco
  rw [xw_row h, xw_row h, xw_row h]
theorem yM_tk {md t q : Nat} {S : Nat → Nat → Nat} {J : Nat → Int32} {ν1 ν2 : xM} {c : Nat → Nat} (h : yM S J (ν1 (md + 1))) (hn : S 16 0 ≤ 16) (ht : t < S 16 0) (f4 : ν2 (md + 1) 4 = ν1 (md + 1) 4 + nI q) (f6 : ν2 (md + 1) 6 = ν1 (md + 1) 6 + nI q) (fo : ∀ i, i ≠ 4 → i ≠ 6 → (i < 11 + 11 * t ∨ 11 + 11 * t + 11 ≤ i) → ν2 (md + 1) i = ν1 (md + 1) i) (c9 : c 9 = S t 9 + q) (c2 : c 2 = S t 2) (c11 : c 11 = S t 11) (cl : yloss c = yloss (S t)) (hq : yQ c (fun k => ν2 (md + 1) (11 + 11 * t + k))) : yM (yrow S t c) (yj J 0 (J 0 + nI q)) (ν2 (md + 1)) := by
  refine yM_row h hn ht (fo 0 (by omega) (by omega) (by omega)) (fo 1 (by omega) (by omega) (by omega)) (fo 2 (by omega) (by omega) (by omega)) (fo 3 (by omega) (by omega) (by omega)) ?_ ?_ ?_ ?_ ?_ ?_ (fo 10 (by omega) (by omega) (by omega)) hq (fun u hu hne k hk => fo _ (by omega) (by omega) (by omega)) (fun j hj => ?_)
  · rw [f4, h.1.2.2.2.2.1, yj_s]
  · rw [fo 5 (by omega) (by omega) (by omega), c2, Int32.sub_self, Int32.add_zero]
  · rw [f6, c9, ← nI_add]; grind
  · rw [fo 7 (by omega) (by omega) (by omega), c11, Int32.sub_self, Int32.add_zero]
  · rw [fo 8 (by omega) (by omega) (by omega), h.1.2.2.2.2.2.2.2.2.1]
    exact ysI_ext (fun j _ _ => (yj_n (by omega)).symm)
  · rw [fo 9 (by omega) (by omega) (by omega), cl, Int32.sub_self, Int32.add_zero]
  · rw [fo (187 + j) (by omega) (by omega) (by omega), fo (193 + j) (by omega) (by omega) (by omega), yj_n (by omega), yj_n (by omega)]
    exact h.2.2 j hj
theorem yloss_c {c d : Nat → Nat} (h1 : c 5 ≠ 3) (h2 : d 5 ≠ 3) : yloss c = yloss d := by
  unfold yloss
  rw [if_neg h1, if_neg h2]
theorem yth_3 {K : Int32} : yth K (-3) = 1 := by unfold yth; rw [if_neg (fun q => absurd q.1 (by decide))]
theorem y_m_redeem {md W : Nat} {S : Nat → Nat → Nat} {J : Nat → Int32} {ν : xM} (h : yM S J (ν (md + 1))) (hI : yI W S) (p1 p2 p3 : Int32) : yMo md 114 (yv 114 p1 p2 p3 S J) (yopR 114 p1 p2 p3 S J) (yopS 114 p1 p2 p3 S) (yopJ 114 p1 p2 p3 S J) ν (fX8_redeem md p1 ν) := by
  have hn := hI.1.1
  have hne : md + 1 ≠ md := by omega
  rw [yv_tk (Or.inr (Or.inl rfl))]
  by_cases c1 : p1 < 0 ∨ nI (S 16 0) ≤ p1
  · rw [if_pos c1]
    refine ⟨fun _ => ?_, fun q => absurd q (show ¬ (0 : Int32) < -3 by decide), fun q => absurd q (show ¬ (-3 : Int32) = 0 by decide)⟩
    simp only [fX8_redeem, y_isTicket h hn, if_pos c1, y_xb, if_true, y_fails1, if_neg y_n10, yth_3]
  · rw [if_neg c1]
    obtain ⟨t, ht, rfl⟩ := y_nin (by omega) c1
    have h16 : t < 16 := by omega
    rw [nI_clamp (by omega)]
    have p := hI.2.1 t ht
    obtain ⟨p0, p1', p3', p4, p5, p6, p7, p8, -⟩ := p
    obtain ⟨q0, q1, q2, q3, q4, q5, q6, q7, q8, q9, q10⟩ := h.2.1 t ht
    have b5 : S t 5 < 2147483648 := by omega
    have r4 : ν (md + 1) (11 + 11 * t + 4) = nI (S t 5) := q4
    have v115 : ¬ (114 : Int32) = 115 := by decide
    have v121 : ¬ ((114 : Int32) = 121 ∧ p2 < 1) := fun q => absurd q.1 (by decide)
    have v121' : ¬ ((114 : Int32) = 121 ∧ nI (S t 3 + S t 4) ≤ p2) := fun q => absurd q.1 (by decide)
    have v110 : ¬ ((114 : Int32) = 110 ∧ S t 4 = 0) := fun q => absurd q.1 (by decide)
    by_cases c2 : S t 5 = 0
    · have v : yvT 114 p2 (S t) = (0, 0) := by unfold yvT; rw [if_neg v115, if_neg v121, if_neg (show ¬ S t 5 ≠ 0 from fun q => q c2), if_neg v121', if_neg v110]
      rw [v]
      refine ⟨fun q => absurd q (by decide), fun q => absurd q (by decide), fun _ ν1 hk hg => ?_⟩
      obtain ⟨d1, d2, d3⟩ := yD_114 (t := t) (p2 := p2) (p3 := p3) (S := S) (J := J) (by omega)
      rw [d1, d2, d3]
      have h1 : yM S J (ν1 (md + 1)) := by rw [hg]; exact h
      obtain ⟨s0, s1, s2, s3, s4, s5, s6, s7, s8, s9, s10⟩ := h1.2.1 t ht
      refine ⟨xw (xw (xw (yco md t (nI (S t 3 + S t 4)) ν1) (md + 1) (11 + 11 * t + 2) 0) (md + 1) (11 + 11 * t + 3) 0) (md + 1) (11 + 11 * t + 4) 2, ?_, ?_, fun a ha => by rw [xw_row ha, xw_row ha, xw_row ha, yco_f ha]⟩
      · simp only [fX8_redeem, y_isTicket h hn, if_neg c1, y_xb, if_true, y_fails0, if_neg y_n10, y_of4 h16, y_wn hne, r4, y_i0 b5, if_pos c2, hk, y_xbv, y_m_owed h1 hn ht, y_comes h16, y_lays2 h16, y_lays3 h16, y_lays4 h16]
      · refine yM_tk h1 hn ht ?_ ?_ (fun i i4 i6 io => ?_) ?_ rfl rfl (yloss_c (by show (2 : Nat) ≠ 3; decide) (by omega)) ⟨?_, ?_, ?_, ?_, ?_, ?_, ?_, ?_, ?_, ?_, ?_⟩
        · simp (disch := omega) only [y_wk, yco_4]
        · simp (disch := omega) only [y_wk, yco_6]
        · rw [y_wk (by omega), y_wk (by omega), y_wk (by omega), yco_o i4 i6 (by omega)]
        · show S t 9 + (S t 3 + S t 4) = _
          rfl
        · show xw _ _ _ _ (md + 1) (11 + 11 * t + 0) = nI (S t 0)
          simp (disch := omega) only [y_wk, yco_o]
          exact s0
        · show xw _ _ _ _ (md + 1) (11 + 11 * t + 1) = nI (S t 1)
          simp (disch := omega) only [y_wk, yco_o]
          exact s1
        · show xw _ _ _ _ (md + 1) (11 + 11 * t + 2) = nI (S t 3 - (S t 3 + S t 4 - min (S t 3 + S t 4) (S t 4)))
          rw [show S t 3 - (S t 3 + S t 4 - min (S t 3 + S t 4) (S t 4)) = 0 by omega]
          simp (disch := omega) only [y_wk, xw_same]
          rfl
        · show xw _ _ _ _ (md + 1) (11 + 11 * t + 3) = nI (S t 4 - min (S t 3 + S t 4) (S t 4))
          rw [show S t 4 - min (S t 3 + S t 4) (S t 4) = 0 by omega]
          simp (disch := omega) only [y_wk, xw_same]
          rfl
        · show xw _ _ _ _ (md + 1) (11 + 11 * t + 4) = nI 2
          rw [xw_same]
          rfl
        · show xw _ _ _ _ (md + 1) (11 + 11 * t + 5) = nI (S t 6)
          simp (disch := omega) only [y_wk, yco_o]
          exact s5
        · show xw _ _ _ _ (md + 1) (11 + 11 * t + 6) = nI (S t 7)
          simp (disch := omega) only [y_wk, yco_o]
          exact s6
        · intro (q : (2 : Nat) = 1); exact absurd q (by decide)
        · show xw _ _ _ _ (md + 1) (11 + 11 * t + 8) = nI (S t 9 + (S t 3 + S t 4))
          simp (disch := omega) only [y_wk, yco_8]
          rw [show ν1 (md + 1) (11 + 11 * t + 8) = nI (S t 9) from s8, nI_add]
        · intro (q : (2 : Nat) = 1); exact absurd q (by decide)
        · intro (q : (2 : Nat) = 1); exact absurd q (by decide)
    · have v : yvT 114 p2 (S t) = (4, nI (S t 5)) := by unfold yvT; rw [if_neg v115, if_neg v121, if_pos (show S t 5 ≠ 0 from c2)]
      rw [v]
      refine ⟨fun q => absurd q (show ¬ (4 : Int32) < 0 by decide), fun _ => ?_, fun q => absurd q (show ¬ (4 : Int32) = 0 by decide)⟩
      simp only [fX8_redeem, y_isTicket h hn, if_neg c1, y_xb, if_true, y_fails0, if_neg y_n10, y_of4 h16, y_wn hne, r4, y_i0 b5, if_neg c2, y_refuses, yrf_7]
      rfl
theorem y_m_renew {md W : Nat} {S : Nat → Nat → Nat} {J : Nat → Int32} {ν : xM} (h : yM S J (ν (md + 1))) (hI : yI W S) (p1 p2 p3 : Int32) : yMo md 110 (yv 110 p1 p2 p3 S J) (yopR 110 p1 p2 p3 S J) (yopS 110 p1 p2 p3 S) (yopJ 110 p1 p2 p3 S J) ν (fX8_renew md p1 ν) := by
  have hn := hI.1.1
  have hne : md + 1 ≠ md := by omega
  rw [yv_tk (Or.inl rfl)]
  by_cases c1 : p1 < 0 ∨ nI (S 16 0) ≤ p1
  · rw [if_pos c1]
    refine ⟨fun _ => ?_, fun q => absurd q (show ¬ (0 : Int32) < -3 by decide), fun q => absurd q (show ¬ (-3 : Int32) = 0 by decide)⟩
    simp only [fX8_renew, y_isTicket h hn, if_pos c1, y_xb, if_true, y_fails1, if_neg y_n10, yth_3]
  · rw [if_neg c1]
    obtain ⟨t, ht, rfl⟩ := y_nin (by omega) c1
    have h16 : t < 16 := by omega
    rw [nI_clamp (by omega)]
    have p := hI.2.1 t ht
    obtain ⟨p0, p1', p3', p4, p5, p6, p7, p8, -⟩ := p
    obtain ⟨q0, q1, q2, q3, q4, q5, q6, q7, q8, q9, q10⟩ := h.2.1 t ht
    have b5 : S t 5 < 2147483648 := by omega
    have b4 : S t 4 < 2147483648 := by omega
    have r4 : ν (md + 1) (11 + 11 * t + 4) = nI (S t 5) := q4
    have r3 : ν (md + 1) (11 + 11 * t + 3) = nI (S t 4) := q3
    have r2 : ν (md + 1) (11 + 11 * t + 2) = nI (S t 3) := q2
    have v115 : ¬ (110 : Int32) = 115 := by decide
    have v121 : ¬ ((110 : Int32) = 121 ∧ p2 < 1) := fun q => absurd q.1 (by decide)
    have v121' : ¬ ((110 : Int32) = 121 ∧ nI (S t 3 + S t 4) ≤ p2) := fun q => absurd q.1 (by decide)
    by_cases c2 : S t 5 = 0
    · by_cases c3 : S t 4 = 0
      · have v : yvT 110 p2 (S t) = (6, nI (S t 3)) := by unfold yvT; rw [if_neg v115, if_neg v121, if_neg (show ¬ S t 5 ≠ 0 from fun q => q c2), if_neg v121', if_pos ⟨rfl, c3⟩]
        rw [v]
        refine ⟨fun q => absurd q (show ¬ (6 : Int32) < 0 by decide), fun _ => ?_, fun q => absurd q (show ¬ (6 : Int32) = 0 by decide)⟩
        simp only [fX8_renew, y_isTicket h hn, if_neg c1, y_xb, if_true, y_fails0, if_neg y_n10, y_of4 h16, y_of3 h16, y_of2 h16, y_wn hne, r4, r3, r2, y_i0 b5, y_i0 b4, if_pos c2, if_pos c3, y_refuses, yrf_7]
        rfl
      · have v : yvT 110 p2 (S t) = (0, 0) := by unfold yvT; rw [if_neg v115, if_neg v121, if_neg (show ¬ S t 5 ≠ 0 from fun q => q c2), if_neg v121', if_neg (fun q => c3 q.2)]
        rw [v]
        refine ⟨fun q => absurd q (by decide), fun q => absurd q (by decide), fun _ ν1 hk hg => ?_⟩
        obtain ⟨d1, d2, d3⟩ := yD_110 (t := t) (p2 := p2) (p3 := p3) (S := S) (J := J) (by omega)
        rw [d1, d2, d3]
        have h1 : yM S J (ν1 (md + 1)) := by rw [hg]; exact h
        obtain ⟨s0, s1, s2, s3, s4, s5, s6, s7, s8, s9, s10⟩ := h1.2.1 t ht
        have s3' : ν1 (md + 1) (11 + 11 * t + 3) = nI (S t 4) := s3
        have s0' : ν1 (md + 1) 0 = nI (S 16 1) := h1.1.1
        refine ⟨xw (xw (yco md t (nI (S t 4)) ν1) (md + 1) (11 + 11 * t + 3) 0) (md + 1) (11 + 11 * t + 5) (nI (S 16 1)), ?_, ?_, fun a ha => by rw [xw_row ha, xw_row ha, yco_f ha]⟩
        · simp only [fX8_renew, y_isTicket h hn, if_neg c1, y_xb, if_true, y_fails0, if_neg y_n10, y_of4 h16, y_of3 h16, y_wn hne, r4, r3, y_i0 b5, y_i0 b4, if_pos c2, if_neg c3, hk, y_xbv, s3', y_comes h16, y_lays3 h16]
          simp (disch := omega) only [y_wk, yco_o, s0', y_lays5 h16, y_xbv]
        · refine yM_tk h1 hn ht ?_ ?_ (fun i i4 i6 io => ?_) ?_ rfl rfl (yloss_c (by show S t 5 ≠ 3; omega) (by omega)) ⟨?_, ?_, ?_, ?_, ?_, ?_, ?_, ?_, ?_, ?_, ?_⟩
          · simp (disch := omega) only [y_wk, yco_4]
          · simp (disch := omega) only [y_wk, yco_6]
          · rw [y_wk (by omega), y_wk (by omega), yco_o i4 i6 (by omega)]
          · rfl
          · show xw _ _ _ _ (md + 1) (11 + 11 * t + 0) = nI (S t 0)
            simp (disch := omega) only [y_wk, yco_o]
            exact s0
          · show xw _ _ _ _ (md + 1) (11 + 11 * t + 1) = nI (S t 1)
            simp (disch := omega) only [y_wk, yco_o]
            exact s1
          · show xw _ _ _ _ (md + 1) (11 + 11 * t + 2) = nI (S t 3 - (S t 4 - min (S t 4) (S t 4)))
            rw [show S t 3 - (S t 4 - min (S t 4) (S t 4)) = S t 3 by omega]
            simp (disch := omega) only [y_wk, yco_o]
            exact s2
          · show xw _ _ _ _ (md + 1) (11 + 11 * t + 3) = nI (S t 4 - min (S t 4) (S t 4))
            rw [show S t 4 - min (S t 4) (S t 4) = 0 by omega]
            simp (disch := omega) only [y_wk, xw_same]
            rfl
          · show xw _ _ _ _ (md + 1) (11 + 11 * t + 4) = nI (S t 5)
            simp (disch := omega) only [y_wk, yco_o]
            exact s4
          · show xw _ _ _ _ (md + 1) (11 + 11 * t + 5) = nI (S 16 1)
            rw [xw_same]
          · show xw _ _ _ _ (md + 1) (11 + 11 * t + 6) = nI (S t 7)
            simp (disch := omega) only [y_wk, yco_o]
            exact s6
          · intro (q : S t 5 = 1); omega
          · show xw _ _ _ _ (md + 1) (11 + 11 * t + 8) = nI (S t 9 + S t 4)
            simp (disch := omega) only [y_wk, yco_8]
            rw [show ν1 (md + 1) (11 + 11 * t + 8) = nI (S t 9) from s8, nI_add]
          · intro (q : S t 5 = 1); omega
          · intro (q : S t 5 = 1); omega
    · have v : yvT 110 p2 (S t) = (4, nI (S t 5)) := by unfold yvT; rw [if_neg v115, if_neg v121, if_pos (show S t 5 ≠ 0 from c2)]
      rw [v]
      refine ⟨fun q => absurd q (show ¬ (4 : Int32) < 0 by decide), fun _ => ?_, fun q => absurd q (show ¬ (4 : Int32) = 0 by decide)⟩
      simp only [fX8_renew, y_isTicket h hn, if_neg c1, y_xb, if_true, y_fails0, if_neg y_n10, y_of4 h16, y_wn hne, r4, y_i0 b5, if_neg c2, y_refuses, yrf_7]
      rfl
theorem y_m_pay {md W : Nat} {S : Nat → Nat → Nat} {J : Nat → Int32} {ν : xM} (h : yM S J (ν (md + 1))) (hI : yI W S) (p1 p2 p3 : Int32) : yMo md 121 (yv 121 p1 p2 p3 S J) (yopR 121 p1 p2 p3 S J) (yopS 121 p1 p2 p3 S) (yopJ 121 p1 p2 p3 S J) ν (fX8_pay md p1 p2 ν) := by
  have hn := hI.1.1
  have hne : md + 1 ≠ md := by omega
  rw [yv_tk (Or.inr (Or.inr (Or.inr rfl)))]
  by_cases c1 : p1 < 0 ∨ nI (S 16 0) ≤ p1
  · rw [if_pos c1]
    refine ⟨fun _ => ?_, fun q => absurd q (show ¬ (0 : Int32) < -3 by decide), fun q => absurd q (show ¬ (-3 : Int32) = 0 by decide)⟩
    simp only [fX8_pay, y_isTicket h hn, if_pos c1, y_xb, if_true, y_fails1, if_neg y_n10, yth_3]
  · rw [if_neg c1]
    obtain ⟨t, ht, rfl⟩ := y_nin (by omega) c1
    have h16 : t < 16 := by omega
    rw [nI_clamp (by omega)]
    have p := hI.2.1 t ht
    obtain ⟨p0, p1', p3', p4, p5, p6, p7, p8, -⟩ := p
    obtain ⟨q0, q1, q2, q3, q4, q5, q6, q7, q8, q9, q10⟩ := h.2.1 t ht
    have b5 : S t 5 < 2147483648 := by omega
    have r4 : ν (md + 1) (11 + 11 * t + 4) = nI (S t 5) := q4
    have v115 : ¬ (121 : Int32) = 115 := by decide
    have v110 : ¬ ((121 : Int32) = 110 ∧ S t 4 = 0) := fun q => absurd q.1 (by decide)
    have h0 : ∀ v : Int32, yM S J ((xw ν md 7 v) (md + 1)) := fun v => yM_7 h
    by_cases c0 : p2 < 1
    · have v : yvT 121 p2 (S t) = (-2, 0) := by unfold yvT; rw [if_neg v115, if_pos ⟨rfl, c0⟩]
      rw [v]
      refine ⟨fun _ => ?_, fun q => absurd q (show ¬ (0 : Int32) < -2 by decide), fun q => absurd q (show ¬ (-2 : Int32) = 0 by decide)⟩
      simp only [fX8_pay, y_isTicket h hn, if_neg c1, if_pos c0, y_xb, if_neg y_n10, y_fails2]
      rfl
    have v121 : ¬ ((121 : Int32) = 121 ∧ p2 < 1) := fun q => c0 q.2
    by_cases c2 : S t 5 = 0
    · by_cases c3 : p2 < nI (S t 3 + S t 4)
      · have v : yvT 121 p2 (S t) = (0, 0) := by unfold yvT; rw [if_neg v115, if_neg v121, if_neg (show ¬ S t 5 ≠ 0 from fun q => q c2), if_neg (show ¬ ((121 : Int32) = 121 ∧ nI (S t 3 + S t 4) ≤ p2) from fun q => Int32.not_le.mpr c3 q.2), if_neg v110]
        obtain ⟨q, rfl, w1, w2⟩ := yv_payq (hI.2.1 t ht) (by rw [v])
        rw [v]
        refine ⟨fun q => absurd q (by decide), fun q => absurd q (by decide), fun _ ν1 hk hg => ?_⟩
        obtain ⟨d1, d2, d3⟩ := yD_121 (t := t) (q := q) (p3 := p3) (S := S) (J := J) (by omega) (by omega)
        rw [d1, d2, d3]
        have h1 : yM S J (ν1 (md + 1)) := by rw [hg]; exact h
        obtain ⟨s0, s1, s2, s3, s4, s5, s6, s7, s8, s9, s10⟩ := h1.2.1 t ht
        have s3' : ν1 (md + 1) (11 + 11 * t + 3) = nI (S t 4) := s3
        have s2' : ν1 (md + 1) (11 + 11 * t + 2) = nI (S t 3) := s2
        have e3 : ypay (S t) q 3 = S t 3 - (q - min q (S t 4)) := rfl
        have e4 : ypay (S t) q 4 = S t 4 - min q (S t 4) := rfl
        refine ⟨xw (xw (yco md t (nI q) ν1) (md + 1) (11 + 11 * t + 3) (nI (ypay (S t) q 4))) (md + 1) (11 + 11 * t + 2) (nI (ypay (S t) q 3)), ?_, ?_, fun a ha => by rw [xw_row ha, xw_row ha, yco_f ha]⟩
        · have b4 : S t 4 < 2147483648 := by omega
          have bq : q < 2147483648 := by omega
          simp only [fX8_pay, y_isTicket h hn, if_neg c1, if_neg c0, y_xb, if_true, y_fails0, if_neg y_n10, y_of4 h16, y_of3 h16, y_of2 h16, y_wn hne, r4, y_i0 b5, if_pos c2, y_m_owed (h0 0) hn ht, if_pos c3, hk, y_xbv, s3', y_comes h16, y_lays3 h16, y_ile b4 bq]
          by_cases c4 : S t 4 ≤ q
          · rw [if_pos c4]
            simp (disch := omega) only [yco_o, s3', s2', y_wk, y_lays2 h16, y_xbv, fX8_owed, y_of2 h16, y_of3 h16, y_xb, xw_same]
            rw [pk_sub (Nat.le_refl _), pk_sub c4, pk_sub (show q - S t 4 ≤ S t 3 by omega), nI_add, show S t 4 - S t 4 = ypay (S t) q 4 by rw [e4]; omega, show S t 3 - (q - S t 4) = ypay (S t) q 3 by rw [e3]; omega]
          · rw [if_neg c4]
            simp (disch := omega) only [yco_o, s3', s2', y_wk, y_lays2 h16, y_xbv, fX8_owed, y_of2 h16, y_of3 h16, y_xb, xw_same]
            rw [pk_sub (show q ≤ S t 4 by omega), pk_sub (Nat.le_refl q), pk_sub (show q - q ≤ S t 3 by omega), nI_add, show S t 4 - q = ypay (S t) q 4 by rw [e4]; omega, show S t 3 - (q - q) = ypay (S t) q 3 by rw [e3]; omega]
        · refine yM_tk h1 hn ht ?_ ?_ (fun i i4 i6 io => ?_) rfl rfl rfl (yloss_c (by show S t 5 ≠ 3; omega) (by omega)) ⟨?_, ?_, ?_, ?_, ?_, ?_, ?_, ?_, ?_, ?_, ?_⟩
          · simp (disch := omega) only [y_wk, yco_4]
          · simp (disch := omega) only [y_wk, yco_6]
          · rw [y_wk (by omega), y_wk (by omega), yco_o i4 i6 (by omega)]
          · show xw _ _ _ _ (md + 1) (11 + 11 * t + 0) = nI (S t 0)
            simp (disch := omega) only [y_wk, yco_o]
            exact s0
          · show xw _ _ _ _ (md + 1) (11 + 11 * t + 1) = nI (S t 1)
            simp (disch := omega) only [y_wk, yco_o]
            exact s1
          · show xw _ _ _ _ (md + 1) (11 + 11 * t + 2) = nI (ypay (S t) q 3)
            rw [xw_same]
          · show xw _ _ _ _ (md + 1) (11 + 11 * t + 3) = nI (ypay (S t) q 4)
            simp (disch := omega) only [y_wk, xw_same]
          · show xw _ _ _ _ (md + 1) (11 + 11 * t + 4) = nI (S t 5)
            simp (disch := omega) only [y_wk, yco_o]
            exact s4
          · show xw _ _ _ _ (md + 1) (11 + 11 * t + 5) = nI (S t 6)
            simp (disch := omega) only [y_wk, yco_o]
            exact s5
          · show xw _ _ _ _ (md + 1) (11 + 11 * t + 6) = nI (S t 7)
            simp (disch := omega) only [y_wk, yco_o]
            exact s6
          · intro (q : S t 5 = 1); omega
          · show xw _ _ _ _ (md + 1) (11 + 11 * t + 8) = nI (S t 9 + q)
            simp (disch := omega) only [y_wk, yco_8]
            rw [show ν1 (md + 1) (11 + 11 * t + 8) = nI (S t 9) from s8, nI_add]
          · intro (q : S t 5 = 1); omega
          · intro (q : S t 5 = 1); omega
      · have v : yvT 121 p2 (S t) = (5, nI (S t 3 + S t 4)) := by unfold yvT; rw [if_neg v115, if_neg v121, if_neg (show ¬ S t 5 ≠ 0 from fun q => q c2), if_pos ⟨rfl, Int32.not_lt.mp c3⟩]
        rw [v]
        refine ⟨fun q => absurd q (show ¬ (5 : Int32) < 0 by decide), fun _ => ?_, fun q => absurd q (show ¬ (5 : Int32) = 0 by decide)⟩
        simp only [fX8_pay, y_isTicket h hn, if_neg c1, if_neg c0, y_xb, if_true, y_fails0, if_neg y_n10, y_of4 h16, y_wn hne, r4, y_i0 b5, if_pos c2, y_m_owed (h0 0) hn ht, if_neg c3, y_refuses, yrf_7]
        rfl
    · have v : yvT 121 p2 (S t) = (4, nI (S t 5)) := by unfold yvT; rw [if_neg v115, if_neg v121, if_pos (show S t 5 ≠ 0 from c2)]
      rw [v]
      refine ⟨fun q => absurd q (show ¬ (4 : Int32) < 0 by decide), fun _ => ?_, fun q => absurd q (show ¬ (4 : Int32) = 0 by decide)⟩
      simp only [fX8_pay, y_isTicket h hn, if_neg c1, if_neg c0, y_xb, if_true, y_fails0, if_neg y_n10, y_of4 h16, y_wn hne, r4, y_i0 b5, if_neg c2, y_refuses, yrf_7]
      rfl
