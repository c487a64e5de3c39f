/-! THE PURE PART: the model's sell, claim, pledge -/
theorem y_m_sell {md W : Nat} {S : Nat → Nat → Nat} {J : Nat → Int32} {ν : xM} (h : yM S J (ν (md + 1))) (hI : yI W S) (p1 p2 p3 : Int32) : yMo md 115 (yv 115 p1 p2 p3 S J) (yopR 115 p1 p2 p3 S J) (yopS 115 p1 p2 p3 S) (yopJ 115 p1 p2 p3 S J) ν (fX8_sell md p1 p2 ν) := by
  have hn := hI.1.1
  have hne : md + 1 ≠ md := by omega
  rw [yv_tk (Or.inr (Or.inr (Or.inl rfl)))]
  by_cases c1 : p1 < 0 ∨ nI (S 16 0) ≤ p1
  · rw [if_pos c1]
    refine ⟨fun _ => ?_, fun q => absurd q (show ¬ (0 : Int32) < -3 by decide), fun q => absurd q (show ¬ (-3 : Int32) = 0 by decide)⟩
    simp only [fX8_sell, y_isTicket h hn, if_pos c1, y_xb, if_true, y_fails1, if_neg y_n10, yth_3]
  · rw [if_neg c1]
    obtain ⟨t, ht, rfl⟩ := y_nin (by omega) c1
    have h16 : t < 16 := by omega
    rw [nI_clamp (by omega)]
    have p := hI.2.1 t ht
    obtain ⟨p0, p1', p3', p4, p5, p6, p7, p8, p10, p11, pr0, pr1, pr2, pr3⟩ := p
    obtain ⟨q0, q1, q2, q3, q4, q5, q6, q7, q8, q9, q10⟩ := h.2.1 t ht
    have b5 : S t 5 < 2147483648 := by omega
    have r4 : ν (md + 1) (11 + 11 * t + 4) = nI (S t 5) := q4
    by_cases c0 : p2 < 1 ∨ 9999 < p2
    · have v : yvT 115 p2 (S t) = (-2, 0) := by unfold yvT; rw [if_pos rfl, if_pos c0]
      have c0' : ¬ (1 ≤ p2 ∧ p2 ≤ 9999) := fun q => c0.elim (Int32.not_lt.mpr q.1) (Int32.not_lt.mpr q.2)
      rw [v]
      refine ⟨fun _ => ?_, fun q => absurd q (show ¬ (0 : Int32) < -2 by decide), fun q => absurd q (show ¬ (-2 : Int32) = 0 by decide)⟩
      simp only [fX8_sell, y_isTicket h hn, if_neg c1, y_in, if_neg c0', y_xb, if_neg y_n10, if_true, y_fails2]
      rfl
    have c0' : 1 ≤ p2 ∧ p2 ≤ 9999 := ⟨Int32.not_lt.mp (fun q => c0 (Or.inl q)), Int32.not_lt.mp (fun q => c0 (Or.inr q))⟩
    by_cases c2 : S t 5 = 1
    · have r7 : ν (md + 1) (11 + 11 * t + 7) = nI (S t 8) := q7 c2
      by_cases c3 : nI (S t 8) ≤ p2
      · have v : yvT 115 p2 (S t) = (0, 0) := by unfold yvT; rw [if_pos rfl, if_neg c0, if_neg (show ¬ S t 5 ≠ 1 from fun q => q c2), if_neg (show ¬ ¬ (nI (S t 8) ≤ p2) from fun q => q c3)]
        obtain ⟨q, rfl, w1, w2⟩ := y_rng (p := p2) (lo := 1) (hi := 9999) (by decide) (fun q => c0 (Or.inl q)) (fun q => c0 (Or.inr q)) (by decide)
        rw [v]
        refine ⟨fun q => absurd q (by decide), fun q => absurd q (by decide), fun _ ν1 hk hg => ?_⟩
        obtain ⟨d1, d2, d3⟩ := yD_115 (t := t) (q := q) (p3 := p3) (S := S) (J := J) (by omega) (by omega)
        rw [d1, d2, d3]
        have h1 : yM S J (ν1 (md + 1)) := by rw [hg]; exact h
        obtain ⟨s0, s1, s2, s3, s4, s5, s6, s7, s8, s9, s10⟩ := h1.2.1 t ht
        have s0' : ν1 (md + 1) (11 + 11 * t + 0) = nI (S t 0) := s0
        have s9' : ν1 (md + 1) (11 + 11 * t + 9) = nI (S t 10) := s9 c2
        have sl : ν1 (md + 1) (187 + S t 0) = J (1 + S t 0) := (h1.2.2 _ p0).1
        have s4' : ν1 (md + 1) 4 = J 0 := h1.1.2.2.2.2.1
        have vin : vp_in (nI (187 + S t 0)) 199 := vp_in_nI (by omega) (by decide)
        have vcl : (nI (187 + S t 0)).toNatClampNeg = 187 + S t 0 := nI_clamp (by omega)
        have eix : (187 : Int32) + nI (S t 0) = nI (187 + S t 0) := nI_add 187 (S t 0)
        have k0 : (0 ≤ nI q - nI (S t 10)) = (S t 10 ≤ q) := by
          rw [Int32.le_iff_toInt_le, pk_sub_toInt (by omega) (by omega)]
          exact propext ⟨fun z => by have : (0 : Int) ≤ (q : Int) - (S t 10 : Nat) := z; omega, fun z => by show (0 : Int) ≤ (q : Int) - (S t 10 : Nat); omega⟩
        have k1 : (nI q - nI (S t 10) ≤ 0) = (q ≤ S t 10) := by
          rw [Int32.le_iff_toInt_le, pk_sub_toInt (by omega) (by omega)]
          exact propext ⟨fun z => by have : (q : Int) - (S t 10 : Nat) ≤ (0 : Int) := z; omega, fun z => by show (q : Int) - (S t 10 : Nat) ≤ (0 : Int); omega⟩
        -- what the row is behind it, at the losses v9
        have fin : ∀ v9 : Int32, (v9 = ν1 (md + 1) 9 + nI (S t 10 - q)) → yM (ySell S t q) (yj (yj J (1 + S t 0) (J (1 + S t 0) + nI (q - S t 10))) 0 (J 0 + nI q)) ((xw (xw (xw (xw (xw ν1 (md + 1) (11 + 11 * t + 4) 3) (md + 1) 4 (J 0 + nI q)) (md + 1) 7 (ν1 (md + 1) 7 + nI q)) (md + 1) 9 v9) (md + 1) (187 + S t 0) (J (1 + S t 0) + nI (q - S t 10))) (md + 1)) := by
          intro v9 hv9
          refine yM_row h1 hn ht ?_ ?_ ?_ ?_ ?_ ?_ ?_ ?_ ?_ ?_ ?_ ⟨?_, ?_, ?_, ?_, ?_, ?_, ?_, ?_, ?_, ?_, ?_⟩ (fun u hu hne' k hk => ?_) (fun j hj => ?_)
          · simp (disch := omega) only [y_wk]
          · simp (disch := omega) only [y_wk]
          · simp (disch := omega) only [y_wk]
          · simp (disch := omega) only [y_wk]
          · simp (disch := omega) only [y_wk, xw_same, yj_s]
          · show _ = _ + (nI (S t 2) - nI (S t 2))
            rw [Int32.sub_self, Int32.add_zero]
            simp (disch := omega) only [y_wk]
          · show _ = _ + (nI (S t 9) - nI (S t 9))
            rw [Int32.sub_self, Int32.add_zero]
            simp (disch := omega) only [y_wk]
          · show _ = _ + (nI q - nI (S t 11))
            rw [pr3 (by omega), nI_0, Int32.sub_zero]
            simp (disch := omega) only [y_wk, xw_same]
          · simp (disch := omega) only [y_wk]
            rw [h1.1.2.2.2.2.2.2.2.2.1]
            exact ysI_ext (fun j _ _ => by rw [yj_n (by omega), yj_n (by omega)])
          · have l1 : yloss (S t) = 0 := by unfold yloss; rw [if_neg (by omega)]
            have l2 : yloss (fun k => if k = 5 then 3 else if k = 8 then 0 else if k = 11 then q else S t k) = S t 10 - q := rfl
            rw [l1, l2, nI_0, Int32.sub_zero]
            simp (disch := omega) only [y_wk, xw_same]
            exact hv9
          · simp (disch := omega) only [y_wk]
          · show xw _ _ _ _ (md + 1) (11 + 11 * t + 0) = nI (S t 0)
            simp (disch := omega) only [y_wk]
            exact s0
          · show xw _ _ _ _ (md + 1) (11 + 11 * t + 1) = nI (S t 1)
            simp (disch := omega) only [y_wk]
            exact s1
          · show xw _ _ _ _ (md + 1) (11 + 11 * t + 2) = nI (S t 3)
            simp (disch := omega) only [y_wk]
            exact s2
          · show xw _ _ _ _ (md + 1) (11 + 11 * t + 3) = nI (S t 4)
            simp (disch := omega) only [y_wk]
            exact s3
          · show xw _ _ _ _ (md + 1) (11 + 11 * t + 4) = nI 3
            simp (disch := omega) only [y_wk, xw_same]
            rfl
          · show xw _ _ _ _ (md + 1) (11 + 11 * t + 5) = nI (S t 6)
            simp (disch := omega) only [y_wk]
            exact s5
          · show xw _ _ _ _ (md + 1) (11 + 11 * t + 6) = nI (S t 7)
            simp (disch := omega) only [y_wk]
            exact s6
          · intro (z : (3 : Nat) = 1); exact absurd z (by decide)
          · show xw _ _ _ _ (md + 1) (11 + 11 * t + 8) = nI (S t 9)
            simp (disch := omega) only [y_wk]
            exact s8
          · intro (z : (3 : Nat) = 1); exact absurd z (by decide)
          · intro (z : (3 : Nat) = 1); exact absurd z (by decide)
          · simp (disch := omega) only [y_wk]
          · have a2 : xw (xw (xw (xw (xw ν1 (md + 1) (11 + 11 * t + 4) 3) (md + 1) 4 (J 0 + nI q)) (md + 1) 7 (ν1 (md + 1) 7 + nI q)) (md + 1) 9 v9) (md + 1) (187 + S t 0) (J (1 + S t 0) + nI (q - S t 10)) (md + 1) (193 + j) = J (7 + j) := by
              simp (disch := omega) only [y_wk]
              exact (h1.2.2 j hj).2
            refine ⟨?_, by rw [a2, yj_n (by omega), yj_n (by omega)]⟩
            by_cases cj : j = S t 0
            · rw [cj, xw_same, yj_n (by omega), yj_s]
            · simp (disch := omega) only [y_wk]
              rw [yj_n (by omega), yj_n (by omega)]
              exact (h1.2.2 j hj).1
        by_cases c4 : S t 10 ≤ q
        · have z9 : xw (xw (xw (xw ν1 (md + 1) (11 + 11 * t + 4) 3) (md + 1) 4 (J 0 + nI q)) (md + 1) 7 (ν1 (md + 1) 7 + nI q)) (md + 1) 9 (ν1 (md + 1) 9) = xw (xw (xw ν1 (md + 1) (11 + 11 * t + 4) 3) (md + 1) 4 (J 0 + nI q)) (md + 1) 7 (ν1 (md + 1) 7 + nI q) := by
            funext a j
            by_cases ca : a = md + 1
            · subst ca
              by_cases cj : j = 9
              · subst cj
                rw [xw_same]
                simp (disch := omega) only [y_wk]
              · rw [y_wk cj]
            · rw [xw_row ca]
          have f := fin (ν1 (md + 1) 9) (by rw [show S t 10 - q = 0 by omega, nI_0, Int32.add_zero])
          rw [z9] at f
          refine ⟨_, ?_, f, fun a ha => by rw [xw_row ha, xw_row ha, xw_row ha, xw_row ha]⟩
          simp only [fX8_sell, y_isTicket h hn, if_neg c1, y_in, if_pos c0', y_xb, if_neg y_n10, if_true, y_fails0, y_of4 h16, y_of7 h16, y_of9 h16, y_of0 h16, y_wn hne, r4, y_i1 b5, if_pos c2, r7, if_pos c3, hk, y_xbv, s9', y_lays4 h16, k0, k1, if_pos c4]
          by_cases c5 : q ≤ S t 10
          · rw [if_pos c5]
            simp (disch := omega) only [y_wk, s0', eix, y_xk vin, vcl, sl, s4']
            rw [show q - S t 10 = 0 by omega]
            rfl
          · rw [if_neg c5]
            simp (disch := omega) only [y_wk, s0', eix, y_xk vin, vcl, sl, s4', pk_sub c4]
        · have f := fin (ν1 (md + 1) 9 - (nI q - nI (S t 10))) (by rw [← pk_sub (show q ≤ S t 10 by omega)]; grind)
          rw [show q - S t 10 = 0 by omega] at f ⊢
          refine ⟨_, ?_, f, fun a ha => by rw [xw_row ha, xw_row ha, xw_row ha, xw_row ha, xw_row ha]⟩
          have c5 : q ≤ S t 10 := by omega
          simp only [fX8_sell, y_isTicket h hn, if_neg c1, y_in, if_pos c0', y_xb, if_neg y_n10, if_true, y_fails0, y_of4 h16, y_of7 h16, y_of9 h16, y_of0 h16, y_wn hne, r4, y_i1 b5, if_pos c2, r7, if_pos c3, hk, y_xbv, s9', y_lays4 h16, k0, k1, if_neg c4, if_pos c5]
          simp (disch := omega) only [y_wk, s0', eix, y_xk vin, vcl, sl, s4']
          rfl
      · have v : yvT 115 p2 (S t) = (8, nI (S t 8)) := by unfold yvT; rw [if_pos rfl, if_neg c0, if_neg (show ¬ S t 5 ≠ 1 from fun q => q c2), if_pos c3]
        rw [v]
        refine ⟨fun q => absurd q (show ¬ (8 : Int32) < 0 by decide), fun _ => ?_, fun q => absurd q (show ¬ (8 : Int32) = 0 by decide)⟩
        simp only [fX8_sell, y_isTicket h hn, if_neg c1, y_in, if_pos c0', y_xb, if_neg y_n10, if_true, y_fails0, y_of4 h16, y_of7 h16, y_wn hne, r4, y_i1 b5, if_pos c2, r7, if_neg c3, y_refuses, yrf_7]
        rfl
    · have v : yvT 115 p2 (S t) = (7, nI (S t 5)) := by unfold yvT; rw [if_pos rfl, if_neg c0, if_pos (show S t 5 ≠ 1 from c2)]
      rw [v]
      refine ⟨fun q => absurd q (show ¬ (7 : Int32) < 0 by decide), fun _ => ?_, fun q => absurd q (show ¬ (7 : Int32) = 0 by decide)⟩
      simp only [fX8_sell, y_isTicket h hn, if_neg c1, y_in, if_pos c0', y_xb, if_neg y_n10, if_true, y_fails0, y_of4 h16, y_wn hne, r4, y_i1 b5, if_neg c2, y_refuses, yrf_7]
      rfl
theorem y_m_claim {md W : Nat} {S : Nat → Nat → Nat} {J : Nat → Int32} {ν : xM} (h : yM S J (ν (md + 1))) (hI : yI W S) (p1 p2 p3 : Int32) : yMo md 99 (yv 99 p1 p2 p3 S J) (yopR 99 p1 p2 p3 S J) (yopS 99 p1 p2 p3 S) (yopJ 99 p1 p2 p3 S J) ν (fX8_claim md p1 ν) := by
  have hn := hI.1.1
  have hne : md + 1 ≠ md := by omega
  rw [yv_99]
  have h0 : yM S J ((xw ν md 7 0) (md + 1)) := yM_7 h
  by_cases c1 : p1 < 0 ∨ 6 ≤ p1
  · have v : yvC p1 S J = (-1, 0) := by unfold yvC; rw [if_pos c1]
    have c2 : ¬ (0 ≤ p1 ∧ p1 ≤ 5) := by
      rintro ⟨u1, u2⟩
      rcases c1 with c1 | c1
      · exact Int32.not_lt.mpr u1 c1
      · have := Int32.le_trans c1 u2
        exact absurd this (by decide)
    rw [v]
    refine ⟨fun _ => ?_, fun q => absurd q (show ¬ (0 : Int32) < -1 by decide), fun q => absurd q (show ¬ (-1 : Int32) = 0 by decide)⟩
    simp only [fX8_claim, y_in, y_xb, if_neg c2, if_true, y_fails1, if_neg y_n10]
    rfl
  · obtain ⟨o, ho, rfl⟩ := y_nin (n := 6) (by decide) c1
    have c2 : 0 ≤ nI o ∧ nI o ≤ 5 := ⟨nI_pos' (by omega), show nI o ≤ nI 5 from (nI_leI (by omega) (by decide)).mpr (by omega)⟩
    have cl : (nI o).toNatClampNeg = o := nI_clamp (by omega)
    have e1 : (187 : Int32) + nI o = nI (187 + o) := nI_add 187 o
    have e2 : (193 : Int32) + nI o = nI (193 + o) := nI_add 193 o
    have i1 : vp_in (nI (187 + o)) 199 := vp_in_nI (by omega) (by decide)
    have i2 : vp_in (nI (193 + o)) 199 := vp_in_nI (by omega) (by decide)
    have l1 : (nI (187 + o)).toNatClampNeg = 187 + o := nI_clamp (by omega)
    have l2 : (nI (193 + o)).toNatClampNeg = 193 + o := nI_clamp (by omega)
    have r1 : ν (md + 1) (187 + o) = J (1 + o) := (h.2.2 o ho).1
    have r4 : ν (md + 1) 4 = J 0 := h.1.2.2.2.2.1
    by_cases c3 : J (1 + o) = 0
    · have v : yvC (nI o) S J = (9, ysI (fun t => if nI (S t 5) = 3 ∧ nI (S t 0) = nI o then 1 else 0) 0 (S 16 0)) := by unfold yvC; rw [if_neg c1, cl, if_pos c3]
      rw [v]
      refine ⟨fun q => absurd q (show ¬ (9 : Int32) < 0 by decide), fun _ => ?_, fun q => absurd q (show ¬ (9 : Int32) = 0 by decide)⟩
      simp only [fX8_claim, y_in, y_xb, if_pos c2, if_neg y_n10, if_true, y_fails0, e1, y_xk i1, l1, y_wn hne, r1, if_pos c3, y_m_ofOwner h0 hn, y_refuses, yrf_7]
      rfl
    · by_cases c4 : J (1 + o) ≤ J 0
      · have v : yvC (nI o) S J = (0, 0) := by unfold yvC; rw [if_neg c1, cl, if_neg c3, if_neg (show ¬ ¬ (J (1 + o) ≤ J 0) from fun q => q c4)]
        rw [v]
        refine ⟨fun q => absurd q (by decide), fun q => absurd q (by decide), fun _ ν1 hk hg => ?_⟩
        obtain ⟨d1, d2, d3⟩ := yD_99 (o := o) (p2 := p2) (p3 := p3) (S := S) (J := J) (by omega)
        rw [d1, d2, d3]
        have h1 : yM S J (ν1 (md + 1)) := by rw [hg]; exact h
        have s3 : ν1 (md + 1) (193 + o) = J (7 + o) := (h1.2.2 o ho).2
        have s4 : ν1 (md + 1) 4 = J 0 := h1.1.2.2.2.2.1
        refine ⟨xw (xw (xw (xw ν1 (md + 1) (187 + o) 0) (md + 1) (193 + o) (J (7 + o) + J (1 + o))) (md + 1) 4 (J 0 - J (1 + o))) (md + 1) 8 (ν1 (md + 1) 8 + J (1 + o)), ?_, ?_, fun a ha => by rw [xw_row ha, xw_row ha, xw_row ha, xw_row ha]⟩
        · simp only [fX8_claim, y_in, y_xb, if_pos c2, if_neg y_n10, if_true, y_fails0, e1, y_xk i1, l1, y_wn hne, r1, if_neg c3, r4, if_pos c4, hk, y_xbv, e2, y_xk i2, l2]
          simp (disch := omega) only [y_wk, s3, s4]
        · obtain ⟨⟨g0, g1, g2, g3, g4, g5, g6, g7, g8, g9, g10⟩, hr, hj⟩ := h1
          refine ⟨⟨?_, ?_, ?_, ?_, ?_, ?_, ?_, ?_, ?_, ?_, ?_⟩, fun t ht => ?_, fun j hj6 => ?_⟩
          · simp (disch := omega) only [y_wk]; exact g0
          · simp (disch := omega) only [y_wk]; exact g1
          · simp (disch := omega) only [y_wk]; exact g2
          · simp (disch := omega) only [y_wk]; exact g3
          · simp (disch := omega) only [y_wk, xw_same, yj_s]
          · simp (disch := omega) only [y_wk]; exact g5
          · simp (disch := omega) only [y_wk]; exact g6
          · simp (disch := omega) only [y_wk]; exact g7
          · rw [xw_same, g8]
            have e := ysI_upd (g := fun j => J (7 + j)) (h := fun j => yj (yj (yj J (1 + o) 0) (7 + o) (J (7 + o) + J (1 + o))) 0 (J 0 - J (1 + o)) (7 + j)) (i := o) (u := 6) (t := 0) (by omega) (by omega) (fun j _ _ hj' => by show yj _ _ _ (7 + j) = _; rw [yj_n (by omega), yj_n (by omega), yj_n (by omega)])
            rw [e]
            show _ = _ + (yj (yj (yj J (1 + o) 0) (7 + o) (J (7 + o) + J (1 + o))) 0 (J 0 - J (1 + o)) (7 + o) - J (7 + o))
            rw [yj_n (by omega), yj_s]
            grind
          · simp (disch := omega) only [y_wk]; exact g9
          · simp (disch := omega) only [y_wk]; exact g10
          · have q := hr t ht
            unfold yQ at q ⊢
            simp (disch := omega) only [y_wk]
            exact q
          · have hj' := hj j hj6
            by_cases cj : j = o
            · subst cj
              simp (disch := omega) only [y_wk, xw_same, yj_n, yj_s, and_self]
            · simp (disch := omega) only [y_wk, yj_n]
              exact hj'
      · have v : yvC (nI o) S J = (3, J 0) := by unfold yvC; rw [if_neg c1, cl, if_neg c3, if_pos c4]
        rw [v]
        refine ⟨fun q => absurd q (show ¬ (3 : Int32) < 0 by decide), fun _ => ?_, fun q => absurd q (show ¬ (3 : Int32) = 0 by decide)⟩
        simp only [fX8_claim, y_in, y_xb, if_pos c2, if_neg y_n10, if_true, y_fails0, e1, y_xk i1, l1, y_wn hne, r1, if_neg c3, r4, if_neg c4, y_refuses, yrf_7]
        rfl
