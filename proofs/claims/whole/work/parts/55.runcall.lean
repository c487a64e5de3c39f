/-! THE PURE PART: the call of run -/
theorem y_th12 {K v : Int32} : yth K v = 1 ∨ yth K v = 2 := by
  unfold yth
  by_cases c : v = -2 ∧ (K = 112 ∨ K = 121 ∨ K = 115)
  · rw [if_pos c]; exact Or.inr rfl
  · rw [if_neg c]; exact Or.inl rfl
theorem y_th1 {K v : Int32} (h : ¬ (K = 112 ∨ K = 121 ∨ K = 115)) : yth K v = 1 := by
  unfold yth
  rw [if_neg (fun q => h q.2)]
theorem y_last {K : Nat} {v : Int32} (hK : yK7 K) (hr : yvr (nI K) v) : ∃ l, (∀ ν, fX8_lastOf (nI K) ν = some (l, ν)) ∧ (¬ yth (nI K) v = l) ∧ (0 < v → yla (nI K) = l) := by
  have h3 : ∀ l : Int32, l = 3 ∨ l = -1 → ¬ yth (nI K) v = l := by
    intro l hl q
    rcases y_th12 (K := nI K) (v := v) with e | e <;> rw [e] at q <;> rcases hl with rfl | rfl <;> exact absurd q (by decide)
  unfold yK7 at hK
  rcases hK with rfl | rfl | rfl | rfl | rfl | rfl | rfl
  · exact ⟨3, fun ν => by rw [fX8_lastOf, if_neg (show ¬ nI 112 = 119 by decide), if_pos (show nI 112 = 112 from rfl)], h3 3 (Or.inl rfl), fun _ => yla_3 (Or.inl rfl)⟩
  · exact ⟨3, fun ν => by rw [fX8_lastOf, if_neg (show ¬ nI 121 = 119 by decide), if_neg (show ¬ nI 121 = 112 by decide), if_pos (show nI 121 = 121 from rfl)], h3 3 (Or.inl rfl), fun _ => yla_3 (Or.inr (Or.inl rfl))⟩
  · exact ⟨3, fun ν => by rw [fX8_lastOf, if_neg (show ¬ nI 115 = 119 by decide), if_neg (show ¬ nI 115 = 112 by decide), if_neg (show ¬ nI 115 = 121 by decide), if_pos (show nI 115 = 115 from rfl)], h3 3 (Or.inl rfl), fun _ => yla_3 (Or.inr (Or.inr rfl))⟩
  · exact ⟨2, fun ν => by rw [fX8_lastOf, if_neg (show ¬ nI 99 = 119 by decide), if_neg (show ¬ nI 99 = 112 by decide), if_neg (show ¬ nI 99 = 121 by decide), if_neg (show ¬ nI 99 = 115 by decide)], by rw [y_th1 (by decide)]; decide, fun _ => yla_2 (by decide)⟩
  · refine ⟨-1, fun ν => by rw [fX8_lastOf, if_pos (show nI 119 = 119 from rfl)], h3 (-1) (Or.inr rfl), fun hv => ?_⟩
    rcases hr with r | r | r | r | r
    · rw [r.1] at hv; exact absurd hv (by decide)
    · rw [r.1] at hv; exact absurd hv (by decide)
    · rw [r.1] at hv; exact absurd hv (by decide)
    · exact absurd rfl r.2.2
    · rw [r] at hv; exact absurd hv (by decide)
  · exact ⟨2, fun ν => by rw [fX8_lastOf, if_neg (show ¬ nI 114 = 119 by decide), if_neg (show ¬ nI 114 = 112 by decide), if_neg (show ¬ nI 114 = 121 by decide), if_neg (show ¬ nI 114 = 115 by decide)], by rw [y_th1 (by decide)]; decide, fun _ => yla_2 (by decide)⟩
  · exact ⟨2, fun ν => by rw [fX8_lastOf, if_neg (show ¬ nI 110 = 119 by decide), if_neg (show ¬ nI 110 = 112 by decide), if_neg (show ¬ nI 110 = 121 by decide), if_neg (show ¬ nI 110 = 115 by decide)], by rw [y_th1 (by decide)]; decide, fun _ => yla_2 (by decide)⟩
/-- the model's end of a text that is refused -/
theorem y_refE {md q g K : Nat} {v : Int32 × Int32} {R N : Int32} {ν : xM} (hq : q < 20) (hN : ν md 19 = N) (hK : yK7 K) (hr : yvr (nI K) v.1) (hv : v.1 ≠ 0) (hT : ν (md + 7) (4 * q) = nI K) (h1 : v.1 < 0 → ν md 7 = yth (nI K) v.1) (h2 : 0 < v.1 → ν md 7 = yla (nI K) ∧ ν md 8 = v.1 ∧ ν md 9 = v.2) : ∃ ν1, lX8_run_66 md (g + 1) 1 (nI (q + 1)) R ν = some (0, ν1) ∧ ν1 md 7 = 2 ∧ ν1 md 8 = 11 ∧ ν1 md 9 = nI q ∧ ν1 md 10 = (if 0 < v.1 then v.1 else 0) ∧ ν1 md 11 = (if 0 < v.1 then v.2 else 0) ∧ ν1 md 6 = 0 ∧ (∀ k, k ≠ 6 → k ≠ 7 → k ≠ 8 → k ≠ 9 → k ≠ 10 → k ≠ 11 → ν1 md k = ν md k) ∧ (∀ a, a ≠ md → a ≠ md + 1 → ν1 a = ν a) ∧ ∀ j, j < 199 → ν1 (md + 1) j = ν (md + 4) j := by
  obtain ⟨l, l1, l2, l3⟩ := y_last hK hr
  obtain ⟨m, k1, k2, k3, k4⟩ := y_copies (s := md + 4) (d := md + 1) (n0 := 199) (n2 := 199) (P := 0) (Q := 0) (by omega) (by omega) (by omega) (by omega) (by omega) (xw ν md 6 0)
  have k1' : fX8_copies (md + 4) 199 0 (md + 1) 199 0 (xw ν md 6 0) = some m := k1
  have c7 : ν md 7 = 1 ∨ ν md 7 = 2 ∨ ν md 7 = 3 := by
    rcases hr with r | r | r | r | r
    · rw [h1 (by rw [r.1]; decide)]; rcases y_th12 (K := nI K) (v := v.1) with e | e <;> rw [e]; exact Or.inl rfl; exact Or.inr (Or.inl rfl)
    · rw [h1 (by rw [r.1]; decide)]; rcases y_th12 (K := nI K) (v := v.1) with e | e <;> rw [e]; exact Or.inl rfl; exact Or.inr (Or.inl rfl)
    · rw [h1 (by rw [r.1]; decide)]; rcases y_th12 (K := nI K) (v := v.1) with e | e <;> rw [e]; exact Or.inl rfl; exact Or.inr (Or.inl rfl)
    · rw [(h2 r.1).1]
      unfold yla
      by_cases c : nI K = 112 ∨ nI K = 121 ∨ nI K = 115
      · rw [if_pos c]; exact Or.inr (Or.inr rfl)
      · rw [if_neg c]; exact Or.inr (Or.inl rfl)
    · exact absurd r hv
  have n0 : ¬ ν md 7 = 0 := by rcases c7 with e | e | e <;> rw [e] <;> decide
  have nle : ¬ (xw ν md 6 0) md 7 ≤ 0 := by rw [y_wk (by decide)]; rcases c7 with e | e | e <;> rw [e] <;> decide
  have e4 : (4 : Int32) * nI (q + 1) - 4 = nI (4 * q) := by rw [show (4 : Int32) = nI 4 from rfl, pk_mul, pk_sub (by omega), show 4 * (q + 1) - 4 = 4 * q by omega]
  have e1 : nI (q + 1) - 1 = nI q := nI_pred q
  have m7 : m md 7 = ν md 7 := by rw [k4 _ (by omega), y_wk (by decide)]
  have m8 : m md 8 = ν md 8 := by rw [k4 _ (by omega), y_wk (by decide)]
  have m9 : m md 9 = ν md 9 := by rw [k4 _ (by omega), y_wk (by decide)]
  have mT : m (md + 7) (4 * q) = nI K := by rw [k4 _ (by omega), xw_row (by omega)]; exact hT
  have hx : lX8_run_66 md (g + 1) 1 (nI (q + 1)) R ν = some (0, if 0 < v.1 then xw (xw (yrf md 2 11 (nI q) m) md 10 v.1) md 11 v.2 else xw (xw (yrf md 2 11 (nI q) m) md 10 0) md 11 0) := by
    rw [lX8_run_66, hN]
    by_cases c : N ≤ nI (q + 1)
    · rw [if_pos c, if_neg nle, k1', y_xbv, e4, y_xk (vp_in_nI (by omega) (by decide)), nI_clamp (by omega), mT, l1, y_xb, m7, e1]
      by_cases cv : 0 < v.1
      · rw [if_pos ((h2 cv).1.trans (l3 cv)), if_neg y_n10, if_neg y_n10, y_refuses, y_xb, m8, m9, (h2 cv).2.1, (h2 cv).2.2, if_pos cv]
      · have cn : v.1 < 0 := by
          rcases hr with r | r | r | r | r
          · rw [r.1]; decide
          · rw [r.1]; decide
          · rw [r.1]; decide
          · exact absurd r.1 cv
          · exact absurd r hv
        rw [if_neg (show ¬ ν md 7 = l by rw [h1 cn]; exact l2), if_pos rfl, if_pos rfl, y_refuses, y_xb, if_neg cv]
    · rw [if_neg c, if_neg n0, if_neg nle, k1', y_xbv, e4, y_xk (vp_in_nI (by omega) (by decide)), nI_clamp (by omega), mT, l1, y_xb, m7, e1]
      by_cases cv : 0 < v.1
      · rw [if_pos ((h2 cv).1.trans (l3 cv)), if_neg y_n10, if_neg y_n10, y_refuses, y_xb, m8, m9, (h2 cv).2.1, (h2 cv).2.2, if_pos cv]
      · have cn : v.1 < 0 := by
          rcases hr with r | r | r | r | r
          · rw [r.1]; decide
          · rw [r.1]; decide
          · rw [r.1]; decide
          · exact absurd r.1 cv
          · exact absurd r hv
        rw [if_neg (show ¬ ν md 7 = l by rw [h1 cn]; exact l2), if_pos rfl, if_pos rfl, y_refuses, y_xb, if_neg cv]
  have gen : ∀ a b : Int32, ∃ ν1, (xw (xw (yrf md 2 11 (nI q) m) md 10 a) md 11 b) = ν1 ∧ ν1 md 7 = 2 ∧ ν1 md 8 = 11 ∧ ν1 md 9 = nI q ∧ ν1 md 10 = a ∧ ν1 md 11 = b ∧ ν1 md 6 = 0 ∧ (∀ k, k ≠ 6 → k ≠ 7 → k ≠ 8 → k ≠ 9 → k ≠ 10 → k ≠ 11 → ν1 md k = ν md k) ∧ (∀ a, a ≠ md → a ≠ md + 1 → ν1 a = ν a) ∧ ∀ j, j < 199 → ν1 (md + 1) j = ν (md + 4) j := by
    intro a b
    refine ⟨_, rfl, ?_, ?_, ?_, ?_, xw_same _ _ _ _, ?_, fun k c1 c2 c3 c4 c5 c6 => ?_, fun d d1 d2 => ?_, fun j hj => ?_⟩
    · unfold yrf; rw [y_wk (by decide), y_wk (by decide), y_wk (by decide), y_wk (by decide), y_wk (by decide), xw_same]
    · unfold yrf; rw [y_wk (by decide), y_wk (by decide), y_wk (by decide), y_wk (by decide), xw_same]
    · unfold yrf; rw [y_wk (by decide), y_wk (by decide), y_wk (by decide), xw_same]
    · rw [y_wk (by decide), xw_same]
    · unfold yrf; rw [y_wk (by decide), y_wk (by decide), y_wk (by decide), y_wk (by decide), y_wk (by decide), y_wk (by decide), k4 _ (by omega), xw_same]
    · unfold yrf; rw [y_wk c6, y_wk c5, y_wk c5, y_wk c4, y_wk c3, y_wk c2, k4 _ (by omega), y_wk c1]
    · unfold yrf; rw [xw_row d1, xw_row d1, xw_row d1, xw_row d1, xw_row d1, xw_row d1, k4 d d2, xw_row d1]
    · have e := k2 j hj
      rw [Nat.zero_add] at e
      unfold yrf
      rw [y_wn (by omega), y_wn (by omega), y_wn (by omega), y_wn (by omega), y_wn (by omega), y_wn (by omega), e, xw_row (by omega)]
  by_cases cv : 0 < v.1
  · obtain ⟨ν1, g1, g2⟩ := gen v.1 v.2
    rw [if_pos cv, if_pos cv]
    rw [if_pos cv, g1] at hx
    exact ⟨ν1, hx, g2⟩
  · obtain ⟨ν1, g1, g2⟩ := gen 0 0
    rw [if_neg cv, if_neg cv]
    rw [if_neg cv, g1] at hx
    exact ⟨ν1, hx, g2⟩
theorem y_nm1' {q : Nat} (hq : q < 1000) : ¬ nI q = -1 := y_nm1 (by omega)
/-- the model's text, from any store that holds the model as it stands -/
def yMs (x : Nat) (μ Ms : xM) : Prop := ∀ a, x + 251 ≤ a → a ≤ x + 258 → Ms a = μ a
theorem y_mrun {x N : Nat} {S : Nat → Nat → Nat} {J : Nat → Int32} {Ms ν1 : xM} (ht : fX8_isText (x + 251) Ms = some (1, ν1)) (hf : yFt (x + 251) Ms ν1) (h19 : ν1 (x + 251) 19 = nI N) (hB : yM S J (Ms (x + 251 + 1))) (hn : S 16 0 ≤ 16) : ∃ ν2, fX8_run (x + 251) Ms = lX8_run_66 (x + 251) xfu 1 0 0 ν2 ∧ yM S J (ν2 (x + 251 + 1)) ∧ yM S J (ν2 (x + 251 + 4)) ∧ ν2 (x + 251) 19 = nI N ∧ ν2 (x + 251) 6 = 1 ∧ ν2 (x + 251) 7 = 0 ∧ ν2 (x + 251) 14 = -1 ∧ ν2 (x + 251) 13 = 0 ∧ (∀ k, k ≠ 6 → k ≠ 7 → k ≠ 13 → k ≠ 14 → k ≠ 17 → k ≠ 19 → ν2 (x + 251) k = Ms (x + 251) k) ∧ (∀ a, a ≠ x + 251 → a ≠ x + 251 + 4 → a ≠ x + 251 + 7 → ν2 a = Ms a) ∧ ν2 (x + 251 + 7) = ν1 (x + 251 + 7) := by
  obtain ⟨m, k1, k2, k3, k4⟩ := y_copies (s := x + 251 + 1) (d := x + 251 + 4) (n0 := 199) (n2 := 199) (P := 0) (Q := 0) (by omega) (by omega) (by omega) (by omega) (by omega) (xw (xw (xw ν1 (x + 251) 14 (-1)) (x + 251) 13 0) (x + 251) 7 0)
  have k1' : fX8_copies (x + 251 + 1) 199 0 (x + 251 + 4) 199 0 (xw (xw (xw ν1 (x + 251) 14 (-1)) (x + 251) 13 0) (x + 251) 7 0) = some m := k1
  have r1 : ∀ a, a ≠ x + 251 → a ≠ x + 251 + 4 → (xw m (x + 251) 6 1) a = ν1 a := fun a a1 a2 => by rw [xw_row a1, k4 a a2, xw_row a1, xw_row a1, xw_row a1]
  have hB1 : yM S J (ν1 (x + 251 + 1)) := by rw [hf.1 _ (by omega) (by omega)]; exact hB
  refine ⟨xw m (x + 251) 6 1, ?_, by rw [r1 _ (by omega) (by omega)]; exact hB1, ?_, ?_, xw_same _ _ _ _, ?_, ?_, ?_, fun k c1 c2 c3 c4 c5 c6 => ?_, fun a a1 a2 a3 => by rw [r1 a a1 a2, hf.1 a a1 a3], r1 _ (by omega) (by omega)⟩
  · rw [fX8_run, ht, y_xb, if_neg y_n10, if_neg y_n10, y_fails0, y_xb, if_pos rfl, k1', y_xbv]
  · refine yM_ext hB1 (fun j hj => ?_) hn
    have e := k2 j hj
    rw [Nat.zero_add] at e
    rw [xw_row (by omega), e, xw_row (by omega), xw_row (by omega), xw_row (by omega)]
  · rw [y_wk (by decide), k4 _ (by omega), y_wk (by decide), y_wk (by decide), y_wk (by decide)]; exact h19
  · rw [y_wk (by decide), k4 _ (by omega), xw_same]
  · rw [y_wk (by decide), k4 _ (by omega), y_wk (by decide), y_wk (by decide), xw_same]
  · rw [y_wk (by decide), k4 _ (by omega), y_wk (by decide), xw_same]
  · rw [y_wk c1, k4 _ (by omega), y_wk c2, y_wk c3, y_wk c4, hf.2 k c5 c6]
