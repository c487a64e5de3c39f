/-! THE PURE PART: what the model answers of its row -/
theorem y_m_many {md : Nat} {S : Nat → Nat → Nat} {J : Nat → Int32} {ν : xM} (h : yM S J (ν (md + 1))) (hn : S 16 0 ≤ 16) (p : Int32) : fX8_many md p ν = some (ysI (fun t => if nI (S t 5) = p then 1 else 0) 0 (S 16 0), ν) := by
  refine (y_loop (fun f x t => lX8_many_4 md p f x t ν) (fun x => some (x, ν)) (S 16 0) (fun t => if nI (S t 5) = p then 1 else 0) (fun f x => ?_) (fun f x t ht => ?_) (S 16 0) 0 xfu 0 (by omega) (by unfold xfu; omega)).trans (by rw [Int32.zero_add])
  · show lX8_many_4 md p (f + 1) x (nI (S 16 0)) ν = some (x, ν)
    rw [lX8_many_4, h.1.2.1, if_pos (Int32.le_refl _)]
  · show lX8_many_4 md p (f + 1) x (nI t) ν = lX8_many_4 md p f (x + _) (nI (t + 1)) ν
    obtain ⟨q0, q1, q2, q3, q4, q5, q6, -⟩ := h.2.1 t ht
    rw [lX8_many_4, h.1.2.1, if_neg (y_nle ht hn), y_of4 (by omega), y_xb, show ν (md + 1) (11 + 11 * t + 4) = nI (S t 5) from q4, nI_1]
    by_cases c1 : nI (S t 5) = p <;> simp [c1]
theorem y_m_ofOwner {md : Nat} {S : Nat → Nat → Nat} {J : Nat → Int32} {ν : xM} (h : yM S J (ν (md + 1))) (hn : S 16 0 ≤ 16) (p s : Int32) : fX8_ofOwner md p s ν = some (ysI (fun t => if nI (S t 5) = s ∧ nI (S t 0) = p then 1 else 0) 0 (S 16 0), ν) := by
  refine (y_loop (fun f x t => lX8_ofOwner_5 md p s f x t ν) (fun x => some (x, ν)) (S 16 0) (fun t => if nI (S t 5) = s ∧ nI (S t 0) = p then 1 else 0) (fun f x => ?_) (fun f x t ht => ?_) (S 16 0) 0 xfu 0 (by omega) (by unfold xfu; omega)).trans (by rw [Int32.zero_add])
  · show lX8_ofOwner_5 md p s (f + 1) x (nI (S 16 0)) ν = some (x, ν)
    rw [lX8_ofOwner_5, h.1.2.1, if_pos (Int32.le_refl _)]
  · show lX8_ofOwner_5 md p s (f + 1) x (nI t) ν = lX8_ofOwner_5 md p s f (x + _) (nI (t + 1)) ν
    obtain ⟨q0, q1, q2, q3, q4, q5, q6, -⟩ := h.2.1 t ht
    rw [lX8_ofOwner_5, h.1.2.1, if_neg (y_nle ht hn), y_of0 (by omega), y_xb, y_of4 (by omega), y_xb, show ν (md + 1) (11 + 11 * t + 4) = nI (S t 5) from q4, show ν (md + 1) (11 + 11 * t + 0) = nI (S t 0) from q0, nI_1]
    by_cases c1 : nI (S t 5) = s <;> by_cases c2 : nI (S t 0) = p <;> simp [c1, c2]
theorem y_m_owed {md t : Nat} {S : Nat → Nat → Nat} {J : Nat → Int32} {ν : xM} (h : yM S J (ν (md + 1))) (hn : S 16 0 ≤ 16) (ht : t < S 16 0) : fX8_owed md (nI t) ν = some (nI (S t 3 + S t 4), ν) := by
  obtain ⟨q0, q1, q2, q3, q4, q5, q6, -⟩ := h.2.1 t ht
  rw [fX8_owed, y_of2 (by omega), y_xb, y_of3 (by omega), y_xb, show ν (md + 1) (11 + 11 * t + 2) = nI (S t 3) from q2, show ν (md + 1) (11 + 11 * t + 3) = nI (S t 4) from q3, nI_add]
theorem y_m_weekly {md t w L : Nat} {S : Nat → Nat → Nat} {J : Nat → Int32} {ν : xM} (h : yM S J (ν (md + 1))) (hn : S 16 0 ≤ 16) (p : yP w L (S t)) (ht : t < S 16 0) : fX8_weekly md (nI t) ν = some (nI (ywk (S t)), ν) := by
  obtain ⟨q0, q1, q2, q3, q4, q5, q6, -⟩ := h.2.1 t ht
  rw [fX8_weekly, y_of2 (by omega), y_xb, y_of6 (by omega), y_xb, show ν (md + 1) (11 + 11 * t + 2) = nI (S t 3) from q2, show ν (md + 1) (11 + 11 * t + 6) = nI (S t 7) from q6, y_wkN p]
theorem y_m_owedBy {md : Nat} {S : Nat → Nat → Nat} {J : Nat → Int32} {ν : xM} (h : yM S J (ν (md + 1))) (hn : S 16 0 ≤ 16) (p : Int32) : fX8_owedBy md p ν = some (ysI (fun t => if nI (S t 5) = 0 ∧ nI (S t 0) = p then nI (S t 3) + nI (S t 4) else 0) 0 (S 16 0), ν) := by
  refine (y_loop (fun f x t => lX8_owedBy_4 md p f x t ν) (fun x => some (x, ν)) (S 16 0) (fun t => if nI (S t 5) = 0 ∧ nI (S t 0) = p then nI (S t 3) + nI (S t 4) else 0) (fun f x => ?_) (fun f x t ht => ?_) (S 16 0) 0 xfu 0 (by omega) (by unfold xfu; omega)).trans (by rw [Int32.zero_add])
  · show lX8_owedBy_4 md p (f + 1) x (nI (S 16 0)) ν = some (x, ν)
    rw [lX8_owedBy_4, h.1.2.1, if_pos (Int32.le_refl _)]
  · show lX8_owedBy_4 md p (f + 1) x (nI t) ν = lX8_owedBy_4 md p f (x + _) (nI (t + 1)) ν
    obtain ⟨q0, q1, q2, q3, q4, q5, q6, -⟩ := h.2.1 t ht
    rw [lX8_owedBy_4, h.1.2.1, if_neg (y_nle ht hn), y_of0 (by omega), y_xb, y_of4 (by omega), y_xb, y_m_owed h hn ht, y_xb, show ν (md + 1) (11 + 11 * t + 4) = nI (S t 5) from q4, show ν (md + 1) (11 + 11 * t + 0) = nI (S t 0) from q0, ← nI_add, nI_1]
    by_cases c1 : nI (S t 5) = 0 <;> by_cases c2 : nI (S t 0) = p <;> simp [c1, c2]
theorem y_m_isOver {md t k W : Nat} {S : Nat → Nat → Nat} {J : Nat → Int32} {ν : xM} (h : yM S J (ν (md + 1))) (hI : yI W S) (hW : W < 100000000) (hk : k ≤ 20) (ht : t < S 16 0) : fX8_isOver md (nI t) (nI k) ν = some (if S t 6 + 9 ≤ S 16 1 + k then 1 else 0, ν) := by
  have hn := hI.1.1
  have hw := hI.1.2.1
  obtain ⟨q0, q1, q2, q3, q4, q5, q6, -⟩ := h.2.1 t ht
  obtain ⟨p0, p1, p3, p4, p5, p6, p7, -⟩ := hI.2.1 t ht
  rw [fX8_isOver, y_of5 (by omega), y_xb, show ν (md + 1) (11 + 11 * t + 5) = nI (S t 6) from q5, h.1.1, nI_add, pk_sub (by omega), show (9 : Int32) = nI 9 from rfl, y_ilt (by omega) (by decide)]
  by_cases c : S t 6 + 9 ≤ S 16 1 + k
  · rw [if_neg (by omega), if_pos c]
  · rw [if_pos (by omega), if_neg c]
theorem y_m_lotsIn {md k W : Nat} {S : Nat → Nat → Nat} {J : Nat → Int32} {ν : xM} (h : yM S J (ν (md + 1))) (hI : yI W S) (hW : W < 100000000) (hk : k ≤ 20) : fX8_lotsIn md (nI k) ν = some (ysI (ylot S k) 0 (S 16 0), ν) := by
  have hn := hI.1.1
  refine (y_loop (fun f x t => lX8_lotsIn_4 md (nI k) f x t ν) (fun x => some (x, ν)) (S 16 0) (ylot S k) (fun f x => ?_) (fun f x t ht => ?_) (S 16 0) 0 xfu 0 (by omega) (by unfold xfu; omega)).trans (by rw [Int32.zero_add])
  · show lX8_lotsIn_4 md (nI k) (f + 1) x (nI (S 16 0)) ν = some (x, ν)
    rw [lX8_lotsIn_4, h.1.2.1, if_pos (Int32.le_refl _)]
  · show lX8_lotsIn_4 md (nI k) (f + 1) x (nI t) ν = lX8_lotsIn_4 md (nI k) f (x + _) (nI (t + 1)) ν
    obtain ⟨q0, q1, q2, q3, q4, q5, q6, -⟩ := h.2.1 t ht
    have p5 := (hI.2.1 t ht).2.2.2.2.1
    rw [lX8_lotsIn_4, h.1.2.1, if_neg (y_nle ht hn), y_of4 (by omega), y_xb, y_m_isOver h hI hW hk ht, y_xb, show ν (md + 1) (11 + 11 * t + 4) = nI (S t 5) from q4, y_i0 (by omega), nI_1]
    unfold ylot
    by_cases c1 : S t 5 = 0
    · by_cases c2 : S t 6 + 9 ≤ S 16 1 + k
      · rw [if_pos c1, if_pos c2, if_neg (by decide), if_pos ⟨c1, c2⟩]
      · rw [if_pos c1, if_neg c2, if_pos rfl, if_neg (fun q => c2 q.2)]
    · rw [if_neg c1, if_neg (fun q => c1 q.1)]
theorem y_m_leftAll {md : Nat} {S : Nat → Nat → Nat} {J : Nat → Int32} {ν : xM} (h : yM S J (ν (md + 1))) : fX8_leftAll md ν = some (ysI (fun j => J (1 + j)) 0 6, ν) := by
  refine (y_loop (fun f x t => lX8_leftAll_4 md f x t ν) (fun x => some (x, ν)) 6 (fun j => J (1 + j)) (fun f x => ?_) (fun f x t ht => ?_) 6 0 xfu 0 (by omega) (by unfold xfu; omega)).trans (by rw [Int32.zero_add])
  · show lX8_leftAll_4 md (f + 1) x (6 : Int32) ν = some (x, ν)
    rw [lX8_leftAll_4, if_pos (Int32.le_refl _)]
  · show lX8_leftAll_4 md (f + 1) x (nI t) ν = lX8_leftAll_4 md f (x + _) (nI (t + 1)) ν
    rw [lX8_leftAll_4, if_neg (show ¬ (6 : Int32) ≤ nI t from y_nle ht (by decide)), show (187 : Int32) = nI 187 from rfl, nI_add, y_xk (vp_in_nI (by omega) (by decide)), nI_clamp (by omega), (h.2.2 t ht).1, nI_1]
theorem y_m_lotIn {md W t : Nat} {S : Nat → Nat → Nat} {J : Nat → Int32} {ν : xM} (h : yM S J (ν (md + 1))) (hI : yI W S) (hW : W < 100000000) (ht : t < S 16 0) (h5 : S t 5 = 1) (p : Int32) : lX8_lotAt_30 md p xfu (nI t) 0 0 ν = some (ysI (yahd S false t) 0 (S 16 0), nI (S 16 0), ν) := by
  have hn := hI.1.1
  have hw := hI.1.2.1
  have hL := hI.1.2.2.2.2.2
  refine (y_loop (fun f x o => lX8_lotAt_30 md p f (nI t) x o ν) (fun x => some (x, nI (S 16 0), ν)) (S 16 0) (yahd S false t) (fun f x => ?_) (fun f x o ho => ?_) (S 16 0) 0 xfu 0 (by omega) (by unfold xfu; omega)).trans (by rw [Int32.zero_add])
  · show lX8_lotAt_30 md p (f + 1) (nI t) x (nI (S 16 0)) ν = some (x, nI (S 16 0), ν)
    rw [lX8_lotAt_30, h.1.2.1, if_pos (Int32.le_refl _)]
  · show lX8_lotAt_30 md p (f + 1) (nI t) x (nI o) ν = lX8_lotAt_30 md p f (nI t) (x + _) (nI (o + 1)) ν
    obtain ⟨q0, q1, q2, q3, q4, q5, q6, q7, q8, q9, q10⟩ := h.2.1 o ho
    have r10 := (h.2.1 t ht).2.2.2.2.2.2.2.2.2.2 h5
    have p5 := (hI.2.1 o ho).2.2.2.2.1
    rw [lX8_lotAt_30, h.1.2.1, if_neg (y_nle ho hn), y_of4 (by omega), y_xb, y_of10 (by omega), y_xb, y_of10 (by omega), y_xb, show ν (md + 1) (11 + 11 * o + 4) = nI (S o 5) from q4, y_i1 (by omega), show ν (md + 1) (11 + 11 * t + 10) = nI (S t 12) from r10, nI_1]
    by_cases c1 : S o 5 = 1
    · have l1 := ((hI.2.1 t ht).2.2.2.2.2.2.2.2.2.2.2.1 h5).2
      have l2 := ((hI.2.1 o ho).2.2.2.2.2.2.2.2.2.2.2.1 c1).2
      have k := hI.2.2 t o ht ho h5 c1
      rw [if_pos c1, show ν (md + 1) (11 + 11 * o + 10) = nI (S o 12) from q10 c1, y_ile (by omega) (by omega)]
      by_cases c2 : S t 12 ≤ S o 12
      · rw [if_pos c2, yahd_f (fun q => by have q2 := q.2; unfold yah at q2; rw [if_neg (by decide)] at q2; have := k.mpr q2; omega)]
      · rw [if_neg c2, yahd_t ⟨c1, by unfold yah; rw [if_neg (by decide)]; exact k.mp (by omega)⟩]
    · rw [if_neg c1, yahd_f (fun q => c1 q.1)]
theorem y_m_rankIn {md W t : Nat} {S : Nat → Nat → Nat} {J : Nat → Int32} {ν : xM} (h : yM S J (ν (md + 1))) (hI : yI W S) (ht : t < S 16 0) (h5 : S t 5 = 1) (p : Int32) : lX8_ranked_30 md p xfu (nI t) 0 0 ν = some (ysI (yahd S true t) 0 (S 16 0), nI (S 16 0), ν) := by
  have hn := hI.1.1
  refine (y_loop (fun f x o => lX8_ranked_30 md p f (nI t) x o ν) (fun x => some (x, nI (S 16 0), ν)) (S 16 0) (yahd S true t) (fun f x => ?_) (fun f x o ho => ?_) (S 16 0) 0 xfu 0 (by omega) (by unfold xfu; omega)).trans (by rw [Int32.zero_add])
  · show lX8_ranked_30 md p (f + 1) (nI t) x (nI (S 16 0)) ν = some (x, nI (S 16 0), ν)
    rw [lX8_ranked_30, h.1.2.1, if_pos (Int32.le_refl _)]
  · show lX8_ranked_30 md p (f + 1) (nI t) x (nI o) ν = lX8_ranked_30 md p f (nI t) (x + _) (nI (o + 1)) ν
    obtain ⟨q0, q1, q2, q3, q4, q5, q6, q7, -⟩ := h.2.1 o ho
    have r7 := (h.2.1 t ht).2.2.2.2.2.2.2.1 h5
    obtain ⟨p0, p1, p3, p4, p5, p6, p7, p8, -⟩ := hI.2.1 o ho
    have t8 := (hI.2.1 t ht).2.2.2.2.2.2.2.1
    rw [lX8_ranked_30, h.1.2.1, if_neg (y_nle ho hn), y_of4 (by omega), y_xb, y_of7 (by omega), y_xb, y_of7 (by omega), y_xb, y_of7 (by omega), y_xb, y_of7 (by omega), y_xb, show ν (md + 1) (11 + 11 * o + 4) = nI (S o 5) from q4, y_i1 (by omega), show ν (md + 1) (11 + 11 * t + 7) = nI (S t 8) from r7, nI_1]
    by_cases c1 : S o 5 = 1
    · rw [if_pos c1, show ν (md + 1) (11 + 11 * o + 7) = nI (S o 8) from q7 c1, y_ilt (by omega) (by omega), y_ieq (by omega) (by omega), y_ile (by omega) (by omega)]
      by_cases c2 : yah S true o t
      · rw [yahd_t ⟨c1, c2⟩]
        unfold yah at c2
        rw [if_pos rfl] at c2
        by_cases c3 : S t 8 < S o 8
        · rw [if_pos c3]
        · rw [if_neg c3, if_pos (by omega), if_neg (by omega)]
      · rw [yahd_f (fun q => c2 q.2)]
        unfold yah at c2
        rw [if_pos rfl] at c2
        rw [if_neg (by omega)]
        by_cases c3 : S o 8 = S t 8
        · rw [if_pos c3, if_pos (by omega)]
        · rw [if_neg c3]
    · rw [if_neg c1, yahd_f (fun q => c1 q.1)]
theorem y_m_lotAt {md W : Nat} {S : Nat → Nat → Nat} {J : Nat → Int32} {ν : xM} (h : yM S J (ν (md + 1))) (hI : yI W S) (hW : W < 100000000) (p : Int32) : fX8_lotAt md p ν = some (match yfd (yplc S false p) 0 (S 16 0) with | some j => (nI j, xw ν md 7 0) | none => (0, xw ν md 7 1)) := by
  have hn := hI.1.1
  have loop : ∀ u t f, t + u = S 16 0 → u < f → lX8_lotAt_2 md p f (nI t) ν = some (match yfd (yplc S false p) t u with | some j => (nI j, xw ν md 7 0) | none => (0, xw ν md 7 1)) := by
    intro u
    induction u with
    | zero =>
      intro t f ht hf
      obtain ⟨f, rfl⟩ : ∃ f', f = f' + 1 := ⟨f - 1, by omega⟩
      rw [lX8_lotAt_2, h.1.2.1, if_pos ((nI_leI (by omega) (by omega)).mpr (by omega))]
      rfl
    | succ u ih =>
      intro t f ht hf
      obtain ⟨f, rfl⟩ : ∃ f', f = f' + 1 := ⟨f - 1, by omega⟩
      have ht' : t < S 16 0 := by omega
      have p5 := (hI.2.1 t ht').2.2.2.2.1
      obtain ⟨q0, q1, q2, q3, q4, -⟩ := h.2.1 t ht'
      rw [lX8_lotAt_2, h.1.2.1, if_neg (y_nle ht' hn), y_of4 (by omega), y_xb, show ν (md + 1) (11 + 11 * t + 4) = nI (S t 5) from q4, y_i1 (by omega), nI_1, ih (t + 1) f (by omega) (by omega)]
      by_cases c1 : S t 5 = 1
      · rw [if_pos c1, y_m_lotIn h hI hW ht' c1, y_xbt]
        by_cases c2 : ysI (yahd S false t) 0 (S 16 0) = p
        · rw [if_pos c2, yfd_t ⟨c1, c2⟩]
        · rw [if_neg c2, yfd_f (fun q => c2 q.2)]
          exact ih (t + 1) f (by omega) (by omega)
      · rw [if_neg c1, yfd_f (fun q => c1 q.1)]
  exact loop (S 16 0) 0 xfu (by omega) (by unfold xfu; omega)
theorem y_m_ranked {md W : Nat} {S : Nat → Nat → Nat} {J : Nat → Int32} {ν : xM} (h : yM S J (ν (md + 1))) (hI : yI W S) (p : Int32) : fX8_ranked md p ν = some (match yfd (yplc S true p) 0 (S 16 0) with | some j => (nI j, xw ν md 7 0) | none => (0, xw ν md 7 1)) := by
  have hn := hI.1.1
  have loop : ∀ u t f, t + u = S 16 0 → u < f → lX8_ranked_2 md p f (nI t) ν = some (match yfd (yplc S true p) t u with | some j => (nI j, xw ν md 7 0) | none => (0, xw ν md 7 1)) := by
    intro u
    induction u with
    | zero =>
      intro t f ht hf
      obtain ⟨f, rfl⟩ : ∃ f', f = f' + 1 := ⟨f - 1, by omega⟩
      rw [lX8_ranked_2, h.1.2.1, if_pos ((nI_leI (by omega) (by omega)).mpr (by omega))]
      rfl
    | succ u ih =>
      intro t f ht hf
      obtain ⟨f, rfl⟩ : ∃ f', f = f' + 1 := ⟨f - 1, by omega⟩
      have ht' : t < S 16 0 := by omega
      have p5 := (hI.2.1 t ht').2.2.2.2.1
      obtain ⟨q0, q1, q2, q3, q4, -⟩ := h.2.1 t ht'
      rw [lX8_ranked_2, h.1.2.1, if_neg (y_nle ht' hn), y_of4 (by omega), y_xb, show ν (md + 1) (11 + 11 * t + 4) = nI (S t 5) from q4, y_i1 (by omega), nI_1, ih (t + 1) f (by omega) (by omega)]
      by_cases c1 : S t 5 = 1
      · rw [if_pos c1, y_m_rankIn h hI ht' c1, y_xbt]
        by_cases c2 : ysI (yahd S true t) 0 (S 16 0) = p
        · rw [if_pos c2, yfd_t ⟨c1, c2⟩]
        · rw [if_neg c2, yfd_f (fun q => c2 q.2)]
          exact ih (t + 1) f (by omega) (by omega)
      · rw [if_neg c1, yfd_f (fun q => c1 q.1)]
  exact loop (S 16 0) 0 xfu (by omega) (by unfold xfu; omega)
theorem y_m_rloop {md : Nat} {p : Int32} {ν : xM} {k : Nat} (hk : k ≤ 20) : ∀ u j f r, j + u = k → u < f → r < 2147483648 → lX8_willReserve_61 md p (nI k) f (nI r) (nI j) ν = some (nI (yfall r u), ν) := by
  intro u
  induction u with
  | zero =>
    intro j f r hj hf hr
    obtain ⟨f, rfl⟩ : ∃ f', f = f' + 1 := ⟨f - 1, by omega⟩
    rw [lX8_willReserve_61, if_pos ((nI_leI (by omega) (by omega)).mpr (by omega))]
    rfl
  | succ u ih =>
    intro j f r hj hf hr
    obtain ⟨f, rfl⟩ : ∃ f', f = f' + 1 := ⟨f - 1, by omega⟩
    rw [lX8_willReserve_61, if_neg (fun q => by have := (nI_leI (by omega) (by omega)).mp q; omega), y_fallN hr, nI_1, ih (j + 1) f _ (by omega) (by omega) (by omega)]
    rfl
theorem y_m_qloop {md t W k : Nat} {S : Nat → Nat → Nat} {J : Nat → Int32} {ν : xM} (h : yM S J (ν (md + 1))) (hI : yI W S) (ht : t < S 16 0) (hk : k ≤ 20) : ∀ u j f x, j + u = k → u < f → lX8_quoteAgain_20 md (nI t) (nI k) f (nI x) (nI j) ν = some (nI (x + ywk (S t) * u), ν) := by
  intro u
  induction u with
  | zero =>
    intro j f x hj hf
    obtain ⟨f, rfl⟩ : ∃ f', f = f' + 1 := ⟨f - 1, by omega⟩
    rw [lX8_quoteAgain_20, if_pos ((nI_leI (by omega) (by omega)).mpr (by omega))]
    rfl
  | succ u ih =>
    intro j f x hj hf
    obtain ⟨f, rfl⟩ : ∃ f', f = f' + 1 := ⟨f - 1, by omega⟩
    rw [lX8_quoteAgain_20, if_neg (fun q => by have := (nI_leI (by omega) (by omega)).mp q; omega), y_m_weekly h hI.1.1 (hI.2.1 t ht) ht, y_xb, nI_add, nI_1, ih (j + 1) f _ (by omega) (by omega), show x + ywk (S t) + ywk (S t) * u = x + ywk (S t) * (u + 1) by rw [Nat.mul_add, Nat.mul_one]; omega]
