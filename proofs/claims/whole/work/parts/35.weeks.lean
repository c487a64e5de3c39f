/-! THE PURE PART: weeks go by -/
def ydue (S : Nat → Nat → Nat) (t : Nat) : Nat := S t 3 + (S t 4 + ywk (S t)) + S 16 3
def ystep (S : Nat → Nat → Nat) (t : Nat) : Nat → Nat → Nat :=
  if S t 5 = 1 then yrow S t (fun k => if k = 8 then S t 8 - S t 8 / 10 else S t k)
  else if S t 5 = 0 then
    (if S 16 1 < S t 6 + 9 then yrow S t (fun k => if k = 4 then S t 4 + ywk (S t) else S t k)
     else yu (yrow S t (fun k => if k = 4 then S t 4 + ywk (S t) else if k = 5 then 1 else if k = 8 then ydue S t else if k = 10 then ydue S t else if k = 12 then S 16 4 else S t k)) 16 4 (S 16 4 + 1))
  else S
def ywalk (S : Nat → Nat → Nat) : Nat → Nat → Nat → Nat → Nat
  | _, 0 => S
  | t, u + 1 => ywalk (ystep S t) (t + 1) u
def yweek (S : Nat → Nat → Nat) : Nat → Nat → Nat := ywalk (yu S 16 1 (S 16 1 + 1)) 0 (S 16 0)
def yweeks (S : Nat → Nat → Nat) : Nat → Nat → Nat → Nat
  | 0 => S
  | k + 1 => yweeks (yweek S) k
def yL (W t : Nat) (S : Nat → Nat → Nat) : Prop := (S 16 0 ≤ 16 ∧ 1 ≤ S 16 1 ∧ S 16 1 ≤ W ∧ 1 ≤ S 16 2 ∧ S 16 2 ≤ 60 ∧ S 16 3 ≤ 20 ∧ S 16 4 ≤ 16 * (S 16 1 - 1) + t) ∧ (∀ j, j < S 16 0 → yP (if j < t then S 16 1 else S 16 1 - 1) (S 16 4) (S j)) ∧ yO S
theorem ystep_sc {S : Nat → Nat → Nat} {t k : Nat} (ht : t < 16) (hk : k < 4) : ystep S t 16 k = S 16 k := by
  unfold ystep
  by_cases c1 : S t 5 = 1
  · rw [if_pos c1, yrow_n (by omega)]
  · rw [if_neg c1]
    by_cases c2 : S t 5 = 0
    · rw [if_pos c2]
      by_cases c3 : S 16 1 < S t 6 + 9
      · rw [if_pos c3, yrow_n (by omega)]
      · rw [if_neg c3, yu_k (by omega), yrow_n (by omega)]
    · rw [if_neg c2]
theorem ystep_o {S : Nat → Nat → Nat} {t o : Nat} (ho : o ≠ t) (h16 : o < 16) : ystep S t o = S o := by
  unfold ystep
  by_cases c1 : S t 5 = 1
  · rw [if_pos c1, yrow_n ho]
  · rw [if_neg c1]
    by_cases c2 : S t 5 = 0
    · rw [if_pos c2]
      by_cases c3 : S 16 1 < S t 6 + 9
      · rw [if_pos c3, yrow_n ho]
      · rw [if_neg c3, yu_n (by omega), yrow_n ho]
    · rw [if_neg c2]
theorem yP_L {w L L1 : Nat} {c : Nat → Nat} (h : yP w L c) (hL : L ≤ L1) : yP w L1 c := by
  obtain ⟨p0, p1, p3, p4, p5, p6, p7, p8, p10, p11, q0, q1, q2, q3⟩ := h
  exact ⟨p0, p1, p3, p4, p5, p6, p7, p8, p10, p11, q0, fun c => ⟨(q1 c).1, by have := (q1 c).2; omega⟩, q2, q3⟩
theorem yL_0 {W : Nat} {S : Nat → Nat → Nat} (h : yI W S) : yL (W + 1) 0 (yu S 16 1 (S 16 1 + 1)) := by
  obtain ⟨⟨h0, h1, h2, h3, h4, h5⟩, hP, hO⟩ := h
  have e0 : yu S 16 1 (S 16 1 + 1) 16 0 = S 16 0 := yu_k (by omega)
  have e1 : yu S 16 1 (S 16 1 + 1) 16 1 = S 16 1 + 1 := yu_s
  have e2 : yu S 16 1 (S 16 1 + 1) 16 2 = S 16 2 := yu_k (by omega)
  have e3 : yu S 16 1 (S 16 1 + 1) 16 3 = S 16 3 := yu_k (by omega)
  have e4 : yu S 16 1 (S 16 1 + 1) 16 4 = S 16 4 := yu_k (by omega)
  have er : ∀ j, j < S 16 0 → yu S 16 1 (S 16 1 + 1) j = S j := fun j hj => yu_n (by omega)
  refine ⟨⟨by rw [e0]; exact h0, by rw [e1]; omega, by rw [e1]; omega, by rw [e2]; exact h2, by rw [e2]; exact h3, by rw [e3]; exact h4, by rw [e4, e1]; omega⟩, fun j hj => ?_, fun t o ht ho => ?_⟩
  · rw [e0] at hj
    rw [if_neg (by omega), e1, e4, er j hj, show S 16 1 + 1 - 1 = S 16 1 by omega]
    exact hP j hj
  · rw [e0] at ht ho
    rw [er t ht, er o ho]
    exact hO t o ht ho
theorem yL_n {W : Nat} {S : Nat → Nat → Nat} (h : yL W (S 16 0) S) : yI W S := by
  obtain ⟨⟨h0, h1, h2, h3, h4, h5, h6⟩, hP, hO⟩ := h
  refine ⟨⟨h0, h2, h3, h4, h5, by omega⟩, fun j hj => ?_, hO⟩
  have := hP j hj
  rw [if_pos hj] at this
  exact this
theorem yL_step {W t : Nat} {S : Nat → Nat → Nat} (h : yL W t S) (ht : t < S 16 0) : yL W (t + 1) (ystep S t) := by
  obtain ⟨⟨h0, h1, h2, h3, h4, h5, h6⟩, hP, hO⟩ := h
  have p := hP t ht
  rw [if_neg (by omega)] at p
  have hk := ywk_le p
  obtain ⟨p0, p1, p3, p4, p5, p6, p7, p8, p10, p11, q0, q1, q2, q3⟩ := p
  have s0 : ystep S t 16 0 = S 16 0 := ystep_sc (by omega) (by decide)
  have s1 : ystep S t 16 1 = S 16 1 := ystep_sc (by omega) (by decide)
  have s2 : ystep S t 16 2 = S 16 2 := ystep_sc (by omega) (by decide)
  have s3 : ystep S t 16 3 = S 16 3 := ystep_sc (by omega) (by decide)
  -- the row of t and the lots' count behind the step
  have key : (ystep S t 16 4 = S 16 4 ∨ ystep S t 16 4 = S 16 4 + 1) ∧ yP (S 16 1) (ystep S t 16 4) (ystep S t t) ∧ (∀ o, o < S 16 0 → o ≠ t → ystep S t t 5 = 1 → S o 5 = 1 → (S o 12 < ystep S t t 12 ↔ S o 6 < ystep S t t 6 ∨ (S o 6 = ystep S t t 6 ∧ o < t)) ∧ (ystep S t t 12 < S o 12 ↔ ystep S t t 6 < S o 6 ∨ (ystep S t t 6 = S o 6 ∧ t < o))) := by
    by_cases c1 : S t 5 = 1
    · have e : ystep S t = yrow S t (fun k => if k = 8 then S t 8 - S t 8 / 10 else S t k) := by unfold ystep; rw [if_pos c1]
      rw [e, yrow_n (by omega), yrow_t]
      refine ⟨Or.inl rfl, ⟨p0, p1, p3, p4, p5, by show S t 6 ≤ S 16 1; omega, p7, by show S t 8 - S t 8 / 10 ≤ 2000; omega, p10, p11, fun (q : S t 5 = 0) => by omega, fun (q : S t 5 = 1) => ⟨by show S t 6 + 9 ≤ S 16 1; have := (q1 q).1; omega, (q1 q).2⟩, fun (q : S t 5 ≠ 1) => absurd c1 q, q3⟩, fun o ho hne _ h5o => ?_⟩
      exact ⟨hO t o ht ho c1 h5o, hO o t ho ht h5o c1⟩
    · by_cases c2 : S t 5 = 0
      · have qq := q0 c2
        by_cases c3 : S 16 1 < S t 6 + 9
        · have e : ystep S t = yrow S t (fun k => if k = 4 then S t 4 + ywk (S t) else S t k) := by unfold ystep; rw [if_neg c1, if_pos c2, if_pos c3]
          rw [e, yrow_n (by omega), yrow_t]
          refine ⟨Or.inl rfl, ⟨p0, p1, p3, by show S t 4 + ywk (S t) ≤ 400; omega, p5, by show S t 6 ≤ S 16 1; omega, p7, p8, p10, p11, fun _ => ⟨c3, by show S t 4 + ywk (S t) ≤ 36 * (S 16 1 - S t 6); omega⟩, fun (q : S t 5 = 1) => absurd q c1, q2, q3⟩, fun o ho hne (q : S t 5 = 1) => absurd q c1⟩
        · have e : ystep S t = yu (yrow S t (fun k => if k = 4 then S t 4 + ywk (S t) else if k = 5 then 1 else if k = 8 then ydue S t else if k = 10 then ydue S t else if k = 12 then S 16 4 else S t k)) 16 4 (S 16 4 + 1) := by unfold ystep; rw [if_neg c1, if_pos c2, if_neg c3]
          have hd : ydue S t ≤ 2000 := by unfold ydue; omega
          rw [e, yu_s, yu_n (by omega), yrow_t]
          refine ⟨Or.inr rfl, ⟨p0, p1, p3, by show S t 4 + ywk (S t) ≤ 400; omega, by show 1 ≤ 3; decide, by show S t 6 ≤ S 16 1; omega, p7, hd, hd, p11, fun (q : (1 : Nat) = 0) => absurd q (by decide), fun _ => ⟨by show S t 6 + 9 ≤ S 16 1; omega, by show S 16 4 < S 16 4 + 1; omega⟩, fun (q : (1 : Nat) ≠ 1) => absurd rfl q, fun _ => q3 (by omega)⟩, fun o ho hne _ h5o => ?_⟩
          have po := hP o ho
          obtain ⟨-, -, -, -, -, -, -, -, -, -, -, r1, -⟩ := po
          have r1 := r1 h5o
          show (S o 12 < S 16 4 ↔ S o 6 < S t 6 ∨ (S o 6 = S t 6 ∧ o < t)) ∧ (S 16 4 < S o 12 ↔ S t 6 < S o 6 ∨ (S t 6 = S o 6 ∧ t < o))
          by_cases c4 : o < t
          · rw [if_pos c4] at r1
            omega
          · rw [if_neg c4] at r1
            omega
      · have e : ystep S t = S := by unfold ystep; rw [if_neg c1, if_neg c2]
        rw [e]
        refine ⟨Or.inl rfl, ⟨p0, p1, p3, p4, p5, by omega, p7, p8, p10, p11, fun q => absurd q c2, fun q => absurd q c1, q2, q3⟩, fun o ho hne q => absurd q c1⟩
  obtain ⟨k1, k2, k3⟩ := key
  refine ⟨⟨by rw [s0]; exact h0, by rw [s1]; exact h1, by rw [s1]; exact h2, by rw [s2]; exact h3, by rw [s2]; exact h4, by rw [s3]; exact h5, by rw [s1]; omega⟩, fun j hj => ?_, fun a o ha ho ha5 ho5 => ?_⟩
  · rw [s0] at hj
    rw [s1]
    by_cases c : j = t
    · subst c
      rw [if_pos (by omega)]
      exact k2
    · rw [ystep_o c (by omega)]
      have pj := yP_L (hP j hj) (show S 16 4 ≤ ystep S t 16 4 by omega)
      by_cases c4 : j < t
      · rw [if_pos c4] at pj
        rw [if_pos (by omega)]
        exact pj
      · rw [if_neg c4] at pj
        rw [if_neg (by omega)]
        exact pj
  · rw [s0] at ha ho
    by_cases ca : a = t
    · subst ca
      by_cases co : o = a
      · subst co
        exact ⟨fun q => by omega, fun q => by omega⟩
      · rw [ystep_o co (by omega)] at ho5 ⊢
        exact (k3 o ho co ha5 ho5).1
    · rw [ystep_o ca (by omega)] at ha5 ⊢
      by_cases co : o = t
      · subst co
        exact (k3 a ha ca ho5 ha5).2
      · rw [ystep_o co (by omega)] at ho5 ⊢
        exact hO a o ha ho ha5 ho5
theorem yC_lots {b v : Nat} {S : Nat → Nat → Nat} {J : Nat → Int32} {μ : xM} (h : yC b S J μ) (hn : S 16 0 ≤ 16) : yC b (yu S 16 4 v) J μ := by
  have e0 : yu S 16 4 v 16 0 = S 16 0 := yu_k (by omega)
  refine ⟨⟨by rw [e0]; exact h.1.1, by rw [yu_k (by omega)]; exact h.1.2.1, by rw [yu_k (by omega)]; exact h.1.2.2.1, by rw [yu_k (by omega)]; exact h.1.2.2.2.1, h.1.2.2.2.2⟩, fun t ht k hk => ?_, h.2.2⟩
  rw [e0] at ht
  rw [yu_n (by omega)]
  exact h.2.1 t ht k hk
theorem y_c_step {b W t : Nat} {S : Nat → Nat → Nat} {J : Nat → Int32} {μ : xM} (hC : yC b S J μ) (hL : yL W t S) (hW : W < 100000000) (ht : t < S 16 0) : ∃ r μ1, fX5_becomesLotAtEndOf (b + 1 + 1 + t) (nI (S 16 1)) (nI (S 16 3)) μ = some (r, μ1) ∧ yC b (ystep S t) J μ1 ∧ yFar b μ μ1 ∧ ((ystep S t 16 4 = S 16 4 ∧ r = 0) ∨ (ystep S t 16 4 = S 16 4 + 1 ∧ r = 1)) := by
  obtain ⟨⟨hn, h1, h2, h3, h4, h5, h6⟩, hP, hO⟩ := hL
  have p := hP t ht
  rw [if_neg (by omega)] at p
  have hk := ywk_le p
  have e := hC.2.1 t ht
  have hwk := y_weekly (μ := μ) (a := b + 1 + 1 + t) p e
  obtain ⟨p0, p1, p3, p4, p5, p6, p7, p8, p10, p11, q0, q1, q2, q3⟩ := p
  rw [fX5_becomesLotAtEndOf, e 5 (by decide), y_i1 (by omega), y_i0 (by omega)]
  by_cases c1 : S t 5 = 1
  · rw [if_pos c1, show (1 : Int32) = nI 1 from rfl, y_reserveBehind (by decide) (e 8 (by decide)) (by omega), y_xb]
    have es : ystep S t = yrow S t (fun k => if k = 8 then S t 8 - S t 8 / 10 else S t k) := by unfold ystep; rw [if_pos c1]
    refine ⟨_, _, rfl, ?_, fun a ha => xw_row (by omega), Or.inl ⟨by rw [es, yrow_n (by omega)], rfl⟩⟩
    rw [es]
    refine yC_row hC hn (by omega) (fun a ha => xw_row ha) (fun k hk => ?_)
    by_cases c : k = 8
    · subst c; rw [xw_same]; rfl
    · rw [y_wk c, e k hk, if_neg c]
  · rw [if_neg c1]
    by_cases c2 : S t 5 = 0
    · rw [if_pos c2, hwk, y_xb, e 4 (by decide), nI_add, y_isRun (c5 := S t 5) (c6 := S t 6) (by omega) (by omega) (by omega) (by rw [y_wk (by decide)]; exact e 5 (by decide)) (by rw [y_wk (by decide)]; exact e 6 (by decide)), y_xb]
      by_cases c3 : S 16 1 < S t 6 + 9
      · rw [if_pos (show S t 5 = 0 ∧ S 16 1 < S t 6 + 9 from ⟨c2, c3⟩), if_neg (show ¬ (1 : Int32) = 0 by decide)]
        have es : ystep S t = yrow S t (fun k => if k = 4 then S t 4 + ywk (S t) else S t k) := by unfold ystep; rw [if_neg c1, if_pos c2, if_pos c3]
        refine ⟨_, _, rfl, ?_, fun a ha => xw_row (by omega), Or.inl ⟨by rw [es, yrow_n (by omega)], rfl⟩⟩
        rw [es]
        refine yC_row hC hn (by omega) (fun a ha => xw_row ha) (fun k hk => ?_)
        by_cases c : k = 4
        · subst c; rw [xw_same]; rfl
        · rw [y_wk c, e k hk, if_neg c]
      · rw [if_neg (show ¬ (S t 5 = 0 ∧ S 16 1 < S t 6 + 9) from fun q => c3 q.2), if_pos (show (0 : Int32) = 0 from rfl), fX5_owed, y_xb]
        have es : ystep S t = yu (yrow S t (fun k => if k = 4 then S t 4 + ywk (S t) else if k = 5 then 1 else if k = 8 then ydue S t else if k = 10 then ydue S t else if k = 12 then S 16 4 else S t k)) 16 4 (S 16 4 + 1) := by unfold ystep; rw [if_neg c1, if_pos c2, if_neg c3]
        have ed : (xw (xw μ (b + 1 + 1 + t) 4 (nI (S t 4 + ywk (S t)))) (b + 1 + 1 + t) 5 1) (b + 1 + 1 + t) 3 + (xw (xw μ (b + 1 + 1 + t) 4 (nI (S t 4 + ywk (S t)))) (b + 1 + 1 + t) 5 1) (b + 1 + 1 + t) 4 + nI (S 16 3) = nI (ydue S t) := by
          rw [y_wk (by decide), y_wk (by decide), y_wk (by decide), xw_same, e 3 (by decide), nI_add, nI_add]
          rfl
        rw [ed, xw_same]
        refine ⟨_, _, rfl, ?_, fun a ha => by rw [xw_row (by omega), xw_row (by omega), xw_row (by omega), xw_row (by omega)], Or.inr ⟨by rw [es, yu_s], rfl⟩⟩
        rw [es]
        refine yC_lots (yC_row hC hn (by omega) (fun a ha => by rw [xw_row ha, xw_row ha, xw_row ha, xw_row ha]) (fun k hk => ?_)) (by rw [yrow_n (by omega)]; exact hn)
        by_cases d8 : k = 8
        · subst d8; rw [xw_same]; rfl
        rw [y_wk d8]
        by_cases d10 : k = 10
        · subst d10; rw [xw_same]; rfl
        rw [y_wk d10]
        by_cases d5 : k = 5
        · subst d5; rw [xw_same]; rfl
        rw [y_wk d5]
        by_cases d4 : k = 4
        · subst d4; rw [xw_same]; rfl
        rw [y_wk d4, e k hk, if_neg d4, if_neg d5, if_neg d8, if_neg d10, if_neg (by omega)]
    · rw [if_neg c2]
      have es : ystep S t = S := by unfold ystep; rw [if_neg c1, if_neg c2]
      exact ⟨_, _, rfl, by rw [es]; exact hC, fun a ha => rfl, Or.inl ⟨by rw [es], rfl⟩⟩
theorem yFar_r {b : Nat} {μ : xM} : yFar b μ μ := fun _ _ => rfl
theorem yFar_t {b : Nat} {μ μ1 μ2 : xM} (h1 : yFar b μ μ1) (h2 : yFar b μ1 μ2) : yFar b μ μ2 := fun a ha => (h2 a ha).trans (h1 a ha)
theorem y_c_walk {b W n : Nat} {J : Nat → Int32} (hW : W < 100000000) : ∀ u t f x (S : Nat → Nat → Nat) (μ : xM), t + u = n → S 16 0 = n → u < f → yL W t S → yC b S J μ → ∃ μ1, lX0_endWeek_14 b f x (nI t) μ = some (x + (nI (ywalk S t u 16 4) - nI (S 16 4)), μ1) ∧ yC b (ywalk S t u) J μ1 ∧ yFar b μ μ1 ∧ yL W n (ywalk S t u) ∧ ywalk S t u 16 0 = n := by
  intro u
  induction u with
  | zero =>
    intro t f x S μ ht hs hf hL hC
    obtain ⟨f, rfl⟩ : ∃ f', f = f' + 1 := ⟨f - 1, by omega⟩
    obtain rfl : t = n := by omega
    refine ⟨μ, ?_, hC, yFar_r, hL, hs⟩
    rw [lX0_endWeek_14, hC.1.1, hs, if_pos (Int32.le_refl _)]
    show some (x, μ) = some (x + (nI (S 16 4) - nI (S 16 4)), μ)
    rw [Int32.sub_self, Int32.add_zero]
  | succ u ih =>
    intro t f x S μ ht hs hf hL hC
    obtain ⟨f, rfl⟩ : ∃ f', f = f' + 1 := ⟨f - 1, by omega⟩
    have ht' : t < S 16 0 := by omega
    have hn := hL.1.1
    obtain ⟨r, m, k1, k2, k3, k4⟩ := y_c_step hC hL hW ht'
    have hL1 := yL_step hL ht'
    have s0 : ystep S t 16 0 = n := (ystep_sc (by omega) (by decide)).trans hs
    rw [lX0_endWeek_14, hC.1.1, if_neg (y_nle ht' hn), y_xk (y_in16 ht' hn), y_cl ht' hn, hC.1.2.1, hC.1.2.2.2.1, k1, y_xb, nI_1]
    rcases k4 with ⟨k4, rfl⟩ | ⟨k4, rfl⟩
    · obtain ⟨m1, l1, l2, l3, l4, l5⟩ := ih (t + 1) f x (ystep S t) m (by omega) s0 (by omega) hL1 k2
      rw [if_pos rfl, l1, k4]
      exact ⟨m1, rfl, l2, yFar_t k3 l3, l4, l5⟩
    · obtain ⟨m1, l1, l2, l3, l4, l5⟩ := ih (t + 1) f (x + 1) (ystep S t) m (by omega) s0 (by omega) hL1 k2
      rw [if_neg (by decide), l1, k4]
      refine ⟨m1, ?_, l2, yFar_t k3 l3, l4, l5⟩
      show some (x + 1 + (nI (ywalk (ystep S t) (t + 1) u 16 4) - nI (S 16 4 + 1)), m1) = some (x + (nI (ywalk (ystep S t) (t + 1) u 16 4) - nI (S 16 4)), m1)
      rw [nI_succ (S 16 4)]
      congr 2
      grind
theorem y_c_week {b W : Nat} {S : Nat → Nat → Nat} {J : Nat → Int32} {μ : xM} (hC : yC b S J μ) (hI : yI W S) (hW : W < 90000000) : ∃ μ1, fX0_endWeek b μ = some (nI (yweek S 16 4) - nI (S 16 4), μ1) ∧ yC b (yweek S) J μ1 ∧ yFar b μ μ1 ∧ yI (W + 1) (yweek S) := by
  have hn := hI.1.1
  have e0 : yu S 16 1 (S 16 1 + 1) 16 0 = S 16 0 := yu_k (by omega)
  have e4 : yu S 16 1 (S 16 1 + 1) 16 4 = S 16 4 := yu_k (by omega)
  obtain ⟨m, k1, k2, k3, k4, k5⟩ := y_c_walk (b := b) (J := J) (show W + 1 < 100000000 by omega) (S 16 0) 0 xfu 0 (yu S 16 1 (S 16 1 + 1)) (xw μ b (3 + 1) (nI (S 16 1 + 1))) (by omega) e0 (by unfold xfu; omega) (yL_0 hI) (yC_sc hC hn (Or.inl rfl))
  rw [e4, Int32.zero_add] at k1
  refine ⟨m, ?_, k2, fun a ha => by rw [k3 a ha, xw_row (by omega)], ?_⟩
  · rw [fX0_endWeek, hC.1.2.1, nI_1]
    exact k1
  · refine yL_n ?_
    show yL (W + 1) (ywalk (yu S 16 1 (S 16 1 + 1)) 0 (S 16 0) 16 0) _
    rw [k5]
    exact k4
theorem y_c_wloop {b k : Nat} {J : Nat → Int32} (hk : k ≤ 20) : ∀ u j f x (S : Nat → Nat → Nat) (μ : xM) (W : Nat), j + u = k → u < f → yI W S → W + u < 90000000 → yC b S J μ → ∃ μ1, lX0_endWeeks_4 b (nI k) f x (nI j) μ = some (x + (nI (yweeks S u 16 4) - nI (S 16 4)), μ1) ∧ yC b (yweeks S u) J μ1 ∧ yFar b μ μ1 ∧ yI (W + u) (yweeks S u) := by
  intro u
  induction u with
  | zero =>
    intro j f x S μ W hj hf hI hW hC
    obtain ⟨f, rfl⟩ : ∃ f', f = f' + 1 := ⟨f - 1, by omega⟩
    refine ⟨μ, ?_, hC, yFar_r, hI⟩
    rw [lX0_endWeeks_4, if_pos ((nI_leI (by omega) (by omega)).mpr (by omega))]
    show some (x, μ) = some (x + (nI (S 16 4) - nI (S 16 4)), μ)
    rw [Int32.sub_self, Int32.add_zero]
  | succ u ih =>
    intro j f x S μ W hj hf hI hW hC
    obtain ⟨f, rfl⟩ : ∃ f', f = f' + 1 := ⟨f - 1, by omega⟩
    obtain ⟨m, k1, k2, k3, k4⟩ := y_c_week hC hI (by omega)
    obtain ⟨m1, l1, l2, l3, l4⟩ := ih (j + 1) f (x + (nI (yweek S 16 4) - nI (S 16 4))) (yweek S) m (W + 1) (by omega) (by omega) k4 (by omega) k2
    refine ⟨m1, ?_, l2, yFar_t k3 l3, by rw [show W + (u + 1) = W + 1 + u by omega]; exact l4⟩
    rw [lX0_endWeeks_4, if_neg (fun q => by have := (nI_leI (by omega) (by omega)).mp q; omega), k1, y_xb, nI_1, l1]
    show some (x + (nI (yweek S 16 4) - nI (S 16 4)) + (nI (yweeks (yweek S) u 16 4) - nI (yweek S 16 4)), m1) = some (x + (nI (yweeks (yweek S) u 16 4) - nI (S 16 4)), m1)
    congr 2
    grind
theorem y_c_pass {b W k : Nat} {S : Nat → Nat → Nat} {J : Nat → Int32} {μ : xM} (hC : yC b S J μ) (hI : yI W S) (hW : W < 80000000) (hk : k ≤ 20) : ∃ μ1, fX0_endWeeks b (nI k) μ = some (nI (yweeks S k 16 4) - nI (S 16 4), μ1) ∧ yC b (yweeks S k) J μ1 ∧ yFar b μ μ1 ∧ yI (W + k) (yweeks S k) := by
  obtain ⟨m, k1, k2, k3, k4⟩ := y_c_wloop (b := b) (J := J) hk k 0 xfu 0 S μ W (by omega) (by unfold xfu; omega) hI (by omega) hC
  rw [Int32.zero_add] at k1
  exact ⟨m, k1, k2, k3, k4⟩
