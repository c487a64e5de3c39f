/-! THE PURE PART: a whole text, class and model in step -/
def yK7 (K : Nat) : Prop := K = 112 ∨ K = 121 ∨ K = 115 ∨ K = 99 ∨ K = 119 ∨ K = 114 ∨ K = 110
theorem yp1_b {s : Nat → Nat} {L k p : Nat} (hk : 1 ≤ k) (hp : p ≤ L) : p ≤ (yp1 s L k p).2.1 ∧ ((yp1 s L k p).1 = true → p < (yp1 s L k p).2.1) := by
  unfold yp1
  by_cases dg : ydig s L p
  · rw [if_pos dg]
    obtain ⟨k', rfl⟩ : ∃ k', k = k' + 1 := ⟨k - 1, by omega⟩
    rw [ynum_t dg]
    have := (ynum_b (s := s) (L := L) k' (0 * 10 + (s p - 48)) (p + 1) dg.1).1
    exact ⟨by show p ≤ (ynum s L k' (0 * 10 + (s p - 48)) (p + 1)).2; omega, fun _ => by show p < (ynum s L k' (0 * 10 + (s p - 48)) (p + 1)).2; omega⟩
  · rw [if_neg dg]
    exact ⟨Nat.le_refl p, fun q => absurd q Bool.false_ne_true⟩
theorem ynum_l {s : Nat → Nat} {L k p : Nat} (hp : p ≤ L) : p ≤ (ynum s L k 0 p).2 ∧ (ynum s L k 0 p).2 ≤ L := ⟨(ynum_b (s := s) (L := L) k 0 p hp).1, (ynum_b (s := s) (L := L) k 0 p hp).2.1⟩
theorem yp2_b {s : Nat → Nat} {L k k2 p : Nat} (hp : p ≤ L) : p ≤ (yp2 s L k k2 p).2.1 ∧ ((yp2 s L k k2 p).1 = true → p < (yp2 s L k k2 p).2.1) ∧ (yp2 s L k k2 p).2.1 ≤ L := by
  unfold yp2
  have h1 := ynum_l (s := s) (L := L) (k := k) hp
  by_cases dg : ydig s L p
  · rw [if_pos dg]
    by_cases e1 : (ynum s L k 0 p).2 < L ∧ s (ynum s L k 0 p).2 = 61
    · rw [if_pos e1]
      by_cases dg2 : ydig s L ((ynum s L k 0 p).2 + 1)
      · rw [if_pos dg2]
        have h2 := ynum_l (s := s) (L := L) (k := k2) (p := (ynum s L k 0 p).2 + 1) (by omega)
        exact ⟨by show p ≤ (ynum s L k2 0 ((ynum s L k 0 p).2 + 1)).2; omega, fun _ => by show p < (ynum s L k2 0 ((ynum s L k 0 p).2 + 1)).2; omega, h2.2⟩
      · rw [if_neg dg2]
        exact ⟨by show p ≤ (ynum s L k 0 p).2 + 1; omega, fun q => absurd q Bool.false_ne_true, by show (ynum s L k 0 p).2 + 1 ≤ L; omega⟩
    · rw [if_neg e1]
      exact ⟨h1.1, fun q => absurd q Bool.false_ne_true, h1.2⟩
  · rw [if_neg dg]
    exact ⟨Nat.le_refl p, fun q => absurd q Bool.false_ne_true, hp⟩
theorem yp3_b {s : Nat → Nat} {L p : Nat} (hp : p ≤ L) : (yp3 s L p).1 = true → p < (yp3 s L p).2.1 := by
  unfold yp3
  have h1 := yp2_b (s := s) (L := L) (k := 1) (k2 := 3) hp
  by_cases b : (yp2 s L 1 3 p).1 = true
  · rw [if_pos b]
    by_cases e1 : (yp2 s L 1 3 p).2.1 < L ∧ s (yp2 s L 1 3 p).2.1 = 47
    · rw [if_pos e1]
      by_cases dg2 : ydig s L ((yp2 s L 1 3 p).2.1 + 1)
      · rw [if_pos dg2]
        have h2 := ynum_l (s := s) (L := L) (k := 3) (p := (yp2 s L 1 3 p).2.1 + 1) (by omega)
        intro _
        show p < (ynum s L 3 0 ((yp2 s L 1 3 p).2.1 + 1)).2
        omega
      · rw [if_neg dg2]
        intro q; exact absurd q Bool.false_ne_true
    · rw [if_neg e1]
      intro q; exact absurd q Bool.false_ne_true
  · rw [if_neg b]
    intro q; exact absurd q b
theorem yord_b {s : Nat → Nat} {L p : Nat} (hp : p ≤ L) (h : (yord s L p).1 = true) : p < L ∧ yK7 (s p) ∧ p + 2 ≤ (yord s L p).2.1 := by
  unfold yord at h ⊢
  unfold yK7
  by_cases c1 : p < L
  · rw [if_pos c1] at h ⊢
    by_cases d1 : s p = 112
    · rw [if_pos d1] at h ⊢; have := yp3_b (by omega) h; exact ⟨c1, by omega, by omega⟩
    rw [if_neg d1] at h ⊢
    by_cases d2 : s p = 121
    · rw [if_pos d2] at h ⊢; have := (yp2_b (by omega)).2.1 h; exact ⟨c1, by omega, by omega⟩
    rw [if_neg d2] at h ⊢
    by_cases d3 : s p = 115
    · rw [if_pos d3] at h ⊢; have := (yp2_b (by omega)).2.1 h; exact ⟨c1, by omega, by omega⟩
    rw [if_neg d3] at h ⊢
    by_cases d4 : s p = 99
    · rw [if_pos d4] at h ⊢; have := (yp1_b (by decide) (by omega)).2 h; exact ⟨c1, by omega, by omega⟩
    rw [if_neg d4] at h ⊢
    by_cases d5 : s p = 119
    · rw [if_pos d5] at h ⊢; have := (yp1_b (by decide) (by omega)).2 h; exact ⟨c1, by omega, by omega⟩
    rw [if_neg d5] at h ⊢
    by_cases d6 : s p = 114
    · rw [if_pos d6] at h ⊢; have := (yp1_b (by decide) (by omega)).2 h; exact ⟨c1, by omega, by omega⟩
    rw [if_neg d6] at h ⊢
    by_cases d7 : s p = 110
    · rw [if_pos d7] at h ⊢; have := (yp1_b (by decide) (by omega)).2 h; exact ⟨c1, by omega, by omega⟩
    rw [if_neg d7] at h
    exact absurd h Bool.false_ne_true
  · rw [if_neg c1] at h
    exact absurd h Bool.false_ne_true
/-- order j, in the class's and in the model's words -/
def yOO (h md j : Nat) (μ ν : xM) : Prop := ∃ K v1 v2 v3, yK7 K ∧ yOr (h + 2 + 1 + j) (nI K) (nI v1) (nI v2) (nI v3) μ ∧ yTo md j K v1 v2 v3 ν
def yFc (h : Nat) (μ μ1 : xM) : Prop := (∀ a, a ≠ h → (a < h + 3 ∨ h + 23 ≤ a) → μ1 a = μ a) ∧ ∀ j, j ≠ 3 → j ≠ 4 → μ1 h j = μ h j
def yFt (md : Nat) (ν ν1 : xM) : Prop := (∀ a, a ≠ md → a ≠ md + 7 → ν1 a = ν a) ∧ ∀ j, j ≠ 17 → j ≠ 19 → ν1 md j = ν md j
theorem yFc_t {h : Nat} {μ μ1 μ2 : xM} (h1 : yFc h μ μ1) (h2 : yFc h μ1 μ2) : yFc h μ μ2 := ⟨fun a a1 a2 => (h2.1 a a1 a2).trans (h1.1 a a1 a2), fun j j1 j2 => (h2.2 j j1 j2).trans (h1.2 j j1 j2)⟩
theorem yFt_t {md : Nat} {μ μ1 μ2 : xM} (h1 : yFt md μ μ1) (h2 : yFt md μ1 μ2) : yFt md μ μ2 := ⟨fun a a1 a2 => (h2.1 a a1 a2).trans (h1.1 a a1 a2), fun j j1 j2 => (h2.2 j j1 j2).trans (h1.2 j j1 j2)⟩
theorem y_text {h md L : Nat} {s : Nat → Nat} : ∀ u n p f f2 (μ ν : xM), n + u = 20 → 3 * n ≤ p → yCi h s L p μ → yMi md s L p ν → μ h 3 = nI n → ν md 19 = nI n → (∀ j, j < n → yOO h md j μ ν) → u < f → u < f2 → ∃ r b μ1 ν1, lX3_readOrders_12 h f (nI n) μ = some (r, μ1) ∧ lX8_isText_10 md f2 ν = some (b, ν1) ∧ yFc h μ μ1 ∧ yFt md ν ν1 ∧ ((r = -1 ∧ b = 1 ∧ ∃ N, 1 ≤ N ∧ N ≤ 20 ∧ μ1 h 3 = nI N ∧ ν1 md 19 = nI N ∧ ∀ j, j < N → yOO h md j μ1 ν1) ∨ (b = 0 ∧ ∃ q, q ≤ 60 ∧ r = nI q ∧ ν1 md 17 = nI q)) := by
  intro u
  induction u with
  | zero =>
    intro n p f f2 μ ν hn hp hC hM h3 h19 hO hf hf2
    obtain ⟨f, rfl⟩ : ∃ f', f = f' + 1 := ⟨f - 1, by omega⟩
    obtain ⟨f2, rfl⟩ : ∃ f', f2 = f' + 1 := ⟨f2 - 1, by omega⟩
    have hL := hC.1
    have hpL := hC.2.1
    have nl : ¬ p < L := by omega
    obtain ⟨n1, k1, k2, -, k4⟩ := y_orderHere hM (by omega) h19
    have hy : yord s L p = (false, p, 0, 0, 0) := by unfold yord; rw [if_neg nl]
    rw [hy] at k1 k2
    refine ⟨nI p, 0, μ, n1, ?_, ?_, ⟨fun _ _ _ => rfl, fun _ _ _ => rfl⟩, ⟨k4.1, fun j j1 _ => k4.2.1 j j1⟩, Or.inr ⟨rfl, p, by omega, rfl, k2.2.2.2.1⟩⟩
    · rw [lX3_readOrders_12, if_pos (show (20 : Int32) ≤ nI n from (nI_leI (a := 20) (by decide) (by omega)).mpr (by omega)), hC.2.2.2.1]
    · rw [lX8_isText_10, k1, y_xb]
      exact if_pos rfl
  | succ u ih =>
    intro n p f f2 μ ν hn hp hC hM h3 h19 hO hf hf2
    obtain ⟨f, rfl⟩ : ∃ f', f = f' + 1 := ⟨f - 1, by omega⟩
    obtain ⟨f2, rfl⟩ : ∃ f', f2 = f' + 1 := ⟨f2 - 1, by omega⟩
    have hL := hC.1
    have hpL := hC.2.1
    obtain ⟨c1, a1, a2, a3, a4⟩ := y_readOrder (o := h + 2 + 1 + n) hC (by omega) (by omega)
    obtain ⟨m1, b1, b2, b3, b4⟩ := y_orderHere hM (by omega) h19
    have hcl : lX3_readOrders_12 h (f + 1) (nI n) μ = xb (fX3_readOrder h (h + 2 + 1 + n) μ) (fun r3 m3 => if r3 = 0 then (some ((m3 h 4), m3)) else (if (((xw m3 h 3 ((m3 h 3) + (1 : Int32)))) h 4) = (((xw m3 h 3 ((m3 h 3) + (1 : Int32)))) h 2) then (some ((-1 : Int32), (xw m3 h 3 ((m3 h 3) + (1 : Int32))))) else (xb (fX3_readSign h ((59 : Int32)) ((xw m3 h 3 ((m3 h 3) + (1 : Int32))))) (fun r6 m6 => if r6 = 0 then (some ((m6 h 4), m6)) else (lX3_readOrders_12 h f ((nI n + (1 : Int32))) m6))))) := by
      rw [lX3_readOrders_12, if_neg (show ¬ (20 : Int32) ≤ nI n from fun q => by have := (nI_leI (a := 20) (b := n) (by decide) (by omega)).mp q; omega), y_xk (vp_in_nI (by omega) (by decide)), nI_clamp (by omega)]
    rw [hcl, lX8_isText_10, a1, b1, y_xb, y_xb]
    generalize hR : yord s L p = R at a1 a2 a3 b1 b2 b3
    by_cases ok : R.1 = true
    · have hb := yord_b hpL (by rw [hR]; exact ok)
      rw [hR] at hb
      obtain ⟨d1, d2, d3⟩ := hb
      have o1 := a3 ok
      have t1 := b3 ok
      rw [if_pos ok, if_neg y_n10, if_neg y_n10, b4.2.1 19 (by decide), h19, nI_1]
      have e3 : c1 h 3 = nI n := by rw [a4.2 3 (by decide)]; exact h3
      rw [e3, nI_1]
      -- behind the order
      have hC2 : yCi h s L R.2.1 (xw c1 h 3 (nI (n + 1))) := yCi_to a2 a2.2.1 (y_wk (by decide)) (by rw [y_wk (by decide)]; exact a2.2.2.2.1) (xw_row (by omega))
      have hM2 : yMi md s L R.2.1 (xw m1 md 19 (nI (n + 1))) := yMi_to b2 b2.2.1 (y_wk (by decide)) (by rw [y_wk (by decide)]; exact b2.2.2.2.1) (xw_row (by omega))
      have F1 : yFc h μ (xw c1 h 3 (nI (n + 1))) := ⟨fun a h1 h2 => by rw [xw_row h1, a4.1 a h1 (by omega)], fun j j1 j2 => by rw [y_wk j1, a4.2 j j2]⟩
      have F2 : yFt md ν (xw m1 md 19 (nI (n + 1))) := ⟨fun a h1 h2 => by rw [xw_row h1, b4.1 a h1 h2], fun j j1 j2 => by rw [y_wk j2, b4.2.1 j j1]⟩
      have hO2 : ∀ j, j < n + 1 → yOO h md j (xw c1 h 3 (nI (n + 1))) (xw m1 md 19 (nI (n + 1))) := by
        intro j hj
        by_cases cj : j = n
        · subst cj
          refine ⟨s p, R.2.2.1, R.2.2.2.1, R.2.2.2.2, d2, ?_, ?_⟩
          · unfold yOr; rw [xw_row (by omega)]; exact o1
          · unfold yTo; rw [xw_row (by omega)]; exact t1
        · obtain ⟨K, v1, v2, v3, q1, q2, q3⟩ := hO j (by omega)
          refine ⟨K, v1, v2, v3, q1, ?_, ?_⟩
          · unfold yOr; rw [xw_row (by omega), a4.1 _ (by omega) (by omega)]; exact q2
          · unfold yTo
            rw [xw_row (by omega), b4.2.2 (4 * j) (by omega), b4.2.2 (4 * j + 1) (by omega), b4.2.2 (4 * j + 2) (by omega), b4.2.2 (4 * j + 3) (by omega)]
            exact q3
      generalize hX : xw c1 h 3 (nI (n + 1)) = X at hC2 F1 hO2
      have x3 : X h 3 = nI (n + 1) := by rw [← hX, xw_same]
      generalize hY : xw m1 md 19 (nI (n + 1)) = Y at hM2 F2 hO2
      have y19 : Y md 19 = nI (n + 1) := by rw [← hY, xw_same]
      have eX4 := hC2.2.2.2.1
      have eX2 := hC2.2.2.1
      have eY17 := hM2.2.2.2.1
      have eY13 := hM2.2.2.1
      have hRL := hC2.2.1
      rw [eX4, eX2, y_ieq (by omega) (by omega)]
      obtain ⟨q1, q2⟩ := y_sk (c := 59) hM2 (by decide)
      obtain ⟨r1, r2⟩ := y_rS (c := 59) hC2 (by decide)
      rw [show (59 : Int32) = nI 59 from rfl]
      by_cases e : R.2.1 = L
      · have ns : ¬ (R.2.1 < L ∧ s R.2.1 = 59) := fun z => by omega
        rw [if_pos e, q2 ns, y_xb, if_pos rfl, eY17, eY13, if_pos (show nI R.2.1 = nI L by rw [e])]
        exact ⟨-1, 1, X, Y, rfl, rfl, F1, F2, Or.inl ⟨rfl, rfl, n + 1, by omega, by omega, x3, y19, hO2⟩⟩
      · rw [if_neg e]
        by_cases sg : R.2.1 < L ∧ s R.2.1 = 59
        · rw [r1 sg, q1 sg, y_xb, y_xb, if_neg y_n10, if_neg y_n10]
          have hC3 : yCi h s L (R.2.1 + 1) (xw X h 4 (nI (R.2.1 + 1))) := yCi_to hC2 (by omega) (y_wk (by decide)) (xw_same _ _ _ _) (xw_row (by omega))
          have hM3 : yMi md s L (R.2.1 + 1) (xw Y md 17 (nI (R.2.1 + 1))) := yMi_to hM2 (by omega) (y_wk (by decide)) (xw_same _ _ _ _) (xw_row (by omega))
          obtain ⟨r, b, μ1, ν1, w1, w2, w3, w4, w5⟩ := ih (n + 1) (R.2.1 + 1) f f2 _ _ (by omega) (by omega) hC3 hM3 (by rw [y_wk (by decide)]; exact x3) (by rw [y_wk (by decide)]; exact y19) (fun j hj => by
            obtain ⟨K, v1, v2, v3, q1, q2, q3⟩ := hO2 j hj
            refine ⟨K, v1, v2, v3, q1, ?_, ?_⟩
            · unfold yOr; rw [xw_row (by omega)]; exact q2
            · unfold yTo; rw [xw_row (by omega)]; exact q3) (by omega) (by omega)
          exact ⟨r, b, μ1, ν1, w1, w2, yFc_t F1 (yFc_t ⟨fun a h1 _ => xw_row h1, fun j _ j2 => y_wk j2⟩ w3), yFt_t F2 (yFt_t ⟨fun a h1 _ => xw_row h1, fun j j1 _ => y_wk j1⟩ w4), w5⟩
        · rw [r2 sg, q2 sg, y_xb, y_xb, if_pos rfl, if_pos rfl, eX4, eY17, eY13, y_ieq (by omega) (by omega), if_neg e]
          exact ⟨nI R.2.1, 0, X, Y, rfl, rfl, F1, F2, Or.inr ⟨rfl, R.2.1, by omega, rfl, eY17⟩⟩
    · rw [if_neg ok, if_pos rfl, if_pos rfl, a2.2.2.2.1]
      exact ⟨nI R.2.1, 0, c1, m1, rfl, rfl, ⟨fun a h1 h2 => a4.1 a h1 (by omega), fun j _ j2 => a4.2 j j2⟩, ⟨b4.1, fun j j1 _ => b4.2.1 j j1⟩, Or.inr ⟨rfl, R.2.1, by have := a2.2.1; omega, rfl, b2.2.2.2.1⟩⟩
