/-! THE PURE PART: copies, undo, snapshot -/
theorem y_cp5 {h0 h1 : Nat} {μ : xM} (h : h1 ≠ h0) : ∃ μ1, fX5_copyFrom h0 h1 μ = some μ1 ∧ (∀ k, k < 12 → μ1 h0 k = μ h1 k) ∧ ∀ a, a ≠ h0 → μ1 a = μ a := by
  refine ⟨_, rfl, fun k hk => ?_, fun a ha => ?_⟩
  · simp only [y_wn h]
    have hk' : k = 0 ∨ k = 1 ∨ k = 2 ∨ k = 3 ∨ k = 4 ∨ k = 5 ∨ k = 6 ∨ k = 7 ∨ k = 8 ∨ k = 9 ∨ k = 10 ∨ k = 11 := by omega
    rcases hk' with rfl | rfl | rfl | rfl | rfl | rfl | rfl | rfl | rfl | rfl | rfl | rfl <;> simp [xw]
  · simp only [xw_row ha]
theorem y_cp2 {b1 b2 n : Nat} (hb : b1 + 20 ≤ b2 ∨ b2 + 20 ≤ b1) (hn : n ≤ 16) : ∀ u t f (μ : xM), t + u = n → u < f → μ b2 3 = nI n → ∃ μ1, lX0_copyFrom_2 b1 b2 f (nI t) μ = lX0_copyFrom_33 b1 b2 xfu 0 μ1 ∧ (∀ j, t ≤ j → j < n → ∀ k, k < 12 → μ1 (b1 + 1 + 1 + j) k = μ (b2 + 1 + 1 + j) k) ∧ ∀ a, (a < b1 + 1 + 1 + t ∨ b1 + 1 + 1 + n ≤ a) → μ1 a = μ a := by
  intro u
  induction u with
  | zero =>
    intro t f μ ht hf e3
    obtain ⟨f, rfl⟩ : ∃ f', f = f' + 1 := ⟨f - 1, by omega⟩
    refine ⟨μ, ?_, fun j h1 h2 => by omega, fun a _ => rfl⟩
    rw [lX0_copyFrom_2, e3, if_pos ((nI_leI (by omega) (by omega)).mpr (by omega))]
  | succ u ih =>
    intro t f μ ht hf e3
    obtain ⟨f, rfl⟩ : ∃ f', f = f' + 1 := ⟨f - 1, by omega⟩
    have ht' : t < n := by omega
    obtain ⟨m, k1, k2, k3⟩ := y_cp5 (h0 := b1 + 1 + 1 + t) (h1 := b2 + 1 + 1 + t) (μ := μ) (by omega)
    obtain ⟨m1, l1, l2, l3⟩ := ih (t + 1) f m (by omega) (by omega) (by rw [k3 b2 (by omega)]; exact e3)
    refine ⟨m1, ?_, fun j h1 h2 k hk => ?_, fun a ha => by rw [l3 a (by omega), k3 a (by omega)]⟩
    · rw [lX0_copyFrom_2, e3, if_neg (y_nle ht' hn), y_xk (y_in16 ht' hn), y_xk (y_in16 ht' hn), y_cl ht' hn, k1, y_xbv, nI_1, l1]
    · by_cases c : j = t
      · subst c; rw [l3 _ (by omega), k2 k hk]
      · rw [l2 j (by omega) h2 k hk, k3 _ (by omega)]
theorem y_cp33 {b1 b2 : Nat} (hb : b1 + 20 ≤ b2 ∨ b2 + 20 ≤ b1) : ∀ u t f (μ : xM), t + u = 6 → u < f → ∃ μ1, lX0_copyFrom_33 b1 b2 f (nI t) μ = some μ1 ∧ (∀ k, 3 ≤ k → k < 8 → μ1 b1 k = μ b2 k) ∧ (∀ j, t ≤ j → j < 6 → μ1 (b1 + 18) j = μ (b2 + 18) j ∧ μ1 (b1 + 19) j = μ (b2 + 19) j) ∧ (∀ j, j < t → μ1 (b1 + 18) j = μ (b1 + 18) j ∧ μ1 (b1 + 19) j = μ (b1 + 19) j) ∧ ∀ a, a ≠ b1 → a ≠ b1 + 18 → a ≠ b1 + 19 → μ1 a = μ a := by
  intro u
  induction u with
  | zero =>
    intro t f μ ht hf
    obtain ⟨f, rfl⟩ : ∃ f', f = f' + 1 := ⟨f - 1, by omega⟩
    obtain rfl : t = 6 := by omega
    have hne : b2 ≠ b1 := by omega
    have h18 : b1 + 18 ≠ b1 := by omega
    have h19 : b1 + 19 ≠ b1 := by omega
    rw [lX0_copyFrom_33, if_pos (show (6 : Int32) ≤ nI 6 from Int32.le_refl _)]
    refine ⟨_, rfl, fun k h1 h2 => ?_, fun j h1 h2 => by omega, fun j hj => ?_, fun a ha _ _ => ?_⟩
    · simp only [y_wn hne]
      have hk' : k = 3 ∨ k = 4 ∨ k = 5 ∨ k = 6 ∨ k = 7 := by omega
      rcases hk' with rfl | rfl | rfl | rfl | rfl <;> simp [xw]
    · simp only [y_wn h18, y_wn h19, and_self]
    · simp only [xw_row ha]
  | succ u ih =>
    intro t f μ ht hf
    obtain ⟨f, rfl⟩ : ∃ f', f = f' + 1 := ⟨f - 1, by omega⟩
    have ht' : t < 6 := by omega
    have e1 : (xw μ (b1 + 18) t (μ (b2 + 18) t)) (b2 + 19) t = μ (b2 + 19) t := y_wn (by omega)
    obtain ⟨m1, l1, l2, l3, l4, l5⟩ := ih (t + 1) f (xw (xw μ (b1 + 18) t (μ (b2 + 18) t)) (b1 + 19) t (μ (b2 + 19) t)) (by omega) (by omega)
    refine ⟨m1, ?_, fun k h1 h2 => by rw [l2 k h1 h2, y_wn (by omega), y_wn (by omega)], fun j h1 h2 => ?_, fun j hj => ?_, fun a ha h1 h2 => by rw [l5 a ha h1 h2, xw_row h2, xw_row h1]⟩
    · rw [lX0_copyFrom_33, if_neg (show ¬ (6 : Int32) ≤ nI t from y_nle ht' (by decide)), y_xk (vp_in_nI ht' (by decide)), y_xk (vp_in_nI ht' (by decide)), y_xk (vp_in_nI ht' (by decide)), y_xk (vp_in_nI ht' (by decide)), nI_clamp (by omega), e1, nI_1, l1]
    · by_cases c : j = t
      · subst c
        rw [(l4 j (by omega)).1, (l4 j (by omega)).2, xw_same, y_wn (by omega), xw_same]
        exact ⟨rfl, rfl⟩
      · rw [(l3 j (by omega) h2).1, (l3 j (by omega) h2).2, y_wn (by omega), y_wn (by omega), y_wn (by omega), y_wn (by omega)]
        exact ⟨rfl, rfl⟩
    · rw [(l4 j (by omega)).1, (l4 j (by omega)).2, y_wn (by omega), y_wk (by omega), y_wk (by omega), y_wn (by omega)]
      exact ⟨rfl, rfl⟩
/-- a bank is another -/
theorem y_copyFrom {b1 b2 : Nat} {S : Nat → Nat → Nat} {J : Nat → Int32} {μ : xM} (hb : b1 + 20 ≤ b2 ∨ b2 + 20 ≤ b1) (h : yC b2 S J μ) (hn : S 16 0 ≤ 16) : ∃ μ1, fX0_copyFrom b1 b2 μ = some μ1 ∧ yC b1 S J μ1 ∧ yFar b1 μ μ1 := by
  obtain ⟨m, k1, k2, k3⟩ := y_cp2 hb hn (S 16 0) 0 xfu μ (by omega) (by unfold xfu; omega) h.1.1
  obtain ⟨m1, l1, l2, l3, l4, l5⟩ := y_cp33 hb 6 0 xfu m (by omega) (by unfold xfu; omega)
  have e2 : ∀ a, b2 ≤ a → a < b2 + 20 → m a = μ a := fun a h1 h2 => k3 a (by omega)
  refine ⟨m1, k1.trans l1, ⟨⟨?_, ?_, ?_, ?_, ?_⟩, fun t ht k hk => ?_, fun j hj => ?_⟩, fun a ha => ?_⟩
  · rw [l2 3 (by omega) (by omega), e2 b2 (by omega) (by omega)]; exact h.1.1
  · rw [l2 4 (by omega) (by omega), e2 b2 (by omega) (by omega)]; exact h.1.2.1
  · rw [l2 5 (by omega) (by omega), e2 b2 (by omega) (by omega)]; exact h.1.2.2.1
  · rw [l2 6 (by omega) (by omega), e2 b2 (by omega) (by omega)]; exact h.1.2.2.2.1
  · rw [l2 7 (by omega) (by omega), e2 b2 (by omega) (by omega)]; exact h.1.2.2.2.2
  · rw [l5 _ (by omega) (by omega) (by omega), k2 t (by omega) ht k hk]
    exact h.2.1 t ht k hk
  · rw [(l3 j (by omega) hj).1, (l3 j (by omega) hj).2, e2 (b2 + 18) (by omega) (by omega), e2 (b2 + 19) (by omega) (by omega)]
    exact h.2.2 j hj
  · rw [l5 a (by omega) (by omega) (by omega), k3 a (by omega)]
/-- the model's copies -/
theorem y_cps {s d n0 n2 P Q : Nat} (hsd : s ≠ d) (h0 : P + 199 ≤ n0) (h2 : Q + 199 ≤ n2) (hn0 : n0 ≤ 2000) (hn2 : n2 ≤ 2000) : ∀ u t f (ν : xM), t + u = 199 → u < f → ∃ ν1, lX8_copies_3 s n0 (nI P) d n2 (nI Q) f (nI t) ν = some ν1 ∧ (∀ j, t ≤ j → j < 199 → ν1 d (Q + j) = ν s (P + j)) ∧ (∀ i, (i < Q + t ∨ Q + 199 ≤ i) → ν1 d i = ν d i) ∧ ∀ a, a ≠ d → ν1 a = ν a := by
  intro u
  induction u with
  | zero =>
    intro t f ν ht hf
    obtain ⟨f, rfl⟩ : ∃ f', f = f' + 1 := ⟨f - 1, by omega⟩
    obtain rfl : t = 199 := by omega
    exact ⟨ν, by rw [lX8_copies_3, if_pos (show (199 : Int32) ≤ nI 199 from Int32.le_refl _)], fun j h1 h2 => by omega, fun i _ => rfl, fun a _ => rfl⟩
  | succ u ih =>
    intro t f ν ht hf
    obtain ⟨f, rfl⟩ : ∃ f', f = f' + 1 := ⟨f - 1, by omega⟩
    obtain ⟨m, k1, k2, k3, k4⟩ := ih (t + 1) f (xw ν d (Q + t) (ν s (P + t))) (by omega) (by omega)
    refine ⟨m, ?_, fun j h1 h2 => ?_, fun i hi => by rw [k3 i (by omega), y_wk (by omega)], fun a ha => by rw [k4 a ha, xw_row ha]⟩
    · rw [lX8_copies_3, if_neg (show ¬ (199 : Int32) ≤ nI t from fun q => by have := (nI_leI (a := 199) (b := t) (by decide) (by omega)).mp q; omega), nI_add, nI_add, y_xk (vp_in_nI (by omega) (by omega)), y_xk (vp_in_nI (by omega) (by omega)), nI_clamp (by omega), nI_clamp (by omega), nI_1, k1]
    · by_cases c : j = t
      · subst c; rw [k3 _ (by omega), xw_same]
      · rw [k2 j (by omega) h2, y_wn hsd]
theorem y_copies {s d n0 n2 P Q : Nat} (hsd : s ≠ d) (h0 : P + 199 ≤ n0) (h2 : Q + 199 ≤ n2) (hn0 : n0 ≤ 2000) (hn2 : n2 ≤ 2000) (ν : xM) : ∃ ν1, fX8_copies s n0 (nI P) d n2 (nI Q) ν = some ν1 ∧ (∀ j, j < 199 → ν1 d (Q + j) = ν s (P + j)) ∧ (∀ i, (i < Q ∨ Q + 199 ≤ i) → ν1 d i = ν d i) ∧ ∀ a, a ≠ d → ν1 a = ν a := by
  obtain ⟨m, k1, k2, k3, k4⟩ := y_cps hsd h0 h2 hn0 hn2 199 0 xfu ν (by omega) (by unfold xfu; omega)
  exact ⟨m, k1, fun j hj => k2 j (by omega) hj, fun i hi => k3 i (by omega), k4⟩
theorem y_shift {md w : Nat} : ∀ u t f (ν : xM), t + u = 1393 → u < f → ∃ ν1, lX8_keeps_24 md w f (nI t) ν = lX8_keeps_24 md w (f - u) (nI 1393) ν1 ∧ (∀ i, t ≤ i → i < 1393 → ν1 (md + 2) i = ν (md + 2) (i + 199)) ∧ (∀ i, (i < t ∨ 1393 ≤ i) → ν1 (md + 2) i = ν (md + 2) i) ∧ ∀ a, a ≠ md + 2 → ν1 a = ν a := by
  intro u
  induction u with
  | zero =>
    intro t f ν ht hf
    obtain rfl : t = 1393 := by omega
    exact ⟨ν, rfl, fun i h1 h2 => by omega, fun i _ => rfl, fun a _ => rfl⟩
  | succ u ih =>
    intro t f ν ht hf
    obtain ⟨f, rfl⟩ : ∃ f', f = f' + 1 := ⟨f - 1, by omega⟩
    obtain ⟨m, k1, k2, k3, k4⟩ := ih (t + 1) f (xw ν (md + 2) t (ν (md + 2) (t + 199))) (by omega) (by omega)
    refine ⟨m, ?_, fun i h1 h2 => ?_, fun i hi => by rw [k3 i (by omega), y_wk (by omega)], fun a ha => by rw [k4 a ha, xw_row ha]⟩
    · rw [lX8_keeps_24, if_neg (show ¬ (1393 : Int32) ≤ nI t from fun q => by have := (nI_leI (a := 1393) (b := t) (by decide) (by omega)).mp q; omega), show (199 : Int32) = nI 199 from rfl, nI_add, y_xk (vp_in_nI (by omega) (by omega)), y_xk (vp_in_nI (by omega) (by omega)), nI_clamp (by omega), nI_clamp (by omega), nI_1, k1, show f + 1 - (u + 1) = f - u by omega]
    · by_cases c : i = t
      · subst c; rw [k3 _ (by omega), xw_same]
      · rw [k2 i (by omega) h2, y_wk (by omega)]
theorem y_copies_m {md c w : Nat} (hw : w ≠ md + 2) (hc : c < 8) (ν : xM) (v : Int32) (hv : v = nI c) : ∃ ν1, fX8_copies w 199 0 (md + 2) 1592 (199 * v) ν = some ν1 ∧ (∀ j, j < 199 → ν1 (md + 2) (199 * c + j) = ν w j) ∧ (∀ i, (i < 199 * c ∨ 199 * c + 199 ≤ i) → ν1 (md + 2) i = ν (md + 2) i) ∧ ∀ a, a ≠ md + 2 → ν1 a = ν a := by
  obtain ⟨m, k1, k2, k3, k4⟩ := y_copies (s := w) (d := md + 2) (n0 := 199) (n2 := 1592) (P := 0) (Q := 199 * c) hw (by omega) (by omega) (by omega) (by omega) ν
  refine ⟨m, ?_, fun j hj => by rw [k2 j hj, Nat.zero_add], k3, k4⟩
  have e : 199 * v = nI (199 * c) := by rw [hv, show (199 : Int32) = nI 199 from rfl, pk_mul]
  rw [e]
  exact k1
/-- the model keeps its row -/
theorem y_keepM {md c w : Nat} {ν : xM} (hw : w ≠ md + 2) (hw0 : w ≠ md) (h5 : ν md 5 = nI c) (hc : c ≤ 8) (h6 : ν md 6 = 0) : ∃ ν1, fX8_keeps md w ν = some ν1 ∧ ν1 md 5 = nI (min (c + 1) 8) ∧ ν1 md 7 = 0 ∧ (∀ k, k ≠ 5 → k ≠ 7 → ν1 md k = ν md k) ∧ (∀ a, a ≠ md → a ≠ md + 2 → ν1 a = ν a) ∧ (c < 8 → (∀ i, i < 199 * c → ν1 (md + 2) i = ν (md + 2) i) ∧ ∀ j, j < 199 → ν1 (md + 2) (199 * c + j) = ν w j) ∧ (c = 8 → (∀ i, i < 1393 → ν1 (md + 2) i = ν (md + 2) (i + 199)) ∧ ∀ j, j < 199 → ν1 (md + 2) (199 * 7 + j) = ν w j) := by
  have g6 : (xw ν md 7 0) md 6 = 0 := by rw [y_wk (by decide)]; exact h6
  have g5 : (xw ν md 7 0) md 5 = nI c := by rw [y_wk (by decide)]; exact h5
  have e8 : (nI c = 8) = (c = 8) := y_eqN (b := 8) (by omega) (by decide)
  rw [fX8_keeps, if_pos g6, g5]
  by_cases c8 : c = 8
  · rw [if_pos (by rw [e8]; exact c8)]
    obtain ⟨m, k1, k2, k3, k4⟩ := y_shift (md := md) (w := w) 1393 0 xfu (xw ν md 7 0) (by omega) (by unfold xfu; omega)
    have hF : 1393 < xfu := by unfold xfu; omega
    have m5 : m md 5 = nI 8 := by rw [k4 md (by omega), g5, c8]
    have m7 : m md 7 = 0 := by rw [k4 md (by omega), xw_same]
    have x5 : m md 5 - 1 = nI 7 := by rw [m5]; exact nI_pred 7
    obtain ⟨m1, l1, l2, l3, l4⟩ := y_copies_m (md := md) (c := 7) hw (by decide) (xw m md 5 (nI 7)) ((xw m md 5 (nI 7)) md 5) (xw_same _ _ _ _)
    have n5 : m1 md 5 = nI 7 := by rw [l4 md (by omega), xw_same]
    generalize xfu = F at k1 hF ⊢
    obtain ⟨f, hf⟩ : ∃ f, F - 1393 = f + 1 := ⟨F - 1394, by omega⟩
    refine ⟨xw m1 md 5 (nI 8), ?_, by rw [xw_same, c8]; rfl, ?_, fun k h1 h2 => ?_, fun a h1 h2 => ?_, fun q => by omega, fun _ => ⟨fun i hi => ?_, fun j hj => ?_⟩⟩
    · refine k1.trans ?_
      rw [hf, lX8_keeps_24, if_pos (show (1393 : Int32) ≤ nI 1393 from Int32.le_refl _), x5, l1, y_xbv, n5]
      rfl
    · rw [y_wk (by decide), l4 md (by omega), y_wk (by decide), m7]
    · rw [y_wk h1, l4 md (by omega), y_wk h1, k4 md (by omega), y_wk h2]
    · rw [xw_row h1, l4 a h2, xw_row h1, k4 a h2, xw_row h1]
    · rw [y_wn (by omega), l3 i (by omega), y_wn (by omega), k2 i (by omega) hi, y_wn (by omega)]
    · rw [y_wn (by omega), l2 j hj, y_wn hw0, k4 w hw, y_wn hw0]
  · rw [if_neg (by rw [e8]; exact c8)]
    obtain ⟨m1, l1, l2, l3, l4⟩ := y_copies_m (md := md) (c := c) hw (by omega) (xw ν md 7 0) (nI c) rfl
    have n5 : m1 md 5 = nI c := by rw [l4 md (by omega), g5]
    refine ⟨xw m1 md 5 (nI (c + 1)), ?_, by rw [xw_same, show min (c + 1) 8 = c + 1 by omega], ?_, fun k h1 h2 => ?_, fun a h1 h2 => ?_, fun _ => ⟨fun i hi => ?_, fun j hj => ?_⟩, fun q => absurd q c8⟩
    · rw [l1, y_xbv, n5, nI_1]
    · rw [y_wk (by decide), l4 md (by omega), xw_same]
    · rw [y_wk h1, l4 md (by omega), y_wk h2]
    · rw [xw_row h1, l4 a h2, xw_row h1]
    · rw [y_wn (by omega), l3 i (by omega), y_wn (by omega)]
    · rw [y_wn (by omega), l2 j hj, y_wn hw0]
/-- in a text the model keeps nothing -/
theorem y_keepW {md w : Nat} {ν : xM} (h6 : ν md 6 = 1) : fX8_keeps md w ν = some (xw ν md 7 0) := by
  have g6 : ¬ (xw ν md 7 0) md 6 = 0 := by rw [y_wk (by decide), h6]; decide
  rw [fX8_keeps, if_neg g6]
/-- the bank's history keeps -/
theorem y_keepC {h b q c : Nat} {S : Nat → Nat → Nat} {J : Nat → Int32} {μ : xM} (hb : b + 20 ≤ h) (e1 : μ h 1 = nI q) (e2 : μ h 2 = nI c) (hq : q < 8) (hc : c ≤ 8) (hC : yC b S J μ) (hn : S 16 0 ≤ 16) : ∃ μ1, fX2_keep h b μ = some μ1 ∧ μ1 h 1 = nI ((q + 1) % 8) ∧ μ1 h 2 = nI (min (c + 1) 8) ∧ yC (h + 1 + 1 + 20 * q) S J μ1 ∧ ∀ a, a ≠ h → (a < h + 1 + 1 + 20 * q ∨ h + 1 + 1 + 20 * q + 20 ≤ a) → μ1 a = μ a := by
  obtain ⟨m, k1, k2, k3⟩ := y_copyFrom (b1 := h + 1 + 1 + 20 * q) (b2 := b) (by omega) hC hn
  have m1 : m h 1 = nI q := by rw [k3 h (by omega)]; exact e1
  have m2 : m h 2 = nI c := by rw [k3 h (by omega)]; exact e2
  have far : ∀ v w : Int32, yC (h + 1 + 1 + 20 * q) S J (xw (xw m h 1 v) h 2 w) := fun v w => yC_congr k2 (fun a h1 h2 => by rw [xw_row (by omega), xw_row (by omega)]) hn
  have far1 : ∀ v : Int32, yC (h + 1 + 1 + 20 * q) S J (xw m h 1 v) := fun v => yC_congr k2 (fun a h1 h2 => by rw [xw_row (by omega)]) hn
  have b8 : ∀ {α : Type} (A B : α) (n : Nat), n < 1000 → (if (8 : Int32) ≤ nI n then A else B) = if 8 ≤ n then A else B := fun A B n hn' => y_ile (a := 8) (by decide) (by omega)
  rw [fX2_keep, e1, y_xk (vp_in_nI hq (by decide)), nI_clamp (by omega), k1, y_xbv, m1, y_wk (by decide), m2, y_wk (by decide), m2, nI_1, b8 _ _ _ (by omega), b8 _ _ _ (by omega), b8 _ _ _ (by omega), nI_1]
  by_cases c1 : 8 ≤ q + 1
  · have eq : (q + 1) % 8 = 0 := by omega
    rw [if_pos c1, eq]
    by_cases c2 : 8 ≤ c
    · rw [if_pos c2, show min (c + 1) 8 = c by omega]
      exact ⟨_, rfl, xw_same _ _ _ _, by rw [y_wk (by decide)]; exact m2, far1 _, fun a h1 h2 => by rw [xw_row h1, k3 a (by omega)]⟩
    · rw [if_neg c2, show min (c + 1) 8 = c + 1 by omega]
      exact ⟨_, rfl, by rw [y_wk (by decide), xw_same]; rfl, xw_same _ _ _ _, far _ _, fun a h1 h2 => by rw [xw_row h1, xw_row h1, k3 a (by omega)]⟩
  · have eq : (q + 1) % 8 = q + 1 := by omega
    rw [if_neg c1, eq]
    by_cases c2 : 8 ≤ c
    · rw [if_pos c2, show min (c + 1) 8 = c by omega]
      exact ⟨_, rfl, xw_same _ _ _ _, by rw [y_wk (by decide)]; exact m2, far1 _, fun a h1 h2 => by rw [xw_row h1, k3 a (by omega)]⟩
    · rw [if_neg c2, show min (c + 1) 8 = c + 1 by omega]
      exact ⟨_, rfl, by rw [y_wk (by decide), xw_same], xw_same _ _ _ _, far _ _, fun a h1 h2 => by rw [xw_row h1, xw_row h1, k3 a (by omega)]⟩
/-- the two histories, the class's in μ, the model's in ν -/
def yH (W h md : Nat) (μ ν : xM) : Prop := ∃ q c, q < 8 ∧ c ≤ 8 ∧ μ h 1 = nI q ∧ μ h 2 = nI c ∧ ν md 5 = nI c ∧ ∀ j, j < c → ∃ S J, yIJ W S J ∧ yC (h + 1 + 1 + 20 * ((q + 8 - c + j) % 8)) S J μ ∧ yM S J (fun i => ν (md + 2) (199 * j + i))
theorem yH_mono {W W1 h md : Nat} {μ ν : xM} (hH : yH W h md μ ν) (hW : W ≤ W1) : yH W1 h md μ ν := by
  obtain ⟨q, c, h1, h2, h3, h4, h5, h6⟩ := hH
  refine ⟨q, c, h1, h2, h3, h4, h5, fun j hj => ?_⟩
  obtain ⟨S, J, k1, k2, k3⟩ := h6 j hj
  exact ⟨S, J, yIJ_mono k1 hW, k2, k3⟩
theorem yH_congr {W h md : Nat} {μ ν μ1 ν1 : xM} (hH : yH W h md μ ν) (e : ∀ a, h ≤ a → a < h + 162 → μ1 a = μ a) (e5 : ν1 md 5 = ν md 5) (e2 : ν1 (md + 2) = ν (md + 2)) : yH W h md μ1 ν1 := by
  obtain ⟨q, c, h1, h2, h3, h4, h5, h6⟩ := hH
  refine ⟨q, c, h1, h2, by rw [e h (by omega) (by omega)]; exact h3, by rw [e h (by omega) (by omega)]; exact h4, by rw [e5]; exact h5, fun j hj => ?_⟩
  obtain ⟨S, J, k1, k2, k3⟩ := h6 j hj
  refine ⟨S, J, k1, yC_congr k2 (fun a g1 g2 => e a (by omega) ?_) k1.1.1.1, by rw [e2]; exact k3⟩
  have := Nat.mod_lt (q + 8 - c + j) (show 0 < 8 by decide)
  omega
theorem yM_ext {S : Nat → Nat → Nat} {J : Nat → Int32} {g g1 : Nat → Int32} (h : yM S J g) (e : ∀ i, i < 199 → g1 i = g i) (hn : S 16 0 ≤ 16) : yM S J g1 := by
  obtain ⟨h0, hr, hj⟩ := h
  refine ⟨by rw [e 0 (by decide), e 1 (by decide), e 2 (by decide), e 3 (by decide), e 4 (by decide), e 5 (by decide), e 6 (by decide), e 7 (by decide), e 8 (by decide), e 9 (by decide), e 10 (by decide)]; exact h0, fun t ht => ?_, fun j hj6 => by rw [e _ (by omega), e _ (by omega)]; exact hj j hj6⟩
  have q := hr t ht
  have e' : ∀ k, k < 11 → g1 (11 + 11 * t + k) = g (11 + 11 * t + k) := fun k hk => e _ (by omega)
  unfold yQ at q ⊢
  simp only [e' 0 (by decide), e' 1 (by decide), e' 2 (by decide), e' 3 (by decide), e' 4 (by decide), e' 5 (by decide), e' 6 (by decide), e' 7 (by decide), e' 8 (by decide), e' 9 (by decide), e' 10 (by decide)]
  exact q
/-- both keep the state -/
theorem yH_keep {W h md b w : Nat} {S : Nat → Nat → Nat} {J : Nat → Int32} {μ ν : xM} (hb : b + 20 ≤ h) (hw : w ≠ md + 2) (hw0 : w ≠ md) (hH : yH W h md μ ν) (hI : yIJ W S J) (hC : yC b S J μ) : ∃ μ1, fX2_keep h b μ = some μ1 ∧ (∀ a, (a < h ∨ h + 162 ≤ a) → μ1 a = μ a) ∧ ∀ ν0, ν0 md 5 = ν md 5 → ν0 (md + 2) = ν (md + 2) → ν0 md 6 = 0 → yM S J (ν0 w) → ∃ ν1, fX8_keeps md w ν0 = some ν1 ∧ ν1 md 7 = 0 ∧ (∀ k, k ≠ 5 → k ≠ 7 → ν1 md k = ν0 md k) ∧ (∀ a, a ≠ md → a ≠ md + 2 → ν1 a = ν0 a) ∧ yH W h md μ1 ν1 := by
  obtain ⟨q, c, h1, h2, h3, h4, h5, h6⟩ := hH
  have hn := hI.1.1.1
  obtain ⟨m, k1, k2, k3, k4, k5⟩ := y_keepC hb h3 h4 h1 h2 hC hn
  refine ⟨m, k1, fun a ha => k5 a (by omega) (by omega), fun ν0 g5 g2 g6 hM => ?_⟩
  obtain ⟨n, l1, l2, l3, l4, l5, l6, l7⟩ := y_keepM (md := md) (c := c) (ν := ν0) hw hw0 (by rw [g5]; exact h5) h2 g6
  refine ⟨n, l1, l3, l4, l5, (q + 1) % 8, min (c + 1) 8, Nat.mod_lt _ (by decide), by omega, k2, k3, l2, fun j hj => ?_⟩
  by_cases c8 : c = 8
  · obtain ⟨a1, a2⟩ := l7 c8
    by_cases cj : j = 7
    · subst cj
      refine ⟨S, J, hI, ?_, ?_⟩
      · rw [show ((q + 1) % 8 + 8 - min (c + 1) 8 + 7) % 8 = q by omega]; exact k4
      · have e : ∀ i, i < 199 → (fun i => n (md + 2) (199 * 7 + i)) i = ν0 w i := fun i hi => a2 i hi
        exact yM_ext hM e hn
    · obtain ⟨S', J', u1, u2, u3⟩ := h6 (j + 1) (by omega)
      refine ⟨S', J', u1, ?_, ?_⟩
      · rw [show ((q + 1) % 8 + 8 - min (c + 1) 8 + j) % 8 = (q + 8 - c + (j + 1)) % 8 by omega]
        refine yC_congr u2 (fun a g1 g2' => k5 a (by omega) ?_) u1.1.1.1
        omega
      · have e : ∀ i, i < 199 → (fun i => n (md + 2) (199 * j + i)) i = (fun i => ν (md + 2) (199 * (j + 1) + i)) i := fun i hi => by show n (md + 2) (199 * j + i) = ν (md + 2) (199 * (j + 1) + i); rw [a1 _ (by omega), g2, show 199 * j + i + 199 = 199 * (j + 1) + i by omega]
        exact yM_ext u3 e u1.1.1.1
  · obtain ⟨a1, a2⟩ := l6 (by omega)
    by_cases cj : j = c
    · subst cj
      refine ⟨S, J, hI, ?_, ?_⟩
      · rw [show ((q + 1) % 8 + 8 - min (j + 1) 8 + j) % 8 = q by omega]; exact k4
      · have e : ∀ i, i < 199 → (fun i => n (md + 2) (199 * j + i)) i = ν0 w i := fun i hi => a2 i hi
        exact yM_ext hM e hn
    · obtain ⟨S', J', u1, u2, u3⟩ := h6 j (by omega)
      refine ⟨S', J', u1, ?_, ?_⟩
      · rw [show ((q + 1) % 8 + 8 - min (c + 1) 8 + j) % 8 = (q + 8 - c + j) % 8 by omega]
        refine yC_congr u2 (fun a g1 g2' => k5 a (by omega) ?_) u1.1.1.1
        omega
      · have e : ∀ i, i < 199 → (fun i => n (md + 2) (199 * j + i)) i = (fun i => ν (md + 2) (199 * j + i)) i := fun i hi => by show n (md + 2) (199 * j + i) = ν (md + 2) (199 * j + i); rw [a1 _ (by omega), g2]
        exact yM_ext u3 e u1.1.1.1
