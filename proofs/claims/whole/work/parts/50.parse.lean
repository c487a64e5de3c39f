/-! THE PURE PART: the parser -/
def ydig (s : Nat → Nat) (L p : Nat) : Prop := p < L ∧ 48 ≤ s p ∧ s p ≤ 57
theorem ydig_dec (s : Nat → Nat) (L p : Nat) : ydig s L p ∨ ¬ ydig s L p := Classical.em _
/-- at most k further digits from p on, v what was read so far -/
noncomputable def ynum (s : Nat → Nat) (L : Nat) : Nat → Nat → Nat → Nat × Nat
  | 0, v, p => (v, p)
  | k + 1, v, p => @ite _ (ydig s L p) (Classical.propDecidable _) (ynum s L k (v * 10 + (s p - 48)) (p + 1)) (v, p)
theorem ynum_t {s : Nat → Nat} {L k v p : Nat} (h : ydig s L p) : ynum s L (k + 1) v p = ynum s L k (v * 10 + (s p - 48)) (p + 1) := by rw [ynum, if_pos h]
theorem ynum_f {s : Nat → Nat} {L k v p : Nat} (h : ¬ ydig s L p) : ynum s L (k + 1) v p = (v, p) := by rw [ynum, if_neg h]
theorem y_p10 : ∀ n : Nat, 0 < 10 ^ n := by
  intro n
  induction n with
  | zero => decide
  | succ n ih => rw [Nat.pow_succ]; omega
theorem ynum_b {s : Nat → Nat} {L : Nat} : ∀ k v p, p ≤ L → p ≤ (ynum s L k v p).2 ∧ (ynum s L k v p).2 ≤ L ∧ (ynum s L k v p).1 < (v + 1) * 10 ^ k := by
  intro k
  induction k with
  | zero => intro v p hp; exact ⟨Nat.le_refl p, hp, by show v < (v + 1) * 1; omega⟩
  | succ k ih =>
    intro v p hp
    rcases ydig_dec s L p with h | h
    · rw [ynum_t h]
      obtain ⟨i1, i2, i3⟩ := ih (v * 10 + (s p - 48)) (p + 1) h.1
      refine ⟨by omega, i2, Nat.lt_of_lt_of_le i3 ?_⟩
      have h2 := h.2
      have h3 : v * 10 + (s p - 48) + 1 ≤ (v + 1) * 10 := by omega
      calc (v * 10 + (s p - 48) + 1) * 10 ^ k ≤ (v + 1) * 10 * 10 ^ k := Nat.mul_le_mul_right _ h3
        _ = (v + 1) * 10 ^ (k + 1) := by rw [Nat.pow_succ, Nat.mul_assoc, Nat.mul_comm 10]
    · rw [ynum_f h]
      refine ⟨Nat.le_refl p, hp, ?_⟩
      have : 1 ≤ 10 ^ (k + 1) := y_p10 (k + 1)
      calc v < v + 1 := Nat.lt_succ_self v
        _ = (v + 1) * 1 := (Nat.mul_one _).symm
        _ ≤ (v + 1) * 10 ^ (k + 1) := Nat.mul_le_mul_left _ this
/-- the class reads at p -/
def yCi (h : Nat) (s : Nat → Nat) (L p : Nat) (μ : xM) : Prop := L ≤ 60 ∧ p ≤ L ∧ μ h 2 = nI L ∧ μ h 4 = nI p ∧ ∀ j, j < L → s j < 65536 ∧ μ (h + 1) j = nI (s j)
/-- the model reads at p -/
def yMi (md : Nat) (s : Nat → Nat) (L p : Nat) (ν : xM) : Prop := L ≤ 60 ∧ p ≤ L ∧ ν md 13 = nI L ∧ ν md 17 = nI p ∧ ∀ j, j < L → s j < 65536 ∧ ν (md + 5) j = nI (s j)
theorem yCi_to {h : Nat} {s : Nat → Nat} {L p q : Nat} {μ μ1 : xM} (hi : yCi h s L p μ) (hq : q ≤ L) (e2 : μ1 h 2 = μ h 2) (e4 : μ1 h 4 = nI q) (e1 : μ1 (h + 1) = μ (h + 1)) : yCi h s L q μ1 := ⟨hi.1, hq, by rw [e2]; exact hi.2.2.1, e4, fun j hj => by rw [e1]; exact hi.2.2.2.2 j hj⟩
theorem yMi_to {md : Nat} {s : Nat → Nat} {L p q : Nat} {ν ν1 : xM} (hi : yMi md s L p ν) (hq : q ≤ L) (e2 : ν1 md 13 = ν md 13) (e4 : ν1 md 17 = nI q) (e1 : ν1 (md + 5) = ν (md + 5)) : yMi md s L q ν1 := ⟨hi.1, hq, by rw [e2]; exact hi.2.2.1, e4, fun j hj => by rw [e1]; exact hi.2.2.2.2 j hj⟩
theorem y_isDigit {c : Nat} (hc : c < 65536) (μ : xM) : fX3_isDigit (nI c) μ = some (if 48 ≤ c ∧ c ≤ 57 then 1 else 0, μ) := by
  rw [fX3_isDigit, show (48 : Int32) = nI 48 from rfl, show (57 : Int32) = nI 57 from rfl, y_ilt (by omega) (by decide), y_ilt (by decide) (by omega)]
  by_cases c1 : c < 48
  · rw [if_pos c1, if_neg (show ¬ (48 ≤ c ∧ c ≤ 57) by omega)]
  · rw [if_neg c1]
    by_cases c2 : 57 < c
    · rw [if_pos c2, if_neg (show ¬ (48 ≤ c ∧ c ≤ 57) by omega)]
    · rw [if_neg c2, if_pos (show 48 ≤ c ∧ c ≤ 57 by omega)]
theorem y_rS {h c : Nat} {s : Nat → Nat} {L p : Nat} {μ : xM} (hi : yCi h s L p μ) (hc : c < 65536) : (p < L ∧ s p = c → fX3_readSign h (nI c) μ = some (1, xw μ h 4 (nI (p + 1)))) ∧ (¬ (p < L ∧ s p = c) → fX3_readSign h (nI c) μ = some (0, μ)) := by
  obtain ⟨hL, hp, e2, e4, es⟩ := hi
  refine ⟨fun q => ?_, fun q => ?_⟩
  · rw [fX3_readSign, e2, e4, y_ile (by omega) (by omega), if_neg (show ¬ L ≤ p by omega), y_xk (vp_in_nI (by omega) (by decide)), nI_clamp (by omega), (es p q.1).2, if_pos (show nI (s p) = nI c by rw [q.2]), nI_1]
  · rw [fX3_readSign, e2, e4, y_ile (by omega) (by omega)]
    by_cases c1 : L ≤ p
    · rw [if_pos c1]
    · have hs := es p (by omega)
      rw [if_neg c1, y_xk (vp_in_nI (by omega) (by decide)), nI_clamp (by omega), hs.2, if_neg (fun z => q ⟨by omega, (nI_eq (by omega) (by omega)).mp z⟩)]
theorem y_rN {h k : Nat} {s : Nat → Nat} (hk : k ≤ 9) : ∀ u L n p f v (μ : xM), yCi h s L p μ → 1 ≤ n → n + u = k → u < f → v < 10 ^ n → ∃ μ1, lX3_readNumber_4 h (nI k) f (nI v) (nI n) μ = some (nI (ynum s L u v p).1, μ1) ∧ yCi h s L (ynum s L u v p).2 μ1 ∧ (∀ a, a ≠ h → μ1 a = μ a) ∧ ∀ j, j ≠ 4 → μ1 h j = μ h j := by
  intro u
  induction u with
  | zero =>
    intro L n p f v μ hi hn hu hf hv
    obtain ⟨f, rfl⟩ : ∃ f', f = f' + 1 := ⟨f - 1, by omega⟩
    refine ⟨μ, ?_, hi, fun a _ => rfl, fun j _ => rfl⟩
    rw [lX3_readNumber_4, if_pos ((nI_leI (by omega) (by omega)).mpr (by omega))]
    rfl
  | succ u ih =>
    intro L n p f v μ hi hn hu hf hv
    obtain ⟨f, rfl⟩ : ∃ f', f = f' + 1 := ⟨f - 1, by omega⟩
    have hi' := hi
    obtain ⟨hL, hp, e2, e4, es⟩ := hi
    rw [lX3_readNumber_4, if_neg (fun q => by have := (nI_leI (by omega) (by omega)).mp q; omega), e2, e4, y_ile (by omega) (by omega)]
    by_cases c1 : L ≤ p
    · have nd : ¬ ydig s L p := fun q => by have := q.1; omega
      rw [if_pos c1, ynum_f nd]
      exact ⟨μ, rfl, hi', fun a _ => rfl, fun j _ => rfl⟩
    · have hs := es p (by omega)
      have nz : ¬ nI n = 0 := nI_ne0 hn (by omega)
      rw [if_neg c1, y_xk (vp_in_nI (by omega) (by decide)), nI_clamp (by omega), hs.2, y_isDigit hs.1, y_xb]
      by_cases c2 : 48 ≤ s p ∧ s p ≤ 57
      · have dg : ydig s L p := ⟨by omega, c2⟩
        have hv9 : 10 ^ n ≤ 10 ^ 8 := Nat.pow_le_pow_right (by decide) (by omega)
        have hv8 : (10 : Nat) ^ 8 = 100000000 := by decide
        have ev : nI v * 10 + (nI (s p) - 48) = nI (v * 10 + (s p - 48)) := by rw [show (48 : Int32) = nI 48 from rfl, pk_sub c2.1, show (10 : Int32) = nI 10 from rfl, pk_mul, nI_add]
        rw [if_pos c2, if_neg y_n10, if_neg nz, e4, y_xk (vp_in_nI (by omega) (by decide)), nI_clamp (by omega), hs.2, ev, nI_1, nI_1]
        have hi2 : yCi h s L (p + 1) (xw μ h 4 (nI (p + 1))) := yCi_to hi' (by omega) (y_wk (by decide)) (xw_same _ _ _ _) (xw_row (by omega))
        obtain ⟨m, k1, k2, k3, k4⟩ := ih L (n + 1) (p + 1) f (v * 10 + (s p - 48)) _ hi2 (by omega) (by omega) (by omega) (by rw [Nat.pow_succ]; omega)
        rw [ynum_t dg]
        exact ⟨m, k1, k2, fun a ha => by rw [k3 a ha, xw_row ha], fun j hj => by rw [k4 j hj, y_wk hj]⟩
      · have nd : ¬ ydig s L p := fun q => c2 q.2
        rw [if_neg c2, if_pos rfl, ynum_f nd]
        exact ⟨μ, rfl, hi', fun a _ => rfl, fun j _ => rfl⟩
/-- a number of the class -/
theorem y_rNum {h k : Nat} {s : Nat → Nat} {L p : Nat} {μ : xM} (hi : yCi h s L p μ) (hk : k ≤ 8) : (ydig s L p → ∃ μ1, fX3_readNumber h (nI (k + 1)) μ = some (nI (ynum s L (k + 1) 0 p).1, μ1) ∧ yCi h s L (ynum s L (k + 1) 0 p).2 μ1 ∧ (∀ a, a ≠ h → μ1 a = μ a) ∧ ∀ j, j ≠ 4 → μ1 h j = μ h j) ∧ (¬ ydig s L p → fX3_readNumber h (nI (k + 1)) μ = some (-1, μ)) := by
  have hi' := hi
  obtain ⟨hL, hp, e2, e4, es⟩ := hi
  have hF : 20 < xfu := by unfold xfu; omega
  refine ⟨fun dg => ?_, fun nd => ?_⟩
  · have hs := es p dg.1
    have dg2 := dg.2
    unfold fX3_readNumber
    generalize xfu = F at hF ⊢
    obtain ⟨f, rfl⟩ : ∃ f', F = f' + 1 := ⟨F - 1, by omega⟩
    have ev : (0 : Int32) + (nI (s p) - 48) = nI (0 * 10 + (s p - 48)) := by rw [show (48 : Int32) = nI 48 from rfl, pk_sub dg2.1, Int32.zero_add, Nat.zero_mul, Nat.zero_add]
    have hi2 : yCi h s L (p + 1) (xw μ h 4 (nI (p + 1))) := yCi_to hi' dg.1 (y_wk (by decide)) (xw_same _ _ _ _) (xw_row (by omega))
    obtain ⟨m, k1, k2, k3, k4⟩ := y_rN (k := k + 1) (by omega) k L 1 (p + 1) f (0 * 10 + (s p - 48)) _ hi2 (by omega) (by omega) (by omega) (by show 0 * 10 + (s p - 48) < 10; omega)
    rw [ynum_t dg]
    refine ⟨m, ?_, k2, fun a ha => by rw [k3 a ha, xw_row ha], fun j hj => by rw [k4 j hj, y_wk hj]⟩
    rw [lX3_readNumber_4, if_neg (fun q => by have := (nI_leI (a := k + 1) (b := 0) (by omega) (by decide)).mp q; omega), e2, e4, y_ile (by omega) (by omega), if_neg (by have := dg.1; omega), y_xk (vp_in_nI (by have := dg.1; omega) (by decide)), nI_clamp (by omega), hs.2, y_isDigit hs.1, y_xb, if_pos dg2, if_neg y_n10, if_pos rfl, e4, y_xk (vp_in_nI (by have := dg.1; omega) (by decide)), nI_clamp (by omega), hs.2, ev, nI_1]
    exact k1
  · unfold fX3_readNumber
    generalize xfu = F at hF ⊢
    obtain ⟨f, rfl⟩ : ∃ f', F = f' + 1 := ⟨F - 1, by omega⟩
    rw [lX3_readNumber_4, if_neg (fun q => by have := (nI_leI (a := k + 1) (b := 0) (by omega) (by decide)).mp q; omega), e2, e4, y_ile (by omega) (by omega)]
    by_cases c1 : L ≤ p
    · rw [if_pos c1]
    · have hs := es p (by omega)
      rw [if_neg c1, y_xk (vp_in_nI (by omega) (by decide)), nI_clamp (by omega), hs.2, y_isDigit hs.1, y_xb, if_neg (show ¬ (48 ≤ s p ∧ s p ≤ 57) from fun q => nd ⟨by omega, q⟩), if_pos rfl]
/-- the model's sign and number -/
theorem y_here {md : Nat} {s : Nat → Nat} {L p : Nat} {ν : xM} (hi : yMi md s L p ν) : (p < L → fX8_here md ν = some (nI (s p), ν)) ∧ (¬ p < L → fX8_here md ν = some (-1, ν)) := by
  obtain ⟨hL, hp, e2, e4, es⟩ := hi
  refine ⟨fun q => ?_, fun q => ?_⟩
  · rw [fX8_here, e2, e4, y_ile (by omega) (by omega), if_neg (by omega), y_xk (vp_in_nI (by omega) (by decide)), nI_clamp (by omega), (es p q).2]
  · rw [fX8_here, e2, e4, y_ile (by omega) (by omega), if_pos (by omega)]
theorem y_sk {md c : Nat} {s : Nat → Nat} {L p : Nat} {ν : xM} (hi : yMi md s L p ν) (hc : c < 65536) : (p < L ∧ s p = c → fX8_skips md (nI c) ν = some (1, xw ν md 17 (nI (p + 1)))) ∧ (¬ (p < L ∧ s p = c) → fX8_skips md (nI c) ν = some (0, ν)) := by
  obtain ⟨w1, w2⟩ := y_here hi
  obtain ⟨hL, hp, e2, e4, es⟩ := hi
  refine ⟨fun q => ?_, fun q => ?_⟩
  · rw [fX8_skips, w1 q.1, y_xb, if_pos (show nI (s p) = nI c by rw [q.2]), e4, nI_1]
  · rw [fX8_skips]
    by_cases c1 : p < L
    · rw [w1 c1, y_xb, if_neg (fun z => q ⟨c1, (nI_eq (by have := (es p c1).1; omega) (by omega)).mp z⟩)]
    · rw [w2 c1, y_xb, if_neg (fun z => y_nm1 (v := c) (by omega) z.symm)]
theorem y_hin {md : Nat} {s : Nat → Nat} {L p : Nat} {ν : xM} (hi : yMi md s L p ν) : ∃ r, fX8_here md ν = some (r, ν) ∧ (ydig s L p → r = nI (s p) ∧ (48 : Int32) ≤ r ∧ r ≤ 57) ∧ (¬ ydig s L p → ¬ ((48 : Int32) ≤ r ∧ r ≤ 57)) := by
  obtain ⟨w1, w2⟩ := y_here hi
  obtain ⟨hL, hp, e2, e4, es⟩ := hi
  by_cases c1 : p < L
  · have hs := (es p c1).1
    refine ⟨nI (s p), w1 c1, fun q => ⟨rfl, (nI_leI (a := 48) (by decide) (by omega)).mpr q.2.1, (nI_leI (b := 57) (by omega) (by decide)).mpr q.2.2⟩, fun q z => q ⟨c1, (nI_leI (a := 48) (by decide) (by omega)).mp z.1, (nI_leI (b := 57) (by omega) (by decide)).mp z.2⟩⟩
  · exact ⟨-1, w2 c1, fun q => absurd q.1 c1, fun _ z => absurd z.1 (by decide)⟩
theorem y_fg {md q k : Nat} {s : Nat → Nat} (hq : q < 124) (hk : k ≤ 8) : ∀ u L n p f v (ν : xM), yMi md s L p ν → n + u = k → u < f → v < 10 ^ n → ν (md + 7) q = nI v → ∃ ν1, lX8_figures_25 md (nI q) (nI k) f (nI n) ν = some (1, ν1) ∧ yMi md s L (ynum s L u v p).2 ν1 ∧ ν1 (md + 7) q = nI (ynum s L u v p).1 ∧ (∀ a, a ≠ md → a ≠ md + 7 → ν1 a = ν a) ∧ (∀ j, j ≠ 17 → ν1 md j = ν md j) ∧ ∀ j, j ≠ q → ν1 (md + 7) j = ν (md + 7) j := by
  intro u
  induction u with
  | zero =>
    intro L n p f v ν hi hu hf hv ht
    obtain ⟨f, rfl⟩ : ∃ f', f = f' + 1 := ⟨f - 1, by omega⟩
    exact ⟨ν, by rw [lX8_figures_25, if_pos ((nI_leI (by omega) (by omega)).mpr (by omega))], hi, ht, fun a _ _ => rfl, fun j _ => rfl, fun j _ => rfl⟩
  | succ u ih =>
    intro L n p f v ν hi hu hf hv ht
    obtain ⟨f, rfl⟩ : ∃ f', f = f' + 1 := ⟨f - 1, by omega⟩
    obtain ⟨r, w1, w2, w3⟩ := y_hin hi
    rw [lX8_figures_25, if_neg (fun q => by have := (nI_leI (by omega) (by omega)).mp q; omega), w1, y_xb, y_in, y_xb]
    rcases ydig_dec s L p with dg | nd
    · obtain ⟨rfl, w4⟩ := w2 dg
      have dg2 := dg.2
      have hv9 : 10 ^ n ≤ 10 ^ 8 := Nat.pow_le_pow_right (by decide) (by omega)
      have hv8 : (10 : Nat) ^ 8 = 100000000 := by decide
      have ev : (10 : Int32) * nI v + nI (s p) - 48 = nI (v * 10 + (s p - 48)) := by rw [show (10 : Int32) = nI 10 from rfl, pk_mul, nI_add, show (48 : Int32) = nI 48 from rfl, pk_sub (by omega), show 10 * v + s p - 48 = v * 10 + (s p - 48) by omega]
      rw [if_pos w4, if_neg y_n10, y_xk (vp_in_nI hq (by decide)), w1, y_xb, y_xk (vp_in_nI hq (by decide)), nI_clamp (by omega), ht, ev, y_wn (show md ≠ md + 7 by omega), hi.2.2.2.1, nI_1, nI_1]
      have hi2 : yMi md s L (p + 1) (xw (xw ν (md + 7) q (nI (v * 10 + (s p - 48)))) md 17 (nI (p + 1))) := yMi_to hi dg.1 (by rw [y_wk (by decide), y_wn (by omega)]) (xw_same _ _ _ _) (by rw [xw_row (by omega), xw_row (by omega)])
      obtain ⟨m, k1, k2, k3, k4, k5, k6⟩ := ih L (n + 1) (p + 1) f (v * 10 + (s p - 48)) _ hi2 (by omega) (by omega) (by rw [Nat.pow_succ]; omega) (by rw [y_wn (by omega), xw_same])
      rw [ynum_t dg]
      exact ⟨m, k1, k2, k3, fun a a1 a2 => by rw [k4 a a1 a2, xw_row a1, xw_row a2], fun j hj => by rw [k5 j hj, y_wk hj, y_wn (by omega)], fun j hj => by rw [k6 j hj, y_wn (by omega), y_wk hj]⟩
    · rw [if_neg (w3 nd), if_pos rfl, ynum_f nd]
      exact ⟨ν, rfl, hi, ht, fun a _ _ => rfl, fun j _ => rfl, fun j _ => rfl⟩
theorem y_fig {md q k : Nat} {s : Nat → Nat} {L p : Nat} {ν : xM} (hi : yMi md s L p ν) (hq : q < 124) (hk : k ≤ 8) : (ydig s L p → ∃ ν1, fX8_figures md (nI q) (nI k) ν = some (1, ν1) ∧ yMi md s L (ynum s L k 0 p).2 ν1 ∧ ν1 (md + 7) q = nI (ynum s L k 0 p).1 ∧ (∀ a, a ≠ md → a ≠ md + 7 → ν1 a = ν a) ∧ (∀ j, j ≠ 17 → ν1 md j = ν md j) ∧ ∀ j, j ≠ q → ν1 (md + 7) j = ν (md + 7) j) ∧ (¬ ydig s L p → fX8_figures md (nI q) (nI k) ν = some (0, ν)) := by
  obtain ⟨r, w1, w2, w3⟩ := y_hin hi
  refine ⟨fun dg => ?_, fun nd => ?_⟩
  · obtain ⟨rfl, w4⟩ := w2 dg
    have hi2 : yMi md s L p (xw ν (md + 7) q 0) := yMi_to hi hi.2.1 (by rw [y_wn (by omega)]) (by rw [y_wn (by omega)]; exact hi.2.2.2.1) (xw_row (by omega))
    obtain ⟨m, k1, k2, k3, k4, k5, k6⟩ := y_fg hq hk k L 0 p xfu 0 _ hi2 (by omega) (by unfold xfu; omega) (by decide) (by rw [xw_same]; rfl)
    refine ⟨m, ?_, k2, k3, fun a a1 a2 => by rw [k4 a a1 a2, xw_row a2], fun j hj => by rw [k5 j hj, y_wn (by omega)], fun j hj => by rw [k6 j hj, y_wk hj]⟩
    rw [fX8_figures, w1, y_xb, y_in, y_xb, if_pos w4, if_neg y_n10, y_xk (vp_in_nI hq (by decide)), nI_clamp (by omega)]
    exact k1
  · rw [fX8_figures, w1, y_xb, y_in, y_xb, if_neg (w3 nd), if_pos rfl]
