/-! THE PURE PART: what is asked of a bank and of the model's row -/
theorem y_nle {n t : Nat} (ht : t < n) (hn : n ≤ 16) : ¬ nI n ≤ nI t := by rw [nI_leI (by omega) (by omega)]; omega
theorem y_in16 {n t : Nat} (ht : t < n) (hn : n ≤ 16) : vp_in (nI t) 16 := vp_in_nI (by omega) (by decide)
theorem y_cl {n t : Nat} (ht : t < n) (hn : n ≤ 16) : (nI t).toNatClampNeg = t := nI_clamp (by omega)
-- the bank's counts and sums
theorem y_countOf {b : Nat} {S : Nat → Nat → Nat} {J : Nat → Int32} {μ : xM} (h : yC b S J μ) (hn : S 16 0 ≤ 16) (p s : Int32) : fX0_countOf b p s μ = some (ysI (fun t => if nI (S t 5) = s ∧ (p = -1 ∨ nI (S t 0) = p) then 1 else 0) 0 (S 16 0), μ) := by
  refine (y_loop (fun f x t => lX0_countOf_5 b p s f x t μ) (fun x => some (x, μ)) (S 16 0) (fun t => if nI (S t 5) = s ∧ (p = -1 ∨ nI (S t 0) = p) then 1 else 0) (fun f x => ?_) (fun f x t ht => ?_) (S 16 0) 0 xfu 0 (by omega) (by unfold xfu; omega)).trans (by rw [Int32.zero_add])
  · show lX0_countOf_5 b p s (f + 1) x (nI (S 16 0)) μ = some (x, μ)
    rw [lX0_countOf_5, h.1.1, if_pos (Int32.le_refl _)]
  · show lX0_countOf_5 b p s (f + 1) x (nI t) μ = lX0_countOf_5 b p s f (x + _) (nI (t + 1)) μ
    rw [lX0_countOf_5, h.1.1, if_neg (y_nle ht hn), y_xk (y_in16 ht hn), y_xk (y_in16 ht hn), y_cl ht hn, h.2.1 t ht 5 (by decide), h.2.1 t ht 0 (by decide), nI_1]
    by_cases c1 : nI (S t 5) = s <;> by_cases c2 : p = -1 <;> by_cases c3 : nI (S t 0) = p <;> simp [c1, c2, c3]
theorem y_owedBy {b : Nat} {S : Nat → Nat → Nat} {J : Nat → Int32} {μ : xM} (h : yC b S J μ) (hn : S 16 0 ≤ 16) (p : Int32) : fX0_owedBy b p μ = some (ysI (fun t => if nI (S t 5) = 0 ∧ nI (S t 0) = p then nI (S t 3) + nI (S t 4) else 0) 0 (S 16 0), μ) := by
  refine (y_loop (fun f x t => lX0_owedBy_4 b p f x t μ) (fun x => some (x, μ)) (S 16 0) (fun t => if nI (S t 5) = 0 ∧ nI (S t 0) = p then nI (S t 3) + nI (S t 4) else 0) (fun f x => ?_) (fun f x t ht => ?_) (S 16 0) 0 xfu 0 (by omega) (by unfold xfu; omega)).trans (by rw [Int32.zero_add])
  · show lX0_owedBy_4 b p (f + 1) x (nI (S 16 0)) μ = some (x, μ)
    rw [lX0_owedBy_4, h.1.1, if_pos (Int32.le_refl _)]
  · show lX0_owedBy_4 b p (f + 1) x (nI t) μ = lX0_owedBy_4 b p f (x + _) (nI (t + 1)) μ
    rw [lX0_owedBy_4, h.1.1, if_neg (y_nle ht hn), y_xk (y_in16 ht hn), y_xk (y_in16 ht hn), y_xk (y_in16 ht hn), y_cl ht hn, fX5_owed, y_xb, h.2.1 t ht 5 (by decide), h.2.1 t ht 0 (by decide), h.2.1 t ht 3 (by decide), h.2.1 t ht 4 (by decide), nI_1]
    by_cases c1 : nI (S t 5) = 0 <;> by_cases c3 : nI (S t 0) = p <;> simp [c1, c3]
theorem y_sumOfRunningLoans {b : Nat} {S : Nat → Nat → Nat} {J : Nat → Int32} {μ : xM} (h : yC b S J μ) (hn : S 16 0 ≤ 16) : fX0_sumOfRunningLoans b μ = some (ysI (fun t => if nI (S t 5) = 0 then nI (S t 3) else 0) 0 (S 16 0), μ) := by
  refine (y_loop (fun f x t => lX0_sumOfRunningLoans_4 b f x t μ) (fun x => some (x, μ)) (S 16 0) (fun t => if nI (S t 5) = 0 then nI (S t 3) else 0) (fun f x => ?_) (fun f x t ht => ?_) (S 16 0) 0 xfu 0 (by omega) (by unfold xfu; omega)).trans (by rw [Int32.zero_add])
  · show lX0_sumOfRunningLoans_4 b (f + 1) x (nI (S 16 0)) μ = some (x, μ)
    rw [lX0_sumOfRunningLoans_4, h.1.1, if_pos (Int32.le_refl _)]
  · show lX0_sumOfRunningLoans_4 b (f + 1) x (nI t) μ = lX0_sumOfRunningLoans_4 b f (x + _) (nI (t + 1)) μ
    rw [lX0_sumOfRunningLoans_4, h.1.1, if_neg (y_nle ht hn), y_xk (y_in16 ht hn), y_xk (y_in16 ht hn), y_cl ht hn, h.2.1 t ht 5 (by decide), h.2.1 t ht 3 (by decide), nI_1]
    by_cases c1 : nI (S t 5) = 0 <;> simp [c1]
theorem y_sumOfLent {b : Nat} {S : Nat → Nat → Nat} {J : Nat → Int32} {μ : xM} (h : yC b S J μ) (hn : S 16 0 ≤ 16) : fX0_sumOfLent b μ = some (ysI (fun t => nI (S t 2)) 0 (S 16 0), μ) := by
  refine (y_loop (fun f x t => lX0_sumOfLent_4 b f x t μ) (fun x => some (x, μ)) (S 16 0) (fun t => nI (S t 2)) (fun f x => ?_) (fun f x t ht => ?_) (S 16 0) 0 xfu 0 (by omega) (by unfold xfu; omega)).trans (by rw [Int32.zero_add])
  · show lX0_sumOfLent_4 b (f + 1) x (nI (S 16 0)) μ = some (x, μ)
    rw [lX0_sumOfLent_4, h.1.1, if_pos (Int32.le_refl _)]
  · show lX0_sumOfLent_4 b (f + 1) x (nI t) μ = lX0_sumOfLent_4 b f (x + _) (nI (t + 1)) μ
    rw [lX0_sumOfLent_4, h.1.1, if_neg (y_nle ht hn), y_xk (y_in16 ht hn), y_cl ht hn, h.2.1 t ht 2 (by decide), nI_1]
theorem y_sumOfPaid {b : Nat} {S : Nat → Nat → Nat} {J : Nat → Int32} {μ : xM} (h : yC b S J μ) (hn : S 16 0 ≤ 16) : fX0_sumOfPaid b μ = some (ysI (fun t => nI (S t 9)) 0 (S 16 0), μ) := by
  refine (y_loop (fun f x t => lX0_sumOfPaid_4 b f x t μ) (fun x => some (x, μ)) (S 16 0) (fun t => nI (S t 9)) (fun f x => ?_) (fun f x t ht => ?_) (S 16 0) 0 xfu 0 (by omega) (by unfold xfu; omega)).trans (by rw [Int32.zero_add])
  · show lX0_sumOfPaid_4 b (f + 1) x (nI (S 16 0)) μ = some (x, μ)
    rw [lX0_sumOfPaid_4, h.1.1, if_pos (Int32.le_refl _)]
  · show lX0_sumOfPaid_4 b (f + 1) x (nI t) μ = lX0_sumOfPaid_4 b f (x + _) (nI (t + 1)) μ
    rw [lX0_sumOfPaid_4, h.1.1, if_neg (y_nle ht hn), y_xk (y_in16 ht hn), y_cl ht hn, h.2.1 t ht 9 (by decide), nI_1]
theorem y_sumOfPrices {b : Nat} {S : Nat → Nat → Nat} {J : Nat → Int32} {μ : xM} (h : yC b S J μ) (hn : S 16 0 ≤ 16) : fX0_sumOfPrices b μ = some (ysI (fun t => nI (S t 11)) 0 (S 16 0), μ) := by
  refine (y_loop (fun f x t => lX0_sumOfPrices_4 b f x t μ) (fun x => some (x, μ)) (S 16 0) (fun t => nI (S t 11)) (fun f x => ?_) (fun f x t ht => ?_) (S 16 0) 0 xfu 0 (by omega) (by unfold xfu; omega)).trans (by rw [Int32.zero_add])
  · show lX0_sumOfPrices_4 b (f + 1) x (nI (S 16 0)) μ = some (x, μ)
    rw [lX0_sumOfPrices_4, h.1.1, if_pos (Int32.le_refl _)]
  · show lX0_sumOfPrices_4 b (f + 1) x (nI t) μ = lX0_sumOfPrices_4 b f (x + _) (nI (t + 1)) μ
    rw [lX0_sumOfPrices_4, h.1.1, if_neg (y_nle ht hn), y_xk (y_in16 ht hn), y_cl ht hn, h.2.1 t ht 11 (by decide), nI_1]
theorem y_sumOfLosses {b W : Nat} {S : Nat → Nat → Nat} {J : Nat → Int32} {μ : xM} (h : yC b S J μ) (hI : yI W S) : fX0_sumOfLosses b μ = some (ysI (fun t => nI (yloss (S t))) 0 (S 16 0), μ) := by
  have hn := hI.1.1
  refine (y_loop (fun f x t => lX0_sumOfLosses_4 b f x t μ) (fun x => some (x, μ)) (S 16 0) (fun t => nI (yloss (S t))) (fun f x => ?_) (fun f x t ht => ?_) (S 16 0) 0 xfu 0 (by omega) (by unfold xfu; omega)).trans (by rw [Int32.zero_add])
  · show lX0_sumOfLosses_4 b (f + 1) x (nI (S 16 0)) μ = some (x, μ)
    rw [lX0_sumOfLosses_4, h.1.1, if_pos (Int32.le_refl _)]
  · show lX0_sumOfLosses_4 b (f + 1) x (nI t) μ = lX0_sumOfLosses_4 b f (x + _) (nI (t + 1)) μ
    obtain ⟨p0, p1, p3, p4, p5, p6, p7, p8, p10, p11, -⟩ := hI.2.1 t ht
    rw [lX0_sumOfLosses_4, h.1.1, if_neg (y_nle ht hn), y_xk (y_in16 ht hn), y_cl ht hn, fX5_loss, h.2.1 t ht 5 (by decide), h.2.1 t ht 10 (by decide), h.2.1 t ht 11 (by decide), y_i3 (by omega), nI_1]
    unfold yloss
    by_cases c1 : S t 5 = 3
    · rw [if_pos c1, if_pos c1]
      by_cases c2 : S t 10 ≤ S t 11
      · rw [if_pos ((nI_leI (by omega) (by omega)).mpr c2), y_xb, show S t 10 - S t 11 = 0 by omega]
        rfl
      · rw [if_neg (fun q => c2 ((nI_leI (by omega) (by omega)).mp q)), y_xb, pk_sub (by omega)]
    · rw [if_neg c1, if_neg c1, y_xb]
      rfl
theorem y_sumOfClaimed {b : Nat} {S : Nat → Nat → Nat} {J : Nat → Int32} {μ : xM} (h : yC b S J μ) : fX0_sumOfClaimed b μ = some (ysI (fun j => J (7 + j)) 0 6, μ) := by
  refine (y_loop (fun f x t => lX0_sumOfClaimed_4 b f x t μ) (fun x => some (x, μ)) 6 (fun j => J (7 + j)) (fun f x => ?_) (fun f x t ht => ?_) 6 0 xfu 0 (by omega) (by unfold xfu; omega)).trans (by rw [Int32.zero_add])
  · show lX0_sumOfClaimed_4 b (f + 1) x (6 : Int32) μ = some (x, μ)
    rw [lX0_sumOfClaimed_4, if_pos (Int32.le_refl _)]
  · show lX0_sumOfClaimed_4 b (f + 1) x (nI t) μ = lX0_sumOfClaimed_4 b f (x + _) (nI (t + 1)) μ
    rw [lX0_sumOfClaimed_4, if_neg (show ¬ (6 : Int32) ≤ nI t from y_nle ht (by decide)), y_xk (vp_in_nI ht (by decide)), nI_clamp (by omega), (h.2.2 t ht).2, nI_1]
theorem y_sumOfLeft {b : Nat} {S : Nat → Nat → Nat} {J : Nat → Int32} {μ : xM} (h : yC b S J μ) : fX0_sumOfLeft b μ = some (ysI (fun j => J (1 + j)) 0 6, μ) := by
  refine (y_loop (fun f x t => lX0_sumOfLeft_4 b f x t μ) (fun x => some (x, μ)) 6 (fun j => J (1 + j)) (fun f x => ?_) (fun f x t ht => ?_) 6 0 xfu 0 (by omega) (by unfold xfu; omega)).trans (by rw [Int32.zero_add])
  · show lX0_sumOfLeft_4 b (f + 1) x (6 : Int32) μ = some (x, μ)
    rw [lX0_sumOfLeft_4, if_pos (Int32.le_refl _)]
  · show lX0_sumOfLeft_4 b (f + 1) x (nI t) μ = lX0_sumOfLeft_4 b f (x + _) (nI (t + 1)) μ
    rw [lX0_sumOfLeft_4, if_neg (show ¬ (6 : Int32) ≤ nI t from y_nle ht (by decide)), y_xk (vp_in_nI ht (by decide)), nI_clamp (by omega), (h.2.2 t ht).1, nI_1]
def ycash (S : Nat → Nat → Nat) (J : Nat → Int32) : Int32 := (((2000 - ysI (fun t => nI (S t 2)) 0 (S 16 0)) + ysI (fun t => nI (S t 9)) 0 (S 16 0)) + ysI (fun t => nI (S t 11)) 0 (S 16 0)) - ysI (fun j => J (7 + j)) 0 6
theorem y_cashFromAccounts {b : Nat} {S : Nat → Nat → Nat} {J : Nat → Int32} {μ : xM} (h : yC b S J μ) (hn : S 16 0 ≤ 16) : fX0_cashFromAccounts b μ = some (ycash S J, μ) := by
  rw [fX0_cashFromAccounts, y_sumOfLent h hn, y_xb, y_sumOfPaid h hn, y_xb, y_sumOfPrices h hn, y_xb, y_sumOfClaimed h, y_xb]
  rfl
-- a pledge's own words
def ywk (c : Nat → Nat) : Nat := (c 3 * c 7 + 999) / 1000
theorem ywk_le {w L : Nat} {c : Nat → Nat} (h : yP w L c) : ywk c ≤ 36 := by
  obtain ⟨p0, p1, p3, p4, p5, p6, p7, -⟩ := h
  have := Nat.mul_le_mul p3 p7
  unfold ywk
  omega
theorem y_wkN {w L : Nat} {c : Nat → Nat} (h : yP w L c) : (nI (c 3) * nI (c 7) + 999) / 1000 = nI (ywk c) := by
  obtain ⟨p0, p1, p3, p4, p5, p6, p7, -⟩ := h
  have := Nat.mul_le_mul p3 p7
  rw [pk_mul, show (999 : Int32) = nI 999 from rfl, nI_add, show (1000 : Int32) = nI 1000 from rfl, pk_div (by omega) (by decide) (by decide)]
  rfl
theorem y_weekly {a w L : Nat} {c : Nat → Nat} {μ : xM} (h : yP w L c) (e : ∀ k, k < 12 → μ a k = nI (c k)) : fX5_weeklyInterest a μ = some (nI (ywk c), μ) := by
  rw [fX5_weeklyInterest, e 3 (by decide), e 7 (by decide), y_wkN h]
theorem y_owed {a : Nat} {c : Nat → Nat} {μ : xM} (e : ∀ k, k < 12 → μ a k = nI (c k)) : fX5_owed a μ = some (nI (c 3 + c 4), μ) := by
  rw [fX5_owed, e 3 (by decide), e 4 (by decide), nI_add]
theorem y_isRun {a v c5 c6 : Nat} {μ : xM} (h5 : c5 < 2147483648) (h6 : c6 < 1000000000) (hv : v < 1000000000) (e5 : μ a 5 = nI c5) (e6 : μ a 6 = nI c6) : fX5_isRunningIn a (nI v) μ = some (if c5 = 0 ∧ v < c6 + 9 then 1 else 0, μ) := by
  rw [fX5_isRunningIn, e5, e6, y_i0 h5, show (9 : Int32) = nI 9 from rfl, nI_add, y_ile (by omega) (by omega)]
  by_cases c1 : c5 = 0
  · rw [if_pos c1]
    by_cases c2 : c6 + 9 ≤ v
    · rw [if_pos c2, if_neg (by omega)]
    · rw [if_neg c2, if_pos (by omega)]
  · rw [if_neg c1, if_neg (by omega)]
theorem y_isRunningIn {a w L v : Nat} {c : Nat → Nat} {μ : xM} (h : yP w L c) (hw : w < 1000000000) (hv : v < 1000000000) (e : ∀ k, k < 12 → μ a k = nI (c k)) : fX5_isRunningIn a (nI v) μ = some (if c 5 = 0 ∧ v < c 6 + 9 then 1 else 0, μ) := by
  obtain ⟨p0, p1, p3, p4, p5, p6, p7, -⟩ := h
  exact y_isRun (by omega) (by omega) hv (e 5 (by decide)) (e 6 (by decide))
theorem y_costBehind {a w L k : Nat} {c : Nat → Nat} {μ : xM} (h : yP w L c) (e : ∀ k, k < 12 → μ a k = nI (c k)) : fX5_costBehind a (nI k) μ = some (nI (c 3 + c 4 + ywk c * k), μ) := by
  rw [fX5_costBehind, y_owed e, y_xb, y_weekly h e, y_xb, pk_mul, nI_add]
theorem y_cwbw {a w L : Nat} {c : Nat → Nat} {μ : xM} (h : yP w L c) (hw : w < 1000000000) (e : ∀ k, k < 12 → μ a k = nI (c k)) (h5 : c 5 = 0) {k : Nat} (hk : k ≤ 20) : ∀ u j f x, j + u = k + 1 → 1 ≤ j → u < f → lX5_costWeekByWeek_17 a (nI w) (nI k) f (nI x) (nI j) μ = some (if u = 0 ∨ w + k < c 6 + 9 then nI (x + ywk c * u) else -1, μ) := by
  have p := h
  obtain ⟨p0, p1, p3, p4, p5, p6, p7, -⟩ := p
  intro u
  induction u with
  | zero =>
    intro j f x hj h1 hf
    obtain ⟨f, rfl⟩ : ∃ f', f = f' + 1 := ⟨f - 1, by omega⟩
    rw [lX5_costWeekByWeek_17, if_pos ((nI_ltI (by omega) (by omega)).mpr (by omega)), if_pos (Or.inl rfl)]
    rfl
  | succ u ih =>
    intro j f x hj h1 hf
    obtain ⟨f, rfl⟩ : ∃ f', f = f' + 1 := ⟨f - 1, by omega⟩
    rw [lX5_costWeekByWeek_17, if_neg (fun q => by have := (nI_ltI (by omega) (by omega)).mp q; omega), y_weekly h e, y_xb, e 6 (by decide), nI_add, pk_sub (by omega), show (9 : Int32) = nI 9 from rfl, y_ilt (by omega) (by decide), nI_add, nI_1]
    by_cases c1 : w + j - c 6 < 9
    · rw [if_pos c1, ih (j + 1) f _ (by omega) (by omega) (by omega)]
      by_cases c2 : u = 0
      · rw [if_pos (Or.inl c2), if_pos (Or.inr (by omega)), c2, show x + ywk c + ywk c * 0 = x + ywk c * (0 + 1) by omega]
      · by_cases c3 : w + k < c 6 + 9
        · rw [if_pos (Or.inr c3), if_pos (Or.inr c3), show x + ywk c + ywk c * u = x + ywk c * (u + 1) by rw [Nat.mul_add, Nat.mul_one]; omega]
        · rw [if_neg (by omega), if_neg (by omega)]
    · rw [if_neg c1, if_neg (by omega)]
theorem y_costWeekByWeek {a w L : Nat} {c : Nat → Nat} {μ : xM} (h : yP w L c) (hw : w < 1000000000) (e : ∀ k, k < 12 → μ a k = nI (c k)) {k : Nat} (hk : k ≤ 20) : fX5_costWeekByWeek a (nI w) (nI k) μ = some (if c 5 = 0 ∧ w + k < c 6 + 9 then nI (c 3 + c 4 + ywk c * k) else -1, μ) := by
  have p := h
  obtain ⟨p0, p1, p3, p4, p5, p6, p7, p8, p10, p11, pr, -⟩ := p
  rw [fX5_costWeekByWeek, e 5 (by decide), y_i0 (by omega)]
  by_cases c1 : c 5 = 0
  · rw [if_pos c1, y_owed e, y_xb]
    refine (y_cwbw h hw e c1 hk k 1 xfu (c 3 + c 4) (by omega) (by omega) (by unfold xfu; omega)).trans ?_
    by_cases c2 : w + k < c 6 + 9
    · rw [if_pos (Or.inr c2), if_pos ⟨c1, c2⟩]
    · rw [if_neg (fun q => by have := pr c1; omega), if_neg (by omega)]
  · rw [if_neg c1, if_neg (by omega)]
def yfall : Nat → Nat → Nat
  | r, 0 => r
  | r, k + 1 => yfall (r - r / 10) k
theorem yfall_le : ∀ (k r : Nat), yfall r k ≤ r := by
  intro k
  induction k with
  | zero => intro r; exact Nat.le_refl _
  | succ k ih => intro r; exact Nat.le_trans (ih _) (Nat.sub_le _ _)
theorem y_fallN {r : Nat} (h : r < 2147483648) : nI r - nI r / 10 = nI (r - r / 10) := by
  rw [show (10 : Int32) = nI 10 from rfl, pk_div h (by decide) (by decide), pk_sub (Nat.div_le_self _ _)]
theorem y_rloop {a : Nat} {μ : xM} {k : Nat} (hk : k ≤ 20) : ∀ u j f r, j + u = k → u < f → r < 2147483648 → lX5_reserveBehind_7 a (nI k) f (nI r) (nI j) μ = some (nI (yfall r u), μ) := by
  intro u
  induction u with
  | zero =>
    intro j f r hj hf hr
    obtain ⟨f, rfl⟩ : ∃ f', f = f' + 1 := ⟨f - 1, by omega⟩
    rw [lX5_reserveBehind_7, if_pos ((nI_leI (by omega) (by omega)).mpr (by omega))]
    rfl
  | succ u ih =>
    intro j f r hj hf hr
    obtain ⟨f, rfl⟩ : ∃ f', f = f' + 1 := ⟨f - 1, by omega⟩
    rw [lX5_reserveBehind_7, if_neg (fun q => by have := (nI_leI (by omega) (by omega)).mp q; omega), y_fallN hr, nI_1, ih (j + 1) f _ (by omega) (by omega) (by omega)]
    rfl
theorem y_reserveBehind {a k r : Nat} {μ : xM} (hk : k ≤ 20) (e : μ a 8 = nI r) (hr : r < 2147483648) : fX5_reserveBehind a (nI k) μ = some (nI (yfall r k), μ) := by
  rw [fX5_reserveBehind, e]
  exact y_rloop hk k 0 xfu r (by omega) (by unfold xfu; omega) hr
-- which will be lots
def ylot (S : Nat → Nat → Nat) (k t : Nat) : Int32 := if S t 5 = 0 ∧ S t 6 + 9 ≤ S 16 1 + k then 1 else 0
def ylotE (S : Nat → Nat → Nat) (k t : Nat) : Int32 := if S t 5 = 0 ∧ S 16 1 + k = S t 6 + 9 then 1 else 0
theorem y_lotsByTerms {b W k : Nat} {S : Nat → Nat → Nat} {J : Nat → Int32} {μ : xM} (h : yC b S J μ) (hI : yI W S) (hW : W < 100000000) (hk : k ≤ 20) : fX0_lotsByTerms b (nI k) μ = some (ysI (ylot S k) 0 (S 16 0), μ) := by
  have hn := hI.1.1
  have hw := hI.1.2.1
  refine (y_loop (fun f x t => lX0_lotsByTerms_4 b (nI k) f x t μ) (fun x => some (x, μ)) (S 16 0) (ylot S k) (fun f x => ?_) (fun f x t ht => ?_) (S 16 0) 0 xfu 0 (by omega) (by unfold xfu; omega)).trans (by rw [Int32.zero_add])
  · show lX0_lotsByTerms_4 b (nI k) (f + 1) x (nI (S 16 0)) μ = some (x, μ)
    rw [lX0_lotsByTerms_4, h.1.1, if_pos (Int32.le_refl _)]
  · show lX0_lotsByTerms_4 b (nI k) (f + 1) x (nI t) μ = lX0_lotsByTerms_4 b (nI k) f (x + _) (nI (t + 1)) μ
    have p := hI.2.1 t ht
    rw [lX0_lotsByTerms_4, h.1.1, if_neg (y_nle ht hn), y_xk (y_in16 ht hn), y_xk (y_in16 ht hn), y_cl ht hn, h.1.2.1, nI_add, y_isRunningIn p (by omega) (by omega) (h.2.1 t ht), y_xb, h.2.1 t ht 5 (by decide), y_i0 (by have := p.2.2.2.2.1; omega), nI_1]
    unfold ylot
    by_cases c1 : S t 5 = 0
    · by_cases c2 : S t 6 + 9 ≤ S 16 1 + k
      · rw [if_pos c1, if_neg (show ¬ (S t 5 = 0 ∧ S 16 1 + k < S t 6 + 9) by omega), if_pos rfl, if_pos ⟨c1, c2⟩]
      · rw [if_pos c1, if_pos (show S t 5 = 0 ∧ S 16 1 + k < S t 6 + 9 from ⟨c1, by omega⟩), if_neg (show ¬ (1 : Int32) = 0 by decide), if_neg (show ¬ (S t 5 = 0 ∧ S t 6 + 9 ≤ S 16 1 + k) by omega), Int32.add_zero]
    · rw [if_neg c1, if_neg (show ¬ (S t 5 = 0 ∧ S t 6 + 9 ≤ S 16 1 + k) by omega), Int32.add_zero]
theorem y_lwwIn {b W k w : Nat} {S : Nat → Nat → Nat} {J : Nat → Int32} {μ : xM} (h : yC b S J μ) (hI : yI W S) (hW : W < 100000000) (hk : k ≤ 20) (hwk : w ≤ 20) (x0 : Int32) : lX0_lotsWeekByWeek_12 b (nI k) xfu x0 (nI w) (nI 0) μ = some (x0 + ysI (ylotE S w) 0 (S 16 0), nI (S 16 0), μ) := by
  have hn := hI.1.1
  have hw := hI.1.2.1
  refine y_loop (fun f x t => lX0_lotsWeekByWeek_12 b (nI k) f x (nI w) t μ) (fun x => some (x, nI (S 16 0), μ)) (S 16 0) (ylotE S w) (fun f x => ?_) (fun f x t ht => ?_) (S 16 0) 0 xfu x0 (by omega) (by unfold xfu; omega)
  · show lX0_lotsWeekByWeek_12 b (nI k) (f + 1) x (nI w) (nI (S 16 0)) μ = some (x, nI (S 16 0), μ)
    rw [lX0_lotsWeekByWeek_12, h.1.1, if_pos (Int32.le_refl _)]
  · show lX0_lotsWeekByWeek_12 b (nI k) (f + 1) x (nI w) (nI t) μ = lX0_lotsWeekByWeek_12 b (nI k) f (x + _) (nI w) (nI (t + 1)) μ
    obtain ⟨p0, p1, p3, p4, p5, p6, p7, -⟩ := hI.2.1 t ht
    rw [lX0_lotsWeekByWeek_12, h.1.1, if_neg (y_nle ht hn), y_xk (y_in16 ht hn), y_xk (y_in16 ht hn), y_cl ht hn, h.1.2.1, nI_add, h.2.1 t ht 5 (by decide), h.2.1 t ht 6 (by decide), y_i0 (by omega), pk_sub (by omega), show (9 : Int32) = nI 9 from rfl, y_ieq (by omega) (by decide), nI_1]
    unfold ylotE
    by_cases c1 : S t 5 = 0
    · by_cases c2 : S 16 1 + w = S t 6 + 9
      · rw [if_pos c1, if_pos (by omega), if_pos ⟨c1, c2⟩]
      · rw [if_pos c1, if_neg (by omega), if_neg (by omega), Int32.add_zero]
    · rw [if_neg c1, if_neg (by omega), Int32.add_zero]
theorem ylot_step {S : Nat → Nat → Nat} {w n : Nat} : ysI (ylot S w) 0 n + ysI (ylotE S (w + 1)) 0 n = ysI (ylot S (w + 1)) 0 n := by
  refine ysI_add (fun j _ _ => ?_)
  unfold ylot ylotE
  by_cases c1 : S j 5 = 0 ∧ S j 6 + 9 ≤ S 16 1 + w
  · rw [if_pos c1, if_neg (by omega), if_pos (by omega)]; rfl
  · by_cases c2 : S j 5 = 0 ∧ S 16 1 + (w + 1) = S j 6 + 9
    · rw [if_neg c1, if_pos c2, if_pos (by omega)]; rfl
    · rw [if_neg c1, if_neg c2, if_neg (by omega)]; rfl
theorem y_lwwOut {b W k : Nat} {S : Nat → Nat → Nat} {J : Nat → Int32} {μ : xM} (h : yC b S J μ) (hI : yI W S) (hW : W < 100000000) (hk : k ≤ 20) : ∀ u w f, w + u = k → u < f → lX0_lotsWeekByWeek_4 b (nI k) f (ysI (ylot S w) 0 (S 16 0)) (nI (w + 1)) μ = some (ysI (ylot S k) 0 (S 16 0), μ) := by
  intro u
  induction u with
  | zero =>
    intro w f hw hf
    obtain ⟨f, rfl⟩ : ∃ f', f = f' + 1 := ⟨f - 1, by omega⟩
    obtain rfl : w = k := by omega
    rw [lX0_lotsWeekByWeek_4, if_pos ((nI_ltI (by omega) (by omega)).mpr (by omega))]
  | succ u ih =>
    intro w f hw hf
    obtain ⟨f, rfl⟩ : ∃ f', f = f' + 1 := ⟨f - 1, by omega⟩
    rw [lX0_lotsWeekByWeek_4, if_neg (fun q => by have := (nI_ltI (by omega) (by omega)).mp q; omega), show (0 : Int32) = nI 0 from rfl, y_lwwIn h hI hW hk (by omega), y_xbt, ylot_step, nI_1]
    exact ih (w + 1) f (by omega) (by omega)
theorem ylot_0 {W : Nat} {S : Nat → Nat → Nat} (hI : yI W S) : ysI (ylot S 0) 0 (S 16 0) = 0 := by
  have e : ysI (ylot S 0) 0 (S 16 0) = ysI (fun _ => 0) 0 (S 16 0) := by
    refine ysI_ext (fun j _ hj => ?_)
    unfold ylot
    have p := (hI.2.1 j (by omega)).2.2.2.2.2.2.2.2.2.2.1
    exact if_neg (fun q => by have := p q.1; omega)
  rw [e]
  have z : ∀ u t, ysI (fun _ => (0 : Int32)) t u = 0 := by
    intro u
    induction u with
    | zero => intro t; rfl
    | succ u ih => intro t; show (0 : Int32) + ysI _ (t + 1) u = 0; rw [ih]; rfl
  exact z _ _
theorem y_lotsWeekByWeek {b W k : Nat} {S : Nat → Nat → Nat} {J : Nat → Int32} {μ : xM} (h : yC b S J μ) (hI : yI W S) (hW : W < 100000000) (hk : k ≤ 20) : fX0_lotsWeekByWeek b (nI k) μ = some (ysI (ylot S k) 0 (S 16 0), μ) := by
  have e := y_lwwOut h hI hW hk k 0 xfu (by omega) (by unfold xfu; omega)
  rw [ylot_0 hI] at e
  exact e
theorem y_isCostTheSame {b W : Nat} {S : Nat → Nat → Nat} {J : Nat → Int32} {μ : xM} (h : yC b S J μ) (hI : yI W S) (hW : W < 100000000) : fX0_isCostTheSame b 2 μ = some (1, μ) := by
  have hn := hI.1.1
  have hw := hI.1.2.1
  have loop : ∀ u t f, t + u = S 16 0 → u < f → lX0_isCostTheSame_2 b (nI 2) f (nI t) μ = some (1, μ) := by
    intro u
    induction u with
    | zero =>
      intro t f ht hf
      obtain ⟨f, rfl⟩ : ∃ f', f = f' + 1 := ⟨f - 1, by omega⟩
      rw [lX0_isCostTheSame_2, h.1.1, if_pos ((nI_leI (by omega) (by omega)).mpr (by omega))]
    | succ u ih =>
      intro t f ht hf
      obtain ⟨f, rfl⟩ : ∃ f', f = f' + 1 := ⟨f - 1, by omega⟩
      have ht' : t < S 16 0 := by omega
      have p := hI.2.1 t ht'
      rw [lX0_isCostTheSame_2, h.1.1, if_neg (y_nle ht' hn), y_xk (y_in16 ht' hn), y_cl ht' hn, h.1.2.1, nI_add, y_isRunningIn p (by omega) (by omega) (h.2.1 t ht'), y_xb, y_xk (y_in16 ht' hn), y_costBehind p (h.2.1 t ht'), y_xb, y_xk (y_in16 ht' hn), h.1.2.1, y_costWeekByWeek p (by omega) (h.2.1 t ht') (by decide), y_xb, nI_1, ih (t + 1) f (by omega) (by omega)]
      by_cases c1 : S t 5 = 0 ∧ S 16 1 + 2 < S t 6 + 9
      · rw [if_pos c1, if_neg (show ¬ (1 : Int32) = 0 by decide), if_pos c1, if_pos rfl]
      · rw [if_neg c1, if_pos rfl]
  exact loop (S 16 0) 0 xfu (by omega) (by unfold xfu; omega)
-- lots in their places
def yah (S : Nat → Nat → Nat) (r : Bool) (o t : Nat) : Prop := if r = true then S t 8 < S o 8 ∨ (S o 8 = S t 8 ∧ o < t) else S o 6 < S t 6 ∨ (S o 6 = S t 6 ∧ o < t)
noncomputable def yahd (S : Nat → Nat → Nat) (r : Bool) (t o : Nat) : Int32 := @ite _ (S o 5 = 1 ∧ yah S r o t) (Classical.propDecidable _) 1 0
theorem yahd_t {S : Nat → Nat → Nat} {r : Bool} {t o : Nat} (h : S o 5 = 1 ∧ yah S r o t) : yahd S r t o = 1 := by unfold yahd; rw [if_pos h]
theorem yahd_f {S : Nat → Nat → Nat} {r : Bool} {t o : Nat} (h : ¬ (S o 5 = 1 ∧ yah S r o t)) : yahd S r t o = 0 := by unfold yahd; rw [if_neg h]
theorem y_isAhead {b W t o : Nat} {S : Nat → Nat → Nat} {J : Nat → Int32} {μ : xM} (h : yC b S J μ) (hI : yI W S) (hW : W < 100000000) (ht : t < S 16 0) (ho : o < S 16 0) (r : Bool) : ∃ v, fX0_isAhead b (nI o) (nI t) (if r = true then 1 else 0) μ = some (v, μ) ∧ (yah S r o t → v = 1) ∧ (¬ yah S r o t → v = 0) := by
  have hn := hI.1.1
  have hw := hI.1.2.1
  obtain ⟨p0, p1, p3, p4, p5, p6, p7, p8, -⟩ := hI.2.1 t ht
  obtain ⟨q0, q1, q3, q4, q5, q6, q7, q8, -⟩ := hI.2.1 o ho
  have key : ∀ (A B : Nat), A < 1000000000 → B < 1000000000 → ∃ v : Int32, (if 0 < nI A - nI B then some ((1 : Int32), μ) else if nI A - nI B = 0 then (if nI t ≤ nI o then some ((0 : Int32), μ) else some ((1 : Int32), μ)) else some ((0 : Int32), μ)) = some (v, μ) ∧ ((B < A ∨ (A = B ∧ o < t)) → v = 1) ∧ (¬ (B < A ∨ (A = B ∧ o < t)) → v = 0) := by
    intro A B hA hB
    have e1 : (0 < nI A - nI B) = (B < A) := by
      rw [Int32.lt_iff_toInt_lt, pk_sub_toInt (by omega) (by omega)]
      exact propext ⟨fun q => by have : (0 : Int) < (A : Int) - B := q; omega, fun q => by show (0 : Int) < (A : Int) - B; omega⟩
    have e2 : (nI A - nI B = 0) = (A = B) := by
      rw [← Int32.toInt_inj, pk_sub_toInt (by omega) (by omega)]
      exact propext ⟨fun q => by have : (A : Int) - B = 0 := q; omega, fun q => by show (A : Int) - B = 0; omega⟩
    simp only [e1, e2]
    rw [y_ile (by omega) (by omega)]
    by_cases c1 : B < A
    · rw [if_pos c1]; exact ⟨1, rfl, fun _ => rfl, fun q => absurd (Or.inl c1) q⟩
    · rw [if_neg c1]
      by_cases c2 : A = B
      · rw [if_pos c2]
        by_cases c3 : t ≤ o
        · rw [if_pos c3]; exact ⟨0, rfl, fun q => by omega, fun _ => rfl⟩
        · rw [if_neg c3]; exact ⟨1, rfl, fun _ => rfl, fun q => absurd (Or.inr ⟨c2, by omega⟩) q⟩
      · rw [if_neg c2]; exact ⟨0, rfl, fun q => by omega, fun _ => rfl⟩
  cases r with
  | false =>
    rw [if_neg (by decide), fX0_isAhead, if_pos rfl, y_xk (y_in16 ht hn), y_xk (y_in16 ho hn), y_cl ht hn, y_cl ho hn, h.2.1 t ht 6 (by decide), h.2.1 o ho 6 (by decide)]
    obtain ⟨v, k1, k2, k3⟩ := key (S t 6) (S o 6) (by omega) (by omega)
    refine ⟨v, k1, fun q => k2 ?_, fun q => k3 (fun q1 => q ?_)⟩
    · unfold yah at q; rw [if_neg (by decide)] at q; omega
    · unfold yah; rw [if_neg (by decide)]; omega
  | true =>
    rw [if_pos rfl, fX0_isAhead, if_neg (by decide), y_xk (y_in16 ht hn), y_xk (y_in16 ho hn), y_cl ht hn, y_cl ho hn, h.2.1 t ht 8 (by decide), h.2.1 o ho 8 (by decide)]
    obtain ⟨v, k1, k2, k3⟩ := key (S o 8) (S t 8) (by omega) (by omega)
    refine ⟨v, k1, fun q => k2 ?_, fun q => k3 (fun q1 => q ?_)⟩
    · unfold yah at q; rw [if_pos rfl] at q; omega
    · unfold yah; rw [if_pos rfl]; omega
theorem y_lotsAheadOf {b W t : Nat} {S : Nat → Nat → Nat} {J : Nat → Int32} {μ : xM} (h : yC b S J μ) (hI : yI W S) (hW : W < 100000000) (ht : t < S 16 0) (r : Bool) : fX0_lotsAheadOf b (nI t) (if r = true then 1 else 0) μ = some (ysI (yahd S r t) 0 (S 16 0), μ) := by
  have hn := hI.1.1
  refine (y_loop (fun f x o => lX0_lotsAheadOf_5 b (nI t) (if r = true then 1 else 0) f x o μ) (fun x => some (x, μ)) (S 16 0) (yahd S r t) (fun f x => ?_) (fun f x o ho => ?_) (S 16 0) 0 xfu 0 (by omega) (by unfold xfu; omega)).trans (by rw [Int32.zero_add])
  · show lX0_lotsAheadOf_5 b (nI t) (if r = true then 1 else 0) (f + 1) x (nI (S 16 0)) μ = some (x, μ)
    rw [lX0_lotsAheadOf_5, h.1.1, if_pos (Int32.le_refl _)]
  · show lX0_lotsAheadOf_5 b (nI t) (if r = true then 1 else 0) (f + 1) x (nI o) μ = lX0_lotsAheadOf_5 b (nI t) (if r = true then 1 else 0) f (x + yahd S r t o) (nI (o + 1)) μ
    obtain ⟨v, e1, e2, e3⟩ := y_isAhead h hI hW ht ho r
    have p5 := (hI.2.1 o ho).2.2.2.2.1
    rw [lX0_lotsAheadOf_5, h.1.1, if_neg (y_nle ho hn), y_xk (y_in16 ho hn), y_cl ho hn, e1, y_xb, h.2.1 o ho 5 (by decide), y_i1 (by omega), nI_1]
    by_cases c1 : S o 5 = 1
    · rw [if_pos c1]
      by_cases c2 : yah S r o t
      · rw [yahd_t ⟨c1, c2⟩, e2 c2, if_neg (by decide)]
      · rw [yahd_f (fun q => c2 q.2), e3 c2, if_pos rfl, Int32.add_zero]
    · rw [if_neg c1, yahd_f (fun q => c1 q.1), Int32.add_zero]
/-- the first of the places t, t + 1 .. t + u - 1 that P holds of -/
noncomputable def yfd (P : Nat → Prop) : Nat → Nat → Option Nat
  | _, 0 => none
  | t, u + 1 => @ite _ (P t) (Classical.propDecidable _) (some t) (yfd P (t + 1) u)
theorem yfd_t {P : Nat → Prop} {t u : Nat} (h : P t) : yfd P t (u + 1) = some t := by rw [yfd, if_pos h]
theorem yfd_f {P : Nat → Prop} {t u : Nat} (h : ¬ P t) : yfd P t (u + 1) = yfd P (t + 1) u := by rw [yfd, if_neg h]
theorem yfd_lt {P : Nat → Prop} : ∀ {u t j : Nat}, yfd P t u = some j → j < t + u := by
  intro u
  induction u with
  | zero => intro t j h; cases h
  | succ u ih =>
    intro t j h
    by_cases c : P t
    · rw [yfd_t c] at h; cases h; omega
    · rw [yfd_f c] at h; have := ih h; omega
theorem yfd_ext {P Q : Nat → Prop} : ∀ {u t : Nat}, (∀ j, t ≤ j → j < t + u → (P j ↔ Q j)) → yfd P t u = yfd Q t u := by
  intro u
  induction u with
  | zero => intro t _; rfl
  | succ u ih =>
    intro t h
    by_cases c : P t
    · rw [yfd_t c, yfd_t ((h t (by omega) (by omega)).mp c)]
    · rw [yfd_f c, yfd_f (fun q => c ((h t (by omega) (by omega)).mpr q)), ih (fun j h1 h2 => h j (by omega) (by omega))]
def yplc (S : Nat → Nat → Nat) (r : Bool) (p : Int32) (t : Nat) : Prop := S t 5 = 1 ∧ ysI (yahd S r t) 0 (S 16 0) = p
theorem y_lotInPlace {b W : Nat} {S : Nat → Nat → Nat} {J : Nat → Int32} {μ : xM} (h : yC b S J μ) (hI : yI W S) (hW : W < 100000000) (r : Bool) (p : Int32) : fX0_lotInPlace b p (if r = true then 1 else 0) μ = some ((match yfd (yplc S r p) 0 (S 16 0) with | some j => nI j | none => -1), μ) := by
  have hn := hI.1.1
  have loop : ∀ u t f, t + u = S 16 0 → u < f → lX0_lotInPlace_2 b p (if r = true then 1 else 0) f (nI t) μ = some ((match yfd (yplc S r p) t u with | some j => nI j | none => -1), μ) := by
    intro u
    induction u with
    | zero =>
      intro t f ht hf
      obtain ⟨f, rfl⟩ : ∃ f', f = f' + 1 := ⟨f - 1, by omega⟩
      rw [lX0_lotInPlace_2, h.1.1, if_pos ((nI_leI (by omega) (by omega)).mpr (by omega))]
      rfl
    | succ u ih =>
      intro t f ht hf
      obtain ⟨f, rfl⟩ : ∃ f', f = f' + 1 := ⟨f - 1, by omega⟩
      have ht' : t < S 16 0 := by omega
      have p5 := (hI.2.1 t ht').2.2.2.2.1
      rw [lX0_lotInPlace_2, h.1.1, if_neg (y_nle ht' hn), y_xk (y_in16 ht' hn), y_cl ht' hn, y_lotsAheadOf h hI hW ht' r, y_xb, h.2.1 t ht' 5 (by decide), y_i1 (by omega), nI_1, ih (t + 1) f (by omega) (by omega)]
      by_cases c1 : S t 5 = 1
      · rw [if_pos c1]
        by_cases c2 : ysI (yahd S r t) 0 (S 16 0) = p
        · rw [if_pos c2, yfd_t ⟨c1, c2⟩]
        · rw [if_neg c2, yfd_f (fun q => c2 q.2)]
      · rw [if_neg c1, yfd_f (fun q => c1 q.1)]
  exact loop (S 16 0) 0 xfu (by omega) (by unfold xfu; omega)
