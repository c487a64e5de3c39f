/-! THE PURE PART: words -/
theorem y_xb {α : Type} (r : Int32) (μ : xM) (K : Int32 → xM → Option α) : xb (some (r, μ)) K = K r μ := xb_t rfl
theorem y_xbv {α : Type} (μ : xM) (K : xM → Option α) : xbv (some μ) K = K μ := xbv_t rfl
theorem y_xbt {α β : Type} (q : α) (K : α → Option β) : xbt (some q) K = K q := xbt_t rfl
theorem y_xk {α : Type} {P : Prop} {K : Option α} (hp : P) : xk P K = K := xk_t hp
theorem y_xcb0 (r : Int32) (μ : xM) (K : Int32 → xM → Option (xO × xM)) : xcb (some ((0, r), μ)) K = K r μ := xcb_t rfl
theorem y_xcbS (e : Nat) (r : Int32) (μ : xM) (K : Int32 → xM → Option (xO × xM)) : xcb (some ((e + 1, r), μ)) K = some ((e + 1, 0), μ) := xcb_e rfl
theorem y_xch0 {α : Type} (r : Int32) (μ : xM) (K : Int32 → xM → Option α) (E : Nat → xM → Option α) : xch (some ((0, r), μ)) K E = K r μ := xch_t rfl
theorem y_xchS {α : Type} (e : Nat) (r : Int32) (μ : xM) (K : Int32 → xM → Option α) (E : Nat → xM → Option α) : xch (some ((e + 1, r), μ)) K E = E (e + 1) μ := xch_e rfl
theorem y_wn {μ : xM} {a b k j : Nat} {v : Int32} (h : b ≠ a) : xw μ a k v b j = μ b j := xw_other (Or.inl h)
theorem y_wk {μ : xM} {a b k j : Nat} {v : Int32} (h : j ≠ k) : xw μ a k v b j = μ b j := xw_other (Or.inr h)
theorem y_zt : xisZ (1 : Int32) := ⟨by decide, by decide⟩
theorem y_zf : xisZ (0 : Int32) := ⟨by decide, by decide⟩
-- sums
def ysI (g : Nat → Int32) : Nat → Nat → Int32
  | _, 0 => 0
  | t, u + 1 => g t + ysI g (t + 1) u
theorem y_loop {α : Type} (L : Nat → Int32 → Int32 → α) (R : Int32 → α) (n : Nat) (g : Nat → Int32) (h0 : ∀ f x, L (f + 1) x (nI n) = R x) (h1 : ∀ f x t, t < n → L (f + 1) x (nI t) = L f (x + g t) (nI (t + 1))) : ∀ u t f x, t + u = n → u < f → L f x (nI t) = R (x + ysI g t u) := by
  intro u
  induction u with
  | zero =>
    intro t f x ht hf
    obtain ⟨f, rfl⟩ : ∃ f', f = f' + 1 := ⟨f - 1, by omega⟩
    obtain rfl : t = n := by omega
    rw [h0]
    show R x = R (x + 0)
    rw [Int32.add_zero]
  | succ u ih =>
    intro t f x ht hf
    obtain ⟨f, rfl⟩ : ∃ f', f = f' + 1 := ⟨f - 1, by omega⟩
    rw [h1 f x t (by omega), ih (t + 1) f _ (by omega) (by omega)]
    show R (x + g t + ysI g (t + 1) u) = R (x + (g t + ysI g (t + 1) u))
    rw [Int32.add_assoc]
theorem ysI_ext {g h : Nat → Int32} : ∀ {u t : Nat}, (∀ j, t ≤ j → j < t + u → g j = h j) → ysI g t u = ysI h t u := by
  intro u
  induction u with
  | zero => intro t _; rfl
  | succ u ih =>
    intro t e
    show g t + ysI g (t + 1) u = h t + ysI h (t + 1) u
    rw [e t (by omega) (by omega), ih (fun j h1 h2 => e j (by omega) (by omega))]
theorem ysI_add {g h k : Nat → Int32} : ∀ {u t : Nat}, (∀ j, t ≤ j → j < t + u → g j + h j = k j) → ysI g t u + ysI h t u = ysI k t u := by
  intro u
  induction u with
  | zero => intro t _; exact Int32.add_zero 0
  | succ u ih =>
    intro t e
    show g t + ysI g (t + 1) u + (h t + ysI h (t + 1) u) = k t + ysI k (t + 1) u
    rw [← e t (by omega) (by omega), ← ih (fun j h1 h2 => e j (by omega) (by omega))]
    grind
theorem ysI_snoc {g : Nat → Int32} : ∀ {u t : Nat}, ysI g t (u + 1) = ysI g t u + g (t + u) := by
  intro u
  induction u with
  | zero => intro t; show g t + 0 = 0 + g t; rw [Int32.add_zero, Int32.zero_add]
  | succ u ih =>
    intro t
    show g t + ysI g (t + 1) (u + 1) = g t + ysI g (t + 1) u + g (t + (u + 1))
    rw [ih, ← Int32.add_assoc, show t + 1 + u = t + (u + 1) by omega]
/-- one place of a sum is another -/
theorem ysI_upd {g h : Nat → Int32} {i : Nat} : ∀ {u t : Nat}, t ≤ i → i < t + u → (∀ j, t ≤ j → j < t + u → j ≠ i → h j = g j) → ysI h t u = ysI g t u + (h i - g i) := by
  intro u
  induction u with
  | zero => intro t h1 h2; omega
  | succ u ih =>
    intro t h1 h2 e
    show h t + ysI h (t + 1) u = g t + ysI g (t + 1) u + (h i - g i)
    by_cases hi : i = t
    · subst hi
      rw [ysI_ext (g := h) (h := g) (fun j h3 h4 => e j (by omega) (by omega) (by omega))]
      grind
    · rw [ih (by omega) (by omega) (fun j h3 h4 h5 => e j (by omega) (by omega) h5), e t (by omega) (by omega) (by omega)]
      grind
-- the state: S t k pledge t's number k (0 owner, 1 worth, 2 lent, 3 loan, 4 interest, 5 state, 6 term, 7 rate, 8 reserve, 9 paid, 10 due, 11 price, 12 turn); S 16: made, week, rate, fee, lots; J: coins, left, claimed
def yu (S : Nat → Nat → Nat) (t k v : Nat) : Nat → Nat → Nat := fun a b => if a = t then (if b = k then v else S a b) else S a b
def yj (J : Nat → Int32) (k : Nat) (v : Int32) : Nat → Int32 := fun b => if b = k then v else J b
def yloss (c : Nat → Nat) : Nat := if c 5 = 3 then c 10 - c 11 else 0
def yC (b : Nat) (S : Nat → Nat → Nat) (J : Nat → Int32) (μ : xM) : Prop := (μ b 3 = nI (S 16 0) ∧ μ b 4 = nI (S 16 1) ∧ μ b 5 = nI (S 16 2) ∧ μ b 6 = nI (S 16 3) ∧ μ b 7 = J 0) ∧ (∀ t, t < S 16 0 → ∀ k, k < 12 → μ (b + 1 + 1 + t) k = nI (S t k)) ∧ ∀ j, j < 6 → μ (b + 18) j = J (1 + j) ∧ μ (b + 19) j = J (7 + j)
def yQ (c : Nat → Nat) (m : Nat → Int32) : Prop := m 0 = nI (c 0) ∧ m 1 = nI (c 1) ∧ m 2 = nI (c 3) ∧ m 3 = nI (c 4) ∧ m 4 = nI (c 5) ∧ m 5 = nI (c 6) ∧ m 6 = nI (c 7) ∧ (c 5 = 1 → m 7 = nI (c 8)) ∧ m 8 = nI (c 9) ∧ (c 5 = 1 → m 9 = nI (c 10)) ∧ (c 5 = 1 → m 10 = nI (c 12))
def yM (S : Nat → Nat → Nat) (J : Nat → Int32) (g : Nat → Int32) : Prop := (g 0 = nI (S 16 1) ∧ g 1 = nI (S 16 0) ∧ g 2 = nI (S 16 2) ∧ g 3 = nI (S 16 3) ∧ g 4 = J 0 ∧ g 5 = ysI (fun t => nI (S t 2)) 0 (S 16 0) ∧ g 6 = ysI (fun t => nI (S t 9)) 0 (S 16 0) ∧ g 7 = ysI (fun t => nI (S t 11)) 0 (S 16 0) ∧ g 8 = ysI (fun j => J (7 + j)) 0 6 ∧ g 9 = ysI (fun t => nI (yloss (S t))) 0 (S 16 0) ∧ g 10 = nI (S 16 4)) ∧ (∀ t, t < S 16 0 → yQ (S t) (fun k => g (11 + 11 * t + k))) ∧ ∀ j, j < 6 → g (187 + j) = J (1 + j) ∧ g (193 + j) = J (7 + j)
def yP (w L : Nat) (c : Nat → Nat) : Prop := c 0 < 6 ∧ c 1 ≤ 999 ∧ c 3 ≤ 599 ∧ c 4 ≤ 400 ∧ c 5 ≤ 3 ∧ c 6 ≤ w ∧ c 7 ≤ 60 ∧ c 8 ≤ 2000 ∧ c 10 ≤ 2000 ∧ c 11 ≤ 9999 ∧ (c 5 = 0 → w < c 6 + 9 ∧ c 4 ≤ 36 * (w - c 6)) ∧ (c 5 = 1 → c 6 + 9 ≤ w ∧ c 12 < L) ∧ (c 5 ≠ 1 → c 8 = 0) ∧ (c 5 ≠ 3 → c 11 = 0)
def yO (S : Nat → Nat → Nat) : Prop := ∀ t o, t < S 16 0 → o < S 16 0 → S t 5 = 1 → S o 5 = 1 → (S o 12 < S t 12 ↔ S o 6 < S t 6 ∨ (S o 6 = S t 6 ∧ o < t))
def yI (W : Nat) (S : Nat → Nat → Nat) : Prop := (S 16 0 ≤ 16 ∧ S 16 1 ≤ W ∧ 1 ≤ S 16 2 ∧ S 16 2 ≤ 60 ∧ S 16 3 ≤ 20 ∧ S 16 4 ≤ 16 * S 16 1) ∧ (∀ t, t < S 16 0 → yP (S 16 1) (S 16 4) (S t)) ∧ yO S
theorem yI_mono {W W1 : Nat} {S : Nat → Nat → Nat} (h : yI W S) (hW : W ≤ W1) : yI W1 S := ⟨⟨h.1.1, Nat.le_trans h.1.2.1 hW, h.1.2.2⟩, h.2⟩
theorem yC_congr {b : Nat} {S : Nat → Nat → Nat} {J : Nat → Int32} {μ μ1 : xM} (h : yC b S J μ) (e : ∀ a, b ≤ a → a < b + 20 → μ1 a = μ a) (hn : S 16 0 ≤ 16) : yC b S J μ1 := by
  obtain ⟨h1, h2, h3⟩ := h
  refine ⟨by rw [e b (by omega) (by omega)]; exact h1, fun t ht k hk => ?_, fun j hj => ?_⟩
  · rw [e (b + 1 + 1 + t) (by omega) (by omega)]; exact h2 t ht k hk
  · rw [e (b + 18) (by omega) (by omega), e (b + 19) (by omega) (by omega)]; exact h3 j hj
-- the model's cells
theorem y_of {md t k : Nat} {ν : xM} (ht : t < 16) (hk : k < 11) : fX8_of md (nI t) (nI k) ν = some (ν (md + 1) (11 + 11 * t + k), ν) := by
  unfold fX8_of
  have e : (11 + 11 * nI t) + nI k = nI (11 + 11 * t + k) := by rw [show (11 : Int32) = nI 11 from rfl, pk_mul, nI_add, nI_add]
  rw [e, xk_t (vp_in_nI (by omega) (by decide)), nI_clamp (by omega)]
theorem y_lays {md t k : Nat} {v : Int32} {ν : xM} (ht : t < 16) (hk : k < 11) : fX8_lays md (nI t) (nI k) v ν = some (xw ν (md + 1) (11 + 11 * t + k) v) := by
  unfold fX8_lays
  have e : (11 + 11 * nI t) + nI k = nI (11 + 11 * t + k) := by rw [show (11 : Int32) = nI 11 from rfl, pk_mul, nI_add, nI_add]
  rw [e, xk_t (vp_in_nI (by omega) (by decide)), nI_clamp (by omega)]
theorem y_of0 {md t : Nat} {ν : xM} (ht : t < 16) : fX8_of md (nI t) 0 ν = some (ν (md + 1) (11 + 11 * t + 0), ν) := y_of (k := 0) ht (by decide)
theorem y_of2 {md t : Nat} {ν : xM} (ht : t < 16) : fX8_of md (nI t) 2 ν = some (ν (md + 1) (11 + 11 * t + 2), ν) := y_of (k := 2) ht (by decide)
theorem y_of3 {md t : Nat} {ν : xM} (ht : t < 16) : fX8_of md (nI t) 3 ν = some (ν (md + 1) (11 + 11 * t + 3), ν) := y_of (k := 3) ht (by decide)
theorem y_of4 {md t : Nat} {ν : xM} (ht : t < 16) : fX8_of md (nI t) 4 ν = some (ν (md + 1) (11 + 11 * t + 4), ν) := y_of (k := 4) ht (by decide)
theorem y_of5 {md t : Nat} {ν : xM} (ht : t < 16) : fX8_of md (nI t) 5 ν = some (ν (md + 1) (11 + 11 * t + 5), ν) := y_of (k := 5) ht (by decide)
theorem y_of6 {md t : Nat} {ν : xM} (ht : t < 16) : fX8_of md (nI t) 6 ν = some (ν (md + 1) (11 + 11 * t + 6), ν) := y_of (k := 6) ht (by decide)
theorem y_of7 {md t : Nat} {ν : xM} (ht : t < 16) : fX8_of md (nI t) 7 ν = some (ν (md + 1) (11 + 11 * t + 7), ν) := y_of (k := 7) ht (by decide)
theorem y_of8 {md t : Nat} {ν : xM} (ht : t < 16) : fX8_of md (nI t) 8 ν = some (ν (md + 1) (11 + 11 * t + 8), ν) := y_of (k := 8) ht (by decide)
theorem y_of9 {md t : Nat} {ν : xM} (ht : t < 16) : fX8_of md (nI t) 9 ν = some (ν (md + 1) (11 + 11 * t + 9), ν) := y_of (k := 9) ht (by decide)
theorem y_of10 {md t : Nat} {ν : xM} (ht : t < 16) : fX8_of md (nI t) 10 ν = some (ν (md + 1) (11 + 11 * t + 10), ν) := y_of (k := 10) ht (by decide)
theorem y_lays0 {md t : Nat} {v : Int32} {ν : xM} (ht : t < 16) : fX8_lays md (nI t) 0 v ν = some (xw ν (md + 1) (11 + 11 * t + 0) v) := y_lays (k := 0) ht (by decide)
theorem y_lays1 {md t : Nat} {v : Int32} {ν : xM} (ht : t < 16) : fX8_lays md (nI t) 1 v ν = some (xw ν (md + 1) (11 + 11 * t + 1) v) := y_lays (k := 1) ht (by decide)
theorem y_lays2 {md t : Nat} {v : Int32} {ν : xM} (ht : t < 16) : fX8_lays md (nI t) 2 v ν = some (xw ν (md + 1) (11 + 11 * t + 2) v) := y_lays (k := 2) ht (by decide)
theorem y_lays3 {md t : Nat} {v : Int32} {ν : xM} (ht : t < 16) : fX8_lays md (nI t) 3 v ν = some (xw ν (md + 1) (11 + 11 * t + 3) v) := y_lays (k := 3) ht (by decide)
theorem y_lays4 {md t : Nat} {v : Int32} {ν : xM} (ht : t < 16) : fX8_lays md (nI t) 4 v ν = some (xw ν (md + 1) (11 + 11 * t + 4) v) := y_lays (k := 4) ht (by decide)
theorem y_lays5 {md t : Nat} {v : Int32} {ν : xM} (ht : t < 16) : fX8_lays md (nI t) 5 v ν = some (xw ν (md + 1) (11 + 11 * t + 5) v) := y_lays (k := 5) ht (by decide)
theorem y_lays6 {md t : Nat} {v : Int32} {ν : xM} (ht : t < 16) : fX8_lays md (nI t) 6 v ν = some (xw ν (md + 1) (11 + 11 * t + 6) v) := y_lays (k := 6) ht (by decide)
theorem y_lays7 {md t : Nat} {v : Int32} {ν : xM} (ht : t < 16) : fX8_lays md (nI t) 7 v ν = some (xw ν (md + 1) (11 + 11 * t + 7) v) := y_lays (k := 7) ht (by decide)
theorem y_lays8 {md t : Nat} {v : Int32} {ν : xM} (ht : t < 16) : fX8_lays md (nI t) 8 v ν = some (xw ν (md + 1) (11 + 11 * t + 8) v) := y_lays (k := 8) ht (by decide)
theorem y_lays9 {md t : Nat} {v : Int32} {ν : xM} (ht : t < 16) : fX8_lays md (nI t) 9 v ν = some (xw ν (md + 1) (11 + 11 * t + 9) v) := y_lays (k := 9) ht (by decide)
theorem y_lays10 {md t : Nat} {v : Int32} {ν : xM} (ht : t < 16) : fX8_lays md (nI t) 10 v ν = some (xw ν (md + 1) (11 + 11 * t + 10) v) := y_lays (k := 10) ht (by decide)
-- the model's small words
theorem y_in {a b c : Int32} {ν : xM} : fX8_in a b c ν = some (if b ≤ a ∧ a ≤ c then 1 else 0, ν) := by
  unfold fX8_in
  by_cases h1 : a < b
  · rw [if_pos h1, if_neg (fun q => Int32.not_le.mpr h1 q.1)]
  · rw [if_neg h1]
    by_cases h2 : c < a
    · rw [if_pos h2, if_neg (fun q => Int32.not_le.mpr h2 q.2)]
    · rw [if_neg h2, if_pos ⟨Int32.not_lt.mp h1, Int32.not_lt.mp h2⟩]
theorem y_fails0 {md : Nat} {ν : xM} : fX8_fails md 0 ν = some (0, xw ν md 7 0) := by unfold fX8_fails; rw [if_pos (by decide)]
theorem y_fails1 {md : Nat} {ν : xM} : fX8_fails md 1 ν = some (1, xw ν md 7 1) := by unfold fX8_fails; rw [if_neg (by decide)]
theorem y_fails2 {md : Nat} {ν : xM} : fX8_fails md 2 ν = some (1, xw ν md 7 2) := by unfold fX8_fails; rw [if_neg (by decide)]
theorem y_fails3 {md : Nat} {ν : xM} : fX8_fails md 3 ν = some (1, xw ν md 7 3) := by unfold fX8_fails; rw [if_neg (by decide)]
def yrf (md : Nat) (p q d : Int32) (ν : xM) : xM := xw (xw (xw (xw ν md 7 p) md 8 q) md 9 d) md 10 (-1)
theorem y_refuses {md : Nat} {p q d : Int32} {ν : xM} : fX8_refuses md p q d ν = some (0, yrf md p q d ν) := rfl
theorem y_xw2 {μ : xM} {a k : Nat} {v w : Int32} : xw (xw μ a k v) a k w = xw μ a k w := by
  funext b j
  by_cases h1 : b = a <;> by_cases h2 : j = k <;> simp [xw, h1, h2]
theorem y_leN {a b : Nat} (ha : a < 2147483648) (hb : b < 2147483648) : (nI a ≤ nI b) = (a ≤ b) := propext (nI_leI ha hb)
theorem y_ltN {a b : Nat} (ha : a < 2147483648) (hb : b < 2147483648) : (nI a < nI b) = (a < b) := propext (nI_ltI ha hb)
theorem y_eqN {a b : Nat} (ha : a < 2147483648) (hb : b < 2147483648) : (nI a = nI b) = (a = b) := propext (nI_eq ha hb)
theorem y_ile {α : Type} {x y : α} {a b : Nat} (ha : a < 2147483648) (hb : b < 2147483648) : (if nI a ≤ nI b then x else y) = if a ≤ b then x else y := by simp only [y_leN ha hb]
theorem y_ilt {α : Type} {x y : α} {a b : Nat} (ha : a < 2147483648) (hb : b < 2147483648) : (if nI a < nI b then x else y) = if a < b then x else y := by simp only [y_ltN ha hb]
theorem y_ieq {α : Type} {x y : α} {a b : Nat} (ha : a < 2147483648) (hb : b < 2147483648) : (if nI a = nI b then x else y) = if a = b then x else y := by simp only [y_eqN ha hb]
theorem y_e0 {a : Nat} (h : a < 2147483648) : (nI a = 0) = (a = 0) := y_eqN (b := 0) h (by decide)
theorem y_e1 {a : Nat} (h : a < 2147483648) : (nI a = 1) = (a = 1) := y_eqN (b := 1) h (by decide)
theorem y_e3 {a : Nat} (h : a < 2147483648) : (nI a = 3) = (a = 3) := y_eqN (b := 3) h (by decide)
theorem y_i0 {α : Type} {x y : α} {a : Nat} (h : a < 2147483648) : (if nI a = 0 then x else y) = if a = 0 then x else y := by simp only [y_e0 h]
theorem y_i1 {α : Type} {x y : α} {a : Nat} (h : a < 2147483648) : (if nI a = 1 then x else y) = if a = 1 then x else y := by simp only [y_e1 h]
theorem y_i3 {α : Type} {x y : α} {a : Nat} (h : a < 2147483648) : (if nI a = 3 then x else y) = if a = 3 then x else y := by simp only [y_e3 h]
