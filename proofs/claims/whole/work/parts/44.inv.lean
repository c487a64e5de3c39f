/-! THE PURE PART: the relation of class and model, kept by each call -/
def ySn (W x : Nat) (μ : xM) : Prop := μ x 3 = μ (x + 251) 4 ∧ (μ x 3 = 0 ∨ (μ x 3 = 1 ∧ ∃ S J, yIJ W S J ∧ yC (x + 21) S J μ ∧ yM S J (μ (x + 254))))
def yRf (x : Nat) (μ : xM) : Prop := μ (x + 248) 0 = μ (x + 251) 8 ∧ (μ (x + 251) 8 ≠ 0 → μ (x + 248) 1 = μ (x + 251) 9) ∧ (μ (x + 251) 8 = 11 → 0 ≤ μ (x + 251) 10 ∧ μ (x + 248) 2 = μ (x + 251) 10 ∧ μ (x + 248) 3 = μ (x + 251) 11) ∧ (μ (x + 251) 8 ≠ 11 → μ (x + 251) 10 < 0)
def yIn (x : Nat) (μ : xM) : Prop := ∃ L, L ≤ 60 ∧ μ (x + 225) 2 = nI L ∧ μ (x + 251) 13 = nI L ∧ ∀ j, j < L → ∃ c, c < 65536 ∧ μ (x + 226) j = nI c ∧ μ (x + 256) j = nI c
def yLi (x : Nat) (μ : xM) : Prop := ∃ L, L ≤ 32 ∧ μ (x + 249) 3 = nI L ∧ μ (x + 251) 16 = nI L ∧ ∀ j, j < L → ∃ c, c < 65536 ∧ μ (x + 249) (4 + j) = nI c ∧ μ (x + 257) j = nI c
def yInv (x i : Nat) (μ : xM) : Prop := (∃ S J, yIJ (400 * i) S J ∧ yC (x + 1) S J μ ∧ yM S J (μ (x + 252))) ∧ yH (400 * i) (x + 61) (x + 251) μ μ ∧ ySn (400 * i) x μ ∧ yRf x μ ∧ yIn x μ ∧ μ x 10 = μ (x + 251) 14 ∧ yLi x μ ∧ μ (x + 251) 6 = 0
theorem ySn_congr {W W1 x : Nat} {μ μ1 : xM} (h : ySn W x μ) (hW : W ≤ W1) (e0 : μ1 x 3 = μ x 3) (e1 : μ1 (x + 251) 4 = μ (x + 251) 4) (e2 : ∀ a, x + 21 ≤ a → a < x + 41 → μ1 a = μ a) (e3 : μ1 (x + 254) = μ (x + 254)) : ySn W1 x μ1 := by
  obtain ⟨h1, h2⟩ := h
  refine ⟨by rw [e0, e1]; exact h1, ?_⟩
  rw [e0]
  rcases h2 with h2 | ⟨h2, S, J, k1, k2, k3⟩
  · exact Or.inl h2
  · exact Or.inr ⟨h2, S, J, yIJ_mono k1 hW, yC_congr k2 (fun a g1 g2 => e2 a g1 (by omega)) k1.1.1.1, by rw [e3]; exact k3⟩
theorem yRf_congr {x : Nat} {μ μ1 : xM} (h : yRf x μ) (e0 : μ1 (x + 248) = μ (x + 248)) (e1 : ∀ k, k ≠ 5 → k ≠ 7 → μ1 (x + 251) k = μ (x + 251) k) : yRf x μ1 := by
  unfold yRf at h ⊢
  rw [e0, e1 8 (by decide) (by decide), e1 9 (by decide) (by decide), e1 10 (by decide) (by decide), e1 11 (by decide) (by decide)]
  exact h
theorem yIn_congr {x : Nat} {μ μ1 : xM} (h : yIn x μ) (e0 : μ1 (x + 225) 2 = μ (x + 225) 2) (e1 : μ1 (x + 226) = μ (x + 226)) (e2 : μ1 (x + 251) 13 = μ (x + 251) 13) (e3 : μ1 (x + 256) = μ (x + 256)) : yIn x μ1 := by
  unfold yIn at h ⊢
  rw [e0, e1, e2, e3]
  exact h
theorem yLi_congr {x : Nat} {μ μ1 : xM} (h : yLi x μ) (e0 : μ1 (x + 249) = μ (x + 249)) (e1 : μ1 (x + 251) 16 = μ (x + 251) 16) (e2 : μ1 (x + 257) = μ (x + 257)) : yLi x μ1 := by
  unfold yLi at h ⊢
  rw [e0, e1, e2]
  exact h
/-- a call that only answers -/
theorem yInv_q {x i : Nat} {μ μ1 : xM} (h : yInv x i μ) (e : ∀ a, a ≠ x + 251 → a ≠ x + 259 → μ1 a = μ a) (e7 : ∀ k, k ≠ 7 → μ1 (x + 251) k = μ (x + 251) k) : yInv x (i + 1) μ1 := by
  obtain ⟨⟨S, J, h1, h2, h3⟩, hH, hS, hR, hN, hE, hL, h6⟩ := h
  have hW : 400 * i ≤ 400 * (i + 1) := by omega
  refine ⟨⟨S, J, yIJ_mono h1 hW, yC_congr h2 (fun a _ _ => e a (by omega) (by omega)) h1.1.1.1, by rw [e _ (by omega) (by omega)]; exact h3⟩, yH_mono (yH_congr hH (fun a _ _ => e a (by omega) (by omega)) (e7 5 (by decide)) (e (x + 251 + 2) (by omega) (by omega))) hW, ySn_congr hS hW (by rw [e x (by omega) (by omega)]) (e7 4 (by decide)) (fun a _ _ => e a (by omega) (by omega)) (e _ (by omega) (by omega)), yRf_congr hR (e _ (by omega) (by omega)) (fun k _ k7 => e7 k k7), yIn_congr hN (by rw [e _ (by omega) (by omega)]) (e _ (by omega) (by omega)) (e7 13 (by decide)) (e _ (by omega) (by omega)), by rw [e x (by omega) (by omega), e7 14 (by decide)]; exact hE, yLi_congr hL (e _ (by omega) (by omega)) (e7 16 (by decide)) (e _ (by omega) (by omega)), by rw [e7 6 (by decide)]; exact h6⟩
/-- the law's comparison -/
theorem y_gl {o1 : Option (Int32 × xM)} {M : xM → Option (Int32 × xM)} {md out : Nat} {code r2 : Int32} {m1 m2 : xM} (h1 : o1 = some (code, m1)) (h2 : M m1 = some (r2, m2)) (h3 : m2 md 7 = code) (h4 : code = 0 → m2 out 0 = r2) : xb o1 (fun r1 m1 => xb (M m1) (fun r2 m2 => xb (fX8_thrown md m2) (fun r3 m3 => if r3 = r1 then (if r1 = 0 then (if lg_cmp ((m3 out 0)).toInt64 r2.toInt64 = 0 then (some m3) else (none)) else (some m3)) else (none)))) = some m2 := by
  rw [h1, y_xb, h2, y_xb, fX8_thrown, y_xb, if_pos h3]
  by_cases c : code = 0
  · rw [if_pos c, h4 c, if_pos ((lg_cmp_eq _ _).mpr rfl)]
  · rw [if_neg c]
-- the exception of a verdict
def yex (v : Int32) : Nat := if v = -1 then 1 else if v = -3 then 4 else 2
theorem y_demandFine {x : Nat} {v : Int32} {μ : xM} (hv : v < 0 → v = -1 ∨ v = -2 ∨ v = -3) : (v < 0 → fX7_demandFine x v μ = some ((yex v, 0), μ)) ∧ (0 < v → fX7_demandFine x v μ = some ((3, 0), xw (xw μ (x + 248) 0 v) (x + 248) 1 (μ (x + 223) 0))) ∧ (v = 0 → fX7_demandFine x v μ = some ((0, 0), μ)) := by
  refine ⟨fun h => ?_, fun h => ?_, fun h => ?_⟩
  · rcases hv h with rfl | rfl | rfl
    · rw [fX7_demandFine, if_pos rfl]; rfl
    · rw [fX7_demandFine, if_neg (by decide), if_neg (by decide), if_pos rfl]; rfl
    · rw [fX7_demandFine, if_neg (by decide), if_pos rfl]; rfl
  · have n1 : ¬ v = -1 := fun q => by rw [q] at h; exact absurd h (by decide)
    have n2 : ¬ v = -2 := fun q => by rw [q] at h; exact absurd h (by decide)
    have n3 : ¬ v = -3 := fun q => by rw [q] at h; exact absurd h (by decide)
    have n0 : ¬ v = 0 := fun q => by rw [q] at h; exact absurd h (by decide)
    rw [fX7_demandFine, if_neg n1, if_neg n3, if_neg n2, if_neg n0, fX6_keep, y_xbv]
  · subst h
    rw [fX7_demandFine, if_neg (by decide), if_neg (by decide), if_neg (by decide), if_pos rfl]
-- which verdicts there are
theorem yvS_r {now p1 lo hi : Int32} : (yvS now p1 lo hi).1 = -2 ∨ (yvS now p1 lo hi).1 = 10 ∨ (yvS now p1 lo hi).1 = 0 := by
  unfold yvS
  by_cases c1 : p1 < lo ∨ hi < p1
  · rw [if_pos c1]; exact Or.inl rfl
  · rw [if_neg c1]
    by_cases c2 : p1 = now
    · rw [if_pos c2]; exact Or.inr (Or.inl rfl)
    · rw [if_neg c2]; exact Or.inr (Or.inr rfl)
theorem yvP_r {p1 p2 p3 : Int32} {S : Nat → Nat → Nat} {J : Nat → Int32} : (yvP p1 p2 p3 S J).1 = -1 ∨ (yvP p1 p2 p3 S J).1 = -2 ∨ (0 < (yvP p1 p2 p3 S J).1 ∧ (yvP p1 p2 p3 S J).1 ≠ 11) ∨ (yvP p1 p2 p3 S J).1 = 0 := by
  unfold yvP
  by_cases c1 : p1 < 0 ∨ 6 ≤ p1
  · rw [if_pos c1]; exact Or.inl rfl
  rw [if_neg c1]
  by_cases c2 : p2 < 1 ∨ 999 < p2 ∨ p3 < 1
  · rw [if_pos c2]; exact Or.inr (Or.inl rfl)
  rw [if_neg c2]
  by_cases c3 : ¬ p3 ≤ p2 * 60 / 100
  · rw [if_pos c3]; exact Or.inr (Or.inr (Or.inl (show (0 : Int32) < 2 ∧ (2 : Int32) ≠ 11 by decide)))
  rw [if_neg c3]
  by_cases c4 : 16 ≤ S 16 0
  · rw [if_pos c4]; exact Or.inr (Or.inr (Or.inl (show (0 : Int32) < 1 ∧ (1 : Int32) ≠ 11 by decide)))
  rw [if_neg c4]
  by_cases c5 : ¬ p3 ≤ J 0
  · rw [if_pos c5]; exact Or.inr (Or.inr (Or.inl (show (0 : Int32) < 3 ∧ (3 : Int32) ≠ 11 by decide)))
  rw [if_neg c5]; exact Or.inr (Or.inr (Or.inr rfl))
theorem yvC_r {p1 : Int32} {S : Nat → Nat → Nat} {J : Nat → Int32} : (yvC p1 S J).1 = -1 ∨ (0 < (yvC p1 S J).1 ∧ (yvC p1 S J).1 ≠ 11) ∨ (yvC p1 S J).1 = 0 := by
  unfold yvC
  by_cases c1 : p1 < 0 ∨ 6 ≤ p1
  · rw [if_pos c1]; exact Or.inl rfl
  rw [if_neg c1]
  by_cases c2 : J (1 + p1.toNatClampNeg) = 0
  · rw [if_pos c2]; exact Or.inr (Or.inl (show (0 : Int32) < 9 ∧ (9 : Int32) ≠ 11 by decide))
  rw [if_neg c2]
  by_cases c3 : ¬ J (1 + p1.toNatClampNeg) ≤ J 0
  · rw [if_pos c3]; exact Or.inr (Or.inl (show (0 : Int32) < 3 ∧ (3 : Int32) ≠ 11 by decide))
  rw [if_neg c3]; exact Or.inr (Or.inr rfl)
theorem yvT_r {K p2 : Int32} {c : Nat → Nat} : ((yvT K p2 c).1 = -2 ∧ (K = 115 ∨ K = 121)) ∨ (0 < (yvT K p2 c).1 ∧ (yvT K p2 c).1 ≠ 11) ∨ (yvT K p2 c).1 = 0 := by
  unfold yvT
  by_cases k1 : K = 115
  · rw [if_pos k1]
    by_cases c1 : p2 < 1 ∨ 9999 < p2
    · rw [if_pos c1]; exact Or.inl ⟨rfl, Or.inl k1⟩
    rw [if_neg c1]
    by_cases c2 : c 5 ≠ 1
    · rw [if_pos c2]; exact Or.inr (Or.inl (show (0 : Int32) < 7 ∧ (7 : Int32) ≠ 11 by decide))
    rw [if_neg c2]
    by_cases c3 : ¬ nI (c 8) ≤ p2
    · rw [if_pos c3]; exact Or.inr (Or.inl (show (0 : Int32) < 8 ∧ (8 : Int32) ≠ 11 by decide))
    rw [if_neg c3]; exact Or.inr (Or.inr rfl)
  · rw [if_neg k1]
    by_cases c1 : K = 121 ∧ p2 < 1
    · rw [if_pos c1]; exact Or.inl ⟨rfl, Or.inr c1.1⟩
    rw [if_neg c1]
    by_cases c2 : c 5 ≠ 0
    · rw [if_pos c2]; exact Or.inr (Or.inl (show (0 : Int32) < 4 ∧ (4 : Int32) ≠ 11 by decide))
    rw [if_neg c2]
    by_cases c3 : K = 121 ∧ nI (c 3 + c 4) ≤ p2
    · rw [if_pos c3]; exact Or.inr (Or.inl (show (0 : Int32) < 5 ∧ (5 : Int32) ≠ 11 by decide))
    rw [if_neg c3]
    by_cases c4 : K = 110 ∧ c 4 = 0
    · rw [if_pos c4]; exact Or.inr (Or.inl (show (0 : Int32) < 6 ∧ (6 : Int32) ≠ 11 by decide))
    rw [if_neg c4]; exact Or.inr (Or.inr rfl)
/-- a verdict v of the order K: below 0 it is one of K's own, above it is no 11 -/
def yvr (K v : Int32) : Prop := (v = -1 ∧ (K = 99 ∨ K = 112)) ∨ (v = -2 ∧ (K = 37 ∨ K = 102 ∨ K = 112 ∨ K = 115 ∨ K = 119 ∨ K = 121)) ∨ (v = -3 ∧ (K = 110 ∨ K = 114 ∨ K = 115 ∨ K = 121)) ∨ (0 < v ∧ v ≠ 11 ∧ K ≠ 119) ∨ v = 0
theorem yv_r {K p1 p2 p3 : Int32} {S : Nat → Nat → Nat} {J : Nat → Int32} (hK : yK K) : yvr K (yv K p1 p2 p3 S J).1 := by
  unfold yvr
  have tk : (K = 110 ∨ K = 114 ∨ K = 115 ∨ K = 121) → yvr K (yv K p1 p2 p3 S J).1 := by
    intro h
    have h119 : K ≠ 119 := by rcases h with rfl | rfl | rfl | rfl <;> decide
    unfold yvr
    rw [yv_tk h]
    by_cases c : p1 < 0 ∨ nI (S 16 0) ≤ p1
    · rw [if_pos c]; exact Or.inr (Or.inr (Or.inl ⟨rfl, h⟩))
    · rw [if_neg c]
      rcases yvT_r (K := K) (p2 := p2) (c := S p1.toNatClampNeg) with ⟨r, h2⟩ | ⟨r1, r2⟩ | r
      · exact Or.inr (Or.inl ⟨r, h2.elim (fun q => Or.inr (Or.inr (Or.inr (Or.inl q)))) (fun q => Or.inr (Or.inr (Or.inr (Or.inr (Or.inr q)))))⟩)
      · exact Or.inr (Or.inr (Or.inr (Or.inl ⟨r1, r2, h119⟩)))
      · exact Or.inr (Or.inr (Or.inr (Or.inr r)))
  rcases hK with rfl | rfl | rfl | rfl | rfl | rfl | rfl | rfl | rfl
  · rw [yv_37]
    rcases yvS_r (now := nI (S 16 2)) (p1 := p1) (lo := 1) (hi := 60) with r | r | r
    · exact Or.inr (Or.inl ⟨r, Or.inl rfl⟩)
    · exact Or.inr (Or.inr (Or.inr (Or.inl ⟨by rw [r]; decide, by rw [r]; decide, by decide⟩)))
    · exact Or.inr (Or.inr (Or.inr (Or.inr r)))
  · rw [yv_99]
    rcases yvC_r (p1 := p1) (S := S) (J := J) with r | ⟨r1, r2⟩ | r
    · exact Or.inl ⟨r, Or.inl rfl⟩
    · exact Or.inr (Or.inr (Or.inr (Or.inl ⟨r1, r2, by decide⟩)))
    · exact Or.inr (Or.inr (Or.inr (Or.inr r)))
  · rw [yv_102]
    rcases yvS_r (now := nI (S 16 3)) (p1 := p1) (lo := 0) (hi := 20) with r | r | r
    · exact Or.inr (Or.inl ⟨r, Or.inr (Or.inl rfl)⟩)
    · exact Or.inr (Or.inr (Or.inr (Or.inl ⟨by rw [r]; decide, by rw [r]; decide, by decide⟩)))
    · exact Or.inr (Or.inr (Or.inr (Or.inr r)))
  · exact tk (Or.inl rfl)
  · rw [yv_112]
    rcases yvP_r (p1 := p1) (p2 := p2) (p3 := p3) (S := S) (J := J) with r | r | ⟨r1, r2⟩ | r
    · exact Or.inl ⟨r, Or.inr rfl⟩
    · exact Or.inr (Or.inl ⟨r, Or.inr (Or.inr (Or.inl rfl))⟩)
    · exact Or.inr (Or.inr (Or.inr (Or.inl ⟨r1, r2, by decide⟩)))
    · exact Or.inr (Or.inr (Or.inr (Or.inr r)))
  · exact tk (Or.inr (Or.inl rfl))
  · exact tk (Or.inr (Or.inr (Or.inl rfl)))
  · rw [yv_119]
    by_cases c : p1 < 1 ∨ 20 < p1
    · rw [if_pos c]; exact Or.inr (Or.inl ⟨rfl, Or.inr (Or.inr (Or.inr (Or.inr (Or.inl rfl))))⟩)
    · rw [if_neg c]; exact Or.inr (Or.inr (Or.inr (Or.inr rfl)))
  · exact tk (Or.inr (Or.inr (Or.inr rfl)))
theorem y_irr {v : Int32} (h1 : v < 0) (h2 : 0 < v) : False := by
  rw [Int32.lt_iff_toInt_lt] at h1 h2
  omega
theorem yvr_neg {K v : Int32} (h : yvr K v) : v < 0 → v = -1 ∨ v = -2 ∨ v = -3 := by
  intro hv
  rcases h with h | h | h | h | h
  · exact Or.inl h.1
  · exact Or.inr (Or.inl h.1)
  · exact Or.inr (Or.inr h.1)
  · exact (y_irr hv h.1).elim
  · rw [h] at hv; exact absurd hv (by decide)
/-- a change, called -/
theorem y_chg {x i : Nat} {μ : xM} {K p1 p2 p3 : Int32} {M : xM → Option (Int32 × xM)} {E : Nat → xM → Option (Int32 × xM)} (h : yInv x i μ) (hi : i < 512) (hK : yK K) (hKc : xisC K) (hM : ∀ W S J b μ' ν, W < 80000000 → yI W S → yC b S J μ' → yM S J (ν (x + 251 + 1)) → yMo (x + 251) K (yv K p1 p2 p3 S J) (yopR K p1 p2 p3 S J) (yopS K p1 p2 p3 S) (yopJ K p1 p2 p3 S J) ν (M ν)) (hE : ∀ v m, yvr K v → (v < 0 → E (yex v) m = some (yth K v, m)) ∧ (0 < v → E 3 m = some (yla K, m))) :
    ∃ μ1, xb (xch (xcb (fX7_change x K p1 p2 p3 μ) (fun r1 m1 => some ((0, r1), m1))) (fun r1 m1 => some ((0 : Int32), (xw m1 (x + 259) 0 r1))) E) (fun r1 m1 => xb (M m1) (fun r2 m2 => xb (fX8_thrown (x + 251) m2) (fun r3 m3 => if r3 = r1 then (if r1 = 0 then (if lg_cmp ((m3 (x + 259) 0)).toInt64 r2.toInt64 = 0 then (some m3) else (none)) else (some m3)) else (none)))) = some μ1 ∧ yInv x (i + 1) μ1 ∧ μ1 (x + 249) = μ (x + 249) := by
  obtain ⟨⟨S, J, ⟨hI, hJ⟩, hC, hB⟩, hH, hS, hR, hN, hEr, hL, h6⟩ := h
  have hn := hI.1.1
  have hW : 400 * i < 80000000 := by omega
  have hW1 : 400 * i ≤ 400 * (i + 1) := by omega
  obtain ⟨m4, z1, ho4, hf4⟩ := y_spoken (h := x + 224) (p1 := p1) (p2 := p2) (p3 := p3) (μ := μ) hKc
  have hC4 : yC (x + 1) S J m4 := yC_congr hC (fun a g1 g2 => hf4 a (by omega)) hn
  have hex := y_examine (c := x + 223) hC4 hI ho4 (by omega) (by omega)
  have hr := yv_r (K := K) (p1 := p1) (p2 := p2) (p3 := p3) (S := S) (J := J) hK
  generalize hvd : yv K p1 p2 p3 S J = v at hex hr
  obtain ⟨d1, d2, d3⟩ := y_demandFine (x := x) (v := v.1) (μ := xw m4 (x + 223) 0 v.2) (yvr_neg hr)
  obtain ⟨g1, g2⟩ := hE v.1 (xw m4 (x + 223) 0 v.2) hr
  have f5 : ∀ a, a ≠ x + 223 → a ≠ x + 224 → (xw m4 (x + 223) 0 v.2) a = μ a := fun a a1 a2 => by rw [xw_row a1, hf4 a a2]
  have e252 : x + 251 + 1 = x + 252 := rfl
  have vs : v.1 < 0 ∨ 0 < v.1 ∨ v.1 = 0 := by
    rcases hr with r | r | r | r | r
    · exact Or.inl (by rw [r.1]; decide)
    · exact Or.inl (by rw [r.1]; decide)
    · exact Or.inl (by rw [r.1]; decide)
    · exact Or.inr (Or.inl r.1)
    · exact Or.inr (Or.inr r)
  rcases vs with c | c | c
  · -- it throws, and no reason is kept
    have hch : fX7_change x K p1 p2 p3 μ = some ((yex v.1, 0), xw m4 (x + 223) 0 v.2) := by
      rw [fX7_change, z1, hex, y_xb, d1 c]
      unfold yex
      by_cases c1 : v.1 = -1
      · rw [if_pos c1]; rfl
      · rw [if_neg c1]
        by_cases c2 : v.1 = -3
        · rw [if_pos c2]; rfl
        · rw [if_neg c2]; rfl
    have hxe : ∃ e, yex v.1 = e + 1 := by
      unfold yex
      by_cases c1 : v.1 = -1
      · exact ⟨0, by rw [if_pos c1]⟩
      · rw [if_neg c1]
        by_cases c2 : v.1 = -3
        · exact ⟨3, by rw [if_pos c2]⟩
        · exact ⟨1, by rw [if_neg c2]⟩
    obtain ⟨e, he⟩ := hxe
    have h1 : xch (xcb (fX7_change x K p1 p2 p3 μ) (fun r1 m1 => some ((0, r1), m1))) (fun r1 m1 => some ((0 : Int32), (xw m1 (x + 259) 0 r1))) E = some (yth K v.1, xw m4 (x + 223) 0 v.2) := by
      rw [hch, he, y_xcbS, y_xchS, ← he]
      exact g1 c
    have hm := hM (400 * i) S J (x + 1) μ (xw m4 (x + 223) 0 v.2) hW hI hC (by rw [f5 _ (by omega) (by omega)]; exact hB)
    rw [hvd] at hm
    have hm1 := hm.1 c
    have n0 : yth K v.1 ≠ 0 := by
      unfold yth
      by_cases c1 : v.1 = -2 ∧ (K = 112 ∨ K = 121 ∨ K = 115)
      · rw [if_pos c1]; decide
      · rw [if_neg c1]; decide
    refine ⟨_, y_gl h1 hm1 (xw_same _ _ _ _) (fun q => absurd q n0), ?_, by rw [xw_row (by omega), f5 _ (by omega) (by omega)]⟩
    have ea : ∀ a, a ≠ x + 223 → a ≠ x + 224 → a ≠ x + 251 → (xw (xw m4 (x + 223) 0 v.2) (x + 251) 7 (yth K v.1)) a = μ a := fun a a1 a2 a3 => by rw [xw_row a3, f5 a a1 a2]
    have e7 : ∀ k, k ≠ 7 → (xw (xw m4 (x + 223) 0 v.2) (x + 251) 7 (yth K v.1)) (x + 251) k = μ (x + 251) k := fun k k7 => by rw [y_wk k7, f5 _ (by omega) (by omega)]
    exact ⟨⟨S, J, ⟨yI_mono hI hW1, yJb_mono hJ hW1⟩, yC_congr hC (fun a _ _ => ea a (by omega) (by omega) (by omega)) hn, by rw [ea _ (by omega) (by omega) (by omega)]; exact hB⟩, yH_mono (yH_congr hH (fun a _ _ => ea a (by omega) (by omega) (by omega)) (e7 5 (by decide)) (ea (x + 251 + 2) (by omega) (by omega) (by omega))) hW1, ySn_congr hS hW1 (by rw [ea x (by omega) (by omega) (by omega)]) (e7 4 (by decide)) (fun a _ _ => ea a (by omega) (by omega) (by omega)) (ea _ (by omega) (by omega) (by omega)), yRf_congr hR (ea _ (by omega) (by omega) (by omega)) (fun k _ k7 => e7 k k7), yIn_congr hN (by rw [ea _ (by omega) (by omega) (by omega)]) (ea _ (by omega) (by omega) (by omega)) (e7 13 (by decide)) (ea _ (by omega) (by omega) (by omega)), by rw [ea x (by omega) (by omega) (by omega), e7 14 (by decide)]; exact hEr, yLi_congr hL (ea _ (by omega) (by omega) (by omega)) (e7 16 (by decide)) (ea _ (by omega) (by omega) (by omega)), by rw [e7 6 (by decide)]; exact h6⟩
  · -- it is refused
    have m23 : (xw m4 (x + 223) 0 v.2) (x + 223) 0 = v.2 := xw_same _ _ _ _
    have hch : fX7_change x K p1 p2 p3 μ = some ((3, 0), xw (xw (xw m4 (x + 223) 0 v.2) (x + 248) 0 v.1) (x + 248) 1 v.2) := by
      rw [fX7_change, z1, hex, y_xb, d2 c, m23]
      rfl
    have g2' := (hE v.1 (xw (xw (xw m4 (x + 223) 0 v.2) (x + 248) 0 v.1) (x + 248) 1 v.2) hr).2 c
    have h1 : xch (xcb (fX7_change x K p1 p2 p3 μ) (fun r1 m1 => some ((0, r1), m1))) (fun r1 m1 => some ((0 : Int32), (xw m1 (x + 259) 0 r1))) E = some (yla K, xw (xw (xw m4 (x + 223) 0 v.2) (x + 248) 0 v.1) (x + 248) 1 v.2) := by
      rw [hch, y_xcbS 2, y_xchS 2]
      exact g2'
    have f6 : ∀ a, a ≠ x + 223 → a ≠ x + 224 → a ≠ x + 248 → (xw (xw (xw m4 (x + 223) 0 v.2) (x + 248) 0 v.1) (x + 248) 1 v.2) a = μ a := fun a a1 a2 a3 => by rw [xw_row a3, xw_row a3, f5 a a1 a2]
    have hm := hM (400 * i) S J (x + 1) μ (xw (xw (xw m4 (x + 223) 0 v.2) (x + 248) 0 v.1) (x + 248) 1 v.2) hW hI hC (by rw [f6 _ (by omega) (by omega) (by omega)]; exact hB)
    rw [hvd] at hm
    have hm1 := hm.2.1 c
    have n0 : yla K ≠ 0 := by
      unfold yla
      by_cases c1 : K = 112 ∨ K = 121 ∨ K = 115
      · rw [if_pos c1]; decide
      · rw [if_neg c1]; decide
    generalize hX : xw (xw (xw m4 (x + 223) 0 v.2) (x + 248) 0 v.1) (x + 248) 1 v.2 = X at h1 f6 hm1
    have x0 : X (x + 248) 0 = v.1 := by rw [← hX, y_wk (by decide), xw_same]
    have x1 : X (x + 248) 1 = v.2 := by rw [← hX, xw_same]
    have e7 : ∀ k, k ≠ 7 → k ≠ 8 → k ≠ 9 → k ≠ 10 → (yrf (x + 251) (yla K) v.1 v.2 X) (x + 251) k = μ (x + 251) k := fun k a1 a2 a3 a4 => by unfold yrf; rw [y_wk a4, y_wk a3, y_wk a2, y_wk a1, f6 _ (by omega) (by omega) (by omega)]
    have ea : ∀ a, a ≠ x + 251 → (yrf (x + 251) (yla K) v.1 v.2 X) a = X a := fun a a1 => by unfold yrf; rw [xw_row a1, xw_row a1, xw_row a1, xw_row a1]
    have eb : ∀ a, a ≠ x + 223 → a ≠ x + 224 → a ≠ x + 248 → a ≠ x + 251 → (yrf (x + 251) (yla K) v.1 v.2 X) a = μ a := fun a a1 a2 a3 a4 => by rw [ea a a4, f6 a a1 a2 a3]
    have y7 : (yrf (x + 251) (yla K) v.1 v.2 X) (x + 251) 7 = yla K := by unfold yrf; rw [y_wk (by decide), y_wk (by decide), y_wk (by decide), xw_same]
    have y8 : (yrf (x + 251) (yla K) v.1 v.2 X) (x + 251) 8 = v.1 := by unfold yrf; rw [y_wk (by decide), y_wk (by decide), xw_same]
    have y9 : (yrf (x + 251) (yla K) v.1 v.2 X) (x + 251) 9 = v.2 := by unfold yrf; rw [y_wk (by decide), xw_same]
    have y10 : (yrf (x + 251) (yla K) v.1 v.2 X) (x + 251) 10 = -1 := by unfold yrf; rw [xw_same]
    have n11 : v.1 ≠ 11 := by
      rcases hr with r | r | r | r | r
      · rw [r.1]; decide
      · rw [r.1]; decide
      · rw [r.1]; decide
      · exact r.2.1
      · rw [r]; decide
    refine ⟨_, y_gl h1 hm1 y7 (fun q => absurd q n0), ?_, eb _ (by omega) (by omega) (by omega) (by omega)⟩
    refine ⟨⟨S, J, ⟨yI_mono hI hW1, yJb_mono hJ hW1⟩, yC_congr hC (fun a _ _ => eb a (by omega) (by omega) (by omega) (by omega)) hn, by rw [eb _ (by omega) (by omega) (by omega) (by omega)]; exact hB⟩, yH_mono (yH_congr hH (fun a _ _ => eb a (by omega) (by omega) (by omega) (by omega)) (e7 5 (by decide) (by decide) (by decide) (by decide)) (eb (x + 251 + 2) (by omega) (by omega) (by omega) (by omega))) hW1, ySn_congr hS hW1 (by rw [eb x (by omega) (by omega) (by omega) (by omega)]) (e7 4 (by decide) (by decide) (by decide) (by decide)) (fun a _ _ => eb a (by omega) (by omega) (by omega) (by omega)) (eb _ (by omega) (by omega) (by omega) (by omega)), ?_, yIn_congr hN (by rw [eb _ (by omega) (by omega) (by omega) (by omega)]) (eb _ (by omega) (by omega) (by omega) (by omega)) (e7 13 (by decide) (by decide) (by decide) (by decide)) (eb _ (by omega) (by omega) (by omega) (by omega)), by rw [eb x (by omega) (by omega) (by omega) (by omega), e7 14 (by decide) (by decide) (by decide) (by decide)]; exact hEr, yLi_congr hL (eb _ (by omega) (by omega) (by omega) (by omega)) (e7 16 (by decide) (by decide) (by decide) (by decide)) (eb _ (by omega) (by omega) (by omega) (by omega)), by rw [e7 6 (by decide) (by decide) (by decide) (by decide)]; exact h6⟩
    unfold yRf
    rw [y8, y9, y10, ea _ (by omega), x0, x1]
    exact ⟨rfl, fun _ => rfl, fun q => absurd q n11, fun _ => by decide⟩
  · -- it is carried out
    have hC5 : yC (x + 1) S J (xw m4 (x + 223) 0 v.2) := yC_congr hC (fun a _ _ => f5 a (by omega) (by omega)) hn
    have hH5 : yH (400 * i) (x + 61) (x + 251) (xw m4 (x + 223) 0 v.2) μ := yH_congr hH (fun a _ _ => f5 a (by omega) (by omega)) rfl rfl
    obtain ⟨m7, k1, k2, k3⟩ := yH_keep (b := x + 1) (w := x + 251 + 1) (by omega) (by omega) (by omega) hH5 ⟨hI, hJ⟩ hC5
    have hC7 : yC (x + 1) S J m7 := yC_congr hC5 (fun a _ _ => k2 a (by omega)) hn
    have ho7 : yOr (x + 224) K p1 p2 p3 m7 := by unfold yOr; rw [k2 (x + 224) (by omega), xw_row (by omega)]; exact ho4
    have hv0 : (yv K p1 p2 p3 S J).1 = 0 := by rw [hvd]; exact c
    obtain ⟨m8, l1, l2, l3⟩ := y_carry hC7 hI hW ho7 (by omega) hK hv0
    have hI8 := y_inv hC hI hW hK hv0
    have hch : fX7_change x K p1 p2 p3 μ = some ((0, yopR K p1 p2 p3 S J), m8) := by
      rw [fX7_change, z1, hex, y_xb, d3 c, y_xcb0, k1, y_xbv, l1, y_xb]
    have h1 : xch (xcb (fX7_change x K p1 p2 p3 μ) (fun r1 m1 => some ((0, r1), m1))) (fun r1 m1 => some ((0 : Int32), (xw m1 (x + 259) 0 r1))) E = some (0, xw m8 (x + 259) 0 (yopR K p1 p2 p3 S J)) := by
      rw [hch, y_xcb0, y_xch0]
    have f8 : ∀ a, (a < x + 1 ∨ x + 21 ≤ a) → (a < x + 61 ∨ x + 223 ≤ a) → a ≠ x + 223 → a ≠ x + 224 → m8 a = μ a := fun a a1 a2 a3 a4 => by rw [l3 a (by omega), k2 a (by omega), f5 a a3 a4]
    have f9 : ∀ a, (a < x + 1 ∨ x + 21 ≤ a) → (a < x + 61 ∨ x + 223 ≤ a) → a ≠ x + 223 → a ≠ x + 224 → a ≠ x + 259 → (xw m8 (x + 259) 0 (yopR K p1 p2 p3 S J)) a = μ a := fun a a1 a2 a3 a4 a5 => by rw [xw_row a5, f8 a a1 a2 a3 a4]
    generalize hX : xw m8 (x + 259) 0 (yopR K p1 p2 p3 S J) = X at h1 f9
    have x8 : ∀ a, a ≠ x + 259 → X a = m8 a := fun a a1 => by rw [← hX, xw_row a1]
    have xo : X (x + 259) 0 = yopR K p1 p2 p3 S J := by rw [← hX, xw_same]
    have hm := hM (400 * i) S J (x + 1) μ X hW hI hC (by rw [f9 _ (by omega) (by omega) (by omega) (by omega) (by omega)]; exact hB)
    have hX51 : ∀ k, k ≠ 7 → (xw X (x + 251) 7 0) (x + 251) k = μ (x + 251) k := fun k k7 => by rw [y_wk k7, f9 _ (by omega) (by omega) (by omega) (by omega) (by omega)]
    have hX2 : ∀ a, x + 251 < a → a < x + 259 → (xw X (x + 251) 7 0) a = μ a := fun a a1 a2 => by rw [xw_row (by omega), f9 _ (by omega) (by omega) (by omega) (by omega) (by omega)]
    obtain ⟨n1, q1, q2, q3, q4, q5⟩ := k3 (xw X (x + 251) 7 0) (hX51 5 (by decide)) (hX2 _ (by omega) (by omega)) (by rw [hX51 6 (by decide)]; exact h6) (by rw [hX2 _ (by omega) (by omega)]; exact hB)
    obtain ⟨n2, r1, r2, r3⟩ := hm.2.2 hv0 n1 q1 (by rw [q4 _ (by omega) (by omega), xw_row (by omega)])
    have s7 : n2 (x + 251) 7 = 0 := by rw [r3 _ (by omega)]; exact q2
    have sk : ∀ k, k ≠ 5 → k ≠ 7 → n2 (x + 251) k = μ (x + 251) k := fun k k5 k7 => by rw [r3 _ (by omega), q3 k k5 k7, hX51 k k7]
    have sX : ∀ a, a ≠ x + 251 → a ≠ x + 252 → a ≠ x + 253 → n2 a = X a := fun a a1 a2 a3 => by rw [r3 a a2, q4 a a1 a3, xw_row a1]
    have sa : ∀ a, (a < x + 1 ∨ x + 21 ≤ a) → (a < x + 61 ∨ x + 223 ≤ a) → a ≠ x + 223 → a ≠ x + 224 → a ≠ x + 259 → a ≠ x + 251 → a ≠ x + 252 → a ≠ x + 253 → n2 a = μ a := fun a a1 a2 a3 a4 a5 a6 a7 a8 => by rw [sX a a6 a7 a8, f9 a a1 a2 a3 a4 a5]
    refine ⟨n2, y_gl h1 r1 s7 (fun _ => by rw [sX _ (by omega) (by omega) (by omega), xo]), ?_, sa _ (by omega) (by omega) (by omega) (by omega) (by omega) (by omega) (by omega) (by omega)⟩
    have hn8 := hI8.1.1
    refine ⟨⟨_, _, ⟨yI_mono hI8 (by omega), yJb_mono (y_invJ hI hJ hK hv0) (by omega)⟩, yC_congr l2 (fun a _ _ => by rw [sX a (by omega) (by omega) (by omega), x8 a (by omega)]) hn8, r2⟩, yH_mono (yH_congr q5 (fun a _ _ => by rw [sX a (by omega) (by omega) (by omega), x8 a (by omega), l3 a (by omega)]) (by rw [r3 _ (by omega)]) (r3 _ (by omega))) hW1, ySn_congr hS hW1 (by rw [sa x (by omega) (by omega) (by omega) (by omega) (by omega) (by omega) (by omega) (by omega)]) (sk 4 (by decide) (by decide)) (fun a _ _ => sa a (by omega) (by omega) (by omega) (by omega) (by omega) (by omega) (by omega) (by omega)) (sa _ (by omega) (by omega) (by omega) (by omega) (by omega) (by omega) (by omega) (by omega)), yRf_congr hR (sa _ (by omega) (by omega) (by omega) (by omega) (by omega) (by omega) (by omega) (by omega)) sk, yIn_congr hN (by rw [sa _ (by omega) (by omega) (by omega) (by omega) (by omega) (by omega) (by omega) (by omega)]) (sa _ (by omega) (by omega) (by omega) (by omega) (by omega) (by omega) (by omega) (by omega)) (sk 13 (by decide) (by decide)) (sa _ (by omega) (by omega) (by omega) (by omega) (by omega) (by omega) (by omega) (by omega)), by rw [sa x (by omega) (by omega) (by omega) (by omega) (by omega) (by omega) (by omega) (by omega), sk 14 (by decide) (by decide)]; exact hEr, yLi_congr hL (sa _ (by omega) (by omega) (by omega) (by omega) (by omega) (by omega) (by omega) (by omega)) (sk 16 (by decide) (by decide)) (sa _ (by omega) (by omega) (by omega) (by omega) (by omega) (by omega) (by omega) (by omega)), by rw [sk 6 (by decide) (by decide)]; exact h6⟩
