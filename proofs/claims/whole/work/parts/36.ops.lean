/-! THE PURE PART: the nine changes together -/
def yopR (K p1 p2 p3 : Int32) (S : Nat → Nat → Nat) (J : Nat → Int32) : Int32 :=
  if K = 37 then nI (S 16 2) else if K = 102 then nI (S 16 3) else if K = 110 then nI (S p1.toNatClampNeg 4) else if K = 112 then nI (S 16 0) else if K = 114 then nI (S p1.toNatClampNeg 3 + S p1.toNatClampNeg 4) else if K = 115 then nI (p2.toNatClampNeg - S p1.toNatClampNeg 10) else if K = 119 then nI (yweeks S p1.toNatClampNeg 16 4) - nI (S 16 4) else if K = 121 then nI (ypay (S p1.toNatClampNeg) p2.toNatClampNeg 3 + ypay (S p1.toNatClampNeg) p2.toNatClampNeg 4) else J (1 + p1.toNatClampNeg)
def yopS (K p1 p2 p3 : Int32) (S : Nat → Nat → Nat) : Nat → Nat → Nat :=
  if K = 37 then yu S 16 2 p1.toNatClampNeg else if K = 102 then yu S 16 3 p1.toNatClampNeg else if K = 110 then yRene S p1.toNatClampNeg else if K = 112 then yLend S p1.toNatClampNeg p2.toNatClampNeg p3.toNatClampNeg else if K = 114 then yRede S p1.toNatClampNeg else if K = 115 then ySell S p1.toNatClampNeg p2.toNatClampNeg else if K = 119 then yweeks S p1.toNatClampNeg else if K = 121 then yrow S p1.toNatClampNeg (ypay (S p1.toNatClampNeg) p2.toNatClampNeg) else S
def yopJ (K p1 p2 p3 : Int32) (S : Nat → Nat → Nat) (J : Nat → Int32) : Nat → Int32 :=
  if K = 37 then J else if K = 102 then J else if K = 110 then yj J 0 (J 0 + nI (S p1.toNatClampNeg 4)) else if K = 112 then yj J 0 (J 0 - nI p3.toNatClampNeg) else if K = 114 then yj J 0 (J 0 + nI (S p1.toNatClampNeg 3 + S p1.toNatClampNeg 4)) else if K = 115 then yj (yj J (1 + S p1.toNatClampNeg 0) (J (1 + S p1.toNatClampNeg 0) + nI (p2.toNatClampNeg - S p1.toNatClampNeg 10))) 0 (J 0 + nI p2.toNatClampNeg) else if K = 119 then J else if K = 121 then yj J 0 (J 0 + nI p2.toNatClampNeg) else yj (yj (yj J (1 + p1.toNatClampNeg) 0) (7 + p1.toNatClampNeg) (J (7 + p1.toNatClampNeg) + J (1 + p1.toNatClampNeg))) 0 (J 0 - J (1 + p1.toNatClampNeg))
def yK (K : Int32) : Prop := K = 37 ∨ K = 99 ∨ K = 102 ∨ K = 110 ∨ K = 112 ∨ K = 114 ∨ K = 115 ∨ K = 119 ∨ K = 121
-- what the verdict 0 says
theorem y_rng {p : Int32} {lo hi : Nat} (hh : hi < 2147483648) (h1 : ¬ p < nI lo) (h2 : ¬ nI hi < p) (hl : lo < 2147483648) : ∃ q, p = nI q ∧ lo ≤ q ∧ q ≤ hi := by
  have h0 : ¬ p < 0 := by
    intro q
    refine h1 (Int32.lt_iff_toInt_lt.mpr ?_)
    have q := Int32.lt_iff_toInt_lt.mp q
    have e0 : (0 : Int32).toInt = 0 := by decide
    rw [e0] at q
    rw [nI_toInt (by omega)]
    omega
  obtain ⟨j, hj, rfl⟩ := nI_of h0
  refine ⟨j, rfl, ?_, ?_⟩
  · rw [nI_ltI hj (by omega)] at h1; omega
  · rw [nI_ltI (by omega) hj] at h2; omega
theorem yv_S {now p1 : Int32} {lo hi : Nat} (hl : lo ≤ hi) (hh : hi < 2147483648) (h : (yvS now p1 (nI lo) (nI hi)).1 = 0) : ∃ q, p1 = nI q ∧ lo ≤ q ∧ q ≤ hi ∧ nI q ≠ now := by
  unfold yvS at h
  by_cases c1 : p1 < nI lo ∨ nI hi < p1
  · rw [if_pos c1] at h; exact absurd h (by decide)
  · rw [if_neg c1] at h
    obtain ⟨q, rfl, h1, h2⟩ := y_rng hh (fun q => c1 (Or.inl q)) (fun q => c1 (Or.inr q)) (by omega)
    by_cases c2 : nI q = now
    · rw [if_pos c2] at h; exact absurd h (show ¬ (10 : Int32) = 0 by decide)
    · exact ⟨q, rfl, h1, h2, c2⟩
theorem yv_P {p1 p2 p3 : Int32} {S : Nat → Nat → Nat} {J : Nat → Int32} (h : (yvP p1 p2 p3 S J).1 = 0) : ∃ ow wo lo, p1 = nI ow ∧ p2 = nI wo ∧ p3 = nI lo ∧ ow < 6 ∧ wo ≤ 999 ∧ 1 ≤ lo ∧ lo ≤ wo * 60 / 100 ∧ S 16 0 < 16 ∧ nI lo ≤ J 0 := by
  unfold yvP at h
  by_cases c1 : p1 < 0 ∨ 6 ≤ p1
  · rw [if_pos c1] at h; exact absurd h (by decide)
  rw [if_neg c1] at h
  by_cases c2 : p2 < 1 ∨ 999 < p2 ∨ p3 < 1
  · rw [if_pos c2] at h; exact absurd h (by decide)
  rw [if_neg c2] at h
  obtain ⟨ow, how, rfl⟩ := y_nin (n := 6) (by decide) c1
  obtain ⟨wo, rfl, hw1, hw2⟩ := y_rng (p := p2) (lo := 1) (hi := 999) (by decide) (fun q => c2 (Or.inl q)) (fun q => c2 (Or.inr (Or.inl q))) (by decide)
  have hm : nI wo * 60 / 100 = nI (wo * 60 / 100) := by
    rw [show (60 : Int32) = nI 60 from rfl, pk_mul, show (100 : Int32) = nI 100 from rfl, pk_div (by omega) (by decide) (by decide)]
  rw [hm] at h
  by_cases c3 : p3 ≤ nI (wo * 60 / 100)
  · rw [if_neg (fun q => q c3)] at h
    obtain ⟨lo, rfl, hl1, hl2⟩ := y_rng (p := p3) (lo := 1) (hi := wo * 60 / 100) (by omega) (fun q => c2 (Or.inr (Or.inr q))) (Int32.not_lt.mpr c3) (by decide)
    by_cases c4 : 16 ≤ S 16 0
    · rw [if_pos c4] at h; exact absurd h (by decide)
    rw [if_neg c4] at h
    by_cases c5 : nI lo ≤ J 0
    · exact ⟨ow, wo, lo, rfl, rfl, rfl, how, hw2, hl1, hl2, by omega, c5⟩
    · rw [if_pos c5] at h; exact absurd h (by show ¬ (3 : Int32) = 0; decide)
  · rw [if_pos c3] at h; exact absurd h (by show ¬ (2 : Int32) = 0; decide)
theorem yv_C {p1 : Int32} {S : Nat → Nat → Nat} {J : Nat → Int32} (h : (yvC p1 S J).1 = 0) : ∃ o, p1 = nI o ∧ o < 6 ∧ J (1 + o) ≠ 0 ∧ J (1 + o) ≤ J 0 := by
  unfold yvC at h
  by_cases c1 : p1 < 0 ∨ 6 ≤ p1
  · rw [if_pos c1] at h; exact absurd h (by decide)
  rw [if_neg c1] at h
  obtain ⟨o, ho, rfl⟩ := y_nin (n := 6) (by decide) c1
  rw [nI_clamp (by omega)] at h
  by_cases c2 : J (1 + o) = 0
  · rw [if_pos c2] at h; exact absurd h (by show ¬ (9 : Int32) = 0; decide)
  rw [if_neg c2] at h
  by_cases c3 : J (1 + o) ≤ J 0
  · exact ⟨o, rfl, ho, c2, c3⟩
  · rw [if_pos c3] at h; exact absurd h (by show ¬ (3 : Int32) = 0; decide)
theorem yv_T {K p2 : Int32} {c : Nat → Nat} (h : (yvT K p2 c).1 = 0) : (K = 115 → c 5 = 1 ∧ nI (c 8) ≤ p2 ∧ ∃ q, p2 = nI q ∧ 1 ≤ q ∧ q ≤ 9999) ∧ (K ≠ 115 → c 5 = 0) ∧ (K = 121 → ¬ p2 < 1 ∧ ¬ nI (c 3 + c 4) ≤ p2) ∧ (K = 110 → c 4 ≠ 0) := by
  unfold yvT at h
  by_cases k1 : K = 115
  · rw [if_pos k1] at h
    refine ⟨fun _ => ?_, fun q => absurd k1 q, fun q => absurd (k1.symm.trans q) (by decide), fun q => absurd (k1.symm.trans q) (by decide)⟩
    by_cases c1 : p2 < 1 ∨ 9999 < p2
    · rw [if_pos c1] at h; exact absurd h (by decide)
    rw [if_neg c1] at h
    by_cases c2 : c 5 = 1
    · rw [if_neg (fun q => q c2)] at h
      by_cases c3 : nI (c 8) ≤ p2
      · exact ⟨c2, c3, y_rng (lo := 1) (hi := 9999) (by decide) (fun q => c1 (Or.inl q)) (fun q => c1 (Or.inr q)) (by decide)⟩
      · rw [if_pos c3] at h; exact absurd h (by show ¬ (8 : Int32) = 0; decide)
    · rw [if_pos c2] at h; exact absurd h (by show ¬ (7 : Int32) = 0; decide)
  · rw [if_neg k1] at h
    by_cases c1 : K = 121 ∧ p2 < 1
    · rw [if_pos c1] at h; exact absurd h (by decide)
    rw [if_neg c1] at h
    by_cases c2 : c 5 = 0
    · rw [if_neg (fun q => q c2)] at h
      by_cases c3 : K = 121 ∧ nI (c 3 + c 4) ≤ p2
      · rw [if_pos c3] at h; exact absurd h (by show ¬ (5 : Int32) = 0; decide)
      rw [if_neg c3] at h
      by_cases c4 : K = 110 ∧ c 4 = 0
      · rw [if_pos c4] at h; exact absurd h (by show ¬ (6 : Int32) = 0; decide)
      exact ⟨fun q => absurd q k1, fun _ => c2, fun q => ⟨fun q2 => c1 ⟨q, q2⟩, fun q2 => c3 ⟨q, q2⟩⟩, fun q q2 => c4 ⟨q, q2⟩⟩
    · rw [if_pos c2] at h; exact absurd h (by show ¬ (4 : Int32) = 0; decide)
theorem yv_37 {p1 p2 p3 : Int32} {S : Nat → Nat → Nat} {J : Nat → Int32} : yv 37 p1 p2 p3 S J = yvS (nI (S 16 2)) p1 1 60 := by unfold yv; rw [if_pos rfl]
theorem yv_99 {p1 p2 p3 : Int32} {S : Nat → Nat → Nat} {J : Nat → Int32} : yv 99 p1 p2 p3 S J = yvC p1 S J := by unfold yv; rw [if_neg (by decide), if_pos rfl]
theorem yv_102 {p1 p2 p3 : Int32} {S : Nat → Nat → Nat} {J : Nat → Int32} : yv 102 p1 p2 p3 S J = yvS (nI (S 16 3)) p1 0 20 := by unfold yv; rw [if_neg (by decide), if_neg (by decide), if_pos rfl]
theorem yv_112 {p1 p2 p3 : Int32} {S : Nat → Nat → Nat} {J : Nat → Int32} : yv 112 p1 p2 p3 S J = yvP p1 p2 p3 S J := by unfold yv; rw [if_neg (by decide), if_neg (by decide), if_neg (by decide), if_pos rfl]
theorem yv_119 {p1 p2 p3 : Int32} {S : Nat → Nat → Nat} {J : Nat → Int32} : yv 119 p1 p2 p3 S J = if p1 < 1 ∨ 20 < p1 then (-2, 0) else (0, 0) := by unfold yv; rw [if_neg (by decide), if_neg (by decide), if_neg (by decide), if_neg (by decide), if_pos rfl]
theorem yv_tk {K p1 p2 p3 : Int32} {S : Nat → Nat → Nat} {J : Nat → Int32} (h : K = 110 ∨ K = 114 ∨ K = 115 ∨ K = 121) : yv K p1 p2 p3 S J = if p1 < 0 ∨ nI (S 16 0) ≤ p1 then (-3, 0) else yvT K p2 (S p1.toNatClampNeg) := by
  unfold yv
  rcases h with rfl | rfl | rfl | rfl <;> rw [if_neg (by decide), if_neg (by decide), if_neg (by decide), if_neg (by decide), if_neg (by decide)]
theorem yv_tick {K p1 p2 p3 : Int32} {S : Nat → Nat → Nat} {J : Nat → Int32} (hn : S 16 0 ≤ 16) (h : K = 110 ∨ K = 114 ∨ K = 115 ∨ K = 121) (hv : (yv K p1 p2 p3 S J).1 = 0) : ∃ t, t < S 16 0 ∧ p1 = nI t ∧ (yvT K p2 (S t)).1 = 0 := by
  rw [yv_tk h] at hv
  by_cases c : p1 < 0 ∨ nI (S 16 0) ≤ p1
  · rw [if_pos c] at hv; exact absurd hv (show ¬ (-3 : Int32) = 0 by decide)
  · rw [if_neg c] at hv
    obtain ⟨t, ht, rfl⟩ := y_nin (by omega) c
    rw [nI_clamp (by omega)] at hv
    exact ⟨t, ht, rfl, hv⟩
theorem yv_pass {p1 p2 p3 : Int32} {S : Nat → Nat → Nat} {J : Nat → Int32} (hv : (yv 119 p1 p2 p3 S J).1 = 0) : ∃ k, p1 = nI k ∧ 1 ≤ k ∧ k ≤ 20 := by
  rw [yv_119] at hv
  by_cases c : p1 < 1 ∨ 20 < p1
  · rw [if_pos c] at hv; exact absurd hv (show ¬ (-2 : Int32) = 0 by decide)
  · exact y_rng (p := p1) (lo := 1) (hi := 20) (by decide) (fun q => c (Or.inl q)) (fun q => c (Or.inr q)) (by decide)
theorem yv_payq {t : Nat} {p2 : Int32} {S : Nat → Nat → Nat} {w L : Nat} (p : yP w L (S t)) (hv : (yvT 121 p2 (S t)).1 = 0) : ∃ q, p2 = nI q ∧ 1 ≤ q ∧ q < S t 3 + S t 4 := by
  obtain ⟨w1, w2⟩ := (yv_T hv).2.2.1 rfl
  obtain ⟨p0, p1', p3', p4, -⟩ := p
  obtain ⟨q, rfl, w3, w4⟩ := y_rng (p := p2) (lo := 1) (hi := S t 3 + S t 4) (by omega) w1 (fun q => w2 (Int32.le_of_lt q)) (by decide)
  rw [nI_leI (by omega) (by omega)] at w2
  exact ⟨q, rfl, w3, by omega⟩
-- the nine, by their letters
def yD (K p1 p2 p3 : Int32) (S : Nat → Nat → Nat) (J : Nat → Int32) (R : Int32) (S1 : Nat → Nat → Nat) (J1 : Nat → Int32) : Prop := yopR K p1 p2 p3 S J = R ∧ yopS K p1 p2 p3 S = S1 ∧ yopJ K p1 p2 p3 S J = J1
theorem yD_37 {q : Nat} {p2 p3 : Int32} {S : Nat → Nat → Nat} {J : Nat → Int32} (h : q < 2147483648) : yD 37 (nI q) p2 p3 S J (nI (S 16 2)) (yu S 16 2 q) J := by
  unfold yD yopR yopS yopJ
  rw [if_pos rfl, if_pos rfl, if_pos rfl, nI_clamp h]
  exact ⟨rfl, rfl, rfl⟩
theorem yD_102 {q : Nat} {p2 p3 : Int32} {S : Nat → Nat → Nat} {J : Nat → Int32} (h : q < 2147483648) : yD 102 (nI q) p2 p3 S J (nI (S 16 3)) (yu S 16 3 q) J := by
  have e : ¬ (102 : Int32) = 37 := by decide
  unfold yD yopR yopS yopJ
  simp only [if_neg e, if_true, nI_clamp h, and_self]
theorem yD_110 {t : Nat} {p2 p3 : Int32} {S : Nat → Nat → Nat} {J : Nat → Int32} (h : t < 2147483648) : yD 110 (nI t) p2 p3 S J (nI (S t 4)) (yRene S t) (yj J 0 (J 0 + nI (S t 4))) := by
  have e1 : ¬ (110 : Int32) = 37 := by decide
  have e2 : ¬ (110 : Int32) = 102 := by decide
  unfold yD yopR yopS yopJ
  simp only [if_neg e1, if_neg e2, if_true, nI_clamp h, and_self]
theorem yD_112 {ow wo lo : Nat} {S : Nat → Nat → Nat} {J : Nat → Int32} (h : ow < 2147483648) (h2 : wo < 2147483648) (h3 : lo < 2147483648) : yD 112 (nI ow) (nI wo) (nI lo) S J (nI (S 16 0)) (yLend S ow wo lo) (yj J 0 (J 0 - nI lo)) := by
  have e1 : ¬ (112 : Int32) = 37 := by decide
  have e2 : ¬ (112 : Int32) = 102 := by decide
  have e3 : ¬ (112 : Int32) = 110 := by decide
  unfold yD yopR yopS yopJ
  simp only [if_neg e1, if_neg e2, if_neg e3, if_true, nI_clamp h, nI_clamp h2, nI_clamp h3, and_self]
theorem yD_114 {t : Nat} {p2 p3 : Int32} {S : Nat → Nat → Nat} {J : Nat → Int32} (h : t < 2147483648) : yD 114 (nI t) p2 p3 S J (nI (S t 3 + S t 4)) (yRede S t) (yj J 0 (J 0 + nI (S t 3 + S t 4))) := by
  have e1 : ¬ (114 : Int32) = 37 := by decide
  have e2 : ¬ (114 : Int32) = 102 := by decide
  have e3 : ¬ (114 : Int32) = 110 := by decide
  have e4 : ¬ (114 : Int32) = 112 := by decide
  unfold yD yopR yopS yopJ
  simp only [if_neg e1, if_neg e2, if_neg e3, if_neg e4, if_true, nI_clamp h, and_self]
theorem yD_115 {t q : Nat} {p3 : Int32} {S : Nat → Nat → Nat} {J : Nat → Int32} (h : t < 2147483648) (h2 : q < 2147483648) : yD 115 (nI t) (nI q) p3 S J (nI (q - S t 10)) (ySell S t q) (yj (yj J (1 + S t 0) (J (1 + S t 0) + nI (q - S t 10))) 0 (J 0 + nI q)) := by
  have e1 : ¬ (115 : Int32) = 37 := by decide
  have e2 : ¬ (115 : Int32) = 102 := by decide
  have e3 : ¬ (115 : Int32) = 110 := by decide
  have e4 : ¬ (115 : Int32) = 112 := by decide
  have e5 : ¬ (115 : Int32) = 114 := by decide
  unfold yD yopR yopS yopJ
  simp only [if_neg e1, if_neg e2, if_neg e3, if_neg e4, if_neg e5, if_true, nI_clamp h, nI_clamp h2, and_self]
theorem yD_119 {k : Nat} {p2 p3 : Int32} {S : Nat → Nat → Nat} {J : Nat → Int32} (h : k < 2147483648) : yD 119 (nI k) p2 p3 S J (nI (yweeks S k 16 4) - nI (S 16 4)) (yweeks S k) J := by
  have e1 : ¬ (119 : Int32) = 37 := by decide
  have e2 : ¬ (119 : Int32) = 102 := by decide
  have e3 : ¬ (119 : Int32) = 110 := by decide
  have e4 : ¬ (119 : Int32) = 112 := by decide
  have e5 : ¬ (119 : Int32) = 114 := by decide
  have e6 : ¬ (119 : Int32) = 115 := by decide
  unfold yD yopR yopS yopJ
  simp only [if_neg e1, if_neg e2, if_neg e3, if_neg e4, if_neg e5, if_neg e6, if_true, nI_clamp h, and_self]
theorem yD_121 {t q : Nat} {p3 : Int32} {S : Nat → Nat → Nat} {J : Nat → Int32} (h : t < 2147483648) (h2 : q < 2147483648) : yD 121 (nI t) (nI q) p3 S J (nI (ypay (S t) q 3 + ypay (S t) q 4)) (yrow S t (ypay (S t) q)) (yj J 0 (J 0 + nI q)) := by
  have e1 : ¬ (121 : Int32) = 37 := by decide
  have e2 : ¬ (121 : Int32) = 102 := by decide
  have e3 : ¬ (121 : Int32) = 110 := by decide
  have e4 : ¬ (121 : Int32) = 112 := by decide
  have e5 : ¬ (121 : Int32) = 114 := by decide
  have e6 : ¬ (121 : Int32) = 115 := by decide
  have e7 : ¬ (121 : Int32) = 119 := by decide
  unfold yD yopR yopS yopJ
  simp only [if_neg e1, if_neg e2, if_neg e3, if_neg e4, if_neg e5, if_neg e6, if_neg e7, if_true, nI_clamp h, nI_clamp h2, and_self]
theorem yD_99 {o : Nat} {p2 p3 : Int32} {S : Nat → Nat → Nat} {J : Nat → Int32} (h : o < 2147483648) : yD 99 (nI o) p2 p3 S J (J (1 + o)) S (yj (yj (yj J (1 + o) 0) (7 + o) (J (7 + o) + J (1 + o))) 0 (J 0 - J (1 + o))) := by
  have e1 : ¬ (99 : Int32) = 37 := by decide
  have e2 : ¬ (99 : Int32) = 102 := by decide
  have e3 : ¬ (99 : Int32) = 110 := by decide
  have e4 : ¬ (99 : Int32) = 112 := by decide
  have e5 : ¬ (99 : Int32) = 114 := by decide
  have e6 : ¬ (99 : Int32) = 115 := by decide
  have e7 : ¬ (99 : Int32) = 119 := by decide
  have e8 : ¬ (99 : Int32) = 121 := by decide
  unfold yD yopR yopS yopJ
  simp only [if_neg e1, if_neg e2, if_neg e3, if_neg e4, if_neg e5, if_neg e6, if_neg e7, if_neg e8, nI_clamp h, and_self]
theorem y_cD {b : Nat} {S S1 : Nat → Nat → Nat} {J J1 : Nat → Int32} {μ : xM} {K p1 p2 p3 R : Int32} {o : Option (Int32 × xM)} (d : yD K p1 p2 p3 S J R S1 J1) (h : ∃ μ1, o = some (R, μ1) ∧ yC b S1 J1 μ1 ∧ yFar b μ μ1) : ∃ μ1, xb o (fun r m => some (r, m)) = some (yopR K p1 p2 p3 S J, μ1) ∧ yC b (yopS K p1 p2 p3 S) (yopJ K p1 p2 p3 S J) μ1 ∧ yFar b μ μ1 := by
  obtain ⟨d1, d2, d3⟩ := d
  obtain ⟨m, k1, k2, k3⟩ := h
  rw [d1, d2, d3, k1, y_xb]
  exact ⟨m, rfl, k2, k3⟩
/-- the bank carries an order out -/
theorem y_carry {b h W : Nat} {S : Nat → Nat → Nat} {J : Nat → Int32} {μ : xM} {K p1 p2 p3 : Int32} (hC : yC b S J μ) (hI : yI W S) (hW : W < 80000000) (ho : yOr h K p1 p2 p3 μ) (hh : h < b ∨ b + 20 ≤ h) (hK : yK K) (hv : (yv K p1 p2 p3 S J).1 = 0) : ∃ μ1, fX0_carryOut b h μ = some (yopR K p1 p2 p3 S J, μ1) ∧ yC b (yopS K p1 p2 p3 S) (yopJ K p1 p2 p3 S J) μ1 ∧ yFar b μ μ1 := by
  have hn := hI.1.1
  have o0 := ho.1
  have o1 := ho.2.1
  have o2 := ho.2.2.1
  rw [fX0_carryOut, o0, o1, o2]
  rcases hK with rfl | rfl | rfl | rfl | rfl | rfl | rfl | rfl | rfl
  · -- rate
    rw [yv_37] at hv
    obtain ⟨q, rfl, h1, h2, -⟩ := yv_S (lo := 1) (hi := 60) (by decide) (by decide) hv
    rw [if_pos rfl]
    refine y_cD (yD_37 (by omega)) ⟨xw μ b 5 (nI q), ?_, yC_sc (k := 2) (v := q) hC hn (Or.inr (Or.inl rfl)), fun a ha => xw_row (by omega)⟩
    rw [fX0_changeRate, hC.1.2.2.1]
  · -- claim
    rw [yv_99] at hv
    obtain ⟨o, rfl, h1, -⟩ := yv_C hv
    rw [if_neg (by decide), if_neg (by decide), if_neg (by decide), if_neg (by decide), if_neg (by decide), if_neg (by decide), if_neg (by decide), if_neg (by decide)]
    exact y_cD (yD_99 (by omega)) (y_c_claim hC hn h1)
  · -- fee
    rw [yv_102] at hv
    obtain ⟨q, rfl, h1, h2, -⟩ := yv_S (lo := 0) (hi := 20) (by decide) (by decide) hv
    rw [if_neg (by decide), if_pos rfl]
    refine y_cD (yD_102 (by omega)) ⟨xw μ b 6 (nI q), ?_, yC_sc (k := 3) (v := q) hC hn (Or.inr (Or.inr rfl)), fun a ha => xw_row (by omega)⟩
    rw [fX0_changeFee, hC.1.2.2.2.1]
  · -- renew
    obtain ⟨t, ht, rfl, -⟩ := yv_tick hn (Or.inl rfl) hv
    rw [if_neg (by decide), if_neg (by decide), if_pos rfl]
    exact y_cD (yD_110 (by omega)) (y_c_renew hC hI ht)
  · -- pledge
    rw [yv_112] at hv
    obtain ⟨ow, wo, lo, rfl, rfl, rfl, h1, h2, h3, h4, h5, h6⟩ := yv_P hv
    rw [if_neg (by decide), if_neg (by decide), if_neg (by decide), if_pos rfl]
    exact y_cD (yD_112 (by omega) (by omega) (by omega)) (y_c_lend hC hI ho hh h5)
  · -- redeem
    obtain ⟨t, ht, rfl, -⟩ := yv_tick hn (Or.inr (Or.inl rfl)) hv
    rw [if_neg (by decide), if_neg (by decide), if_neg (by decide), if_neg (by decide), if_pos rfl]
    exact y_cD (yD_114 (by omega)) (y_c_redeem hC hI ht)
  · -- sell
    obtain ⟨t, ht, rfl, hv2⟩ := yv_tick hn (Or.inr (Or.inr (Or.inl rfl))) hv
    obtain ⟨-, -, w, rfl, w1, w2⟩ := (yv_T hv2).1 rfl
    rw [if_neg (by decide), if_neg (by decide), if_neg (by decide), if_neg (by decide), if_neg (by decide), if_pos rfl]
    exact y_cD (yD_115 (by omega) (by omega)) (y_c_sell hC hI ht w2)
  · -- pass
    obtain ⟨k, rfl, h1, h2⟩ := yv_pass hv
    rw [if_neg (by decide), if_neg (by decide), if_neg (by decide), if_neg (by decide), if_neg (by decide), if_neg (by decide), if_pos rfl]
    obtain ⟨m, k1, k2, k3, -⟩ := y_c_pass hC hI hW h2
    exact y_cD (yD_119 (by omega)) ⟨m, k1, k2, k3⟩
  · -- pay
    obtain ⟨t, ht, rfl, hv2⟩ := yv_tick hn (Or.inr (Or.inr (Or.inr rfl))) hv
    obtain ⟨q, rfl, w1, w2⟩ := yv_payq (hI.2.1 t ht) hv2
    rw [if_neg (by decide), if_neg (by decide), if_neg (by decide), if_neg (by decide), if_neg (by decide), if_neg (by decide), if_neg (by decide), if_pos rfl]
    obtain ⟨p0, p1', p3', p4, -⟩ := hI.2.1 t ht
    exact y_cD (yD_121 (by omega) (by omega)) (y_c_pay hC hI ht (by omega))
