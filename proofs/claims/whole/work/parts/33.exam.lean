/-! THE PURE PART: the clerk's verdict on an order -/
def yOr (h : Nat) (K p1 p2 p3 : Int32) (μ : xM) : Prop := μ h 0 = K ∧ μ h 1 = p1 ∧ μ h 2 = p2 ∧ μ h 3 = p3
def yvS (now p1 lo hi : Int32) : Int32 × Int32 := if p1 < lo ∨ hi < p1 then (-2, 0) else if p1 = now then (10, now) else (0, 0)
def yvP (p1 p2 p3 : Int32) (S : Nat → Nat → Nat) (J : Nat → Int32) : Int32 × Int32 := if p1 < 0 ∨ 6 ≤ p1 then (-1, 0) else if p2 < 1 ∨ 999 < p2 ∨ p3 < 1 then (-2, 0) else if ¬ p3 ≤ p2 * 60 / 100 then (2, p2 * 60 / 100) else if 16 ≤ S 16 0 then (1, 16) else if ¬ p3 ≤ J 0 then (3, J 0) else (0, 0)
def yvC (p1 : Int32) (S : Nat → Nat → Nat) (J : Nat → Int32) : Int32 × Int32 := if p1 < 0 ∨ 6 ≤ p1 then (-1, 0) else if J (1 + p1.toNatClampNeg) = 0 then (9, ysI (fun t => if nI (S t 5) = 3 ∧ nI (S t 0) = p1 then 1 else 0) 0 (S 16 0)) else if ¬ J (1 + p1.toNatClampNeg) ≤ J 0 then (3, J 0) else (0, 0)
def yvT (K p2 : Int32) (c : Nat → Nat) : Int32 × Int32 :=
  if K = 115 then (if p2 < 1 ∨ 9999 < p2 then (-2, 0) else if c 5 ≠ 1 then (7, nI (c 5)) else if ¬ nI (c 8) ≤ p2 then (8, nI (c 8)) else (0, 0))
  else if K = 121 ∧ p2 < 1 then (-2, 0)
  else if c 5 ≠ 0 then (4, nI (c 5))
  else if K = 121 ∧ nI (c 3 + c 4) ≤ p2 then (5, nI (c 3 + c 4))
  else if K = 110 ∧ c 4 = 0 then (6, nI (c 3))
  else (0, 0)
def yv (K p1 p2 p3 : Int32) (S : Nat → Nat → Nat) (J : Nat → Int32) : Int32 × Int32 :=
  if K = 37 then yvS (nI (S 16 2)) p1 1 60
  else if K = 99 then yvC p1 S J
  else if K = 102 then yvS (nI (S 16 3)) p1 0 20
  else if K = 112 then yvP p1 p2 p3 S J
  else if K = 119 then (if p1 < 1 ∨ 20 < p1 then (-2, 0) else (0, 0))
  else if p1 < 0 ∨ nI (S 16 0) ≤ p1 then (-3, 0) else yvT K p2 (S p1.toNatClampNeg)
theorem y_own (p : Int32) (μ : xM) : fX7_isOwner p μ = some (if p < 0 ∨ 6 ≤ p then 0 else 1, μ) := by
  rw [fX7_isOwner]
  by_cases c1 : p < 0
  · rw [if_pos c1, if_pos (Or.inl c1)]
  · rw [if_neg c1]
    by_cases c2 : 6 ≤ p
    · rw [if_pos c2, if_pos (Or.inr c2)]
    · rw [if_neg c2, if_neg (fun q => q.elim c1 c2)]
theorem y_tick {b : Nat} {S : Nat → Nat → Nat} {J : Nat → Int32} {μ : xM} (h : yC b S J μ) (p : Int32) : fX0_hasTicket b p μ = some (if p < 0 ∨ nI (S 16 0) ≤ p then 0 else 1, μ) := by
  rw [fX0_hasTicket, h.1.1]
  by_cases c1 : p < 0
  · rw [if_pos c1, if_pos (Or.inl c1)]
  · rw [if_neg c1]
    by_cases c2 : nI (S 16 0) ≤ p
    · rw [if_pos c2, if_pos (Or.inr c2)]
    · rw [if_neg c2, if_neg (fun q => q.elim c1 c2)]
theorem y_nin {p : Int32} {n : Nat} (hn : n < 2147483648) (h : ¬ (p < 0 ∨ nI n ≤ p)) : ∃ t, t < n ∧ p = nI t := by
  obtain ⟨j, hj, rfl⟩ := nI_of (fun q => h (Or.inl q))
  exact ⟨j, Nat.not_le.mp (fun q => h (Or.inr ((nI_leI hn hj).mpr q))), rfl⟩
theorem y_exS {c : Nat} {μ : xM} (hz : xw μ c 0 0 = μ) (p1 lo hi now : Int32) : fX1_examineSetting c p1 lo hi now μ = some ((yvS now p1 lo hi).1, xw μ c 0 (yvS now p1 lo hi).2) := by
  rw [fX1_examineSetting]
  unfold yvS
  by_cases c1 : p1 < lo
  · rw [if_pos c1, if_pos (Or.inl c1), hz]
  · rw [if_neg c1]
    by_cases c2 : p1 ≤ hi
    · rw [if_pos c2, if_neg (show ¬ (p1 < lo ∨ hi < p1) from fun q => q.elim c1 (Int32.not_lt.mpr c2))]
      by_cases c3 : p1 = now
      · rw [if_pos c3, if_pos c3]; rfl
      · rw [if_neg c3, if_neg c3, hz]
    · rw [if_neg c2, if_pos (Or.inr (Int32.not_le.mp c2)), hz]
theorem y_exP {b c h : Nat} {S : Nat → Nat → Nat} {J : Nat → Int32} {μ : xM} {K p1 p2 p3 : Int32} (hC : yC b S J μ) (hn : S 16 0 ≤ 16) (ho : yOr h K p1 p2 p3 μ) (hz : xw μ c 0 0 = μ) : fX1_examinePledge c b h μ = some ((yvP p1 p2 p3 S J).1, xw μ c 0 (yvP p1 p2 p3 S J).2) := by
  obtain ⟨o0, o1, o2, o3⟩ := ho
  rw [fX1_examinePledge, o1, y_own, y_xb, o2, o3, hC.1.1, hC.1.2.2.2.2]
  unfold yvP
  by_cases c1 : p1 < 0 ∨ 6 ≤ p1
  · rw [if_pos c1, if_pos rfl, if_pos c1, hz]
  rw [if_neg c1, if_neg (by decide), if_neg c1]
  by_cases c2 : p2 < 1
  · rw [if_pos c2, if_pos (Or.inl c2), hz]
  rw [if_neg c2]
  by_cases c3 : 999 < p2
  · rw [if_pos c3, if_pos (Or.inr (Or.inl c3)), hz]
  rw [if_neg c3]
  by_cases c4 : 1 ≤ p3
  · rw [if_pos c4, if_neg (show ¬ (p2 < 1 ∨ 999 < p2 ∨ p3 < 1) from fun q => q.elim c2 (fun q => q.elim c3 (Int32.not_lt.mpr c4)))]
    by_cases c5 : p3 ≤ p2 * 60 / 100
    · rw [if_pos c5, if_neg (show ¬ ¬ (p3 ≤ p2 * 60 / 100) from fun q => q c5), show (16 : Int32) = nI 16 from rfl, y_ilt (by omega) (by decide)]
      by_cases c6 : 16 ≤ S 16 0
      · rw [if_neg (by omega), if_pos c6]; rfl
      · rw [if_pos (by omega), if_neg c6]
        by_cases c7 : p3 ≤ J 0
        · rw [if_pos c7, if_neg (show ¬ ¬ (p3 ≤ J 0) from fun q => q c7), hz]
        · rw [if_neg c7, if_pos c7]; rfl
    · rw [if_neg c5, if_pos c5]; rfl
  · rw [if_neg c4, if_pos (Or.inr (Or.inr (Int32.not_le.mp c4))), hz]
theorem y_exC {b c : Nat} {S : Nat → Nat → Nat} {J : Nat → Int32} {μ : xM} (hC : yC b S J μ) (hn : S 16 0 ≤ 16) (p1 : Int32) (hz : xw μ c 0 0 = μ) : fX1_examineClaim c b p1 μ = some ((yvC p1 S J).1, xw μ c 0 (yvC p1 S J).2) := by
  rw [fX1_examineClaim, y_own, y_xb]
  unfold yvC
  by_cases c1 : p1 < 0 ∨ 6 ≤ p1
  · rw [if_pos c1, if_pos rfl, if_pos c1, hz]
  rw [if_neg c1, if_neg (by decide), if_neg c1]
  obtain ⟨o, ho, rfl⟩ := y_nin (n := 6) (by decide) c1
  rw [y_xk (vp_in_nI ho (by decide)), y_xk (vp_in_nI ho (by decide)), nI_clamp (by omega), (hC.2.2 o ho).1, hC.1.2.2.2.2]
  by_cases c2 : J (1 + o) = 0
  · rw [if_pos c2, if_pos c2, y_countOf hC hn, y_xb]
    have e : ∀ t, (if nI (S t 5) = 3 ∧ (nI o = -1 ∨ nI (S t 0) = nI o) then (1 : Int32) else 0) = if nI (S t 5) = 3 ∧ nI (S t 0) = nI o then 1 else 0 := by
      intro t
      have h9 : ¬ nI o = -1 := fun q => c1 (Or.inl (by rw [q]; decide))
      by_cases c3 : nI (S t 5) = 3 <;> by_cases c4 : nI (S t 0) = nI o <;> simp [c3, c4, h9]
    rw [ysI_ext (fun t _ _ => e t)]
    rfl
  · rw [if_neg c2, if_neg c2]
    by_cases c3 : J (1 + o) ≤ J 0
    · rw [if_pos c3, if_neg (show ¬ ¬ (J (1 + o) ≤ J 0) from fun q => q c3), hz]
    · rw [if_neg c3, if_pos c3]; rfl
theorem y_exT {b c h t W : Nat} {S : Nat → Nat → Nat} {J : Nat → Int32} {μ : xM} {K p2 p3 : Int32} (hC : yC b S J μ) (hI : yI W S) (ho : yOr h K (nI t) p2 p3 μ) (ht : t < S 16 0) (hz : xw μ c 0 0 = μ) : fX1_examineTicket c b h μ = some ((yvT K p2 (S t)).1, xw μ c 0 (yvT K p2 (S t)).2) := by
  obtain ⟨o0, o1, o2, o3⟩ := ho
  have hn := hI.1.1
  have e := hC.2.1 t ht
  obtain ⟨p0, p1, p3, p4, p5, p6, p7, p8, -⟩ := hI.2.1 t ht
  have c1 : ¬ (nI t < 0 ∨ nI (S 16 0) ≤ nI t) := fun q => q.elim (nI_pos (by omega)) (y_nle ht hn)
  have n10 : ¬ ((1 : Int32) = 0) := by decide
  have b5 : S t 5 < 2147483648 := by omega
  have b4 : S t 4 < 2147483648 := by omega
  simp only [fX1_examineTicket, o1, y_tick hC, y_xb, if_neg c1, if_neg n10, y_xk (y_in16 ht hn), y_cl ht hn, y_owed e, o0, o2, e 3 (by decide), e 4 (by decide), e 5 (by decide), y_e0 b5, y_e0 b4]
  unfold yvT
  by_cases k1 : K = 115
  · rw [if_pos k1, if_pos k1, fX1_examineSale, e 5 (by decide), e 8 (by decide), y_i1 (by omega)]
    by_cases k2 : p2 < 1
    · rw [if_pos k2, if_pos (Or.inl k2), y_xb, hz]
    rw [if_neg k2]
    by_cases k3 : p2 ≤ 9999
    · rw [if_pos k3, if_neg (show ¬ (p2 < 1 ∨ 9999 < p2) from fun q => q.elim k2 (Int32.not_lt.mpr k3))]
      by_cases k4 : S t 5 = 1
      · rw [if_pos k4, if_neg (show ¬ S t 5 ≠ 1 from fun q => q k4)]
        by_cases k5 : nI (S t 8) ≤ p2
        · rw [if_pos k5, if_neg (show ¬ ¬ (nI (S t 8) ≤ p2) from fun q => q k5), y_xb, hz]
        · rw [if_neg k5, if_pos k5]; rfl
      · rw [if_neg k4, if_pos (show S t 5 ≠ 1 from k4)]; rfl
    · rw [if_neg k3, if_pos (Or.inr (Int32.not_le.mp k3)), y_xb, hz]
  · rw [if_neg k1, if_neg k1]
    by_cases k2 : K = 121
    · have k8 : ¬ K = 110 := fun q => absurd (k2.symm.trans q) (by decide)
      rw [if_pos k2]
      by_cases k3 : 1 ≤ p2
      · rw [if_pos k3, if_neg (show ¬ (K = 121 ∧ p2 < 1) from fun q => Int32.not_lt.mpr k3 q.2)]
        by_cases k4 : S t 5 = 0
        · rw [if_pos k4, if_pos k2, if_neg (show ¬ S t 5 ≠ 0 from fun q => q k4)]
          by_cases k5 : p2 < nI (S t 3 + S t 4)
          · rw [if_pos k5, if_neg k8, if_neg (show ¬ (K = 121 ∧ nI (S t 3 + S t 4) ≤ p2) from fun q => Int32.not_le.mpr k5 q.2), if_neg (show ¬ (K = 110 ∧ S t 4 = 0) from fun q => k8 q.1), hz]
          · rw [if_neg k5, if_pos ⟨k2, Int32.not_lt.mp k5⟩]; rfl
        · rw [if_neg k4, if_pos (show S t 5 ≠ 0 from k4)]; rfl
      · rw [if_neg k3, if_pos ⟨k2, Int32.not_le.mp k3⟩, hz]
    · rw [if_neg k2, if_neg (show ¬ (K = 121 ∧ p2 < 1) from fun q => k2 q.1)]
      by_cases k4 : S t 5 = 0
      · rw [if_pos k4, if_neg k2, if_neg (show ¬ S t 5 ≠ 0 from fun q => q k4), if_neg (show ¬ (K = 121 ∧ nI (S t 3 + S t 4) ≤ p2) from fun q => k2 q.1)]
        by_cases k5 : K = 110
        · rw [if_pos k5]
          by_cases k6 : S t 4 = 0
          · rw [if_pos k6, if_pos ⟨k5, k6⟩]; rfl
          · rw [if_neg k6, if_neg (show ¬ (K = 110 ∧ S t 4 = 0) from fun q => k6 q.2), hz]
        · rw [if_neg k5, if_neg (show ¬ (K = 110 ∧ S t 4 = 0) from fun q => k5 q.1), hz]
      · rw [if_neg k4, if_pos (show S t 5 ≠ 0 from k4)]; rfl
theorem y_examine {b c h W : Nat} {S : Nat → Nat → Nat} {J : Nat → Int32} {μ : xM} {K p1 p2 p3 : Int32} (hC : yC b S J μ) (hI : yI W S) (ho : yOr h K p1 p2 p3 μ) (hch : h ≠ c) (hcb : c < b ∨ b + 20 ≤ c) : fX1_examine c b h μ = some ((yv K p1 p2 p3 S J).1, xw μ c 0 (yv K p1 p2 p3 S J).2) := by
  have hn := hI.1.1
  have hC0 : yC b S J (xw μ c 0 0) := yC_congr hC (fun a h1 h2 => xw_row (by omega)) hn
  have ho0 : yOr h K p1 p2 p3 (xw μ c 0 0) := by
    unfold yOr
    rw [xw_row hch]
    exact ho
  have hz : xw (xw μ c 0 0) c 0 0 = xw μ c 0 0 := y_xw2
  have fin : ∀ v : Int32 × Int32, some (v.1, xw (xw μ c 0 0) c 0 v.2) = some (v.1, xw μ c 0 v.2) := fun v => by rw [y_xw2]
  rw [fX1_examine, ho0.1, ho0.2.1, hC0.1.2.2.1, hC0.1.2.2.2.1, y_exS hz, y_exS hz, y_exP hC0 hn ho0 hz, y_exC hC0 hn p1 hz]
  unfold yv
  by_cases k1 : K = 37
  · rw [if_pos k1, if_pos k1, y_xb, y_xw2]
  rw [if_neg k1, if_neg k1]
  by_cases k2 : K = 99
  · rw [if_pos k2, if_pos k2, y_xb, y_xw2]
  rw [if_neg k2, if_neg k2]
  by_cases k3 : K = 102
  · rw [if_pos k3, if_pos k3, y_xb, y_xw2]
  rw [if_neg k3, if_neg k3]
  by_cases k4 : K = 112
  · rw [if_pos k4, if_pos k4, y_xb, y_xw2]
  rw [if_neg k4, if_neg k4]
  by_cases k5 : K = 119
  · rw [if_pos k5, if_pos k5]
    by_cases k6 : p1 < 1
    · rw [if_pos k6, if_pos (Or.inl k6)]
    rw [if_neg k6]
    by_cases k7 : p1 ≤ 20
    · rw [if_pos k7, if_neg (show ¬ (p1 < 1 ∨ 20 < p1) from fun q => q.elim k6 (Int32.not_lt.mpr k7))]
    · rw [if_neg k7, if_pos (Or.inr (Int32.not_le.mp k7))]
  rw [if_neg k5, if_neg k5]
  by_cases k6 : p1 < 0 ∨ nI (S 16 0) ≤ p1
  · rw [if_pos k6, fX1_examineTicket, ho0.2.1, y_tick hC0, y_xb, if_pos k6, if_pos rfl, y_xb]
  · rw [if_neg k6]
    obtain ⟨t, ht, rfl⟩ := y_nin (by omega) k6
    rw [y_exT hC0 hI ho0 ht hz, y_xb, nI_clamp (by omega), y_xw2]
-- an order is spoken
theorem y_charC (q : Nat) (hq : q < 65536) : xisC (nI q) := pk_charN hq
theorem y_spoken {h : Nat} {K p1 p2 p3 : Int32} {μ : xM} (hK : xisC K) : ∃ μ4, (∀ {α : Type} (Z : xM → Option α), xbv (fX4_begin h K μ) (fun m1 => xbv (fX4_add h p1 m1) (fun m2 => xbv (fX4_add h p2 m2) (fun m3 => xbv (fX4_add h p3 m3) Z))) = Z μ4) ∧ yOr h K p1 p2 p3 μ4 ∧ ∀ a, a ≠ h → μ4 a = μ a := by
  have a0 : ∀ (p : Int32) (m : xM), m h 4 = 0 → fX4_add h p m = some (xw (xw m h 1 p) h 4 1) := by
    intro p m e
    rw [fX4_add, if_pos e, y_wk (by decide), e]
    rfl
  have a1 : ∀ (p : Int32) (m : xM), m h 4 = 1 → fX4_add h p m = some (xw (xw m h 2 p) h 4 2) := by
    intro p m e
    rw [fX4_add, if_neg (by rw [e]; decide), if_pos e, y_wk (by decide), e]
    rfl
  have a2 : ∀ (p : Int32) (m : xM), m h 4 = 2 → fX4_add h p m = some (xw (xw m h 3 p) h 4 3) := by
    intro p m e
    rw [fX4_add, if_neg (by rw [e]; decide), if_neg (by rw [e]; decide), y_wk (by decide), e]
    rfl
  refine ⟨xw (xw (xw (xw (xw (xw (xw (xw (xw (xw (xw μ h 0 K) h 1 0) h 2 0) h 3 0) h 4 0) h 1 p1) h 4 1) h 2 p2) h 4 2) h 3 p3) h 4 3, fun Z => ?_, ?_, ?_⟩
  · rw [fX4_begin, y_xk hK, y_xbv, a0 _ _ (xw_same _ _ _ _), y_xbv, a1 _ _ (xw_same _ _ _ _), y_xbv, a2 _ _ (xw_same _ _ _ _), y_xbv]
  · unfold yOr
    simp [xw]
  · intro a ha
    funext j
    simp [xw, ha]
