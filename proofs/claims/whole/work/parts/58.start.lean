/-! THE PURE PART: where the law begins -/
def yS0 : Nat → Nat → Nat := fun t k => if t = 16 then (if k = 2 then 20 else if k = 3 then 5 else 0) else 0
def yJ0 : Nat → Int32 := fun o => if o = 0 then 2000 else 0
theorem yS0_n : yS0 16 0 = 0 := rfl
theorem yJ0_s (o : Nat) : yJ0 (1 + o) = 0 := by unfold yJ0; rw [if_neg (by omega)]
theorem yJ0_7 (o : Nat) : yJ0 (7 + o) = 0 := by unfold yJ0; rw [if_neg (by omega)]
theorem y_st0 {x : Nat} {G : xG} {μ : xM} (hc : xL_Coat G μ x) (hm : xL_Model G μ (x + 251)) (h9 : μ (x + 249) 3 = 0) : yInv x 0 μ := by
  obtain ⟨-, ⟨x3, x10⟩, hb, -, -, ⟨-, ⟨i1, i2⟩, -⟩, -, -, ⟨-, ⟨n2, n3, n4⟩, -⟩, hr, -⟩ := hc
  obtain ⟨-, m0, ⟨m10, m14⟩, ⟨-, -, g0⟩, -⟩ := hm
  obtain ⟨-, ⟨b3, b4, b5, b6, b7⟩, -, -, ⟨-, -, b18⟩, ⟨-, -, b19⟩⟩ := hb
  have hg : ∀ k, k ≠ 2 → k ≠ 3 → k ≠ 4 → μ (x + 252) k = 0 := by
    intro k k2 k3 k4
    have e : μ (x + 252) = upd (upd (upd (fun _ => 0) 2 20) 3 5) 4 2000 := g0
    rw [e]
    simp [upd, k2, k3, k4]
  have hg2 : μ (x + 252) 2 = nI 20 := by
    have e : μ (x + 252) = upd (upd (upd (fun _ => 0) 2 20) 3 5) 4 2000 := g0
    rw [e]; rfl
  have hg3 : μ (x + 252) 3 = nI 5 := by
    have e : μ (x + 252) = upd (upd (upd (fun _ => 0) 2 20) 3 5) 4 2000 := g0
    rw [e]; rfl
  have hg4 : μ (x + 252) 4 = 2000 := by
    have e : μ (x + 252) = upd (upd (upd (fun _ => 0) 2 20) 3 5) 4 2000 := g0
    rw [e]; rfl
  have h10 : (-1 : Int32) < 0 := by decide
  refine ⟨⟨yS0, yJ0, ⟨⟨⟨Nat.zero_le _, Nat.zero_le _, by decide, by decide, by decide, Nat.zero_le _⟩, fun t ht => absurd ht (by rw [yS0_n]; omega), fun t o ht => absurd ht (by rw [yS0_n]; omega)⟩, fun o ho => ⟨0, Nat.zero_le _, yJ0_s o⟩⟩, ⟨⟨b3, b4, b5, b6, b7⟩, fun t ht => absurd ht (by rw [yS0_n]; omega), fun j hj => ⟨?_, ?_⟩⟩, ⟨⟨hg 0 (by decide) (by decide) (by decide), hg 1 (by decide) (by decide) (by decide), hg2, hg3, hg4, hg 5 (by decide) (by decide) (by decide), hg 6 (by decide) (by decide) (by decide), hg 7 (by decide) (by decide) (by decide), ?_, hg 9 (by decide) (by decide) (by decide), hg 10 (by decide) (by decide) (by decide)⟩, fun t ht => absurd ht (by rw [yS0_n]; omega), fun j hj => ⟨?_, ?_⟩⟩⟩, ⟨0, 0, by omega, by omega, i1, i2, m0 5 (by decide) (by decide), fun j hj => absurd hj (by omega)⟩, ⟨?_, Or.inl x3⟩, ⟨?_, fun e => absurd (m0 8 (by decide) (by decide)) e, fun e => ?_, fun _ => by rw [m10]; exact h10⟩, ⟨0, by omega, n2, m0 13 (by decide) (by decide), fun j hj => absurd hj (by omega)⟩, x10.trans m14.symm, ⟨0, by omega, h9, m0 16 (by decide) (by decide), fun j hj => absurd hj (by omega)⟩, m0 6 (by decide) (by decide)⟩
  · have e : μ (x + 1 + 18) = fun _ => 0 := b18
    rw [e, yJ0_s]
  · have e : μ (x + 1 + 19) = fun _ => 0 := b19
    rw [e, yJ0_7]
  · rw [hg 8 (by decide) (by decide) (by decide)]
    decide
  · rw [hg (187 + j) (by omega) (by omega) (by omega), yJ0_s]
  · rw [hg (193 + j) (by omega) (by omega) (by omega), yJ0_7]
  · rw [x3, m0 4 (by decide) (by decide)]
  · rw [hr.2 0, m0 8 (by decide) (by decide)]
  · rw [m0 8 (by decide) (by decide)] at e
    exact absurd e (by decide)
