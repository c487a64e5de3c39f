/-! THE PURE PART: one step of the law, whatever it is -/
theorem y_gh {x out k : Nat} {s1 : Int32} {μ μ1 : xM} (hk : k ≠ 20) (h : μ1 (x + 249) = μ (x + 249)) : xGh x out k s1 μ μ1 := by
  unfold xGh
  rw [if_neg hk]
  exact h
theorem y_step {x : Nat} (i : Nat) (μ : xM) (s0 s1 s2 s3 : Int32) (hi : i < 512) (h : yInv x i μ) : ∃ μ1, yInv x (i + 1) μ1 ∧ ∀ k, s0 &&& 31 = nI k → k < 32 → xGk x (x + 251) (x + 259) k s1 s2 s3 μ μ1 ∧ xGh x (x + 259) k s1 μ μ1 := by
  obtain ⟨k, hk, e⟩ := xm31 s0
  have key : ∀ k, k < 32 → ∃ μ1, yInv x (i + 1) μ1 ∧ xGk x (x + 251) (x + 259) k s1 s2 s3 μ μ1 ∧ xGh x (x + 259) k s1 μ μ1 := by
    intro k hk
    rcases Nat.lt_or_eq_of_le (Nat.le_of_lt_succ hk) with hk | rfl
    rotate_left
    · obtain ⟨μ1, a, b, c⟩ := y_L31 s1 s2 s3 h hi
      exact ⟨μ1, b, a, y_gh (by decide) c⟩
    rcases Nat.lt_or_eq_of_le (Nat.le_of_lt_succ hk) with hk | rfl
    rotate_left
    · obtain ⟨μ1, a, b, c⟩ := y_L30 s1 s2 s3 h hi
      exact ⟨μ1, b, a, y_gh (by decide) c⟩
    rcases Nat.lt_or_eq_of_le (Nat.le_of_lt_succ hk) with hk | rfl
    rotate_left
    · obtain ⟨μ1, a, b, c⟩ := y_L29 s1 s2 s3 h hi
      exact ⟨μ1, b, a, y_gh (by decide) c⟩
    rcases Nat.lt_or_eq_of_le (Nat.le_of_lt_succ hk) with hk | rfl
    rotate_left
    · obtain ⟨μ1, a, b, c⟩ := y_L28 h hi
      exact ⟨μ1, b, a, y_gh (by decide) c⟩
    rcases Nat.lt_or_eq_of_le (Nat.le_of_lt_succ hk) with hk | rfl
    rotate_left
    · obtain ⟨μ1, a, b, c⟩ := y_L27 h hi
      exact ⟨μ1, b, a, y_gh (by decide) c⟩
    rcases Nat.lt_or_eq_of_le (Nat.le_of_lt_succ hk) with hk | rfl
    rotate_left
    · obtain ⟨μ1, a, b, c⟩ := y_L26 s1 s2 s3 h hi
      exact ⟨μ1, b, a, y_gh (by decide) c⟩
    rcases Nat.lt_or_eq_of_le (Nat.le_of_lt_succ hk) with hk | rfl
    rotate_left
    · obtain ⟨μ1, a, b, c⟩ := y_L25 s1 s2 s3 h hi
      exact ⟨μ1, b, a, y_gh (by decide) c⟩
    rcases Nat.lt_or_eq_of_le (Nat.le_of_lt_succ hk) with hk | rfl
    rotate_left
    · obtain ⟨μ1, a, b, c⟩ := y_L24 s1 s2 s3 h hi
      exact ⟨μ1, b, a, y_gh (by decide) c⟩
    rcases Nat.lt_or_eq_of_le (Nat.le_of_lt_succ hk) with hk | rfl
    rotate_left
    · obtain ⟨μ1, a, b, c⟩ := y_L23 s1 s2 s3 h hi
      exact ⟨μ1, b, a, y_gh (by decide) c⟩
    rcases Nat.lt_or_eq_of_le (Nat.le_of_lt_succ hk) with hk | rfl
    rotate_left
    · obtain ⟨μ1, a, b, c⟩ := y_L22 s1 s2 s3 h hi
      exact ⟨μ1, b, a, y_gh (by decide) c⟩
    rcases Nat.lt_or_eq_of_le (Nat.le_of_lt_succ hk) with hk | rfl
    rotate_left
    · obtain ⟨μ1, a, b, c⟩ := y_L21 s1 s2 s3 h hi
      exact ⟨μ1, b, a, y_gh (by decide) c⟩
    rcases Nat.lt_or_eq_of_le (Nat.le_of_lt_succ hk) with hk | rfl
    rotate_left
    · obtain ⟨μ1, a, b, c⟩ := y_L20 s1 s2 s3 h hi
      exact ⟨μ1, b, a, by unfold xGh; rw [if_pos rfl]; exact c⟩
    rcases Nat.lt_or_eq_of_le (Nat.le_of_lt_succ hk) with hk | rfl
    rotate_left
    · obtain ⟨μ1, a, b, c⟩ := y_L19 s1 s2 s3 h hi
      exact ⟨μ1, b, a, y_gh (by decide) c⟩
    rcases Nat.lt_or_eq_of_le (Nat.le_of_lt_succ hk) with hk | rfl
    rotate_left
    · obtain ⟨μ1, a, b, c⟩ := y_L18 s1 s2 s3 h hi
      exact ⟨μ1, b, a, y_gh (by decide) c⟩
    rcases Nat.lt_or_eq_of_le (Nat.le_of_lt_succ hk) with hk | rfl
    rotate_left
    · obtain ⟨μ1, a, b, c⟩ := y_L17 s1 s2 s3 h hi
      exact ⟨μ1, b, a, y_gh (by decide) c⟩
    rcases Nat.lt_or_eq_of_le (Nat.le_of_lt_succ hk) with hk | rfl
    rotate_left
    · obtain ⟨μ1, a, b, c⟩ := y_L16 s1 s2 s3 h hi
      exact ⟨μ1, b, a, y_gh (by decide) c⟩
    rcases Nat.lt_or_eq_of_le (Nat.le_of_lt_succ hk) with hk | rfl
    rotate_left
    · obtain ⟨μ1, a, b, c⟩ := y_L15 s1 s2 s3 h hi
      exact ⟨μ1, b, a, y_gh (by decide) c⟩
    rcases Nat.lt_or_eq_of_le (Nat.le_of_lt_succ hk) with hk | rfl
    rotate_left
    · obtain ⟨μ1, a, b, c⟩ := y_L14 s1 s2 s3 h hi
      exact ⟨μ1, b, a, y_gh (by decide) c⟩
    rcases Nat.lt_or_eq_of_le (Nat.le_of_lt_succ hk) with hk | rfl
    rotate_left
    · obtain ⟨μ1, a, b, c⟩ := y_L13 s1 s2 s3 h hi
      exact ⟨μ1, b, a, y_gh (by decide) c⟩
    rcases Nat.lt_or_eq_of_le (Nat.le_of_lt_succ hk) with hk | rfl
    rotate_left
    · obtain ⟨μ1, a, b, c⟩ := y_L12 s1 s2 s3 h hi
      exact ⟨μ1, b, a, y_gh (by decide) c⟩
    rcases Nat.lt_or_eq_of_le (Nat.le_of_lt_succ hk) with hk | rfl
    rotate_left
    · obtain ⟨μ1, a, b, c⟩ := y_L11 s1 s2 s3 h hi
      exact ⟨μ1, b, a, y_gh (by decide) c⟩
    rcases Nat.lt_or_eq_of_le (Nat.le_of_lt_succ hk) with hk | rfl
    rotate_left
    · obtain ⟨μ1, a, b, c⟩ := y_L10 s1 s2 s3 h hi
      exact ⟨μ1, b, a, y_gh (by decide) c⟩
    rcases Nat.lt_or_eq_of_le (Nat.le_of_lt_succ hk) with hk | rfl
    rotate_left
    · obtain ⟨μ1, a, b, c⟩ := y_L9 s1 s2 s3 h hi
      exact ⟨μ1, b, a, y_gh (by decide) c⟩
    rcases Nat.lt_or_eq_of_le (Nat.le_of_lt_succ hk) with hk | rfl
    rotate_left
    · obtain ⟨μ1, a, b, c⟩ := y_L8 s1 s2 s3 h hi
      exact ⟨μ1, b, a, y_gh (by decide) c⟩
    rcases Nat.lt_or_eq_of_le (Nat.le_of_lt_succ hk) with hk | rfl
    rotate_left
    · obtain ⟨μ1, a, b, c⟩ := y_L7 s1 s2 s3 h hi
      exact ⟨μ1, b, a, y_gh (by decide) c⟩
    rcases Nat.lt_or_eq_of_le (Nat.le_of_lt_succ hk) with hk | rfl
    rotate_left
    · obtain ⟨μ1, a, b, c⟩ := y_L6 s1 s2 s3 h hi
      exact ⟨μ1, b, a, y_gh (by decide) c⟩
    rcases Nat.lt_or_eq_of_le (Nat.le_of_lt_succ hk) with hk | rfl
    rotate_left
    · obtain ⟨μ1, a, b, c⟩ := y_L5 s1 s2 s3 h hi
      exact ⟨μ1, b, a, y_gh (by decide) c⟩
    rcases Nat.lt_or_eq_of_le (Nat.le_of_lt_succ hk) with hk | rfl
    rotate_left
    · obtain ⟨μ1, a, b, c⟩ := y_L4 s1 s2 s3 h hi
      exact ⟨μ1, b, a, y_gh (by decide) c⟩
    rcases Nat.lt_or_eq_of_le (Nat.le_of_lt_succ hk) with hk | rfl
    rotate_left
    · obtain ⟨μ1, a, b, c⟩ := y_L3 s1 s2 s3 h hi
      exact ⟨μ1, b, a, y_gh (by decide) c⟩
    rcases Nat.lt_or_eq_of_le (Nat.le_of_lt_succ hk) with hk | rfl
    rotate_left
    · obtain ⟨μ1, a, b, c⟩ := y_L2 s1 s2 s3 h hi
      exact ⟨μ1, b, a, y_gh (by decide) c⟩
    rcases Nat.lt_or_eq_of_le (Nat.le_of_lt_succ hk) with hk | rfl
    rotate_left
    · obtain ⟨μ1, a, b, c⟩ := y_L1 s1 s2 s3 h hi
      exact ⟨μ1, b, a, y_gh (by decide) c⟩
    rcases Nat.lt_or_eq_of_le (Nat.le_of_lt_succ hk) with hk | rfl
    rotate_left
    · obtain ⟨μ1, a, b, c⟩ := y_L0 s1 s2 s3 h hi
      exact ⟨μ1, b, a, y_gh (by decide) c⟩
    exact absurd hk (Nat.not_lt_zero k)
  obtain ⟨μ1, g1, g2, g3⟩ := key k hk
  refine ⟨μ1, g1, fun k' e' hk' => ?_⟩
  have ek := e.symm.trans e'
  rw [y_eqN (by omega) (by omega)] at ek
  subst ek
  exact ⟨g2, g3⟩
