/-! THE LAW'S ENTRY: what it makes before its loop -/
theorem xSw {D : va_G} {ca : Nat → ClassId} {z N : Nat} {G : xG} {μ : xM} {H : Heap} {X Y : va_W} (h : ∀ q, q ∈ Y ↔ q ∈ X) (hR : xRep D ca G X μ H) (hF : xFix z G X) (hO : xOcc z G X N) : xRep D ca G Y μ H ∧ xFix z G Y ∧ xOcc z G Y N := by
  have e : ∀ (k : Nat) (q : Nat × va_E), Y[k]? = some q → ∃ j, X[j]? = some q := fun k q hq => List.mem_iff_getElem?.mp ((h q).mp (List.mem_of_getElem? hq))
  refine ⟨⟨hR.1, fun k q hq => ?_⟩, ⟨hF.1, fun k q hq => ?_⟩, fun a h1 h2 => ?_⟩
  · obtain ⟨j, hj⟩ := e k q hq
    exact hR.2 j q hj
  · obtain ⟨j, hj⟩ := e k q hq
    exact hF.2 j q hj
  · rcases hO a h1 h2 with h3 | ⟨k, q, hk, hq⟩
    · exact Or.inl h3
    · obtain ⟨j, hj⟩ := List.mem_iff_getElem?.mp ((h q).mpr (List.mem_of_getElem? hk))
      exact Or.inr ⟨j, q, hj, hq⟩
theorem xSd {A : Nat → Prop} {a b c : Nat} {va vb vc : va_E} (h1 : a ≠ b) (h2 : a ≠ c) (h3 : b ≠ c) (ha : A a) (hb : A b) (hc : A c) : va_D A [(a, va), (b, vb), (c, vc)] := by
  refine xD_nd.mpr ⟨?_, fun q hq => ?_⟩
  · simp [h1, h2, h3]
  · simp only [List.mem_cons, List.not_mem_nil, or_false] at hq
    rcases hq with rfl | rfl | rfl
    · exact ha
    · exact hb
    · exact hc
theorem kd9_hi {d : Nat} (h : 260 ≤ d) : kd9 d = 0 := by
  unfold kd9
  rw [if_neg (by omega), if_neg (by omega), if_neg (by omega), if_neg (by omega), if_neg (by omega), if_neg (by omega), if_neg (by omega), if_neg (by omega), if_neg (by omega), if_neg (by omega), if_neg (by omega), if_neg (by omega), if_neg (by omega), if_neg (by omega), if_neg (by omega), if_neg (by omega), if_neg (by omega)]
theorem Gf_all {z : Nat} : xGs (Gf z) (xRg (xRg (fun _ => false) z (z + 249)) (z + 251) (z + 260)) = Gf z := by
  unfold xGs
  refine Prod.ext ?_ rfl
  funext a
  show (if _ then Kf z a else 0) = Kf z a
  by_cases h : (z ≤ a ∧ a < z + 249) ∨ (z + 251 ≤ a ∧ a < z + 260)
  · rw [if_pos]
    unfold xRg
    simp only [Bool.false_or, Bool.or_eq_true, Bool.and_eq_true, decide_eq_true_eq]
    exact h
  · have e : Kf z a = 0 := by
      unfold Kf
      by_cases h1 : a < z
      · rw [if_pos h1]
      · rw [if_neg h1]
        by_cases h2 : 260 ≤ a - z
        · exact kd9_hi h2
        · have h3 : a - z = 249 ∨ a - z = 250 := by omega
          rcases h3 with h3 | h3 <;> rw [h3] <;> decide
    rw [e]
    by_cases c : xRg (xRg (fun _ => false) z (z + 249)) (z + 251) (z + 260) a = true
    · rw [if_pos c]
    · rw [if_neg c]
theorem xAbCoat {D : va_G} {ca : Nat → ClassId} {G : xG} {μ : xM} {b : Nat} {H : Heap} (hL : xL_Coat G μ b) (h : va_at D vwCl (b, .inr (11, [.ref (b + 1), .ref (b + 21), .ref (b + 41), .int 0, .ref (b + 61), .ref (b + 223), .ref (b + 224), .ref (b + 225), .ref (b + 248), .ref (b + 249), .int (-1)])) H) : xAt D ca G μ b H := by
  obtain ⟨⟨h0, h1, h2, h3, h4, h5, h6, h7, h8, h9⟩, ⟨m3, m10⟩, -⟩ := hL
  refine xAbO h0 (ci := 11) rfl (fun k hk => ?_) h
  match k, hk with
  | 0, _ => show Value.ref (b + 1) = va_rf (G.2.1 b 0); rw [h1]; rfl
  | 1, _ => show Value.ref (b + 21) = va_rf (G.2.1 b 1); rw [h2]; rfl
  | 2, _ => show Value.ref (b + 41) = va_rf (G.2.1 b 2); rw [h3]; rfl
  | 3, _ => show Value.int 0 = Value.int (μ b 3); rw [m3]
  | 4, _ => show Value.ref (b + 61) = va_rf (G.2.1 b 4); rw [h4]; rfl
  | 5, _ => show Value.ref (b + 223) = va_rf (G.2.1 b 5); rw [h5]; rfl
  | 6, _ => show Value.ref (b + 224) = va_rf (G.2.1 b 6); rw [h6]; rfl
  | 7, _ => show Value.ref (b + 225) = va_rf (G.2.1 b 7); rw [h7]; rfl
  | 8, _ => show Value.ref (b + 248) = va_rf (G.2.1 b 8); rw [h8]; rfl
  | 9, _ => show Value.ref (b + 249) = va_rf (G.2.1 b 9); rw [h9]; rfl
  | 10, _ => show Value.int (-1) = Value.int (μ b 10); rw [m10]
theorem xAbModel {D : va_G} {ca : Nat → ClassId} {G : xG} {μ : xM} {b : Nat} {H : Heap} (hL : xL_Model G μ b) (h : va_at D vwCl (b, .inr (12, [.ref (b + 1), .ref (b + 2), .ref (b + 3), .ref (b + 4), .int 0, .int 0, .int 0, .int 0, .int 0, .int 0, .int (-1), .int 0, .ref (b + 5), .int 0, .int (-1), .ref (b + 6), .int 0, .int 0, .ref (b + 7), .int 0])) H) : xAt D ca G μ b H := by
  obtain ⟨⟨h0, h1, h2, h3, h4, h5, h6, h7⟩, m0, ⟨m10, m14⟩, -⟩ := hL
  refine xAbO h0 (ci := 12) rfl (fun k hk => ?_) h
  match k, hk with
  | 0, _ => show Value.ref (b + 1) = va_rf (G.2.1 b 0); rw [h1]; rfl
  | 1, _ => show Value.ref (b + 2) = va_rf (G.2.1 b 1); rw [h2]; rfl
  | 2, _ => show Value.ref (b + 3) = va_rf (G.2.1 b 2); rw [h3]; rfl
  | 3, _ => show Value.ref (b + 4) = va_rf (G.2.1 b 3); rw [h4]; rfl
  | 4, _ => show Value.int 0 = Value.int (μ b 4); rw [m0 4 (by decide) (by decide)]
  | 5, _ => show Value.int 0 = Value.int (μ b 5); rw [m0 5 (by decide) (by decide)]
  | 6, _ => show Value.int 0 = Value.int (μ b 6); rw [m0 6 (by decide) (by decide)]
  | 7, _ => show Value.int 0 = Value.int (μ b 7); rw [m0 7 (by decide) (by decide)]
  | 8, _ => show Value.int 0 = Value.int (μ b 8); rw [m0 8 (by decide) (by decide)]
  | 9, _ => show Value.int 0 = Value.int (μ b 9); rw [m0 9 (by decide) (by decide)]
  | 10, _ => show Value.int (-1) = Value.int (μ b 10); rw [m10]
  | 11, _ => show Value.int 0 = Value.int (μ b 11); rw [m0 11 (by decide) (by decide)]
  | 12, _ => show Value.ref (b + 5) = va_rf (G.2.1 b 12); rw [h5]; rfl
  | 13, _ => show Value.int 0 = Value.int (μ b 13); rw [m0 13 (by decide) (by decide)]
  | 14, _ => show Value.int (-1) = Value.int (μ b 14); rw [m14]
  | 15, _ => show Value.ref (b + 6) = va_rf (G.2.1 b 15); rw [h6]; rfl
  | 16, _ => show Value.int 0 = Value.int (μ b 16); rw [m0 16 (by decide) (by decide)]
  | 17, _ => show Value.int 0 = Value.int (μ b 17); rw [m0 17 (by decide) (by decide)]
  | 18, _ => show Value.ref (b + 7) = va_rf (G.2.1 b 18); rw [h7]; rfl
  | 19, _ => show Value.int 0 = Value.int (μ b 19); rw [m0 19 (by decide) (by decide)]
  | n + 20, hk => exact absurd (show n + 20 < 20 from hk) (by omega)
theorem xAbLong {D : va_G} {ca : Nat → ClassId} {z : Nat} {H : Heap} (h : va_at D vwCl (z + 259, .inl (ca 3, 1, .inr (.inl (fun _ => 0)))) H) : xAt D ca (Gf z) (μf z) (z + 259) H := by
  have k : (Gf z).1 (z + 259) = 104 := G1_at (by decide)
  have n : (Gf z).2.2 (z + 259) = 1 := G2_at (by decide)
  have e : μf z (z + 259) = fun _ => 0 := μ0_at (by decide)
  unfold xAt
  rw [k, if_neg (by decide), if_neg (by decide), if_neg (by decide), if_pos rfl, n, e]
  exact h
theorem xne9 {z d k : Nat} (h : kd9 d = k) (hk : k ≠ 0) : (Gf z).1 (z + d) ≠ 0 := by
  rw [G1_at h]
  exact hk
