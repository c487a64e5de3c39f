/-! THE PURE PART: run, called -/
theorem y_xfu22 : 22 < xfu := by unfold xfu; omega
/-- the text, read by both -/
theorem y_txt {x : Nat} {μ : xM} (h : yIn x μ) : ∃ r m, fX3_readOrders (x + 225) μ = some (r, m) ∧ yFc (x + 225) μ m ∧ ((r = -1 ∧ ∃ N, 1 ≤ N ∧ N ≤ 20 ∧ m (x + 225) 3 = nI N ∧ ∀ Ms, yMs x μ Ms → ∃ n1, fX8_isText (x + 251) Ms = some (1, n1) ∧ yFt (x + 251) Ms n1 ∧ n1 (x + 251) 19 = nI N ∧ ∀ j, j < N → yOO (x + 225) (x + 251) j m n1) ∨ (∃ q, q ≤ 60 ∧ r = nI q ∧ ∀ Ms, yMs x μ Ms → ∃ n1, fX8_isText (x + 251) Ms = some (0, n1) ∧ yFt (x + 251) Ms n1 ∧ n1 (x + 251) 17 = nI q)) := by
  obtain ⟨L, hL, k1, k2, k3⟩ := h
  have hs : ∀ j, j < L → (μ (x + 226) j).toNatClampNeg < 65536 ∧ μ (x + 226) j = nI (μ (x + 226) j).toNatClampNeg ∧ μ (x + 256) j = nI (μ (x + 226) j).toNatClampNeg := by
    intro j hj
    obtain ⟨c, c1, c2, c3⟩ := k3 j hj
    rw [c3, c2, nI_clamp (by omega)]
    exact ⟨c1, rfl, rfl⟩
  have key : ∀ Ms, yMs x μ Ms → ∃ r b m n1, fX3_readOrders (x + 225) μ = some (r, m) ∧ fX8_isText (x + 251) Ms = some (b, n1) ∧ yFc (x + 225) μ m ∧ yFt (x + 251) Ms n1 ∧ ((r = -1 ∧ b = 1 ∧ ∃ N, 1 ≤ N ∧ N ≤ 20 ∧ m (x + 225) 3 = nI N ∧ n1 (x + 251) 19 = nI N ∧ ∀ j, j < N → yOO (x + 225) (x + 251) j m n1) ∨ (b = 0 ∧ ∃ q, q ≤ 60 ∧ r = nI q ∧ n1 (x + 251) 17 = nI q)) := by
    intro Ms hMs
    have a1 : yCi (x + 225) (fun j => (μ (x + 226) j).toNatClampNeg) L 0 (xw (xw μ (x + 225) 3 (nI 0)) (x + 225) 4 (nI 0)) := by
      refine ⟨hL, Nat.zero_le _, by rw [y_wk (by decide), y_wk (by decide)]; exact k1, xw_same _ _ _ _, fun j hj => ⟨(hs j hj).1, ?_⟩⟩
      rw [y_wn (by omega), y_wn (by omega)]
      exact (hs j hj).2.1
    have a2 : yMi (x + 251) (fun j => (μ (x + 226) j).toNatClampNeg) L 0 (xw (xw Ms (x + 251) 17 (nI 0)) (x + 251) 19 (nI 0)) := by
      refine ⟨hL, Nat.zero_le _, by rw [y_wk (by decide), y_wk (by decide), hMs _ (by omega) (by omega)]; exact k2, by rw [y_wk (by decide), xw_same], fun j hj => ⟨(hs j hj).1, ?_⟩⟩
      rw [y_wn (by omega), y_wn (by omega), hMs _ (by omega) (by omega)]
      exact (hs j hj).2.2
    obtain ⟨r, b, m, n1, e1, e2, e3, e4, e5⟩ := y_text (h := x + 225) (md := x + 251) 20 0 0 xfu xfu _ _ (by omega) (by omega) a1 a2 (by rw [y_wk (by decide), xw_same]) (xw_same _ _ _ _) (fun j hj => absurd hj (by omega)) (by have := y_xfu22; omega) (by have := y_xfu22; omega)
    refine ⟨r, b, m, n1, by rw [fX3_readOrders]; exact e1, by rw [fX8_isText]; exact e2, ⟨fun a g1 g2 => ?_, fun j g1 g2 => ?_⟩, ⟨fun a g1 g2 => ?_, fun j g1 g2 => ?_⟩, e5⟩
    · rw [e3.1 a g1 g2, xw_row g1, xw_row g1]
    · rw [e3.2 j g1 g2, y_wk g2, y_wk g1]
    · rw [e4.1 a g1 g2, xw_row g1, xw_row g1]
    · rw [e4.2 j g1 g2, y_wk g2, y_wk g1]
  obtain ⟨r, b, m, n1, e1, e2, e3, e4, e5⟩ := key μ (fun _ _ _ => rfl)
  refine ⟨r, m, e1, e3, ?_⟩
  rcases e5 with ⟨rfl, rfl, N, g1, g2, g3, g4, g5⟩ | ⟨rfl, q, g1, rfl, g3⟩
  · refine Or.inl ⟨rfl, N, g1, g2, g3, fun Ms hMs => ?_⟩
    obtain ⟨r', b', m', n1', u1, u2, u3, u4, u5⟩ := key Ms hMs
    have u := Option.some.inj (e1.symm.trans u1)
    obtain ⟨ur, um⟩ := Prod.mk.inj u
    subst ur; subst um
    rcases u5 with ⟨_, rfl, N', v1, v2, v3, v4, v5⟩ | ⟨_, q, v1, v2, _⟩
    · have hN : N = N' := by
        have := g3.symm.trans v3
        rw [y_eqN (by omega) (by omega)] at this
        exact this
      subst hN
      exact ⟨n1', u2, u4, v4, v5⟩
    · exact absurd v2.symm (y_nm1' (by omega))
  · refine Or.inr ⟨q, g1, rfl, fun Ms hMs => ?_⟩
    obtain ⟨r', b', m', n1', u1, u2, u3, u4, u5⟩ := key Ms hMs
    have u := Option.some.inj (e1.symm.trans u1)
    obtain ⟨ur, um⟩ := Prod.mk.inj u
    subst ur; subst um
    rcases u5 with ⟨v1, _⟩ | ⟨rfl, q', v1, v2, v3⟩
    · exact absurd v1 (y_nm1' (by omega))
    · exact ⟨n1', u2, u4, v3.trans v2.symm⟩
/-- the class's rows and the model's, put together -/
def yCo (x : Nat) (Mf νf : xM) : xM := fun a => if x + 251 ≤ a ∧ a ≤ x + 258 then νf a else Mf a
theorem yCo_c {x a : Nat} {Mf νf : xM} (h : a < x + 251 ∨ x + 258 < a) : yCo x Mf νf a = Mf a := by
  unfold yCo
  rw [if_neg (by omega)]
theorem yCo_m {x a : Nat} {Mf νf : xM} (h : x + 251 ≤ a) (h1 : a ≤ x + 258) : yCo x Mf νf a = νf a := by
  unfold yCo
  rw [if_pos ⟨h, h1⟩]
theorem y_run {x i : Nat} {μ : xM} (h : yInv x i μ) (hi : i < 512) : ∀ Ms, yMs x μ Ms → ∃ code Mf r2 νf, fL_run x (x + 259) μ = some (code, Mf) ∧ yMs x μ Mf ∧ fX8_run (x + 251) Ms = some (r2, νf) ∧ νf (x + 251) 7 = code ∧ (code = 0 → Mf (x + 259) 0 = r2) ∧ (∀ a, (a < x + 251 ∨ x + 258 < a) → νf a = Ms a) ∧ yInv x (i + 1) (yCo x Mf νf) ∧ Mf (x + 249) = μ (x + 249) := by
  intro Ms hMs
  obtain ⟨⟨S, J, hIJ, hC, hM⟩, hH, hS, hR, hIn, hE, hLi, h6⟩ := h
  have hn := hIJ.1.1.1
  obtain ⟨r, m1, t1, t2, t3⟩ := y_txt hIn
  have hW : 400 * i ≤ 400 * (i + 1) := by omega
  rcases t3 with ⟨rfl, N, n1, n2, n3, n4⟩ | ⟨q, q1, rfl, q2⟩
  · obtain ⟨νt, a1, a2, a3, a4⟩ := n4 Ms hMs
    have f1 : ∀ a, x + 251 ≤ a → a ≤ x + 258 → m1 a = μ a := fun a g1 g2 => t2.1 a (by omega) (by omega)
    obtain ⟨m2, hm2⟩ : ∃ m2, m2 = xw (xw m1 x 10 (-1)) (x + 225) 2 0 := ⟨_, rfl⟩
    have f2 : ∀ a, a ≠ x → a ≠ x + 225 → (a < x + 228 ∨ x + 248 ≤ a) → m2 a = μ a := fun a g1 g2 g3 => by rw [hm2, xw_row g2, xw_row g1, t2.1 a g2 (by omega)]
    have hC2 : yC (x + 1) S J m2 := yC_congr hC (fun a _ _ => f2 a (by omega) (by omega) (by omega)) hn
    obtain ⟨m3, c1, c2, c3⟩ := y_copyFrom (b1 := x + 41) (b2 := x + 1) (by omega) hC2 hn
    have p10 : m2 x 10 = -1 := by rw [hm2, y_wn (by omega), xw_same]
    have p2 : m2 (x + 225) 2 = 0 := by rw [hm2, xw_same]
    have p3 : m2 (x + 225) 3 = nI N := by rw [hm2, y_wk (by decide), y_wn (by omega)]; exact n3
    have px : ∀ k, k ≠ 10 → m2 x k = μ x k := fun k hk => by rw [hm2, y_wn (by omega), y_wk hk, t2.1 x (by omega) (by omega)]
    obtain ⟨ν2, b1, b2, b3, b4, b5, b6, b7, b8, b9, b10, b11⟩ := y_mrun a1 a2 a3 (by rw [hMs _ (by omega) (by omega)]; exact hM) hn
    have hO : ∀ n, n < N → yOO (x + 225) (x + 251) n m3 ν2 := by
      intro n hnn
      obtain ⟨K, v1, v2, v3, o1, o2, o3⟩ := a4 n hnn
      have er : m3 (x + 225 + 2 + 1 + n) = m1 (x + 225 + 2 + 1 + n) := by rw [c3 _ (by omega), hm2, xw_row (by omega), xw_row (by omega)]
      refine ⟨K, v1, v2, v3, o1, ?_, ?_⟩
      · unfold yOr at o2 ⊢
        rw [er]; exact o2
      · unfold yTo at o3 ⊢
        rw [b11]; exact o3
    obtain ⟨r4, m4, g, R1, νb, d1, d2, d3, d4⟩ := y_orders n2 N 0 xfu xfu (400 * i) S J 0 m3 ν2 (by omega) (by have := y_xfu22; omega) (by have := y_xfu22; omega) hIJ (by omega) c2 b2 (by rw [c3 _ (by omega)]; exact p3) b4 b5 b6 (by decide) hO
    have f4 : ∀ a, a ≠ x → a ≠ x + 225 → (a < x + 41 ∨ x + 61 ≤ a) → a ≠ x + 223 → a ≠ x + 248 → (a < x + 228 ∨ x + 248 ≤ a) → m4 a = μ a := fun a g1 g2 g3 g4 g5 g6 => by rw [d2 a g3 g4 g5, c3 a (by omega), f2 a g1 g2 g6]
    have r0 : m4 x = m2 x := by rw [d2 x (by omega) (by omega) (by omega), c3 x (by omega)]
    have r5 : m4 (x + 225) = m2 (x + 225) := by rw [d2 (x + 225) (by omega) (by omega) (by omega), c3 (x + 225) (by omega)]
    have ht : fX7_tryOrders x m2 = some (r4, m4) := by rw [fX7_tryOrders, c1, y_xbv]; exact d1
    have hk0 : fX7_run x μ = (if r4 = (-1 : Int32) then (xbv (fX2_keep (x + 61) (x + 1) m4) (fun m6 => xbv (fX0_copyFrom (x + 1) (x + 41) m6) (fun m7 => some ((0, (m7 (x + 225) 3)), m7)))) else (some ((3, 0), m4))) := by
      rw [fX7_run, t1, y_xb, fX3_empty, y_xbv, ← hm2, if_pos p10, ht, y_xb]
    have k2 : ∀ k, k ≠ 6 → k ≠ 7 → k ≠ 13 → k ≠ 14 → k ≠ 17 → k ≠ 19 → k ≠ 8 → k ≠ 9 → k ≠ 10 → νb (x + 251) k = μ (x + 251) k := fun k g1 g2 g3 g4 g5 g6 g7 g8 g9 => by rw [d3.2 k g2 g7 g8 g9, b9 k g1 g2 g3 g4 g5 g6, hMs _ (by omega) (by omega)]
    have k3 : ∀ a, a ≠ x + 251 → a ≠ x + 251 + 1 → a ≠ x + 251 + 4 → a ≠ x + 251 + 7 → νb a = Ms a := fun a g1 g2 g3 g4 => by rw [d3.1 a g1 g2, b10 a g1 g3 g4]
    have k13 : νb (x + 251) 13 = 0 := by rw [d3.2 13 (by decide) (by decide) (by decide) (by decide)]; exact b8
    have k14 : νb (x + 251) 14 = -1 := by rw [d3.2 14 (by decide) (by decide) (by decide) (by decide)]; exact b7
    have k19 : νb (x + 251) 19 = nI N := by rw [d3.2 19 (by decide) (by decide) (by decide) (by decide)]; exact b4
    have kM : yM S J (νb (x + 251 + 4)) := by rw [d3.1 _ (by omega) (by omega)]; exact b3
    rcases d4 with ⟨rfl, e1, e2, e3, e4, e5, S1, J1, e6, e7, e8⟩ | ⟨q, K, v, rfl, q2, q3, q4, q5, q6, q7, q8, q9, q10⟩
    · -- all carried out
      have hn1 := e6.1.1.1
      have hH4 : yH (400 * i) (x + 61) (x + 251) m4 μ := yH_congr hH (fun a _ _ => f4 a (by omega) (by omega) (by omega) (by omega) (by omega) (by omega)) rfl rfl
      have hC4 : yC (x + 1) S J m4 := yC_congr hC (fun a _ _ => f4 a (by omega) (by omega) (by omega) (by omega) (by omega) (by omega)) hn
      obtain ⟨m6, s1, s2, s3⟩ := yH_keep (b := x + 1) (w := x + 251 + 4) (by omega) (by omega) (by omega) hH4 hIJ hC4
      obtain ⟨νk, w1, w2, w3, w4, w5⟩ := s3 (xw νb (x + 251) 6 0) (by rw [y_wk (by decide), k2 5 (by decide) (by decide) (by decide) (by decide) (by decide) (by decide) (by decide) (by decide) (by decide)]) (by rw [xw_row (by omega), k3 _ (by omega) (by omega) (by omega) (by omega), hMs _ (by omega) (by omega)]) (xw_same _ _ _ _) (by rw [xw_row (by omega)]; exact kM)
      have hC6 : yC (x + 41) S1 J1 m6 := yC_congr e7 (fun a _ _ => s2 a (by omega)) hn1
      obtain ⟨m7, z1, z2, z3⟩ := y_copyFrom (b1 := x + 1) (b2 := x + 41) (by omega) hC6 hn1
      have f7 : ∀ a, (a < x + 1 ∨ x + 21 ≤ a) → (a < x + 61 ∨ x + 223 ≤ a) → m7 a = m4 a := fun a g1 g2 => by rw [z3 a (by omega), s2 a (by omega)]
      have hr7 : m7 (x + 225) 3 = nI N := by rw [f7 _ (by omega) (by omega), r5]; exact p3
      have hcl : fL_run x (x + 259) μ = some (0, xw m7 (x + 259) 0 (nI N)) := by
        rw [fL_run, hk0, if_pos rfl, s1, y_xbv, z1, y_xbv, hr7, y_xch0]
      have hmo : fX8_run (x + 251) Ms = some (nI N, νk) := by
        rw [b1]
        refine e2.trans ?_
        rw [lX8_run_66, k19, if_pos (Int32.le_refl (nI N)), if_pos (show (xw νb (x + 251) 6 0) (x + 251) 7 ≤ 0 by rw [y_wk (by decide), e4]; decide), w1, y_xbv, if_pos e3, w3 19 (by decide) (by decide), y_wk (by decide), k19]
      have hf : ∀ a, a ≠ x → a ≠ x + 225 → (a < x + 1 ∨ x + 21 ≤ a) → (a < x + 41 ∨ x + 61 ≤ a) → (a < x + 61 ∨ x + 223 ≤ a) → a ≠ x + 223 → (a < x + 228 ∨ x + 248 ≤ a) → a ≠ x + 259 → (xw m7 (x + 259) 0 (nI N)) a = μ a := by
        intro a g1 g2 g3 g4 g5 g6 g7 g8
        rw [xw_row g8, f7 a g3 g5]
        by_cases g9 : a = x + 248
        · rw [g9, e1, c3 _ (by omega), f2 _ (by omega) (by omega) (by omega)]
        · exact f4 a g1 g2 g4 g6 g9 g7
      have hk : ∀ k, k ≠ 5 → k ≠ 6 → k ≠ 7 → k ≠ 13 → k ≠ 14 → k ≠ 17 → k ≠ 19 → νk (x + 251) k = μ (x + 251) k := fun k g1 g2 g3 g4 g5 g6 g7 => by
        rw [w3 k g1 g3, y_wk g2, e5 k g3, b9 k g2 g3 g4 g5 g6 g7, hMs _ (by omega) (by omega)]
      have hr : ∀ a, a ≠ x + 251 → a ≠ x + 252 → a ≠ x + 253 → a ≠ x + 255 → a ≠ x + 258 → νk a = Ms a := fun a g1 g2 g3 g4 g5 => by
        rw [w4 a g1 g3, xw_row g1, k3 a g1 g2 g4 g5]
      refine ⟨0, _, _, νk, hcl, fun a g1 g2 => hf a (by omega) (by omega) (by omega) (by omega) (by omega) (by omega) (by omega) (by omega), hmo, w2, fun _ => xw_same _ _ _ _, fun a ha => hr a (by omega) (by omega) (by omega) (by omega) (by omega), ?_, hf _ (by omega) (by omega) (by omega) (by omega) (by omega) (by omega) (by omega) (by omega)⟩
      have hZ1 : ∀ a, x + 251 ≤ a → a ≤ x + 258 → yCo x (xw m7 (x + 259) 0 (nI N)) νk a = νk a := fun a g1 g2 => yCo_m g1 g2
      have hZ0 : ∀ a, (a < x + 251 ∨ x + 258 < a) → yCo x (xw m7 (x + 259) 0 (nI N)) νk a = (xw m7 (x + 259) 0 (nI N)) a := fun a g1 => yCo_c g1
      generalize yCo x (xw m7 (x + 259) 0 (nI N)) νk = Z at hZ1 hZ0 ⊢
      have zx : Z x = m2 x := by rw [hZ0 x (by omega), xw_row (by omega), f7 x (by omega) (by omega), r0]
      refine ⟨⟨S1, J1, ⟨yI_mono e6.1 (by omega), yJb_mono e6.2 (by omega)⟩, yC_congr z2 (fun a g1 g2 => by rw [hZ0 a (by omega), xw_row (by omega)]) hn1, ?_⟩, yH_mono (yH_congr w5 (fun a g1 g2 => by rw [hZ0 a (by omega), xw_row (by omega), z3 a (by omega)]) (by rw [hZ1 _ (by omega) (by omega)]) (by rw [hZ1 _ (by omega) (by omega)])) hW, ySn_congr hS hW (by rw [zx, px 3 (by decide)]) (by rw [hZ1 _ (by omega) (by omega), hk 4 (by decide) (by decide) (by decide) (by decide) (by decide) (by decide) (by decide)]) (fun a g1 g2 => by rw [hZ0 a (by omega), hf a (by omega) (by omega) (by omega) (by omega) (by omega) (by omega) (by omega) (by omega)]) (by rw [hZ1 _ (by omega) (by omega), hr _ (by omega) (by omega) (by omega) (by omega) (by omega), hMs _ (by omega) (by omega)]), ?_, ?_, ?_, yLi_congr hLi (by rw [hZ0 _ (by omega), hf _ (by omega) (by omega) (by omega) (by omega) (by omega) (by omega) (by omega) (by omega)]) (by rw [hZ1 _ (by omega) (by omega), hk 16 (by decide) (by decide) (by decide) (by decide) (by decide) (by decide) (by decide)]) (by rw [hZ1 _ (by omega) (by omega), hr _ (by omega) (by omega) (by omega) (by omega) (by omega), hMs _ (by omega) (by omega)]), ?_⟩
      · rw [hZ1 _ (by omega) (by omega), w4 _ (by omega) (by omega), xw_row (by omega)]; exact e8
      · unfold yRf at hR ⊢
        rw [hZ0 (x + 248) (by omega), hf (x + 248) (by omega) (by omega) (by omega) (by omega) (by omega) (by omega) (by omega) (by omega), hZ1 (x + 251) (by omega) (by omega), hk 8 (by decide) (by decide) (by decide) (by decide) (by decide) (by decide) (by decide), hk 9 (by decide) (by decide) (by decide) (by decide) (by decide) (by decide) (by decide), hk 10 (by decide) (by decide) (by decide) (by decide) (by decide) (by decide) (by decide), hk 11 (by decide) (by decide) (by decide) (by decide) (by decide) (by decide) (by decide)]
        exact hR
      · refine ⟨0, by omega, ?_, ?_, fun j hj => absurd hj (by omega)⟩
        · rw [hZ0 _ (by omega), xw_row (by omega), f7 _ (by omega) (by omega), r5]; exact p2
        · rw [hZ1 _ (by omega) (by omega), w3 13 (by decide) (by decide), y_wk (by decide)]; exact k13
      · rw [zx, p10, hZ1 _ (by omega) (by omega), w3 14 (by decide) (by decide), y_wk (by decide)]; exact k14.symm
      · rw [hZ1 _ (by omega) (by omega), w3 6 (by decide) (by decide), xw_same]
    · -- one refused
      obtain ⟨νf, g0, g1, g2, g3, g4, g5, g6, g7, g8, g9⟩ := y_refE (md := x + 251) (g := g) (R := R1) (by omega) rfl q4 q3 q5 q8 q9 q10
      have hcl : fL_run x (x + 259) μ = some (2, m4) := by
        rw [fL_run, hk0, if_neg (y_nm1' (by omega)), y_xchS 2, if_neg (by decide), if_pos rfl]
      have hmo : fX8_run (x + 251) Ms = some (0, νf) := by
        rw [b1]
        exact q7.trans g0
      have hk : ∀ k, k ≠ 6 → k ≠ 7 → k ≠ 8 → k ≠ 9 → k ≠ 10 → k ≠ 11 → k ≠ 13 → k ≠ 14 → k ≠ 17 → k ≠ 19 → νf (x + 251) k = μ (x + 251) k := fun k c6 c7 c8 c9 c10 c11 c13 c14 c17 c19 => by
        rw [g7 k c6 c7 c8 c9 c10 c11, k2 k c6 c7 c13 c14 c17 c19 c8 c9 c10]
      have hr : ∀ a, a ≠ x + 251 → a ≠ x + 252 → a ≠ x + 255 → a ≠ x + 258 → νf a = Ms a := fun a c1 c2 c4 c5 => by
        rw [g8 a c1 c2, k3 a c1 c2 c4 c5]
      refine ⟨2, _, _, νf, hcl, fun a c1 c2 => f4 a (by omega) (by omega) (by omega) (by omega) (by omega) (by omega), hmo, g1, fun e => absurd e (by decide), fun a ha => hr a (by omega) (by omega) (by omega) (by omega), ?_, f4 _ (by omega) (by omega) (by omega) (by omega) (by omega) (by omega)⟩
      have hZ1 : ∀ a, x + 251 ≤ a → a ≤ x + 258 → yCo x m4 νf a = νf a := fun a g1 g2 => yCo_m g1 g2
      have hZ0 : ∀ a, (a < x + 251 ∨ x + 258 < a) → yCo x m4 νf a = m4 a := fun a g1 => yCo_c g1
      generalize yCo x m4 νf = Z at hZ1 hZ0 ⊢
      have zx : Z x = m2 x := by rw [hZ0 x (by omega), r0]
      refine ⟨⟨S, J, ⟨yI_mono hIJ.1 hW, yJb_mono hIJ.2 hW⟩, yC_congr hC (fun a c1 c2 => by rw [hZ0 a (by omega), f4 a (by omega) (by omega) (by omega) (by omega) (by omega) (by omega)]) hn, ?_⟩, yH_mono (yH_congr hH (fun a c1 c2 => by rw [hZ0 a (by omega), f4 a (by omega) (by omega) (by omega) (by omega) (by omega) (by omega)]) (by rw [hZ1 _ (by omega) (by omega), hk 5 (by decide) (by decide) (by decide) (by decide) (by decide) (by decide) (by decide) (by decide) (by decide) (by decide)]) (by rw [hZ1 _ (by omega) (by omega), hr _ (by omega) (by omega) (by omega) (by omega), hMs _ (by omega) (by omega)])) hW, ySn_congr hS hW (by rw [zx, px 3 (by decide)]) (by rw [hZ1 _ (by omega) (by omega), hk 4 (by decide) (by decide) (by decide) (by decide) (by decide) (by decide) (by decide) (by decide) (by decide) (by decide)]) (fun a c1 c2 => by rw [hZ0 a (by omega), f4 a (by omega) (by omega) (by omega) (by omega) (by omega) (by omega)]) (by rw [hZ1 _ (by omega) (by omega), hr _ (by omega) (by omega) (by omega) (by omega), hMs _ (by omega) (by omega)]), ?_, ?_, ?_, yLi_congr hLi (by rw [hZ0 _ (by omega), f4 _ (by omega) (by omega) (by omega) (by omega) (by omega) (by omega)]) (by rw [hZ1 _ (by omega) (by omega), hk 16 (by decide) (by decide) (by decide) (by decide) (by decide) (by decide) (by decide) (by decide) (by decide) (by decide)]) (by rw [hZ1 _ (by omega) (by omega), hr _ (by omega) (by omega) (by omega) (by omega), hMs _ (by omega) (by omega)]), ?_⟩
      · rw [hZ1 _ (by omega) (by omega)]
        exact yM_ext kM g9 hn
      · obtain ⟨y1, y2, y3, y4⟩ := q6
        have z0 : (0 : Int32) ≤ (if 0 < v.1 then v.1 else 0) := by
          by_cases cv : 0 < v.1
          · rw [if_pos cv]; exact Int32.le_of_lt cv
          · rw [if_neg cv]; decide
        unfold yRf
        rw [hZ0 (x + 248) (by omega), hZ1 (x + 251) (by omega) (by omega), y1, y2, y3, y4, g2, g3, g4, g5]
        exact ⟨rfl, fun _ => rfl, fun _ => ⟨z0, rfl, rfl⟩, fun e => absurd rfl e⟩
      · refine ⟨0, by omega, ?_, ?_, fun j hj => absurd hj (by omega)⟩
        · rw [hZ0 _ (by omega), r5]; exact p2
        · rw [hZ1 _ (by omega) (by omega), g7 13 (by decide) (by decide) (by decide) (by decide) (by decide) (by decide)]; exact k13
      · rw [zx, p10, hZ1 _ (by omega) (by omega), g7 14 (by decide) (by decide) (by decide) (by decide) (by decide) (by decide)]; exact k14.symm
      · rw [hZ1 _ (by omega) (by omega)]; exact g6
  · -- the text is none
    obtain ⟨ν1, a1, a2, a3⟩ := q2 Ms hMs
    obtain ⟨m2, hm2⟩ : ∃ m2, m2 = xw (xw m1 x 10 (nI q)) (x + 225) 2 0 := ⟨_, rfl⟩
    have f2 : ∀ a, a ≠ x → a ≠ x + 225 → (a < x + 228 ∨ x + 248 ≤ a) → m2 a = μ a := fun a g1 g2 g3 => by rw [hm2, xw_row g2, xw_row g1, t2.1 a g2 (by omega)]
    have p10 : m2 x 10 = nI q := by rw [hm2, y_wn (by omega), xw_same]
    have p2 : m2 (x + 225) 2 = 0 := by rw [hm2, xw_same]
    have px : ∀ k, k ≠ 10 → m2 x k = μ x k := fun k hk => by rw [hm2, y_wn (by omega), y_wk hk, t2.1 x (by omega) (by omega)]
    have hcl : fL_run x (x + 259) μ = some (1, m2) := by
      rw [fL_run, fX7_run, t1, y_xb, fX3_empty, y_xbv, ← hm2, p10, if_neg (y_nm1' (by omega)), y_xchS 1, if_pos rfl]
    obtain ⟨νf, hνf⟩ : ∃ νf, νf = xw (xw (xw ν1 (x + 251) 14 (nI q)) (x + 251) 13 0) (x + 251) 7 1 := ⟨_, rfl⟩
    have hmo : fX8_run (x + 251) Ms = some (0, νf) := by
      rw [fX8_run, a1, y_xb, if_pos rfl, if_pos rfl, y_fails1, y_xb, if_neg y_n10, a3, hνf]
    have hk : ∀ k, k ≠ 7 → k ≠ 13 → k ≠ 14 → k ≠ 17 → k ≠ 19 → νf (x + 251) k = μ (x + 251) k := fun k c7 c13 c14 c17 c19 => by
      rw [hνf, y_wk c7, y_wk c13, y_wk c14, a2.2 k c17 c19, hMs _ (by omega) (by omega)]
    have hr : ∀ a, a ≠ x + 251 → a ≠ x + 258 → νf a = Ms a := fun a c1 c2 => by
      rw [hνf, xw_row c1, xw_row c1, xw_row c1, a2.1 a c1 c2]
    have h13 : νf (x + 251) 13 = 0 := by rw [hνf, y_wk (by decide), xw_same]
    have h14 : νf (x + 251) 14 = nI q := by rw [hνf, y_wk (by decide), y_wk (by decide), xw_same]
    refine ⟨1, m2, 0, νf, hcl, fun a c1 c2 => f2 a (by omega) (by omega) (by omega), hmo, by rw [hνf, xw_same], fun e => absurd e (by decide), fun a ha => hr a (by omega) (by omega), ?_, f2 _ (by omega) (by omega) (by omega)⟩
    have hZ1 : ∀ a, x + 251 ≤ a → a ≤ x + 258 → yCo x m2 νf a = νf a := fun a g1 g2 => yCo_m g1 g2
    have hZ0 : ∀ a, (a < x + 251 ∨ x + 258 < a) → yCo x m2 νf a = m2 a := fun a g1 => yCo_c g1
    generalize yCo x m2 νf = Z at hZ1 hZ0 ⊢
    have hM2 : ∀ a, x + 252 ≤ a → a ≤ x + 257 → Z a = μ a := fun a c1 c2 => by rw [hZ1 a (by omega) (by omega), hr a (by omega) (by omega), hMs a (by omega) (by omega)]
    have hC2 : ∀ a, a ≠ x → a ≠ x + 225 → (a < x + 228 ∨ x + 248 ≤ a) → (a < x + 251) → Z a = μ a := fun a c1 c2 c3 c4 => by rw [hZ0 a (by omega), f2 a c1 c2 c3]
    have hkZ : ∀ k, k ≠ 7 → k ≠ 13 → k ≠ 14 → k ≠ 17 → k ≠ 19 → Z (x + 251) k = μ (x + 251) k := fun k c7 c13 c14 c17 c19 => by rw [hZ1 _ (by omega) (by omega), hk k c7 c13 c14 c17 c19]
    have zx : Z x = m2 x := hZ0 x (by omega)
    refine ⟨⟨S, J, ⟨yI_mono hIJ.1 hW, yJb_mono hIJ.2 hW⟩, yC_congr hC (fun a c1 c2 => hC2 a (by omega) (by omega) (by omega) (by omega)) hn, by rw [hM2 _ (by omega) (by omega)]; exact hM⟩, yH_mono (yH_congr hH (fun a c1 c2 => hC2 a (by omega) (by omega) (by omega) (by omega)) (hkZ 5 (by decide) (by decide) (by decide) (by decide) (by decide)) (hM2 _ (by omega) (by omega))) hW, ySn_congr hS hW (by rw [zx, px 3 (by decide)]) (hkZ 4 (by decide) (by decide) (by decide) (by decide) (by decide)) (fun a c1 c2 => hC2 a (by omega) (by omega) (by omega) (by omega)) (hM2 _ (by omega) (by omega)), ?_, ?_, ?_, yLi_congr hLi (hC2 _ (by omega) (by omega) (by omega) (by omega)) (hkZ 16 (by decide) (by decide) (by decide) (by decide) (by decide)) (hM2 _ (by omega) (by omega)), ?_⟩
    · unfold yRf at hR ⊢
      rw [hC2 (x + 248) (by omega) (by omega) (by omega) (by omega), hkZ 8 (by decide) (by decide) (by decide) (by decide) (by decide), hkZ 9 (by decide) (by decide) (by decide) (by decide) (by decide), hkZ 10 (by decide) (by decide) (by decide) (by decide) (by decide), hkZ 11 (by decide) (by decide) (by decide) (by decide) (by decide)]
      exact hR
    · refine ⟨0, by omega, ?_, ?_, fun j hj => absurd hj (by omega)⟩
      · rw [hZ0 _ (by omega)]; exact p2
      · rw [hZ1 _ (by omega) (by omega)]; exact h13
    · rw [zx, p10, hZ1 _ (by omega) (by omega)]; exact h14.symm
    · rw [hkZ 6 (by decide) (by decide) (by decide) (by decide) (by decide)]; exact h6
theorem y_L23 {x i : Nat} {μ : xM} (s1 s2 s3 : Int32) (h : yInv x i μ) (hi : i < 512) : ∃ μ1, gL_23 x (x + 251) (x + 259) s1 s2 s3 μ = some μ1 ∧ yInv x (i + 1) μ1 ∧ μ1 (x + 249) = μ (x + 249) := by
  obtain ⟨code, Mf, r0, ν0, a1, a2, _, _, _, _, _, _⟩ := y_run h hi μ (fun _ _ _ => rfl)
  obtain ⟨code', Mf', r2, νf, b1, b2, b3, b4, b5, b6, b7, b8⟩ := y_run h hi Mf a2
  have u := Option.some.inj (a1.symm.trans b1)
  obtain ⟨u1, u2⟩ := Prod.mk.inj u
  subst u1; subst u2
  have e : νf = yCo x Mf νf := by
    funext a
    by_cases c : x + 251 ≤ a ∧ a ≤ x + 258
    · rw [yCo_m c.1 c.2]
    · rw [yCo_c (by omega), b6 a (by omega)]
  refine ⟨νf, y_gl a1 b3 b4 (fun ec => by rw [b6 _ (by omega)]; exact b5 ec), by rw [e]; exact b7, by rw [b6 _ (by omega)]; exact b8⟩
