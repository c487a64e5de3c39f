/-! THE PURE PART: the orders of a text carried out, class and model in step -/
theorem y_eta (o : Option (Int32 × xM)) : xb o (fun r m => some (r, m)) = o := by
  match o with
  | none => rfl
  | some (r, m) => rfl
theorem yK7_K {K : Nat} (h : yK7 K) : yK (nI K) ∧ K < 65536 ∧ nI K ≠ 37 ∧ nI K ≠ 102 := by
  unfold yK7 at h
  unfold yK
  rcases h with rfl | rfl | rfl | rfl | rfl | rfl | rfl
  · exact ⟨Or.inr (Or.inr (Or.inr (Or.inr (Or.inl rfl)))), by decide, by decide, by decide⟩
  · exact ⟨Or.inr (Or.inr (Or.inr (Or.inr (Or.inr (Or.inr (Or.inr (Or.inr rfl))))))), by decide, by decide, by decide⟩
  · exact ⟨Or.inr (Or.inr (Or.inr (Or.inr (Or.inr (Or.inr (Or.inl rfl)))))), by decide, by decide, by decide⟩
  · exact ⟨Or.inr (Or.inl rfl), by decide, by decide, by decide⟩
  · exact ⟨Or.inr (Or.inr (Or.inr (Or.inr (Or.inr (Or.inr (Or.inr (Or.inl rfl))))))), by decide, by decide, by decide⟩
  · exact ⟨Or.inr (Or.inr (Or.inr (Or.inr (Or.inr (Or.inl rfl))))), by decide, by decide, by decide⟩
  · exact ⟨Or.inr (Or.inr (Or.inr (Or.inl rfl))), by decide, by decide, by decide⟩
theorem y_carries {md j K v1 v2 v3 W b : Nat} {S : Nat → Nat → Nat} {J : Nat → Int32} {μ ν : xM} (hK : yK7 K) (hj : j < 20) (hT : yTo md j K v1 v2 v3 ν) (hC : yC b S J μ) (hB : yM S J (ν (md + 1))) (hI : yI W S) (hW : W < 80000000) : yMo md (nI K) (yv (nI K) (nI v1) (nI v2) (nI v3) S J) (yopR (nI K) (nI v1) (nI v2) (nI v3) S J) (yopS (nI K) (nI v1) (nI v2) (nI v3) S) (yopJ (nI K) (nI v1) (nI v2) (nI v3) S J) ν (fX8_carries md (nI (4 * j)) ν) := by
  obtain ⟨t0, t1, t2, t3⟩ := hT
  have e1 : nI (4 * j) + 1 = nI (4 * j + 1) := nI_add (4 * j) 1
  have e2 : nI (4 * j) + 2 = nI (4 * j + 2) := nI_add (4 * j) 2
  have e3 : nI (4 * j) + 3 = nI (4 * j + 3) := nI_add (4 * j) 3
  have c0 : (nI (4 * j)).toNatClampNeg = 4 * j := nI_clamp (by omega)
  have c1 : (nI (4 * j + 1)).toNatClampNeg = 4 * j + 1 := nI_clamp (by omega)
  have c2 : (nI (4 * j + 2)).toNatClampNeg = 4 * j + 2 := nI_clamp (by omega)
  have c3 : (nI (4 * j + 3)).toNatClampNeg = 4 * j + 3 := nI_clamp (by omega)
  have i0 : vp_in (nI (4 * j)) 124 := vp_in_nI (by omega) (by decide)
  have i1 : vp_in (nI (4 * j + 1)) 124 := vp_in_nI (by omega) (by decide)
  have i2 : vp_in (nI (4 * j + 2)) 124 := vp_in_nI (by omega) (by decide)
  have i3 : vp_in (nI (4 * j + 3)) 124 := vp_in_nI (by omega) (by decide)
  rw [fX8_carries, y_xk i0, c0, t0, e1, e2, e3, c1, c2, c3, t1]
  unfold yK7 at hK
  rcases hK with rfl | rfl | rfl | rfl | rfl | rfl | rfl
  · rw [if_neg (show ¬ nI 112 = 99 by decide), if_pos (show nI 112 = 112 from rfl), y_xk i1, y_xk i2, y_xk i3, t2 (Or.inl rfl), t3 rfl, y_eta]
    exact y_m_pledge hB hI _ _ _
  · rw [if_neg (show ¬ nI 121 = 99 by decide), if_neg (show ¬ nI 121 = 112 by decide), if_neg (show ¬ nI 121 = 114 by decide), if_neg (show ¬ nI 121 = 115 by decide), if_neg (show ¬ nI 121 = 119 by decide), if_pos (show nI 121 = 121 from rfl), y_xk i1, y_xk i2, t2 (Or.inr (Or.inl rfl)), y_eta]
    exact y_m_pay hB hI _ _ _
  · rw [if_neg (show ¬ nI 115 = 99 by decide), if_neg (show ¬ nI 115 = 112 by decide), if_neg (show ¬ nI 115 = 114 by decide), if_pos (show nI 115 = 115 from rfl), y_xk i1, y_xk i2, t2 (Or.inr (Or.inr rfl)), y_eta]
    exact y_m_sell hB hI _ _ _
  · rw [if_pos (show nI 99 = 99 from rfl), y_xk i1, y_eta]
    exact y_m_claim hB hI _ _ _
  · rw [if_neg (show ¬ nI 119 = 99 by decide), if_neg (show ¬ nI 119 = 112 by decide), if_neg (show ¬ nI 119 = 114 by decide), if_neg (show ¬ nI 119 = 115 by decide), if_pos (show nI 119 = 119 from rfl), y_xk i1, y_eta]
    exact y_m_pass hC hB hI hW _ _ _
  · rw [if_neg (show ¬ nI 114 = 99 by decide), if_neg (show ¬ nI 114 = 112 by decide), if_pos (show nI 114 = 114 from rfl), y_xk i1, y_eta]
    exact y_m_redeem hB hI _ _ _
  · rw [if_neg (show ¬ nI 110 = 99 by decide), if_neg (show ¬ nI 110 = 112 by decide), if_neg (show ¬ nI 110 = 114 by decide), if_neg (show ¬ nI 110 = 115 by decide), if_neg (show ¬ nI 110 = 119 by decide), if_neg (show ¬ nI 110 = 121 by decide), y_xk i1, y_eta]
    exact y_m_renew hB hI _ _ _
/-- what a refused text leaves in the class: the order j, by the verdict v -/
def yCx (x j : Nat) (v : Int32 × Int32) (μ : xM) : Prop := μ (x + 248) 0 = 11 ∧ μ (x + 248) 1 = nI j ∧ μ (x + 248) 2 = (if 0 < v.1 then v.1 else 0) ∧ μ (x + 248) 3 = (if 0 < v.1 then v.2 else 0)
def yFr (x : Nat) (μ μ1 : xM) : Prop := ∀ a, (a < x + 41 ∨ x + 61 ≤ a) → a ≠ x + 223 → a ≠ x + 248 → μ1 a = μ a
def yFn (md : Nat) (ν ν1 : xM) : Prop := (∀ a, a ≠ md → a ≠ md + 1 → ν1 a = ν a) ∧ ∀ k, k ≠ 7 → k ≠ 8 → k ≠ 9 → k ≠ 10 → ν1 md k = ν md k
theorem yFn_t {md : Nat} {ν ν1 ν2 : xM} (h1 : yFn md ν ν1) (h2 : yFn md ν1 ν2) : yFn md ν ν2 := ⟨fun a a1 a2 => (h2.1 a a1 a2).trans (h1.1 a a1 a2), fun k a1 a2 a3 a4 => (h2.2 k a1 a2 a3 a4).trans (h1.2 k a1 a2 a3 a4)⟩
theorem y_orders {x N : Nat} (hN : N ≤ 20) : ∀ u j f f2 (W : Nat) (S : Nat → Nat → Nat) (J : Nat → Int32) (R : Int32) (μ ν : xM), j + u = N → u < f → u + 1 < f2 → yIJ W S J → W + 20 * u < 1000000 → yC (x + 41) S J μ → yM S J (ν (x + 251 + 1)) → μ (x + 225) 3 = nI N → ν (x + 251) 19 = nI N → ν (x + 251) 6 = 1 → ν (x + 251) 7 = 0 → 0 ≤ R → (∀ n, n < N → yOO (x + 225) (x + 251) n μ ν) → ∃ r μ1 g R1 ν1, lX7_tryOrders_13 x f (nI j) μ = some (r, μ1) ∧ yFr x μ μ1 ∧ yFn (x + 251) ν ν1 ∧ ((r = -1 ∧ μ1 (x + 248) = μ (x + 248) ∧ lX8_run_66 (x + 251) f2 1 (nI j) R ν = lX8_run_66 (x + 251) (g + 1) 1 (nI N) R1 ν1 ∧ 0 ≤ R1 ∧ ν1 (x + 251) 7 = 0 ∧ (∀ k, k ≠ 7 → ν1 (x + 251) k = ν (x + 251) k) ∧ ∃ S1 J1, yIJ (W + 20 * u) S1 J1 ∧ yC (x + 41) S1 J1 μ1 ∧ yM S1 J1 (ν1 (x + 251 + 1))) ∨ (∃ q K v, r = nI q ∧ q < N ∧ yvr (nI K) v.1 ∧ yK7 K ∧ v.1 ≠ 0 ∧ yCx x q v μ1 ∧ lX8_run_66 (x + 251) f2 1 (nI j) R ν = lX8_run_66 (x + 251) (g + 1) 1 (nI (q + 1)) R1 ν1 ∧ ν1 (x + 251 + 7) (4 * q) = nI K ∧ (v.1 < 0 → ν1 (x + 251) 7 = yth (nI K) v.1) ∧ (0 < v.1 → ν1 (x + 251) 7 = yla (nI K) ∧ ν1 (x + 251) 8 = v.1 ∧ ν1 (x + 251) 9 = v.2))) := by
  intro u
  induction u with
  | zero =>
    intro j f f2 W S J R μ ν hj hf hf2 hI hW hC hM h3 h19 h6 h7 hR hO
    obtain ⟨f, rfl⟩ : ∃ f', f = f' + 1 := ⟨f - 1, by omega⟩
    obtain ⟨f2, rfl⟩ : ∃ f', f2 = f' + 1 := ⟨f2 - 1, by omega⟩
    obtain rfl : j = N := by omega
    refine ⟨-1, μ, f2, R, ν, ?_, fun _ _ _ _ => rfl, ⟨fun _ _ _ => rfl, fun _ _ _ _ _ => rfl⟩, Or.inl ⟨rfl, rfl, rfl, hR, h7, fun _ _ => rfl, S, J, hI, hC, hM⟩⟩
    rw [lX7_tryOrders_13, h3, if_pos (Int32.le_refl _)]
  | succ u ih =>
    intro j f f2 W S J R μ ν hj hf hf2 hIJ hW hC hM h3 h19 h6 h7 hR hO
    obtain ⟨f, rfl⟩ : ∃ f', f = f' + 1 := ⟨f - 1, by omega⟩
    obtain ⟨f2, rfl⟩ : ∃ f', f2 = f' + 1 + 1 := ⟨f2 - 2, by omega⟩
    have hI := hIJ.1
    have hn := hI.1.1
    have hjN : j < N := by omega
    obtain ⟨K, v1, v2, v3, hK, ho, hT⟩ := hO j hjN
    obtain ⟨hKK, hK6, -, -⟩ := yK7_K hK
    have hcr := y_carries (md := x + 251) hK (by omega) hT hC hM hI (by omega)
    have hr := yv_r (K := nI K) (p1 := nI v1) (p2 := nI v2) (p3 := nI v3) (S := S) (J := J) hKK
    have hex := y_examine (c := x + 223) (h := x + 225 + 2 + 1 + j) hC hI ho (by omega) (by omega)
    have e4 : (4 : Int32) * nI j = nI (4 * j) := pk_mul 4 j
    have hmo : lX8_run_66 (x + 251) (f2 + 1 + 1) 1 (nI j) R ν = xb (fX8_carries (x + 251) (nI (4 * j)) ν) (fun r m => lX8_run_66 (x + 251) (f2 + 1) 1 (nI (j + 1)) r m) := by
      rw [lX8_run_66, h19, if_neg (fun q => by have := (nI_leI (by omega) (by omega)).mp q; omega), if_pos h7, e4, nI_1]
    have hcl : lX7_tryOrders_13 x (f + 1) (nI j) μ = xb (fX1_examine (x + 223) (x + 41) (x + 225 + 2 + 1 + j) μ) (fun r4 m4 => if r4 = 0 then (xk (vp_in (nI j) 20) (xb (fX0_carryOut ((x + 41)) ((((x + 225) + 2) + 1 + j)) m4) (fun r7 m7 => lX7_tryOrders_13 x f (nI (j + 1)) m7))) else (xbv (fX6_keep ((x + 248)) ((11 : Int32)) (nI j) m4) (fun m8 => if r4 ≤ 0 then (if r4 ≤ 0 then (xbv (fX6_keepCause ((x + 248)) ((0 : Int32)) ((0 : Int32)) m8) (fun m11 => some (nI j, m11))) else (xbv (fX6_keepCause ((x + 248)) ((0 : Int32)) ((m8 ((x + 223)) 0)) m8) (fun m12 => some (nI j, m12)))) else (if r4 ≤ 0 then (xbv (fX6_keepCause ((x + 248)) r4 ((0 : Int32)) m8) (fun m14 => some (nI j, m14))) else (xbv (fX6_keepCause ((x + 248)) r4 ((m8 ((x + 223)) 0)) m8) (fun m15 => some (nI j, m15))))))) := by
      rw [lX7_tryOrders_13, h3, if_neg (fun q => by have := (nI_leI (by omega) (by omega)).mp q; omega), y_xk (vp_in_nI (by omega) (by decide)), nI_clamp (by omega), nI_1]
    rw [hcl, hmo, hex, y_xb]
    generalize hvd : yv (nI K) (nI v1) (nI v2) (nI v3) S J = v at hcr hr
    have vs : v.1 < 0 ∨ 0 < v.1 ∨ v.1 = 0 := by
      rcases hr with r | r | r | r | r
      · exact Or.inl (by rw [r.1]; decide)
      · exact Or.inl (by rw [r.1]; decide)
      · exact Or.inl (by rw [r.1]; decide)
      · exact Or.inr (Or.inl r.1)
      · exact Or.inr (Or.inr r)
    have fcl : ∀ a, (a < x + 41 ∨ x + 61 ≤ a) → a ≠ x + 223 → (xw μ (x + 223) 0 v.2) a = μ a := fun a _ a2 => xw_row a2
    rcases vs with c | c | c
    · -- it would throw
      have nz : ¬ v.1 = 0 := fun q => by rw [q] at c; exact absurd c (by decide)
      have np : ¬ 0 < v.1 := fun q => y_irr c q
      have hle : v.1 ≤ 0 := Int32.not_lt.mp np
      have hm := hcr.1 c
      rw [if_neg nz, fX6_keep, y_xbv, if_pos hle, if_pos hle, fX6_keepCause, y_xbv, hm, y_xb]
      refine ⟨nI j, _, f2, 0, _, rfl, fun a a1 a2 a3 => by rw [xw_row a3, xw_row a3, xw_row a3, xw_row a3, xw_row a2], ⟨fun a a1 _ => xw_row a1, fun k k7 _ _ _ => y_wk k7⟩, Or.inr ⟨j, K, v, rfl, hjN, hr, hK, nz, ⟨?_, ?_, ?_, ?_⟩, rfl, ?_, fun _ => xw_same _ _ _ _, fun q => absurd q np⟩⟩
      · rw [y_wk (by decide), y_wk (by decide), y_wk (by decide), xw_same]
      · rw [y_wk (by decide), y_wk (by decide), xw_same]
      · rw [y_wk (by decide), xw_same, if_neg np]
      · rw [xw_same, if_neg np]
      · rw [y_wn (by omega)]; exact hT.1
    · -- it is refused
      have nz : ¬ v.1 = 0 := fun q => by rw [q] at c; exact absurd c (by decide)
      have nl : ¬ v.1 ≤ 0 := Int32.not_le.mpr c
      have nn : ¬ v.1 < 0 := fun q => y_irr q c
      have hm := hcr.2.1 c
      rw [if_neg nz, fX6_keep, y_xbv, if_neg nl, if_neg nl, fX6_keepCause, y_xbv, hm, y_xb]
      have ed : (xw (xw (xw μ (x + 223) 0 v.2) (x + 248) 0 11) (x + 248) 1 (nI j)) (x + 223) 0 = v.2 := by rw [y_wn (by omega), y_wn (by omega), xw_same]
      rw [ed]
      refine ⟨nI j, _, f2, 0, _, rfl, fun a a1 a2 a3 => by rw [xw_row a3, xw_row a3, xw_row a3, xw_row a3, xw_row a2], ⟨fun a a1 _ => by unfold yrf; rw [xw_row a1, xw_row a1, xw_row a1, xw_row a1], fun k k7 k8 k9 k10 => by unfold yrf; rw [y_wk k10, y_wk k9, y_wk k8, y_wk k7]⟩, Or.inr ⟨j, K, v, rfl, hjN, hr, hK, nz, ⟨?_, ?_, ?_, ?_⟩, rfl, ?_, fun q => absurd q nn, fun _ => ⟨?_, ?_, ?_⟩⟩⟩
      · rw [y_wk (by decide), y_wk (by decide), y_wk (by decide), xw_same]
      · rw [y_wk (by decide), y_wk (by decide), xw_same]
      · rw [y_wk (by decide), xw_same, if_pos c]
      · rw [xw_same, if_pos c]
      · unfold yrf; rw [y_wn (by omega), y_wn (by omega), y_wn (by omega), y_wn (by omega)]; exact hT.1
      · unfold yrf; rw [y_wk (by decide), y_wk (by decide), y_wk (by decide), xw_same]
      · unfold yrf; rw [y_wk (by decide), y_wk (by decide), xw_same]
      · unfold yrf; rw [y_wk (by decide), xw_same]
    · -- it is carried out
      have hv0 : (yv (nI K) (nI v1) (nI v2) (nI v3) S J).1 = 0 := by rw [hvd]; exact c
      have hC2 : yC (x + 41) S J (xw μ (x + 223) 0 v.2) := yC_congr hC (fun a g1 g2 => xw_row (by omega)) hn
      have ho2 : yOr (x + 225 + 2 + 1 + j) (nI K) (nI v1) (nI v2) (nI v3) (xw μ (x + 223) 0 v.2) := by unfold yOr; rw [xw_row (by omega)]; exact ho
      obtain ⟨m8, l1, l2, l3⟩ := y_carry hC2 hI (by omega) ho2 (by omega) hKK hv0
      obtain ⟨n2, r1, r2, r3⟩ := hcr.2.2 c (xw (xw ν (x + 251) 7 0) (x + 251) 7 0) (y_keepW (by rw [y_wk (by decide)]; exact h6)) (by rw [xw_row (by omega), xw_row (by omega)])
      have hI8 : yIJ (W + 20) _ _ := ⟨y_inv hC hI (by omega) hKK hv0, y_invJ hI hIJ.2 hKK hv0⟩
      have hRp := y_Rpos hC hI hIJ.2 (by omega) hKK hv0
      rw [if_pos c, y_xk (vp_in_nI (by omega) (by decide)), l1, y_xb, r1, y_xb]
      have m8a : ∀ a, (a < x + 41 ∨ x + 61 ≤ a) → a ≠ x + 223 → m8 a = μ a := fun a a1 a2 => by rw [l3 a (by omega), xw_row a2]
      have n2k : ∀ k, k ≠ 7 → n2 (x + 251) k = ν (x + 251) k := fun k k7 => by rw [r3 _ (by omega), y_wk k7, y_wk k7]
      have n2a : ∀ a, a ≠ x + 251 → a ≠ x + 251 + 1 → n2 a = ν a := fun a a1 a2 => by rw [r3 a a2, xw_row a1, xw_row a1]
      have n27 : n2 (x + 251) 7 = 0 := by rw [r3 _ (by omega), xw_same]
      obtain ⟨r, μ1, g, R1, ν1, w1, w2, w3, w4⟩ := ih (j + 1) f (f2 + 1) (W + 20) _ _ _ m8 n2 (by omega) (by omega) (by omega) hI8 (by omega) l2 r2 (by rw [m8a _ (by omega) (by omega)]; exact h3) (by rw [n2k 19 (by decide)]; exact h19) (by rw [n2k 6 (by decide)]; exact h6) n27 hRp (fun n hnN => by
        obtain ⟨K', a1, a2, a3, q1, q2, q3⟩ := hO n hnN
        refine ⟨K', a1, a2, a3, q1, ?_, ?_⟩
        · unfold yOr; rw [m8a _ (by omega) (by omega)]; exact q2
        · unfold yTo; rw [n2a _ (by omega) (by omega)]; exact q3)
      refine ⟨r, μ1, g, R1, ν1, w1, fun a a1 a2 a3 => by rw [w2 a a1 a2 a3, m8a a a1 a2], yFn_t ⟨n2a, fun k k7 _ _ _ => n2k k k7⟩ w3, ?_⟩
      rcases w4 with ⟨z1, z2, z3, z4, z5, z6, S1, J1, z7, z8, z9⟩ | z
      · exact Or.inl ⟨z1, by rw [z2, m8a _ (by omega) (by omega)], z3, z4, z5, fun k k7 => by rw [z6 k k7, n2k k k7], S1, J1, by rw [show W + 20 * (u + 1) = W + 20 + 20 * u by omega]; exact z7, z8, z9⟩
      · exact Or.inr z
