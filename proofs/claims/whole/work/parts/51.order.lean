/-! THE PURE PART: one order of a text -/
noncomputable def yp1 (s : Nat → Nat) (L k p : Nat) : Bool × Nat × Nat × Nat × Nat := @ite _ (ydig s L p) (Classical.propDecidable _) (true, (ynum s L k 0 p).2, (ynum s L k 0 p).1, 0, 0) (false, p, 0, 0, 0)
noncomputable def yp2 (s : Nat → Nat) (L k k2 p : Nat) : Bool × Nat × Nat × Nat × Nat := @ite _ (ydig s L p) (Classical.propDecidable _) (@ite _ ((ynum s L k 0 p).2 < L ∧ s (ynum s L k 0 p).2 = 61) (Classical.propDecidable _) (@ite _ (ydig s L ((ynum s L k 0 p).2 + 1)) (Classical.propDecidable _) (true, (ynum s L k2 0 ((ynum s L k 0 p).2 + 1)).2, (ynum s L k 0 p).1, (ynum s L k2 0 ((ynum s L k 0 p).2 + 1)).1, 0) (false, (ynum s L k 0 p).2 + 1, 0, 0, 0)) (false, (ynum s L k 0 p).2, 0, 0, 0)) (false, p, 0, 0, 0)
noncomputable def yp3 (s : Nat → Nat) (L p : Nat) : Bool × Nat × Nat × Nat × Nat := if (yp2 s L 1 3 p).1 = true then @ite _ ((yp2 s L 1 3 p).2.1 < L ∧ s (yp2 s L 1 3 p).2.1 = 47) (Classical.propDecidable _) (@ite _ (ydig s L ((yp2 s L 1 3 p).2.1 + 1)) (Classical.propDecidable _) (true, (ynum s L 3 0 ((yp2 s L 1 3 p).2.1 + 1)).2, (yp2 s L 1 3 p).2.2.1, (yp2 s L 1 3 p).2.2.2.1, (ynum s L 3 0 ((yp2 s L 1 3 p).2.1 + 1)).1) (false, (yp2 s L 1 3 p).2.1 + 1, 0, 0, 0)) (false, (yp2 s L 1 3 p).2.1, 0, 0, 0) else yp2 s L 1 3 p
-- the class
def yOa (o K m v1 v2 v3 : Nat) (μ : xM) : Prop := μ o 0 = nI K ∧ μ o 1 = nI v1 ∧ μ o 2 = nI v2 ∧ μ o 3 = nI v3 ∧ μ o 4 = nI m
def yFo (h o : Nat) (μ μ1 : xM) : Prop := (∀ a, a ≠ h → a ≠ o → μ1 a = μ a) ∧ ∀ j, j ≠ 4 → μ1 h j = μ h j
theorem yFo_t {h o : Nat} {μ μ1 μ2 : xM} (h1 : yFo h o μ μ1) (h2 : yFo h o μ1 μ2) : yFo h o μ μ2 := ⟨fun a a1 a2 => (h2.1 a a1 a2).trans (h1.1 a a1 a2), fun j hj => (h2.2 j hj).trans (h1.2 j hj)⟩
theorem yFo_r {h o : Nat} {μ : xM} : yFo h o μ μ := ⟨fun _ _ _ => rfl, fun _ _ => rfl⟩
theorem y_pN {h o k m K v1 v2 v3 : Nat} {s : Nat → Nat} {L p : Nat} {μ : xM} (hi : yCi h s L p μ) (ho : o ≠ h) (ho1 : o ≠ h + 1) (hk : k ≤ 3) (hm : m < 3) (hO : yOa o K m v1 v2 v3 μ) : (ydig s L p → ∃ μ1, fX3_readPart h o (nI (48 + (k + 1))) μ = some (1, μ1) ∧ yCi h s L (ynum s L (k + 1) 0 p).2 μ1 ∧ yOa o K (m + 1) (if m = 0 then (ynum s L (k + 1) 0 p).1 else v1) (if m = 1 then (ynum s L (k + 1) 0 p).1 else v2) (if m = 2 then (ynum s L (k + 1) 0 p).1 else v3) μ1 ∧ yFo h o μ μ1) ∧ (¬ ydig s L p → fX3_readPart h o (nI (48 + (k + 1))) μ = some (0, μ)) := by
  obtain ⟨n1, n2⟩ := y_rNum hi (k := k) (by omega)
  have ed : nI (48 + (k + 1)) - 48 = nI (k + 1) := by rw [show (48 : Int32) = nI 48 from rfl, pk_sub (by omega), show 48 + (k + 1) - 48 = k + 1 by omega]
  refine ⟨fun dg => ?_, fun nd => ?_⟩
  · obtain ⟨m1, k1, k2, k3, k4⟩ := n1 dg
    have hb := (ynum_b (s := s) (L := L) (k + 1) 0 p hi.2.1).2.2
    have hb2 : 10 ^ (k + 1) ≤ 10 ^ 4 := Nat.pow_le_pow_right (by decide) (by omega)
    have hb3 : (10 : Nat) ^ 4 = 10000 := by decide
    generalize hV : (ynum s L (k + 1) 0 p).1 = V at *
    have n9 : ¬ nI V = -1 := y_nm1 (by omega)
    have hO1 : yOa o K m v1 v2 v3 m1 := by unfold yOa; rw [k3 o ho]; exact hO
    obtain ⟨o0, o1, o2, o3, o4⟩ := hO1
    have fin : ∀ q, q = m → q < 3 → ∃ μ1, fX4_add o (nI V) m1 = some μ1 ∧ yOa o K (m + 1) (if m = 0 then V else v1) (if m = 1 then V else v2) (if m = 2 then V else v3) μ1 ∧ ∀ a, a ≠ o → μ1 a = m1 a := by
      intro q hq hq3
      have hq' : q = 0 ∨ q = 1 ∨ q = 2 := by omega
      rcases hq' with rfl | rfl | rfl
      · subst hq
        refine ⟨xw (xw m1 o 1 (nI V)) o 4 (nI 1), ?_, ⟨?_, ?_, ?_, ?_, xw_same _ _ _ _⟩, fun a ha => by rw [xw_row ha, xw_row ha]⟩
        · rw [fX4_add, if_pos (show m1 o 4 = 0 from o4), y_wk (by decide), o4]; rfl
        · rw [y_wk (by decide), y_wk (by decide)]; exact o0
        · rw [y_wk (by decide), xw_same]; rfl
        · rw [y_wk (by decide), y_wk (by decide)]; exact o2
        · rw [y_wk (by decide), y_wk (by decide)]; exact o3
      · subst hq
        refine ⟨xw (xw m1 o 2 (nI V)) o 4 (nI 2), ?_, ⟨?_, ?_, ?_, ?_, xw_same _ _ _ _⟩, fun a ha => by rw [xw_row ha, xw_row ha]⟩
        · rw [fX4_add, o4, if_neg (by decide), if_pos (show nI 1 = 1 from rfl), y_wk (by decide), o4]; rfl
        · rw [y_wk (by decide), y_wk (by decide)]; exact o0
        · rw [y_wk (by decide), y_wk (by decide)]; exact o1
        · rw [y_wk (by decide), xw_same]; rfl
        · rw [y_wk (by decide), y_wk (by decide)]; exact o3
      · subst hq
        refine ⟨xw (xw m1 o 3 (nI V)) o 4 (nI 3), ?_, ⟨?_, ?_, ?_, ?_, xw_same _ _ _ _⟩, fun a ha => by rw [xw_row ha, xw_row ha]⟩
        · rw [fX4_add, o4, if_neg (by decide), if_neg (by decide), y_wk (by decide), o4]; rfl
        · rw [y_wk (by decide), y_wk (by decide)]; exact o0
        · rw [y_wk (by decide), y_wk (by decide)]; exact o1
        · rw [y_wk (by decide), y_wk (by decide)]; exact o2
        · rw [y_wk (by decide), xw_same]; rfl
    obtain ⟨μ1, l1, l2, l3⟩ := fin m rfl hm
    refine ⟨μ1, ?_, yCi_to k2 k2.2.1 (by rw [l3 h (Ne.symm ho)]) (by rw [l3 h (Ne.symm ho)]; exact k2.2.2.2.1) (l3 _ (Ne.symm ho1)), l2, fun a a1 a2 => by rw [l3 a a2, k3 a a1], fun j hj => by rw [l3 h (Ne.symm ho), k4 j hj]⟩
    rw [fX3_readPart, y_isDigit (by omega), if_pos (by omega), y_xb, if_neg y_n10, ed, k1, y_xb, if_neg n9, l1, y_xbv]
  · rw [fX3_readPart, y_isDigit (by omega), if_pos (by omega), y_xb, if_neg y_n10, ed, n2 nd, y_xb, if_pos rfl]
theorem y_pS {h o c : Nat} {s : Nat → Nat} {L p : Nat} {μ : xM} (hi : yCi h s L p μ) (hc : c < 65536) (hd : ¬ (48 ≤ c ∧ c ≤ 57)) : (p < L ∧ s p = c → fX3_readPart h o (nI c) μ = some (1, xw μ h 4 (nI (p + 1))) ∧ yCi h s L (p + 1) (xw μ h 4 (nI (p + 1))) ∧ yFo h o μ (xw μ h 4 (nI (p + 1)))) ∧ (¬ (p < L ∧ s p = c) → fX3_readPart h o (nI c) μ = some (0, μ)) := by
  obtain ⟨n1, n2⟩ := y_rS hi hc
  refine ⟨fun q => ⟨?_, yCi_to hi (by have := q.1; omega) (y_wk (by decide)) (xw_same _ _ _ _) (xw_row (by omega)), fun a a1 a2 => xw_row a1, fun j hj => y_wk hj⟩, fun q => ?_⟩
  · rw [fX3_readPart, y_isDigit hc, if_neg hd, y_xb, if_pos rfl, n1 q, y_xb, y_xk y_zt]
  · rw [fX3_readPart, y_isDigit hc, if_neg hd, y_xb, if_pos rfl, n2 q, y_xb, y_xk y_zf]
def ycd (a j : Nat) : Int32 := (((((xsB.getD a []).getD j 0 &&& (255 : Int32))).toUInt32 % 65536).toInt32)
theorem y_len {a l : Nat} {μ : xM} (hl : xsL.getD a 0 = l) (h1 : l < 1000) : fJ0_length_8abf5 a μ = some (nI l, μ) := by
  have e : (Int32.ofNat (xsL.getD a 0)) >>> ((0 : Int32) &&& 31) = nI l := by
    rw [hl]
    show nI l >>> ((0 : Int32) &&& 31) = nI l
    rw [pk_shrN (by omega) _ 0 (by decide), Nat.pow_zero, Nat.div_one]
  rw [fJ0_length_8abf5, fJ0_coder_7d493, if_neg y_n10, y_xb, e]
theorem y_ro_end {h o f a l : Nat} {x2 : Int32} {μ : xM} (hl : xsL.getD a 0 = l) (h1 : l < 1000) : lX3_readOrder_55 h o (f + 1) x2 a (nI l) μ = some (1, μ) := by
  rw [lX3_readOrder_55, y_len hl h1, y_xb, if_pos (Int32.le_refl _)]
theorem y_ro_go {h o f a l j c : Nat} {x2 : Int32} {μ : xM} (hl : xsL.getD a 0 = l) (h1 : l < 1000) (hj : j < l) (hc : ycd a j = nI c) : lX3_readOrder_55 h o (f + 1) x2 a (nI j) μ = xb (fX3_readPart h o (nI c) μ) (fun r10 m10 => if r10 = 0 then (some ((0 : Int32), m10)) else (lX3_readOrder_55 h o f x2 a (nI (j + 1)) m10)) := by
  have e := y_charAt (h := a) (j := j) (μ := μ) (by rw [hl]; exact hj) (by rw [hl]; exact h1)
  have e' : fJ0_charAt_5068e a (nI j) μ = some (nI c, μ) := by rw [e, ← hc]; rfl
  rw [lX3_readOrder_55, y_len hl h1, y_xb, if_neg (fun q => by have := (nI_leI (by omega) (by omega)).mp q; omega), e', y_xb, nI_1]
def yRc (h o : Nat) (s : Nat → Nat) (L K : Nat) (R : Bool × Nat × Nat × Nat × Nat) (μ : xM) (o1 : Option (Int32 × xM)) : Prop := ∃ μ1, o1 = some (if R.1 = true then 1 else 0, μ1) ∧ yCi h s L R.2.1 μ1 ∧ (R.1 = true → yOr o (nI K) (nI R.2.2.1) (nI R.2.2.2.1) (nI R.2.2.2.2) μ1) ∧ yFo h o μ μ1
theorem y_c1 {h o k K a : Nat} {s : Nat → Nat} {L p : Nat} {x2 : Int32} {μ : xM} (hi : yCi h s L p μ) (ho : o ≠ h) (ho1 : o ≠ h + 1) (hk : k ≤ 3) (hO : yOa o K 0 0 0 0 μ) (hl : xsL.getD a 0 = 1) (c0 : ycd a 0 = nI (48 + (k + 1))) : yRc h o s L K (yp1 s L (k + 1) p) μ (lX3_readOrder_55 h o xfu x2 a 0 μ) := by
  have hF : 10 < xfu := by unfold xfu; omega
  rw [show (0 : Int32) = nI 0 from rfl]
  generalize xfu = F at hF ⊢
  obtain ⟨f, rfl⟩ : ∃ f', F = f' + 6 := ⟨F - 6, by omega⟩
  obtain ⟨n1, n2⟩ := y_pN hi ho ho1 hk (by decide) hO
  rw [y_ro_go hl (by decide) (by decide) c0]
  unfold yp1
  by_cases dg : ydig s L p
  · rw [if_pos dg]
    obtain ⟨m1, k1, k2, k3, k4⟩ := n1 dg
    refine ⟨m1, ?_, k2, fun _ => ⟨k3.1, k3.2.1, k3.2.2.1, k3.2.2.2.1⟩, k4⟩
    rw [k1, y_xb, if_neg y_n10, y_ro_end hl (by decide)]
    rfl
  · rw [if_neg dg, n2 dg, y_xb, if_pos rfl]
    exact ⟨μ, rfl, hi, fun q => absurd q Bool.false_ne_true, yFo_r⟩
/-- two numbers with '=' between; what follows is Z -/
theorem y_c2 {h o k k2 K a l : Nat} {s : Nat → Nat} {L p f : Nat} {x2 : Int32} {μ : xM} (hi : yCi h s L p μ) (ho : o ≠ h) (ho1 : o ≠ h + 1) (hk : k ≤ 3) (hk2 : k2 ≤ 3) (hO : yOa o K 0 0 0 0 μ) (hl : xsL.getD a 0 = l) (hl3 : 3 ≤ l) (hl9 : l < 1000) (c0 : ycd a 0 = nI (48 + (k + 1))) (c1 : ycd a 1 = nI 61) (c2 : ycd a 2 = nI (48 + (k2 + 1))) : ∃ μ1, yCi h s L (yp2 s L (k + 1) (k2 + 1) p).2.1 μ1 ∧ yFo h o μ μ1 ∧ ((yp2 s L (k + 1) (k2 + 1) p).1 = true → lX3_readOrder_55 h o (f + 3) x2 a (nI 0) μ = lX3_readOrder_55 h o f x2 a (nI 3) μ1 ∧ yOa o K 2 (yp2 s L (k + 1) (k2 + 1) p).2.2.1 (yp2 s L (k + 1) (k2 + 1) p).2.2.2.1 0 μ1 ∧ (yp2 s L (k + 1) (k2 + 1) p).2.2.2.2 = 0) ∧ (¬ (yp2 s L (k + 1) (k2 + 1) p).1 = true → lX3_readOrder_55 h o (f + 3) x2 a (nI 0) μ = some (0, μ1)) := by
  obtain ⟨n1, n2⟩ := y_pN hi ho ho1 hk (by decide) hO
  rw [y_ro_go hl hl9 (by omega) c0]
  unfold yp2
  by_cases dg : ydig s L p
  · rw [if_pos dg]
    obtain ⟨m1, k1, k2', k3, k4⟩ := n1 dg
    rw [k1, y_xb, if_neg y_n10, y_ro_go hl hl9 (by omega) c1]
    obtain ⟨q1, q2⟩ := y_pS (o := o) (c := 61) k2' (by decide) (by decide)
    by_cases e1 : (ynum s L (k + 1) 0 p).2 < L ∧ s (ynum s L (k + 1) 0 p).2 = 61
    · rw [if_pos e1]
      obtain ⟨w1, w2, w3⟩ := q1 e1
      rw [w1, y_xb, if_neg y_n10, y_ro_go hl hl9 (by omega) c2]
      have hO2 : yOa o K 1 (ynum s L (k + 1) 0 p).1 0 0 (xw m1 h 4 (nI ((ynum s L (k + 1) 0 p).2 + 1))) := by unfold yOa; rw [xw_row ho]; exact k3
      obtain ⟨t1, t2⟩ := y_pN w2 ho ho1 hk2 (by decide) hO2
      by_cases dg2 : ydig s L ((ynum s L (k + 1) 0 p).2 + 1)
      · rw [if_pos dg2]
        obtain ⟨m2, u1, u2, u3, u4⟩ := t1 dg2
        refine ⟨m2, u2, yFo_t k4 (yFo_t w3 u4), fun _ => ⟨?_, u3, rfl⟩, fun q => absurd rfl q⟩
        rw [u1, y_xb, if_neg y_n10]
      · rw [if_neg dg2, t2 dg2, y_xb, if_pos rfl]
        exact ⟨_, w2, yFo_t k4 w3, fun q => absurd q Bool.false_ne_true, fun _ => rfl⟩
    · rw [if_neg e1, q2 e1, y_xb, if_pos rfl]
      exact ⟨m1, k2', k4, fun q => absurd q Bool.false_ne_true, fun _ => rfl⟩
  · rw [if_neg dg, n2 dg, y_xb, if_pos rfl]
    exact ⟨μ, hi, yFo_r, fun q => absurd q Bool.false_ne_true, fun _ => rfl⟩
theorem y_c2' {h o k k2 K a : Nat} {s : Nat → Nat} {L p : Nat} {x2 : Int32} {μ : xM} (hi : yCi h s L p μ) (ho : o ≠ h) (ho1 : o ≠ h + 1) (hk : k ≤ 3) (hk2 : k2 ≤ 3) (hO : yOa o K 0 0 0 0 μ) (hl : xsL.getD a 0 = 3) (c0 : ycd a 0 = nI (48 + (k + 1))) (c1 : ycd a 1 = nI 61) (c2 : ycd a 2 = nI (48 + (k2 + 1))) : yRc h o s L K (yp2 s L (k + 1) (k2 + 1) p) μ (lX3_readOrder_55 h o xfu x2 a 0 μ) := by
  have hF : 10 < xfu := by unfold xfu; omega
  rw [show (0 : Int32) = nI 0 from rfl]
  generalize xfu = F at hF ⊢
  obtain ⟨f, rfl⟩ : ∃ f', F = f' + 1 + 3 := ⟨F - 4, by omega⟩
  obtain ⟨m, k1, k2', k3, k4⟩ := y_c2 (f := f + 1) (x2 := x2) hi ho ho1 hk hk2 hO hl (by decide) (by decide) c0 c1 c2
  by_cases b : (yp2 s L (k + 1) (k2 + 1) p).1 = true
  · obtain ⟨w1, w2, w3⟩ := k3 b
    refine ⟨m, ?_, k1, fun _ => ⟨w2.1, w2.2.1, w2.2.2.1, by rw [w3]; exact w2.2.2.2.1⟩, k2'⟩
    rw [w1, if_pos b, y_ro_end hl (by decide)]
  · exact ⟨m, by rw [k4 b, if_neg b], k1, fun q => absurd q b, k2'⟩
theorem y_c3 {h o K a : Nat} {s : Nat → Nat} {L p : Nat} {x2 : Int32} {μ : xM} (hi : yCi h s L p μ) (ho : o ≠ h) (ho1 : o ≠ h + 1) (hO : yOa o K 0 0 0 0 μ) (hl : xsL.getD a 0 = 5) (c0 : ycd a 0 = nI 49) (c1 : ycd a 1 = nI 61) (c2 : ycd a 2 = nI 51) (c3 : ycd a 3 = nI 47) (c4 : ycd a 4 = nI 51) : yRc h o s L K (yp3 s L p) μ (lX3_readOrder_55 h o xfu x2 a 0 μ) := by
  have hF : 10 < xfu := by unfold xfu; omega
  rw [show (0 : Int32) = nI 0 from rfl]
  generalize xfu = F at hF ⊢
  obtain ⟨f, rfl⟩ : ∃ f', F = f' + 1 + 1 + 1 + 3 := ⟨F - 6, by omega⟩
  obtain ⟨m, k1, k2', k3, k4⟩ := y_c2 (k := 0) (k2 := 2) (f := f + 1 + 1 + 1) (x2 := x2) hi ho ho1 (by decide) (by decide) hO hl (by decide) (by decide) c0 c1 c2
  unfold yp3
  by_cases b : (yp2 s L 1 3 p).1 = true
  · obtain ⟨w1, w2, w3⟩ := k3 b
    rw [if_pos b, w1, y_ro_go hl (by decide) (by decide) c3]
    obtain ⟨q1, q2⟩ := y_pS (o := o) (c := 47) k1 (by decide) (by decide)
    by_cases e1 : (yp2 s L 1 3 p).2.1 < L ∧ s (yp2 s L 1 3 p).2.1 = 47
    · rw [if_pos e1]
      obtain ⟨z1, z2, z3⟩ := q1 e1
      rw [z1, y_xb, if_neg y_n10, y_ro_go hl (by decide) (by decide) c4]
      have hO2 : yOa o K 2 (yp2 s L 1 3 p).2.2.1 (yp2 s L 1 3 p).2.2.2.1 0 (xw m h 4 (nI ((yp2 s L 1 3 p).2.1 + 1))) := by unfold yOa; rw [xw_row ho]; exact w2
      obtain ⟨t1, t2⟩ := y_pN (k := 2) z2 ho ho1 (by decide) (by decide) hO2
      by_cases dg2 : ydig s L ((yp2 s L 1 3 p).2.1 + 1)
      · rw [if_pos dg2]
        obtain ⟨m2, u1, u2, u3, u4⟩ := t1 dg2
        refine ⟨m2, ?_, u2, fun _ => ⟨u3.1, u3.2.1, u3.2.2.1, u3.2.2.2.1⟩, yFo_t k2' (yFo_t z3 u4)⟩
        rw [u1, y_xb, if_neg y_n10, y_ro_end hl (by decide)]
        rfl
      · rw [if_neg dg2, t2 dg2, y_xb, if_pos rfl]
        exact ⟨_, rfl, z2, fun q => absurd q Bool.false_ne_true, yFo_t k2' z3⟩
    · rw [if_neg e1, q2 e1, y_xb, if_pos rfl]
      exact ⟨m, rfl, k1, fun q => absurd q Bool.false_ne_true, k2'⟩
  · rw [if_neg b]
    exact ⟨m, by rw [k4 b, if_neg b], k1, fun q => absurd q b, k2'⟩
noncomputable def yord (s : Nat → Nat) (L p : Nat) : Bool × Nat × Nat × Nat × Nat :=
  if p < L then (if s p = 112 then yp3 s L (p + 1) else if s p = 121 then yp2 s L 2 3 (p + 1) else if s p = 115 then yp2 s L 2 4 (p + 1) else if s p = 99 then yp1 s L 1 (p + 1) else if s p = 119 then yp1 s L 2 (p + 1) else if s p = 114 then yp1 s L 2 (p + 1) else if s p = 110 then yp1 s L 2 (p + 1) else (false, p, 0, 0, 0)) else (false, p, 0, 0, 0)
theorem y_readOrder {h o : Nat} {s : Nat → Nat} {L p : Nat} {μ : xM} (hi : yCi h s L p μ) (ho : o ≠ h) (ho1 : o ≠ h + 1) : yRc h o s L (s p) (yord s L p) μ (fX3_readOrder h o μ) := by
  have hi' := hi
  obtain ⟨hL, hp, e2, e4, es⟩ := hi
  unfold yord
  rw [fX3_readOrder, e2, e4, y_ilt (by omega) (by omega)]
  by_cases c1 : p < L
  · obtain ⟨hs, es'⟩ := es p c1
    rw [if_pos c1, if_pos c1, y_xk (vp_in_nI (by omega) (by decide)), nI_clamp (by omega), es']
    -- an order with the shape a
    have go : ∀ a, fX3_shapeOf (nI (s p)) μ = some a → xsL.getD a 0 ≠ 0 → xsL.getD a 0 < 1000 → ∀ R, (∀ μ1, yCi h s L (p + 1) μ1 → yOa o (s p) 0 0 0 0 μ1 → yRc h o s L (s p) R μ1 (lX3_readOrder_55 h o xfu (nI (s p)) a 0 μ1)) → yRc h o s L (s p) R μ (xbt (fX3_shapeOf (nI (s p)) μ) (fun i3 => xb (fJ0_isEmpty_aae02 i3 μ) (fun r4 m4 => if r4 = 0 then (xbv (fX4_begin o (nI (s p)) ((xw m4 h 4 ((m4 h 4) + (1 : Int32))))) (fun m6 => lX3_readOrder_55 h o xfu (nI (s p)) i3 ((0 : Int32)) m6)) else (some ((0 : Int32), m4))))) := by
      intro a ha hl0 hl1 R hR
      have hz : ¬ Int32.ofNat (xsL.getD a 0) = 0 := fun q => hl0 ((nI_eq (a := xsL.getD a 0) (b := 0) (by omega) (by decide)).mp q)
      have hi2 : yCi h s L (p + 1) (xw μ h 4 (nI (p + 1))) := yCi_to hi' c1 (y_wk (by decide)) (xw_same _ _ _ _) (xw_row (by omega))
      have hi3 : yCi h s L (p + 1) (xw (xw (xw (xw (xw (xw μ h 4 (nI (p + 1))) o 0 (nI (s p))) o 1 0) o 2 0) o 3 0) o 4 0) := yCi_to hi2 c1 (by rw [y_wn (Ne.symm ho), y_wn (Ne.symm ho), y_wn (Ne.symm ho), y_wn (Ne.symm ho), y_wn (Ne.symm ho)]) (by rw [y_wn (Ne.symm ho), y_wn (Ne.symm ho), y_wn (Ne.symm ho), y_wn (Ne.symm ho), y_wn (Ne.symm ho), xw_same]) (by rw [xw_row (Ne.symm ho1), xw_row (Ne.symm ho1), xw_row (Ne.symm ho1), xw_row (Ne.symm ho1), xw_row (Ne.symm ho1)])
      obtain ⟨m, k1, k2, k3, k4⟩ := hR _ hi3 ⟨by rw [y_wk (by decide), y_wk (by decide), y_wk (by decide), y_wk (by decide), xw_same], by rw [y_wk (by decide), y_wk (by decide), y_wk (by decide), xw_same]; rfl, by rw [y_wk (by decide), y_wk (by decide), xw_same]; rfl, by rw [y_wk (by decide), xw_same]; rfl, xw_same _ _ _ _⟩
      refine ⟨m, ?_, k2, k3, yFo_t ⟨fun a a1 a2 => by rw [xw_row a2, xw_row a2, xw_row a2, xw_row a2, xw_row a2, xw_row a1], fun j hj => by rw [y_wn (Ne.symm ho), y_wn (Ne.symm ho), y_wn (Ne.symm ho), y_wn (Ne.symm ho), y_wn (Ne.symm ho), y_wk hj]⟩ k4⟩
      rw [ha, y_xbt, fJ0_isEmpty_aae02, if_neg hz, y_xb, if_pos rfl, e4, nI_1, fX4_begin, y_xk (y_charC _ hs), y_xbv]
      exact k1
    have ne : ∀ b, b < 65536 → s p ≠ b → ¬ nI (s p) = nI b := fun b hb q z => q ((nI_eq (by omega) (by omega)).mp z)
    by_cases d1 : s p = 112
    · rw [if_pos d1]
      exact go 12 (by rw [fX3_shapeOf, d1, if_neg (by decide), if_neg (by decide), if_pos (show nI 112 = 112 from rfl)]) (by decide) (by decide) _ (fun μ1 w1 w2 => y_c3 w1 ho ho1 w2 (by decide) (by decide) (by decide) (by decide) (by decide) (by decide))
    rw [if_neg d1]
    by_cases d2 : s p = 121
    · rw [if_pos d2]
      exact go 14 (by rw [fX3_shapeOf, d2, if_neg (by decide), if_neg (by decide), if_neg (by decide), if_neg (by decide), if_neg (by decide), if_neg (by decide), if_pos (show nI 121 = 121 from rfl)]) (by decide) (by decide) _ (fun μ1 w1 w2 => y_c2' (k := 1) (k2 := 2) w1 ho ho1 (by decide) (by decide) w2 (by decide) (by decide) (by decide) (by decide))
    rw [if_neg d2]
    by_cases d3 : s p = 115
    · rw [if_pos d3]
      exact go 15 (by rw [fX3_shapeOf, d3, if_neg (by decide), if_neg (by decide), if_neg (by decide), if_neg (by decide), if_pos (show nI 115 = 115 from rfl)]) (by decide) (by decide) _ (fun μ1 w1 w2 => y_c2' (k := 1) (k2 := 3) w1 ho ho1 (by decide) (by decide) w2 (by decide) (by decide) (by decide) (by decide))
    rw [if_neg d3]
    by_cases d4 : s p = 99
    · rw [if_pos d4]
      exact go 16 (by rw [fX3_shapeOf, d4, if_pos (show nI 99 = 99 from rfl)]) (by decide) (by decide) _ (fun μ1 w1 w2 => y_c1 (k := 0) w1 ho ho1 (by decide) w2 (by decide) (by decide))
    rw [if_neg d4]
    by_cases d5 : s p = 119
    · rw [if_pos d5]
      exact go 13 (by rw [fX3_shapeOf, d5, if_neg (by decide), if_neg (by decide), if_neg (by decide), if_neg (by decide), if_neg (by decide), if_pos (show nI 119 = 119 from rfl)]) (by decide) (by decide) _ (fun μ1 w1 w2 => y_c1 (k := 1) w1 ho ho1 (by decide) w2 (by decide) (by decide))
    rw [if_neg d5]
    by_cases d6 : s p = 114
    · rw [if_pos d6]
      exact go 13 (by rw [fX3_shapeOf, d6, if_neg (by decide), if_neg (by decide), if_neg (by decide), if_pos (show nI 114 = 114 from rfl)]) (by decide) (by decide) _ (fun μ1 w1 w2 => y_c1 (k := 1) w1 ho ho1 (by decide) w2 (by decide) (by decide))
    rw [if_neg d6]
    by_cases d7 : s p = 110
    · rw [if_pos d7]
      exact go 13 (by rw [fX3_shapeOf, d7, if_neg (by decide), if_pos (show nI 110 = 110 from rfl)]) (by decide) (by decide) _ (fun μ1 w1 w2 => y_c1 (k := 1) w1 ho ho1 (by decide) w2 (by decide) (by decide))
    rw [if_neg d7]
    have hsh : fX3_shapeOf (nI (s p)) μ = some 17 := by rw [fX3_shapeOf, if_neg (show ¬ nI (s p) = 99 from ne 99 (by decide) d4), if_neg (show ¬ nI (s p) = 110 from ne 110 (by decide) d7), if_neg (show ¬ nI (s p) = 112 from ne 112 (by decide) d1), if_neg (show ¬ nI (s p) = 114 from ne 114 (by decide) d6), if_neg (show ¬ nI (s p) = 115 from ne 115 (by decide) d3), if_neg (show ¬ nI (s p) = 119 from ne 119 (by decide) d5), if_neg (show ¬ nI (s p) = 121 from ne 121 (by decide) d2)]
    refine ⟨μ, ?_, hi', fun q => absurd q Bool.false_ne_true, yFo_r⟩
    rw [hsh, y_xbt, fJ0_isEmpty_aae02, if_pos (show Int32.ofNat (xsL.getD 17 0) = 0 by decide), y_xb, if_neg y_n10]
    rfl
  · rw [if_neg c1, if_neg c1]
    exact ⟨μ, rfl, hi', fun q => absurd q Bool.false_ne_true, yFo_r⟩
