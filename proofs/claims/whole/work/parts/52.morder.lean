/-! THE PURE PART: one order of a text, the model -/
def yFm (md n : Nat) (ν ν1 : xM) : Prop := (∀ a, a ≠ md → a ≠ md + 7 → ν1 a = ν a) ∧ (∀ j, j ≠ 17 → ν1 md j = ν md j) ∧ ∀ j, j < 4 * n → ν1 (md + 7) j = ν (md + 7) j
theorem yFm_t {md n : Nat} {ν ν1 ν2 : xM} (h1 : yFm md n ν ν1) (h2 : yFm md n ν1 ν2) : yFm md n ν ν2 := ⟨fun a a1 a2 => (h2.1 a a1 a2).trans (h1.1 a a1 a2), fun j hj => (h2.2.1 j hj).trans (h1.2.1 j hj), fun j hj => (h2.2.2 j hj).trans (h1.2.2 j hj)⟩
theorem yFm_r {md n : Nat} {ν : xM} : yFm md n ν ν := ⟨fun _ _ _ => rfl, fun _ _ => rfl, fun _ _ => rfl⟩
theorem y_sk' {md c n : Nat} {s : Nat → Nat} {L p : Nat} {ν : xM} (hi : yMi md s L p ν) (hc : c < 65536) : (p < L ∧ s p = c → ∃ ν1, fX8_skips md (nI c) ν = some (1, ν1) ∧ yMi md s L (p + 1) ν1 ∧ yFm md n ν ν1 ∧ ν1 (md + 7) = ν (md + 7)) ∧ (¬ (p < L ∧ s p = c) → fX8_skips md (nI c) ν = some (0, ν)) := by
  obtain ⟨w1, w2⟩ := y_sk hi hc
  refine ⟨fun q => ⟨_, w1 q, yMi_to hi (by have := q.1; omega) (y_wk (by decide)) (xw_same _ _ _ _) (xw_row (by omega)), ⟨fun a a1 _ => xw_row a1, fun j hj => y_wk hj, fun j _ => y_wn (by omega)⟩, xw_row (by omega)⟩, w2⟩
theorem y_fig' {md q k n : Nat} {s : Nat → Nat} {L p : Nat} {ν : xM} (hi : yMi md s L p ν) (hn : n ≤ 20) (hq : 4 * n ≤ q) (hq2 : q < 4 * n + 4) (hk : k ≤ 8) : (ydig s L p → ∃ ν1, fX8_figures md (nI q) (nI k) ν = some (1, ν1) ∧ yMi md s L (ynum s L k 0 p).2 ν1 ∧ ν1 (md + 7) q = nI (ynum s L k 0 p).1 ∧ yFm md n ν ν1 ∧ ∀ j, j ≠ q → ν1 (md + 7) j = ν (md + 7) j) ∧ (¬ ydig s L p → fX8_figures md (nI q) (nI k) ν = some (0, ν)) := by
  obtain ⟨w1, w2⟩ := y_fig hi (q := q) (by omega) hk
  refine ⟨fun dg => ?_, w2⟩
  obtain ⟨m, k1, k2, k3, k4, k5, k6⟩ := w1 dg
  exact ⟨m, k1, k2, k3, ⟨k4, k5, fun j hj => k6 j (by omega)⟩, k6⟩
/-- what the model told of the order n -/
def yTo (md n K v1 v2 v3 : Nat) (ν : xM) : Prop := ν (md + 7) (4 * n) = nI K ∧ ν (md + 7) (4 * n + 1) = nI v1 ∧ ((K = 112 ∨ K = 121 ∨ K = 115) → ν (md + 7) (4 * n + 2) = nI v2) ∧ (K = 112 → ν (md + 7) (4 * n + 3) = nI v3)
def yRm (md n : Nat) (s : Nat → Nat) (L K : Nat) (R : Bool × Nat × Nat × Nat × Nat) (ν : xM) (o1 : Option (Int32 × xM)) : Prop := ∃ ν1, o1 = some (if R.1 = true then 1 else 0, ν1) ∧ yMi md s L R.2.1 ν1 ∧ (R.1 = true → yTo md n K R.2.2.1 R.2.2.2.1 R.2.2.2.2 ν1) ∧ yFm md n ν ν1
theorem y_m1 {md n k K : Nat} {s : Nat → Nat} {L p : Nat} {ν : xM} {Z : Option (Int32 × xM)} (hi : yMi md s L p ν) (hn : n ≤ 20) (hk : k ≤ 8) (hK : K = 99 ∨ K = 119 ∨ K = 114 ∨ K = 110) (h0 : ν (md + 7) (4 * n) = nI K) (hZ : ∀ r ν1, fX8_figures md (nI (4 * n + 1)) (nI k) ν = some (r, ν1) → r = 1 ∨ r = 0 → Z = some (r, ν1)) : yRm md n s L K (yp1 s L k p) ν Z := by
  obtain ⟨n1, n2⟩ := y_fig' (q := 4 * n + 1) (k := k) hi hn (by omega) (by omega) hk
  unfold yp1
  by_cases dg : ydig s L p
  · rw [if_pos dg]
    obtain ⟨m, k1, k2, k3, k4, k5⟩ := n1 dg
    refine ⟨m, hZ 1 m k1 (Or.inl rfl), k2, fun _ => ⟨by rw [k5 _ (by omega)]; exact h0, k3, fun q => ?_, fun q => ?_⟩, k4⟩
    · rcases hK with rfl | rfl | rfl | rfl <;> exact absurd q (by decide)
    · rcases hK with rfl | rfl | rfl | rfl <;> exact absurd q (by decide)
  · rw [if_neg dg]
    exact ⟨ν, hZ 0 ν (n2 dg) (Or.inr rfl), hi, fun q => absurd q Bool.false_ne_true, yFm_r⟩
/-- two numbers with '=' between; then Z -/
theorem y_m2 {md n k k2 : Nat} {s : Nat → Nat} {L p : Nat} {ν : xM} (Z : xM → Option (Int32 × xM)) (hi : yMi md s L p ν) (hn : n ≤ 20) (hk : k ≤ 8) (hk2 : k2 ≤ 8) : ∃ ν1, yMi md s L (yp2 s L k k2 p).2.1 ν1 ∧ yFm md n ν ν1 ∧ ν1 (md + 7) (4 * n) = ν (md + 7) (4 * n) ∧ ((yp2 s L k k2 p).1 = true → xb (fX8_figures md (nI (4 * n + 1)) (nI k) ν) (fun r m => if r = 0 then (some ((0 : Int32), m)) else (xb (fX8_skips md ((61 : Int32)) m) (fun r m => if r = 0 then (some ((0 : Int32), m)) else (xb (fX8_figures md (nI (4 * n + 2)) (nI k2) m) (fun r m => if r = 0 then (some ((0 : Int32), m)) else Z m))))) = Z ν1 ∧ ν1 (md + 7) (4 * n + 1) = nI (yp2 s L k k2 p).2.2.1 ∧ ν1 (md + 7) (4 * n + 2) = nI (yp2 s L k k2 p).2.2.2.1) ∧ (¬ (yp2 s L k k2 p).1 = true → xb (fX8_figures md (nI (4 * n + 1)) (nI k) ν) (fun r m => if r = 0 then (some ((0 : Int32), m)) else (xb (fX8_skips md ((61 : Int32)) m) (fun r m => if r = 0 then (some ((0 : Int32), m)) else (xb (fX8_figures md (nI (4 * n + 2)) (nI k2) m) (fun r m => if r = 0 then (some ((0 : Int32), m)) else Z m))))) = some (0, ν1)) := by
  obtain ⟨n1, n2⟩ := y_fig' (q := 4 * n + 1) (k := k) hi hn (by omega) (by omega) hk
  unfold yp2
  by_cases dg : ydig s L p
  · rw [if_pos dg]
    obtain ⟨m1, k1, k2', k3, k4, k5⟩ := n1 dg
    rw [k1, y_xb, if_neg y_n10]
    obtain ⟨q1, q2⟩ := y_sk' (c := 61) (n := n) k2' (by decide)
    by_cases e1 : (ynum s L k 0 p).2 < L ∧ s (ynum s L k 0 p).2 = 61
    · rw [if_pos e1]
      obtain ⟨m2, w1, w2, w3, w4⟩ := q1 e1
      rw [show (61 : Int32) = nI 61 from rfl, w1, y_xb, if_neg y_n10]
      obtain ⟨t1, t2⟩ := y_fig' (q := 4 * n + 2) (k := k2) w2 hn (by omega) (by omega) hk2
      by_cases dg2 : ydig s L ((ynum s L k 0 p).2 + 1)
      · rw [if_pos dg2]
        obtain ⟨m3, u1, u2, u3, u4, u5⟩ := t1 dg2
        refine ⟨m3, u2, yFm_t k4 (yFm_t w3 u4), by rw [u5 _ (by omega), w4, k5 _ (by omega)], fun _ => ⟨?_, by rw [u5 _ (by omega), w4]; exact k3, u3⟩, fun q => absurd rfl q⟩
        rw [u1, y_xb, if_neg y_n10]
      · rw [if_neg dg2, t2 dg2, y_xb, if_pos rfl]
        exact ⟨m2, w2, yFm_t k4 w3, by rw [w4, k5 _ (by omega)], fun q => absurd q Bool.false_ne_true, fun _ => rfl⟩
    · rw [if_neg e1, show (61 : Int32) = nI 61 from rfl, q2 e1, y_xb, if_pos rfl]
      exact ⟨m1, k2', k4, k5 _ (by omega), fun q => absurd q Bool.false_ne_true, fun _ => rfl⟩
  · rw [if_neg dg, n2 dg, y_xb, if_pos rfl]
    exact ⟨ν, hi, yFm_r, rfl, fun q => absurd q Bool.false_ne_true, fun _ => rfl⟩
theorem y_m2' {md n k k2 K : Nat} {s : Nat → Nat} {L p : Nat} {ν : xM} (hi : yMi md s L p ν) (hn : n ≤ 20) (hk : k ≤ 8) (hk2 : k2 ≤ 8) (hK : K ≠ 112) (h0 : ν (md + 7) (4 * n) = nI K) : yRm md n s L K (yp2 s L k k2 p) ν (xb (fX8_figures md (nI (4 * n + 1)) (nI k) ν) (fun r m => if r = 0 then (some ((0 : Int32), m)) else (xb (fX8_skips md ((61 : Int32)) m) (fun r m => if r = 0 then (some ((0 : Int32), m)) else (xb (fX8_figures md (nI (4 * n + 2)) (nI k2) m) (fun r m => if r = 0 then (some ((0 : Int32), m)) else (some ((1 : Int32), m)))))))) := by
  obtain ⟨m, k1, k2', k3, k4, k5⟩ := y_m2 (k := k) (k2 := k2) (fun m => some ((1 : Int32), m)) hi hn hk hk2
  by_cases b : (yp2 s L k k2 p).1 = true
  · obtain ⟨w1, w2, w3⟩ := k4 b
    exact ⟨m, by rw [if_pos b]; exact w1, k1, fun _ => ⟨by rw [k3]; exact h0, w2, fun _ => w3, fun q => absurd q hK⟩, k2'⟩
  · exact ⟨m, by rw [if_neg b]; exact k5 b, k1, fun q => absurd q b, k2'⟩
theorem y_m3 {md n : Nat} {s : Nat → Nat} {L p : Nat} {ν : xM} (hi : yMi md s L p ν) (hn : n ≤ 20) (h0 : ν (md + 7) (4 * n) = nI 112) : yRm md n s L 112 (yp3 s L p) ν (xb (fX8_figures md (nI (4 * n + 1)) (nI 1) ν) (fun r m => if r = 0 then (some ((0 : Int32), m)) else (xb (fX8_skips md ((61 : Int32)) m) (fun r m => if r = 0 then (some ((0 : Int32), m)) else (xb (fX8_figures md (nI (4 * n + 2)) (nI 3) m) (fun r m => if r = 0 then (some ((0 : Int32), m)) else (xb (fX8_skips md ((47 : Int32)) m) (fun r m => if r = 0 then (some ((0 : Int32), m)) else (xb (fX8_figures md (nI (4 * n + 3)) (nI 3) m) (fun r m => if r = 0 then (some ((0 : Int32), m)) else (some ((1 : Int32), m)))))))))))) := by
  obtain ⟨m, k1, k2', k3, k4, k5⟩ := y_m2 (k := 1) (k2 := 3) (fun m => (xb (fX8_skips md ((47 : Int32)) m) (fun r m => if r = 0 then (some ((0 : Int32), m)) else (xb (fX8_figures md (nI (4 * n + 3)) (nI 3) m) (fun r m => if r = 0 then (some ((0 : Int32), m)) else (some ((1 : Int32), m))))))) hi hn (by decide) (by decide)
  unfold yp3
  by_cases b : (yp2 s L 1 3 p).1 = true
  · obtain ⟨w1, w2, w3⟩ := k4 b
    rw [if_pos b, w1]
    obtain ⟨q1, q2⟩ := y_sk' (c := 47) (n := n) k1 (by decide)
    by_cases e1 : (yp2 s L 1 3 p).2.1 < L ∧ s (yp2 s L 1 3 p).2.1 = 47
    · rw [if_pos e1]
      obtain ⟨m2, z1, z2, z3, z4⟩ := q1 e1
      rw [show (47 : Int32) = nI 47 from rfl, z1, y_xb, if_neg y_n10]
      obtain ⟨t1, t2⟩ := y_fig' (q := 4 * n + 3) (k := 3) z2 hn (by omega) (by omega) (by decide)
      by_cases dg2 : ydig s L ((yp2 s L 1 3 p).2.1 + 1)
      · rw [if_pos dg2]
        obtain ⟨m3, u1, u2, u3, u4, u5⟩ := t1 dg2
        refine ⟨m3, ?_, u2, fun _ => ⟨by rw [u5 _ (by omega), z4, k3]; exact h0, by rw [u5 _ (by omega), z4]; exact w2, fun _ => by rw [u5 _ (by omega), z4]; exact w3, fun _ => u3⟩, yFm_t k2' (yFm_t z3 u4)⟩
        rw [u1, y_xb, if_neg y_n10]
        rfl
      · rw [if_neg dg2, t2 dg2, y_xb, if_pos rfl]
        exact ⟨m2, rfl, z2, fun q => absurd q Bool.false_ne_true, yFm_t k2' z3⟩
    · rw [if_neg e1, show (47 : Int32) = nI 47 from rfl, q2 e1, y_xb, if_pos rfl]
      exact ⟨m, rfl, k1, fun q => absurd q Bool.false_ne_true, k2'⟩
  · rw [if_neg b]
    exact ⟨m, by rw [if_neg b]; exact k5 b, k1, fun q => absurd q b, k2'⟩
theorem y_orderHere {md n : Nat} {s : Nat → Nat} {L p : Nat} {ν : xM} (hi : yMi md s L p ν) (hn : n ≤ 20) (h19 : ν md 19 = nI n) : yRm md n s L (s p) (yord s L p) ν (fX8_orderHere md ν) := by
  have hi' := hi
  obtain ⟨w1, w2⟩ := y_here hi
  obtain ⟨hL, hp, e2, e4, es⟩ := hi
  have e0 : (4 : Int32) * nI n = nI (4 * n) := pk_mul 4 n
  have e1 : nI (4 * n) + 1 = nI (4 * n + 1) := nI_add (4 * n) 1
  have e22 : nI (4 * n) + 2 = nI (4 * n + 2) := nI_add (4 * n) 2
  have e3 : nI (4 * n) + 3 = nI (4 * n + 3) := nI_add (4 * n) 3
  have vin : vp_in (nI (4 * n)) 124 := vp_in_nI (by omega) (by decide)
  have cl : (nI (4 * n)).toNatClampNeg = 4 * n := nI_clamp (by omega)
  unfold yord
  by_cases c1 : p < L
  · have hs := (es p c1).1
    rw [if_pos c1]
    have hi2 : yMi md s L p (xw ν (md + 7) (4 * n) (nI (s p))) := yMi_to hi' hp (y_wn (by omega)) (by rw [y_wn (by omega)]; exact e4) (xw_row (by omega))
    have f2 : yFm md n ν (xw ν (md + 7) (4 * n) (nI (s p))) := ⟨fun a a1 a2 => xw_row a2, fun j _ => y_wn (by omega), fun j hj => y_wk (by omega)⟩
    have t0 : (xw ν (md + 7) (4 * n) (nI (s p))) (md + 7) (4 * n) = nI (s p) := xw_same _ _ _ _
    generalize hX : xw ν (md + 7) (4 * n) (nI (s p)) = X at hi2 f2 t0
    have hb : fX8_here md ν = some (nI (s p), ν) := w1 c1
    -- a letter that is there, or isn't
    have sk : ∀ c, c < 65536 → (s p = c → ∃ ν1, fX8_skips md (nI c) X = some (1, ν1) ∧ yMi md s L (p + 1) ν1 ∧ yFm md n X ν1 ∧ ν1 (md + 7) (4 * n) = nI (s p)) ∧ (s p ≠ c → fX8_skips md (nI c) X = some (0, X)) := by
      intro c hc
      obtain ⟨q1, q2⟩ := y_sk' (c := c) (n := n) hi2 hc
      refine ⟨fun q => ?_, fun q => q2 (fun z => q z.2)⟩
      obtain ⟨m, k1, k2, k3, k4⟩ := q1 ⟨c1, q⟩
      exact ⟨m, k1, k2, k3, by rw [k4]; exact t0⟩
    have wrap : ∀ K R o1 ν1, yFm md n X ν1 → yRm md n s L K R ν1 o1 → yRm md n s L K R ν o1 := by
      intro K R o1 ν1 f1 ⟨m, k1, k2, k3, k4⟩
      exact ⟨m, k1, k2, k3, yFm_t f2 (yFm_t f1 k4)⟩
    rw [fX8_orderHere, hb, y_xb, h19, e0, y_xk vin, cl, hX, e1, e22, e3, show (112 : Int32) = nI 112 from rfl, show (121 : Int32) = nI 121 from rfl, show (115 : Int32) = nI 115 from rfl, show (99 : Int32) = nI 99 from rfl, show (119 : Int32) = nI 119 from rfl, show (114 : Int32) = nI 114 from rfl, show (110 : Int32) = nI 110 from rfl]
    by_cases d1 : s p = 112
    · obtain ⟨m, k1, k2, k3, k4⟩ := (sk 112 (by decide)).1 d1
      rw [if_pos d1, k1, y_xb, if_neg y_n10, d1]
      exact wrap _ _ _ m k3 (y_m3 k2 hn (by rw [k4, d1]))
    rw [if_neg d1, (sk 112 (by decide)).2 d1, y_xb, if_pos rfl]
    by_cases d2 : s p = 121
    · obtain ⟨m, k1, k2, k3, k4⟩ := (sk 121 (by decide)).1 d2
      rw [if_pos d2, k1, y_xb, if_neg y_n10, d2]
      exact wrap _ _ _ m k3 (y_m2' (k := 2) (k2 := 3) k2 hn (by decide) (by decide) (by decide) (by rw [k4, d2]))
    rw [if_neg d2, (sk 121 (by decide)).2 d2, y_xb, if_pos rfl]
    by_cases d3 : s p = 115
    · obtain ⟨m, k1, k2, k3, k4⟩ := (sk 115 (by decide)).1 d3
      rw [if_pos d3, k1, y_xb, if_neg y_n10, d3]
      exact wrap _ _ _ m k3 (y_m2' (k := 2) (k2 := 4) k2 hn (by decide) (by decide) (by decide) (by rw [k4, d3]))
    rw [if_neg d3, (sk 115 (by decide)).2 d3, y_xb, if_pos rfl]
    by_cases d4 : s p = 99
    · obtain ⟨m, k1, k2, k3, k4⟩ := (sk 99 (by decide)).1 d4
      rw [if_pos d4, k1, y_xb, if_neg y_n10, d4]
      refine wrap _ _ _ m k3 (y_m1 (k := 1) k2 hn (by decide) (Or.inl rfl) (by rw [k4, d4]) (fun r ν1 h1 h2 => ?_))
      rw [show (1 : Int32) = nI 1 from rfl, h1, y_xb]
      rcases h2 with rfl | rfl
      · exact y_xk y_zt
      · exact y_xk y_zf
    rw [if_neg d4, (sk 99 (by decide)).2 d4, y_xb, if_pos rfl]
    by_cases d5 : s p = 119
    · obtain ⟨m, k1, k2, k3, k4⟩ := (sk 119 (by decide)).1 d5
      rw [if_pos d5, k1, y_xb, if_neg y_n10, d5]
      refine wrap _ _ _ m k3 (y_m1 (k := 2) k2 hn (by decide) (Or.inr (Or.inl rfl)) (by rw [k4, d5]) (fun r ν1 h1 h2 => ?_))
      rw [show (2 : Int32) = nI 2 from rfl, h1, y_xb]
      rcases h2 with rfl | rfl
      · exact if_neg y_n10
      · exact if_pos rfl
    rw [if_neg d5, (sk 119 (by decide)).2 d5, y_xb, if_pos rfl]
    by_cases d6 : s p = 114
    · obtain ⟨m, k1, k2, k3, k4⟩ := (sk 114 (by decide)).1 d6
      rw [if_pos d6, k1, y_xb, if_neg y_n10, d6]
      refine wrap _ _ _ m k3 (y_m1 (k := 2) k2 hn (by decide) (Or.inr (Or.inr (Or.inl rfl))) (by rw [k4, d6]) (fun r ν1 h1 h2 => ?_))
      rw [show (2 : Int32) = nI 2 from rfl, h1, y_xb]
      rcases h2 with rfl | rfl
      · exact if_neg y_n10
      · exact if_pos rfl
    rw [if_neg d6, (sk 114 (by decide)).2 d6, y_xb, if_pos rfl]
    by_cases d7 : s p = 110
    · obtain ⟨m, k1, k2, k3, k4⟩ := (sk 110 (by decide)).1 d7
      rw [if_pos d7, k1, y_xb, if_neg y_n10, d7]
      refine wrap _ _ _ m k3 (y_m1 (k := 2) k2 hn (by decide) (Or.inr (Or.inr (Or.inr rfl))) (by rw [k4, d7]) (fun r ν1 h1 h2 => ?_))
      rw [show (2 : Int32) = nI 2 from rfl, h1, y_xb]
      rcases h2 with rfl | rfl
      · exact if_neg y_n10
      · exact if_pos rfl
    rw [if_neg d7, (sk 110 (by decide)).2 d7, y_xb, if_pos rfl]
    exact ⟨X, rfl, hi2, fun q => absurd q Bool.false_ne_true, f2⟩
  · rw [if_neg c1]
    have hi2 : yMi md s L p (xw ν (md + 7) (4 * n) (-1)) := yMi_to hi' hp (y_wn (by omega)) (by rw [y_wn (by omega)]; exact e4) (xw_row (by omega))
    have f2 : yFm md n ν (xw ν (md + 7) (4 * n) (-1)) := ⟨fun a a1 a2 => xw_row a2, fun j _ => y_wn (by omega), fun j hj => y_wk (by omega)⟩
    have hb : fX8_here md ν = some (-1, ν) := w2 c1
    have sk : ∀ c, c < 65536 → fX8_skips md (nI c) (xw ν (md + 7) (4 * n) (-1)) = some (0, xw ν (md + 7) (4 * n) (-1)) := fun c hc => (y_sk' (c := c) (n := n) hi2 hc).2 (fun z => c1 z.1)
    refine ⟨_, ?_, hi2, fun q => absurd q Bool.false_ne_true, f2⟩
    rw [fX8_orderHere, hb, y_xb, h19, e0, y_xk vin, cl, show (112 : Int32) = nI 112 from rfl, show (121 : Int32) = nI 121 from rfl, show (115 : Int32) = nI 115 from rfl, show (99 : Int32) = nI 99 from rfl, show (119 : Int32) = nI 119 from rfl, show (114 : Int32) = nI 114 from rfl, show (110 : Int32) = nI 110 from rfl, sk 112 (by decide), y_xb, if_pos rfl, sk 121 (by decide), y_xb, if_pos rfl, sk 115 (by decide), y_xb, if_pos rfl, sk 99 (by decide), y_xb, if_pos rfl, sk 119 (by decide), y_xb, if_pos rfl, sk 114 (by decide), y_xb, if_pos rfl, sk 110 (by decide), y_xb, if_pos rfl]
    rfl
