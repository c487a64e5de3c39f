/-! THE PURE PART: lines -/
-- a constant text's sign
theorem y_charAt {h j : Nat} {μ : xM} (hj : j < xsL.getD h 0) (hL : xsL.getD h 0 < 1000) : fJ0_charAt_5068e h (nI j) μ = some (((((xsB.getD h []).getD j 0 &&& (255 : Int32))).toUInt32 % 65536).toInt32, μ) := by
  have hc : xisC ((((((xsB.getD h []).getD j 0 &&& (255 : Int32))).toUInt32 % 65536).toInt32)) := ⟨pk_nc _, pk_fc _⟩
  have e1 : fJ0_isLatin1_aae02 h μ = some (1, μ) := by rw [fJ0_isLatin1_aae02, if_neg (by decide), if_pos rfl]
  have e2 : fJ3_checkIndex_8e157 (nI j) (Int32.ofNat (xsL.getD h 0)) μ = some (nI j, μ) := by
    rw [fJ3_checkIndex_8e157, if_neg (nI_pos (by omega)), if_pos (show nI j < Int32.ofNat (xsL.getD h 0) from (nI_ltI (by omega) (by omega)).mpr hj)]
  rw [fJ0_charAt_5068e, e1, y_xb, if_neg y_n10, fJ1_charAt_3b067, fJ0_checkIndex_df160, e2, y_xb, y_xbv, y_xk (vp_in_nI hj (by omega)), nI_clamp (by omega), y_xk hc, y_xb, y_xk hc]
def yWr (md : Nat) (s : Nat × (Nat → Nat)) (ν : xM) : Prop := ν md 16 = nI s.1 ∧ ∀ j, j < s.1 → s.2 j < 65536 ∧ ν (md + 6) j = nI (s.2 j)
def yWf (md : Nat) (ν ν1 : xM) : Prop := (∀ a, a ≠ md → a ≠ md + 6 → ν1 a = ν a) ∧ ∀ k, k ≠ 16 → ν1 md k = ν md k
theorem yWf_t {md : Nat} {ν ν1 ν2 : xM} (h1 : yWf md ν ν1) (h2 : yWf md ν1 ν2) : yWf md ν ν2 := ⟨fun a a1 a2 => (h2.1 a a1 a2).trans (h1.1 a a1 a2), fun k k1 => (h2.2 k k1).trans (h1.2 k k1)⟩
theorem yWr_ext {md : Nat} {s s1 : Nat × (Nat → Nat)} {ν : xM} (h : yWr md s ν) (e : s.1 = s1.1) (e2 : ∀ j, j < s1.1 → s.2 j = s1.2 j) : yWr md s1 ν := by
  refine ⟨by rw [← e]; exact h.1, fun j hj => ?_⟩
  rw [← e2 j hj]
  exact h.2 j (by rw [e]; exact hj)
theorem y_charN {c : Nat} (hc : c < 65536) : vp_nar .char ((nI c).toUInt32 % 65536).toInt32 = nI c := by
  rw [pk_vc, pk_char, pk_tn (by omega), Nat.mod_eq_of_lt hc]
theorem y_wr {md c : Nat} {s : Nat × (Nat → Nat)} {ν : xM} (h : yWr md s ν) (hs : s.1 < 32) (hc : c < 65536) : ∃ ν1, fX8_writes md (nI c) ν = some ν1 ∧ yWr md (xpc s c) ν1 ∧ yWf md ν ν1 := by
  refine ⟨xw (xw ν (md + 6) s.1 (nI c)) md 16 (nI (s.1 + 1)), ?_, ⟨xw_same _ _ _ _, fun j hj => ?_⟩, fun a a1 a2 => by rw [xw_row a1, xw_row a2], fun k hk => by rw [y_wk hk, y_wn (by omega)]⟩
  · rw [fX8_writes, h.1, y_xk (vp_in_nI hs (by decide)), nI_clamp (by omega), y_charN hc, y_wn (by omega), h.1, nI_1]
  · have hj' : j < s.1 + 1 := hj
    show sb_cat s.2 s.1 (fun _ => c) j < 65536 ∧ _ = nI (sb_cat s.2 s.1 (fun _ => c) j)
    rw [y_wn (by omega)]
    by_cases cj : j = s.1
    · rw [show sb_cat s.2 s.1 (fun _ => c) j = c by unfold sb_cat; rw [if_neg (by omega)], cj, xw_same]
      exact ⟨hc, rfl⟩
    · rw [show sb_cat s.2 s.1 (fun _ => c) j = s.2 j by unfold sb_cat; rw [if_pos (by omega)], y_wk cj]
      exact h.2 j (by omega)
theorem y_l18_0 {md v f : Nat} {ν : xM} : lX8_writesNumber_18 md (nI v) (f + 1) (nI 0) ν = some ν := by
  rw [lX8_writesNumber_18, if_pos (show nI 0 ≤ (0 : Int32) from Int32.le_refl _)]
theorem y_l18 {md v ten f : Nat} {s : Nat × (Nat → Nat)} {ν : xM} (h : yWr md s ν) (hs : s.1 < 32) (hv : v < 1000) (ht : 0 < ten) (ht2 : ten < 1000) : ∃ ν1, lX8_writesNumber_18 md (nI v) (f + 1) (nI ten) ν = lX8_writesNumber_18 md (nI v) f (nI (ten / 10)) ν1 ∧ yWr md (xpc s (48 + v / ten % 10)) ν1 ∧ yWf md ν ν1 := by
  obtain ⟨n, k1, k2, k3⟩ := y_wr (c := 48 + v / ten % 10) h hs (by omega)
  have hdv : v / ten ≤ v := Nat.div_le_self _ _
  have nz : ¬ nI ten = 0 := nI_ne0 ht (by omega)
  refine ⟨n, ?_, k2, k3⟩
  rw [lX8_writesNumber_18, if_neg (show ¬ nI ten ≤ 0 from nI_nle ht (by omega)), y_xk nz, pk_div (by omega) ht (by omega), show (10 : Int32) = nI 10 from rfl, pk_rem (by omega) (by decide) (by decide), show (48 : Int32) = nI 48 from rfl, nI_add, k1, y_xbv, pk_div (by omega) (by decide) (by decide)]
theorem y_l2 {md v ten f : Nat} {ν : xM} (hv : v < 1000) (ht : 0 < ten) (ht2 : ten < 1000) : lX8_writesNumber_2 md (nI v) (f + 1) (nI ten) ν = if v / ten ≤ 9 then lX8_writesNumber_18 md (nI v) xfu (nI ten) ν else lX8_writesNumber_2 md (nI v) f (nI (ten * 10)) ν := by
  have hdv : v / ten ≤ v := Nat.div_le_self _ _
  have nz : ¬ nI ten = 0 := nI_ne0 ht (by omega)
  rw [lX8_writesNumber_2, y_xk nz, pk_div (by omega) ht (by omega), show (9 : Int32) = nI 9 from rfl, y_ile (by omega) (by decide), show (10 : Int32) = nI 10 from rfl, pk_mul]
theorem y_wn3 {md v : Nat} {s : Nat × (Nat → Nat)} {ν : xM} (h : yWr md s ν) (hs : s.1 + 3 ≤ 32) (hv : v < 1000) : ∃ ν1, fX8_writesNumber md (nI v) ν = some ν1 ∧ yWr md (xpd s v) ν1 ∧ yWf md ν ν1 := by
  have hF : 5 < xfu := by unfold xfu; omega
  unfold fX8_writesNumber
  rw [show (1 : Int32) = nI 1 from rfl]
  generalize hX : xfu = F at hF
  obtain ⟨f, rfl⟩ : ∃ f, F = f + 5 := ⟨F - 5, by omega⟩
  have d1 : v / 1 = v := Nat.div_one v
  by_cases c1 : v < 10
  · have hdg : sb_dg v = 1 := by unfold sb_dg; rw [if_pos c1]
    obtain ⟨n1, k1, k2, k3⟩ := y_l18 (f := f + 4) (ten := 1) h (by omega) hv (by decide) (by decide)
    refine ⟨n1, ?_, yWr_ext k2 (by show s.1 + 1 = s.1 + sb_dg v; rw [hdg]) (fun j hj => ?_), k3⟩
    · rw [y_l2 hv (by decide) (by decide), if_pos (by omega), hX, k1]
      exact y_l18_0
    · show sb_cat s.2 s.1 (fun _ => 48 + v / 1 % 10) j = sb_cat s.2 s.1 (sb_dec v) j
      have hj' : j < s.1 + sb_dg v := hj
      unfold sb_cat
      by_cases cj : j < s.1
      · rw [if_pos cj, if_pos cj]
      · rw [if_neg cj, if_neg cj]
        unfold sb_dec
        rw [hdg, show 1 - 1 - (j - s.1) = 0 by omega]
  by_cases c2 : v < 100
  · have hdg : sb_dg v = 2 := by unfold sb_dg; rw [if_neg c1, if_pos c2]
    obtain ⟨n1, k1, k2, k3⟩ := y_l18 (f := f + 4) (ten := 10) h (by omega) hv (by decide) (by decide)
    obtain ⟨n2, l1, l2, l3⟩ := y_l18 (f := f + 3) (ten := 1) (v := v) k2 (by show s.1 + 1 < 32; omega) hv (by decide) (by decide)
    refine ⟨n2, ?_, yWr_ext l2 (by show s.1 + 1 + 1 = s.1 + sb_dg v; rw [hdg]) (fun j hj => ?_), yWf_t k3 l3⟩
    · rw [y_l2 hv (by decide) (by decide), if_neg (by omega), y_l2 hv (by decide) (by decide), if_pos (by omega), hX, show 1 * 10 = 10 from rfl, k1, show 10 / 10 = 1 from rfl, l1]
      exact y_l18_0
    · have hj' : j < s.1 + sb_dg v := hj
      show sb_cat (sb_cat s.2 s.1 (fun _ => 48 + v / 10 % 10)) (s.1 + 1) (fun _ => 48 + v / 1 % 10) j = sb_cat s.2 s.1 (sb_dec v) j
      unfold sb_cat
      by_cases cj : j < s.1
      · rw [if_pos (by omega), if_pos cj, if_pos cj]
      · by_cases cj2 : j < s.1 + 1
        · rw [if_pos cj2, if_neg cj, if_neg cj]
          unfold sb_dec
          rw [hdg, show 2 - 1 - (j - s.1) = 1 by omega]
        · rw [if_neg cj2, if_neg cj]
          unfold sb_dec
          rw [hdg, show 2 - 1 - (j - s.1) = 0 by omega]
  · have hdg : sb_dg v = 3 := by unfold sb_dg; rw [if_neg c1, if_neg c2, if_pos hv]
    obtain ⟨n1, k1, k2, k3⟩ := y_l18 (f := f + 4) (ten := 100) h (by omega) hv (by decide) (by decide)
    obtain ⟨n2, l1, l2, l3⟩ := y_l18 (f := f + 3) (ten := 10) (v := v) k2 (by show s.1 + 1 < 32; omega) hv (by decide) (by decide)
    obtain ⟨n3, m1, m2, m3⟩ := y_l18 (f := f + 2) (ten := 1) (v := v) l2 (by show s.1 + 1 + 1 < 32; omega) hv (by decide) (by decide)
    refine ⟨n3, ?_, yWr_ext m2 (by show s.1 + 1 + 1 + 1 = s.1 + sb_dg v; rw [hdg]) (fun j hj => ?_), yWf_t k3 (yWf_t l3 m3)⟩
    · rw [y_l2 hv (by decide) (by decide), if_neg (by omega), y_l2 hv (by decide) (by decide), if_neg (by omega), y_l2 hv (by decide) (by decide), if_pos (by omega), hX, show 1 * 10 * 10 = 100 from rfl, k1, show 100 / 10 = 10 from rfl, l1, show 10 / 10 = 1 from rfl, m1]
      exact y_l18_0
    · have hj' : j < s.1 + sb_dg v := hj
      show sb_cat (sb_cat (sb_cat s.2 s.1 (fun _ => 48 + v / 100 % 10)) (s.1 + 1) (fun _ => 48 + v / 10 % 10)) (s.1 + 1 + 1) (fun _ => 48 + v / 1 % 10) j = sb_cat s.2 s.1 (sb_dec v) j
      unfold sb_cat
      by_cases cj : j < s.1
      · rw [if_pos (by omega), if_pos (by omega), if_pos cj, if_pos cj]
      · by_cases cj2 : j < s.1 + 1
        · rw [if_pos (by omega), if_pos cj2, if_neg cj, if_neg cj]
          unfold sb_dec
          rw [hdg, show 3 - 1 - (j - s.1) = 2 by omega]
        · by_cases cj3 : j < s.1 + 1 + 1
          · rw [if_pos cj3, if_neg cj2, if_neg cj]
            unfold sb_dec
            rw [hdg, show 3 - 1 - (j - s.1) = 1 by omega]
          · rw [if_neg cj3, if_neg cj]
            unfold sb_dec
            rw [hdg, show 3 - 1 - (j - s.1) = 0 by omega]
def ylc (s : Nat) : Nat := if s = 0 then 112 else if s = 1 then 108 else if s = 2 then 114 else 115
theorem y_dgs {v : Nat} (h : v < 1000) : sb_dg v ≤ 3 := by
  unfold sb_dg
  by_cases c1 : v < 10
  · rw [if_pos c1]; decide
  · rw [if_neg c1]
    by_cases c2 : v < 100
    · rw [if_pos c2]; decide
    · rw [if_neg c2, if_pos h]; decide
theorem y_L20 {x i : Nat} {μ : xM} (s1 s2 s3 : Int32) (h : yInv x i μ) (hi : i < 512) : ∃ μ1, gL_20 x (x + 251) (x + 259) s1 s2 s3 μ = some μ1 ∧ yInv x (i + 1) μ1 ∧ ∀ r mA, fL_line x s1 (x + 259) μ = some (r, mA) → (r = 1 → mA (x + 249) = μ (x + 249)) ∧ μ1 (x + 249) = mA (x + 249) := by
  have hh := h
  obtain ⟨⟨S, J, ⟨g1, gJ⟩, g2, g3⟩, hH, hS, hR, hN, hE, hL, h6⟩ := h
  have hn := g1.1.1
  have hB1 : yM S J (μ (x + 251 + 1)) := g3
  rw [gL_20]
  by_cases c1 : s1 < 0 ∨ nI (S 16 0) ≤ s1
  · have hcl : fL_line x s1 (x + 259) μ = some (1, μ) := by rw [fL_line, fX7_line, y_dT g2, if_pos c1, y_xcbS 3, y_xchS 3, if_pos rfl]
    obtain ⟨μ1, k1, k2, k3⟩ := y_qT (M := fun m => fX8_line (x + 251) s1 m) (code := 1) (r2 := 0) hh hcl (by simp only [fX8_line, y_isTicket hB1 hn, if_pos c1, y_xb, if_true, y_fails1, if_neg y_n10]) (by decide)
    refine ⟨μ1, k1, k2, fun r mA q => ?_⟩
    rw [hcl] at q
    cases q
    exact ⟨fun _ => rfl, k3⟩
  obtain ⟨t, ht, rfl⟩ := y_nin (by omega) c1
  obtain ⟨p0, p1, p3, p4, p5, p6, p7, p8, -⟩ := g1.2.1 t ht
  have e := g2.2.1 t ht
  have h16 : t < 16 := by omega
  have hlc : ylc (S t 5) < 256 := by
    unfold ylc
    by_cases d0 : S t 5 = 0
    · rw [if_pos d0]; decide
    · rw [if_neg d0]
      by_cases d1 : S t 5 = 1
      · rw [if_pos d1]; decide
      · rw [if_neg d1]
        by_cases d2 : S t 5 = 2
        · rw [if_pos d2]; decide
        · rw [if_neg d2]; decide
  have hlet : fX5_letter (x + 1 + 1 + 1 + t) μ = some (nI (ylc (S t 5)), μ) := by
    have hk : S t 5 = 0 ∨ S t 5 = 1 ∨ S t 5 = 2 ∨ S t 5 = 3 := by omega
    rw [fX5_letter, e 5 (by decide)]
    rcases hk with d | d | d | d
    · rw [d, if_pos (show nI 0 = 0 from rfl)]; rfl
    · rw [d, if_neg (show ¬ nI 1 = 0 by decide), if_pos (show nI 1 = 1 from rfl)]; rfl
    · rw [d, if_neg (show ¬ nI 2 = 0 by decide), if_neg (show ¬ nI 2 = 1 by decide), if_pos (show nI 2 = 2 from rfl)]; rfl
    · rw [d, if_neg (show ¬ nI 3 = 0 by decide), if_neg (show ¬ nI 3 = 1 by decide), if_neg (show ¬ nI 3 = 2 by decide)]; rfl
  -- the class
  generalize hT : xLt t (S t 1) (S t 3) (S t 4) (ylc (S t 5)) = T
  have c0 : (nI t).toNatClampNeg = t := nI_clamp (by omega)
  have cl1 : (nI (S t 1)).toNatClampNeg = S t 1 := nI_clamp (by omega)
  have cl3 : (nI (S t 3)).toNatClampNeg = S t 3 := nI_clamp (by omega)
  have cl4 : (nI (S t 4)).toNatClampNeg = S t 4 := nI_clamp (by omega)
  have cll : (nI (ylc (S t 5))).toNatClampNeg = ylc (S t 5) := nI_clamp (by omega)
  have hcl : fL_line x (nI t) (x + 259) μ = some (0, xw (xgh x T.1 T.2 μ) (x + 259) 0 (nI T.1)) := by
    rw [fL_line, fX7_line, y_dT g2, if_neg c1, y_xcb0, c0, hlet, y_xb, e 1 (by decide), e 3 (by decide), e 4 (by decide), cl1, cl3, cl4, cll, hT, y_xk ⟨rfl, y_in16 ht hn, ⟨rfl, by omega⟩, ⟨rfl, by omega⟩, ⟨rfl, by omega⟩, rfl, hlc, rfl⟩, y_xch0]
  generalize hX : xw (xgh x T.1 T.2 μ) (x + 259) 0 (nI T.1) = X at hcl
  have xa : ∀ a, a ≠ x + 249 → a ≠ x + 259 → X a = μ a := fun a a1 a2 => by
    rw [← hX, xw_row a2]
    funext j
    unfold xgh
    rw [if_neg a1]
  have xl : X (x + 249) 3 = nI T.1 := by
    rw [← hX, y_wn (by omega)]
    unfold xgh
    rw [if_pos rfl, if_pos (by decide), if_pos rfl]
  have xc : ∀ j, X (x + 249) (4 + j) = nI (T.2 j) := fun j => by
    rw [← hX, y_wn (by omega)]
    unfold xgh
    rw [if_pos rfl, if_neg (by omega), show 4 + j - 4 = j by omega]
  have xo : X (x + 259) 0 = nI T.1 := by rw [← hX, xw_same]
  have hT17 : T.1 ≤ 17 := by rw [← hT]; exact xLt_34 h16 (by omega) (by omega) (by omega)
  -- the model
  have hBX : yM S J ((xw (xw X (x + 251) 7 0) (x + 251) 16 0) (x + 251 + 1)) := by rw [xw_row (by omega), xw_row (by omega), xa _ (by omega) (by omega)]; exact hB1
  have hBX0 : yM S J (X (x + 251 + 1)) := by rw [xa _ (by omega) (by omega)]; exact hB1
  have w0 : yWr (x + 251) (0, fun _ => 0) (xw (xw X (x + 251) 7 0) (x + 251) 16 0) := ⟨xw_same _ _ _ _, fun j hj => absurd hj (by show ¬ j < 0; omega)⟩
  have dT := y_dgs (show t < 1000 by omega)
  have d1 := y_dgs (show S t 1 < 1000 by omega)
  have d3 := y_dgs (show S t 3 < 1000 by omega)
  have d4 := y_dgs (show S t 4 < 1000 by omega)
  obtain ⟨n1, a1, b1, f1⟩ := y_wr (c := 35) w0 (by show 0 < 32; decide) (by decide)
  obtain ⟨n2, a2, b2, f2⟩ := y_wn3 (v := t) b1 (by show 0 + 1 + 3 ≤ 32; decide) (by omega)
  obtain ⟨n3, a3, b3, f3⟩ := y_wr (c := 32) b2 (by show 0 + 1 + sb_dg t < 32; omega) (by decide)
  obtain ⟨n4, a4, b4, f4⟩ := y_wn3 (v := S t 1) b3 (by show 0 + 1 + sb_dg t + 1 + 3 ≤ 32; omega) (by omega)
  obtain ⟨n5, a5, b5, f5⟩ := y_wr (c := 47) b4 (by show 0 + 1 + sb_dg t + 1 + sb_dg (S t 1) < 32; omega) (by decide)
  obtain ⟨n6, a6, b6, f6⟩ := y_wn3 (v := S t 3) b5 (by show 0 + 1 + sb_dg t + 1 + sb_dg (S t 1) + 1 + 3 ≤ 32; omega) (by omega)
  obtain ⟨n7, a7, b7, f7⟩ := y_wr (c := 43) b6 (by show 0 + 1 + sb_dg t + 1 + sb_dg (S t 1) + 1 + sb_dg (S t 3) < 32; omega) (by decide)
  obtain ⟨n8, a8, b8, f8⟩ := y_wn3 (v := S t 4) b7 (by show 0 + 1 + sb_dg t + 1 + sb_dg (S t 1) + 1 + sb_dg (S t 3) + 1 + 3 ≤ 32; omega) (by omega)
  obtain ⟨n9, a9, b9, f9⟩ := y_wr (c := 32) b8 (by show 0 + 1 + sb_dg t + 1 + sb_dg (S t 1) + 1 + sb_dg (S t 3) + 1 + sb_dg (S t 4) < 32; omega) (by decide)
  obtain ⟨n10, a10, b10, f10⟩ := y_wr (c := ylc (S t 5)) b9 (by show 0 + 1 + sb_dg t + 1 + sb_dg (S t 1) + 1 + sb_dg (S t 3) + 1 + sb_dg (S t 4) + 1 < 32; omega) (by omega)
  have b10' : yWr (x + 251) T n10 := by rw [← hT]; exact b10
  have F2 := yWf_t f1 f2
  have F3 := yWf_t F2 f3
  have F4 := yWf_t F3 f4
  have F5 := yWf_t F4 f5
  have F6 := yWf_t F5 f6
  have F7 := yWf_t F6 f7
  have F8 := yWf_t F7 f8
  have F9 := yWf_t F8 f9
  have F10 := yWf_t F9 f10
  have row : ∀ ν, yWf (x + 251) (xw (xw X (x + 251) 7 0) (x + 251) 16 0) ν → yM S J (ν (x + 251 + 1)) := fun ν hν => by rw [hν.1 _ (by omega) (by omega)]; exact hBX
  obtain ⟨-, u1, -⟩ := (row n3 F3).2.1 t ht
  obtain ⟨-, -, u2, -⟩ := (row n5 F5).2.1 t ht
  obtain ⟨-, -, -, u3, -⟩ := (row n7 F7).2.1 t ht
  obtain ⟨-, -, -, -, u4, -⟩ := (row n9 F9).2.1 t ht
  have y_of1 : ∀ ν, fX8_of (x + 251) (nI t) 1 ν = some (ν (x + 251 + 1) (11 + 11 * t + 1), ν) := fun ν => y_of (k := 1) h16 (by decide)
  have hpl : ∀ ν, fJ0_charAt_5068e 18 (nI (S t 5)) ν = some (nI (ylc (S t 5)), ν) := by
    intro ν
    have hk : S t 5 < 4 := by omega
    rw [y_charAt (h := 18) (j := S t 5) (by show S t 5 < 4; exact hk) (by decide)]
    have hk : S t 5 = 0 ∨ S t 5 = 1 ∨ S t 5 = 2 ∨ S t 5 = 3 := by omega
    rcases hk with d | d | d | d <;> rw [d] <;> rfl
  have hmo : fX8_line (x + 251) (nI t) X = some (nI T.1, n10) := by
    have v1 : n3 (x + 251 + 1) (11 + 11 * t + 1) = nI (S t 1) := u1
    have v2 : n5 (x + 251 + 1) (11 + 11 * t + 2) = nI (S t 3) := u2
    have v3 : n7 (x + 251 + 1) (11 + 11 * t + 3) = nI (S t 4) := u3
    have v4 : n9 (x + 251 + 1) (11 + 11 * t + 4) = nI (S t 5) := u4
    rw [fX8_line, y_isTicket hBX0 hn, y_xb, if_neg c1, if_neg y_n10, y_fails0, y_xb, if_pos rfl, show (35 : Int32) = nI 35 from rfl, show (32 : Int32) = nI 32 from rfl, show (47 : Int32) = nI 47 from rfl, show (43 : Int32) = nI 43 from rfl, a1, y_xbv, a2, y_xbv, a3, y_xbv, y_of1, y_xb, v1, a4, y_xbv, a5, y_xbv, y_of2 h16, y_xb, v2, a6, y_xbv, a7, y_xbv, y_of3 h16, y_xb, v3, a8, y_xbv, a9, y_xbv, y_of4 h16, y_xb, v4, hpl, y_xb, a10, y_xbv, b10'.1]
  have na : ∀ a, a ≠ x + 249 → a ≠ x + 259 → a ≠ x + 251 → a ≠ x + 257 → n10 a = μ a := fun a q1 q2 q3 q4 => by rw [F10.1 a q3 q4, xw_row q3, xw_row q3, xa a q1 q2]
  have nk : ∀ k, k ≠ 7 → k ≠ 16 → n10 (x + 251) k = μ (x + 251) k := fun k q1 q2 => by rw [F10.2 k q2, y_wk q2, y_wk q1, xa _ (by omega) (by omega)]
  have n7' : n10 (x + 251) 7 = 0 := by rw [F10.2 7 (by decide), y_wk (by decide), xw_same]
  have n249 : n10 (x + 249) = X (x + 249) := by rw [F10.1 _ (by omega) (by omega), xw_row (by omega), xw_row (by omega)]
  have n259 : n10 (x + 259) = X (x + 259) := by rw [F10.1 _ (by omega) (by omega), xw_row (by omega), xw_row (by omega)]
  have hW : 400 * i ≤ 400 * (i + 1) := by omega
  refine ⟨n10, y_gl (M := fun m => fX8_line (x + 251) (nI t) m) hcl hmo n7' (fun _ => by rw [n259, xo]), ?_, fun r mA q => ?_⟩
  · refine ⟨⟨S, J, ⟨yI_mono g1 hW, yJb_mono gJ hW⟩, yC_congr g2 (fun a _ _ => na a (by omega) (by omega) (by omega) (by omega)) hn, by rw [na _ (by omega) (by omega) (by omega) (by omega)]; exact g3⟩, yH_mono (yH_congr hH (fun a _ _ => na a (by omega) (by omega) (by omega) (by omega)) (nk 5 (by decide) (by decide)) (na (x + 251 + 2) (by omega) (by omega) (by omega) (by omega))) hW, ySn_congr hS hW (by rw [na x (by omega) (by omega) (by omega) (by omega)]) (nk 4 (by decide) (by decide)) (fun a _ _ => na a (by omega) (by omega) (by omega) (by omega)) (na _ (by omega) (by omega) (by omega) (by omega)), ?_, yIn_congr hN (by rw [na _ (by omega) (by omega) (by omega) (by omega)]) (na _ (by omega) (by omega) (by omega) (by omega)) (nk 13 (by decide) (by decide)) (na _ (by omega) (by omega) (by omega) (by omega)), by rw [na x (by omega) (by omega) (by omega) (by omega), nk 14 (by decide) (by decide)]; exact hE, ⟨T.1, by omega, by rw [n249]; exact xl, b10'.1, fun j hj => ?_⟩, by rw [nk 6 (by decide) (by decide)]; exact h6⟩
    · unfold yRf at hR ⊢
      rw [na (x + 248) (by omega) (by omega) (by omega) (by omega), nk 8 (by decide) (by decide), nk 9 (by decide) (by decide), nk 10 (by decide) (by decide), nk 11 (by decide) (by decide)]
      exact hR
    · exact ⟨T.2 j, (b10'.2 j hj).1, by rw [n249]; exact xc j, (b10'.2 j hj).2⟩
  · rw [hcl] at q
    cases q
    exact ⟨fun q => absurd q (by decide), n249⟩
