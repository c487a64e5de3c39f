/-! THE PURE PART: answers (3), undo, snapshot, the input's signs -/
theorem y_rgn {p : Int32} {L : Nat} (hL : L < 1000000000) : (0 ≤ p ∧ p ≤ nI L - 1) ↔ ¬ (p < 0 ∨ nI L ≤ p) := by
  have e : (nI L - 1).toInt = ((L : Nat) : Int) - 1 := pk_sub_toInt (a := L) (b := 1) (by omega) (by decide)
  have e0 : (0 : Int32).toInt = 0 := by decide
  rw [Int32.le_iff_toInt_le, Int32.le_iff_toInt_le, Int32.lt_iff_toInt_lt, Int32.le_iff_toInt_le, e, e0, nI_toInt (by omega)]
  omega
theorem y_L21 {x i : Nat} {μ : xM} (s1 s2 s3 : Int32) (h : yInv x i μ) (hi : i < 512) : ∃ μ1, gL_21 x (x + 251) (x + 259) s1 s2 s3 μ = some μ1 ∧ yInv x (i + 1) μ1 ∧ μ1 (x + 249) = μ (x + 249) := by
  have hh := h
  obtain ⟨-, -, -, -, -, -, ⟨L, hL, k1, k2, k3⟩, -⟩ := h
  have hne3 : x + 251 ≠ x + 259 := by omega
  have hne6 : x + 251 + 6 ≠ x + 251 := by omega
  have hne7 : x + 251 + 6 ≠ x + 259 := by omega
  rw [gL_21]
  by_cases c1 : s1 < 0 ∨ nI L ≤ s1
  · have c1' : ¬ (0 ≤ s1 ∧ s1 ≤ nI L - 1) := fun q => (y_rgn (by omega)).mp q c1
    refine y_qT (M := fun m => fX8_character (x + 251) s1 m) (code := 1) (r2 := 32) hh ?_ ?_ (by decide)
    · rw [fL_character, fX7_character, k1]
      by_cases c2 : s1 < 0
      · rw [if_pos c2, y_xchS 0, if_pos rfl]
      · rw [if_neg c2, if_pos (c1.resolve_left c2), y_xchS 0, if_pos rfl]
    · simp only [fX8_character, k2, y_in, if_neg c1', y_xb, if_true, y_fails1, if_neg y_n10]
  have c1' : 0 ≤ s1 ∧ s1 ≤ nI L - 1 := (y_rgn (by omega)).mpr c1
  obtain ⟨j, hj, rfl⟩ := y_nin (by omega) c1
  obtain ⟨c, hc, d1, d2⟩ := k3 j hj
  have d2' : μ (x + 251 + 6) j = nI c := d2
  refine y_qA (M := fun m => fX8_character (x + 251) (nI j) m) (r := nI c) hh ?_ ?_
  · rw [fL_character, fX7_character, k1, if_neg (fun q => c1 (Or.inl q)), if_neg (fun q => c1 (Or.inr q)), nI_clamp (by omega), d1, y_xch0]
  · simp only [fX8_character, y_wn hne3, k2, y_in, if_pos c1', y_xb, if_neg y_n10, y_fails0, if_true, nI_clamp (show j < 2147483648 by omega), y_wn hne6, y_wn hne7, d2', y_xk (vp_in_nI (show j < 32 by omega) (show 32 < 2147483648 by decide)), y_xk (y_charC c hc)]
theorem y_L22 {x i : Nat} {μ : xM} (s1 s2 s3 : Int32) (h : yInv x i μ) (hi : i < 512) : ∃ μ1, gL_22 x (x + 251) (x + 259) s1 s2 s3 μ = some μ1 ∧ yInv x (i + 1) μ1 ∧ μ1 (x + 249) = μ (x + 249) := by
  have hh := h
  obtain ⟨⟨S, J, ⟨h1, hJ⟩, h2, h3⟩, hH, hS, hR, ⟨L, hL, k1, k2, k3⟩, hE, hLi, h6⟩ := h
  have hpc := pk_char s1
  have hvc := pk_vc s1
  have hcb : s1.toBitVec.toNat % 65536 < 65536 := Nat.mod_lt _ (by decide)
  rw [gL_22]
  generalize hcc : s1.toBitVec.toNat % 65536 = cc at hpc hcb
  rw [hpc] at hvc ⊢
  have b60 : ∀ {α : Type} (A B : α), (if nI L < 60 then A else B) = if L < 60 then A else B := fun A B => y_ilt (b := 60) (by omega) (by decide)
  have e60 : (nI L = 60) = (L = 60) := y_eqN (b := 60) (by omega) (by decide)
  by_cases c1 : L = 60
  · refine y_qT (M := fun m => fX8_append (x + 251) (nI cc) m) (code := 1) (r2 := 0) hh ?_ ?_ (by decide)
    · rw [fL_append, fX7_append, fX3_take, k1, b60, if_neg (by omega), y_xb, y_dS0, y_xcbS 4, y_xchS 4, if_pos rfl]
    · simp only [fX8_append, k2, e60, if_pos c1, y_fails1, y_xb, if_neg y_n10]
  · have hL' : L < 60 := by omega
    have hcl : fL_append x (nI cc) (x + 259) μ = some (0, xw (xw (xw μ (x + 226) L (nI cc)) (x + 225) 2 (nI (L + 1))) (x + 259) 0 (nI (L + 1))) := by
      rw [fL_append, fX7_append, fX3_take, k1, b60, if_pos hL', y_xk (vp_in_nI hL' (by decide)), nI_clamp (by omega), hvc, y_wn (by omega), k1, nI_1, y_xb, y_dS1, y_xcb0, xw_same, y_xch0]
    generalize hX : xw (xw (xw μ (x + 226) L (nI cc)) (x + 225) 2 (nI (L + 1))) (x + 259) 0 (nI (L + 1)) = X at hcl
    have xa : ∀ a, a ≠ x + 225 → a ≠ x + 226 → a ≠ x + 259 → X a = μ a := fun a a1 a2 a3 => by rw [← hX, xw_row a3, xw_row a1, xw_row a2]
    have x5 : X (x + 225) 2 = nI (L + 1) := by rw [← hX, y_wn (by omega), xw_same]
    have x6 : ∀ j, j ≠ L → X (x + 226) j = μ (x + 226) j := fun j hj => by rw [← hX, y_wn (by omega), y_wn (by omega), y_wk hj]
    have x6' : X (x + 226) L = nI cc := by rw [← hX, y_wn (by omega), y_wn (by omega), xw_same]
    have xo : X (x + 259) 0 = nI (L + 1) := by rw [← hX, xw_same]
    have hmo : fX8_append (x + 251) (nI cc) X = some (nI (L + 1), xw (xw (xw X (x + 251) 7 0) (x + 251 + 5) L (nI cc)) (x + 251) 13 (nI (L + 1))) := by
      have y13 : X (x + 251) 13 = nI L := by rw [xa _ (by omega) (by omega) (by omega)]; exact k2
      have hne5 : x + 251 ≠ x + 251 + 5 := by omega
      rw [fX8_append, y13, if_neg (by rw [e60]; exact c1), y_fails0, y_xb, if_pos rfl, y_wk (show (13 : Nat) ≠ 7 by decide), y13, y_xk (vp_in_nI hL' (by decide)), nI_clamp (by omega), y_wn hne5, y_wk (show (13 : Nat) ≠ 7 by decide), y13, nI_1, xw_same]
    refine ⟨_, y_gl hcl hmo (by rw [y_wk (by decide), y_wn (by omega), xw_same]) (fun _ => by rw [y_wn (by omega), y_wn (by omega), y_wn (by omega), xo]), ?_, by rw [xw_row (by omega), xw_row (by omega), xw_row (by omega), xa _ (by omega) (by omega) (by omega)]⟩
    have ea : ∀ a, a ≠ x + 225 → a ≠ x + 226 → a ≠ x + 259 → a ≠ x + 251 → a ≠ x + 256 → (xw (xw (xw X (x + 251) 7 0) (x + 251 + 5) L (nI cc)) (x + 251) 13 (nI (L + 1))) a = μ a := fun a a1 a2 a3 a4 a5 => by rw [xw_row a4, xw_row a5, xw_row a4, xa a a1 a2 a3]
    have e7 : ∀ k, k ≠ 7 → k ≠ 13 → (xw (xw (xw X (x + 251) 7 0) (x + 251 + 5) L (nI cc)) (x + 251) 13 (nI (L + 1))) (x + 251) k = μ (x + 251) k := fun k a1 a2 => by rw [y_wk a2, y_wn (by omega), y_wk a1, xa _ (by omega) (by omega) (by omega)]
    have hW : 400 * i ≤ 400 * (i + 1) := by omega
    refine ⟨⟨S, J, ⟨yI_mono h1 hW, yJb_mono hJ hW⟩, yC_congr h2 (fun a _ _ => ea a (by omega) (by omega) (by omega) (by omega) (by omega)) h1.1.1, by rw [ea _ (by omega) (by omega) (by omega) (by omega) (by omega)]; exact h3⟩, yH_mono (yH_congr hH (fun a _ _ => ea a (by omega) (by omega) (by omega) (by omega) (by omega)) (e7 5 (by decide) (by decide)) (ea (x + 251 + 2) (by omega) (by omega) (by omega) (by omega) (by omega))) hW, ySn_congr hS hW (by rw [ea x (by omega) (by omega) (by omega) (by omega) (by omega)]) (e7 4 (by decide) (by decide)) (fun a _ _ => ea a (by omega) (by omega) (by omega) (by omega) (by omega)) (ea _ (by omega) (by omega) (by omega) (by omega) (by omega)), ?_, ?_, by rw [ea x (by omega) (by omega) (by omega) (by omega) (by omega), e7 14 (by decide) (by decide)]; exact hE, yLi_congr hLi (ea _ (by omega) (by omega) (by omega) (by omega) (by omega)) (e7 16 (by decide) (by decide)) (ea _ (by omega) (by omega) (by omega) (by omega) (by omega)), by rw [e7 6 (by decide) (by decide)]; exact h6⟩
    · unfold yRf at hR ⊢
      rw [ea (x + 248) (by omega) (by omega) (by omega) (by omega) (by omega), e7 8 (by decide) (by decide), e7 9 (by decide) (by decide), e7 10 (by decide) (by decide), e7 11 (by decide) (by decide)]
      exact hR
    · refine ⟨L + 1, by omega, by rw [y_wn (by omega), y_wn (by omega), y_wn (by omega)]; exact x5, xw_same _ _ _ _, fun j hj => ?_⟩
      rw [y_wn (show x + 226 ≠ x + 251 by omega), y_wn (show x + 226 ≠ x + 251 + 5 by omega), y_wn (show x + 226 ≠ x + 251 by omega), y_wn (show x + 256 ≠ x + 251 by omega)]
      by_cases cj : j = L
      · subst cj
        exact ⟨cc, hcb, x6', xw_same _ _ _ _⟩
      · obtain ⟨c, u1, u2, u3⟩ := k3 j (by omega)
        refine ⟨c, u1, by rw [x6 j cj]; exact u2, ?_⟩
        rw [show x + 256 = x + 251 + 5 from rfl, y_wk cj, y_wn (by omega), xa _ (by omega) (by omega) (by omega)]
        exact u3
theorem y_ref {x i : Nat} {μ : xM} (p1 p2 : Int32) (h : yInv x i μ) : ∃ μ1, xb (fL_refusal x p1 p2 (x + 259) μ) (fun r1 m1 => xb (fX8_refusal (x + 251) p1 p2 m1) (fun r2 m2 => xb (fX8_thrown (x + 251) m2) (fun r3 m3 => if r3 = r1 then (if r1 = 0 then (if lg_cmp ((m3 (x + 259) 0)).toInt64 r2.toInt64 = 0 then (some m3) else (none)) else (some m3)) else (none)))) = some μ1 ∧ yInv x (i + 1) μ1 ∧ μ1 (x + 249) = μ (x + 249) := by
  have hh := h
  obtain ⟨r0, r1, r2, r3⟩ := h.2.2.2.1
  have hne3 : x + 251 ≠ x + 259 := by omega
  by_cases c0 : μ (x + 251) 8 = 0
  · refine y_qT (M := fun m => fX8_refusal (x + 251) p1 p2 m) (code := 1) (r2 := 0) hh ?_ ?_ (by decide)
    · rw [fL_refusal, fX7_refusal, r0, if_pos c0, y_xchS 3, if_pos rfl]
    · simp only [fX8_refusal, if_pos c0, y_fails1, y_xb, if_neg y_n10]
  · by_cases c1 : p1 = 0
    · by_cases c2 : p2 = 0
      · refine y_qA (M := fun m => fX8_refusal (x + 251) p1 p2 m) (r := μ (x + 251) 8) hh ?_ ?_
        · rw [fL_refusal, fX7_refusal, r0, if_neg c0, if_pos c1, if_pos c1, if_pos c2, y_xch0]
        · simp only [fX8_refusal, y_wn hne3, if_neg c0, if_pos c1, y_fails0, y_xb, if_true, if_pos c2, y_wk (show (8 : Nat) ≠ 7 by decide)]
      · refine y_qA (M := fun m => fX8_refusal (x + 251) p1 p2 m) (r := μ (x + 251) 9) hh ?_ ?_
        · rw [fL_refusal, fX7_refusal, r0, if_neg c0, if_pos c1, if_pos c1, if_neg c2, r1 c0, y_xch0]
        · simp only [fX8_refusal, y_wn hne3, if_neg c0, if_pos c1, y_fails0, y_xb, if_true, if_neg c2, y_wk (show (9 : Nat) ≠ 7 by decide)]
    · by_cases c3 : μ (x + 251) 8 = 11
      · obtain ⟨t1, t2, t3⟩ := r2 c3
        by_cases c2 : p2 = 0
        · refine y_qA (M := fun m => fX8_refusal (x + 251) p1 p2 m) (r := μ (x + 251) 10) hh ?_ ?_
          · rw [fL_refusal, fX7_refusal, r0, if_neg c0, if_neg c1, if_pos c3, if_neg c1, if_pos c2, t2, y_xch0]
          · simp only [fX8_refusal, y_wn hne3, if_neg c0, if_neg c1, if_pos t1, y_fails0, y_xb, if_true, if_pos c2, y_wk (show (10 : Nat) ≠ 7 by decide)]
        · refine y_qA (M := fun m => fX8_refusal (x + 251) p1 p2 m) (r := μ (x + 251) 11) hh ?_ ?_
          · rw [fL_refusal, fX7_refusal, r0, if_neg c0, if_neg c1, if_pos c3, if_neg c1, if_neg c2, t3, y_xch0]
          · simp only [fX8_refusal, y_wn hne3, if_neg c0, if_neg c1, if_pos t1, y_fails0, y_xb, if_true, if_neg c2, y_wk (show (11 : Nat) ≠ 7 by decide)]
      · have t1 : ¬ 0 ≤ μ (x + 251) 10 := Int32.not_le.mpr (r3 c3)
        refine y_qT (M := fun m => fX8_refusal (x + 251) p1 p2 m) (code := 1) (r2 := 0) hh ?_ ?_ (by decide)
        · rw [fL_refusal, fX7_refusal, r0, if_neg c0, if_neg c1, if_neg c3, y_xchS 3, if_pos rfl]
        · simp only [fX8_refusal, if_neg c0, if_neg c1, if_neg t1, y_fails1, y_xb, if_neg y_n10]
theorem y_L25 {x i : Nat} {μ : xM} (s1 s2 s3 : Int32) (h : yInv x i μ) (hi : i < 512) : ∃ μ1, gL_25 x (x + 251) (x + 259) s1 s2 s3 μ = some μ1 ∧ yInv x (i + 1) μ1 ∧ μ1 (x + 249) = μ (x + 249) := by
  unfold gL_25
  by_cases c1 : s1 = 0
  · by_cases c2 : s2 = 0
    · simp only [if_pos c1, if_pos c2]
      exact y_ref 0 0 h
    · simp only [if_pos c1, if_neg c2]
      exact y_ref 0 1 h
  · by_cases c2 : s2 = 0
    · simp only [if_neg c1, if_pos c2]
      exact y_ref 1 0 h
    · simp only [if_neg c1, if_neg c2]
      exact y_ref 1 1 h
/-- the class takes back -/
theorem y_takeC {h b q c : Nat} {S : Nat → Nat → Nat} {J : Nat → Int32} {μ : xM} (hb : b + 20 ≤ h) (e1 : μ h 1 = nI q) (e2 : μ h 2 = nI c) (hq : q < 8) (hc : c ≤ 8) (hc1 : 1 ≤ c) (hC : yC (h + 1 + 1 + 20 * ((q + 7) % 8)) S J μ) (hn : S 16 0 ≤ 16) : ∃ μ1, fX2_takeBack h b μ = some μ1 ∧ μ1 h 1 = nI ((q + 7) % 8) ∧ μ1 h 2 = nI (c - 1) ∧ yC b S J μ1 ∧ ∀ a, a ≠ h → (a < b ∨ b + 20 ≤ a) → μ1 a = μ a := by
  have key : ∀ v : Nat, v = (q + 7) % 8 → ∃ μ1, (xk (vp_in ((xw μ h 1 (nI v)) h 1) 8) (xbv (fX0_copyFrom b (h + 1 + 1 + 20 * (Int32.toNatClampNeg ((xw μ h 1 (nI v)) h 1))) (xw μ h 1 (nI v))) (fun m3 => some (xw m3 h 2 ((m3 h 2) - (1 : Int32)))))) = some μ1 ∧ μ1 h 1 = nI ((q + 7) % 8) ∧ μ1 h 2 = nI (c - 1) ∧ yC b S J μ1 ∧ ∀ a, a ≠ h → (a < b ∨ b + 20 ≤ a) → μ1 a = μ a := by
    intro v hv
    have hC1 : yC (h + 1 + 1 + 20 * v) S J (xw μ h 1 (nI v)) := by rw [hv]; exact yC_congr hC (fun a g1 g2 => xw_row (by omega)) hn
    obtain ⟨m, k1, k2, k3⟩ := y_copyFrom (b1 := b) (b2 := h + 1 + 1 + 20 * v) (by omega) hC1 hn
    have m2 : m h 2 = nI c := by rw [k3 h (by omega), y_wk (by decide)]; exact e2
    refine ⟨xw m h 2 (nI (c - 1)), ?_, ?_, xw_same _ _ _ _, yC_congr k2 (fun a g1 g2 => xw_row (by omega)) hn, fun a a1 a2 => by rw [xw_row a1, k3 a a2, xw_row a1]⟩
    · rw [xw_same, y_xk (vp_in_nI (by omega) (by decide)), nI_clamp (by omega), k1, y_xbv, m2, show nI c - 1 = nI (c - 1) from pk_sub (b := 1) hc1]
    · rw [y_wk (by decide), k3 h (by omega), xw_same, hv]
  have b0 : ∀ {α : Type} (A B : α), (if nI q ≤ 0 then A else B) = if q ≤ 0 then A else B := fun A B => y_ile (b := 0) (by omega) (by decide)
  rw [fX2_takeBack, e1, b0]
  by_cases c0 : q ≤ 0
  · rw [if_pos c0]
    exact key 7 (by omega)
  · rw [if_neg c0, show nI q - 1 = nI (q - 1) from pk_sub (b := 1) (by omega)]
    exact key (q - 1) (by omega)
theorem y_L29 {x i : Nat} {μ : xM} (s1 s2 s3 : Int32) (h : yInv x i μ) (hi : i < 512) : ∃ μ1, gL_29 x (x + 251) (x + 259) s1 s2 s3 μ = some μ1 ∧ yInv x (i + 1) μ1 ∧ μ1 (x + 249) = μ (x + 249) := by
  have hh := h
  obtain ⟨⟨S0, J0, g1, g2, g3⟩, ⟨q, c, hq, hc, h1, h2, h5, hj⟩, hS, hR, hN, hE, hL, h6⟩ := h
  have hW : 400 * i ≤ 400 * (i + 1) := by omega
  have b0 : ∀ {α : Type} (A B : α), (if nI c ≤ 0 then A else B) = if c ≤ 0 then A else B := fun A B => y_ile (b := 0) (by omega) (by decide)
  have e0 : (nI c = 0) = (c = 0) := y_e0 (by omega)
  rw [gL_29]
  by_cases c0 : c = 0
  · refine y_qT (M := fun m => fX8_undo (x + 251) m) (code := 1) (r2 := 0) hh ?_ ?_ (by decide)
    · rw [fL_undo, fX7_undo, h2, b0, if_pos (by omega), y_dS0, y_xcbS 4, y_xchS 4, if_pos rfl]
    · simp only [fX8_undo, h5, e0, if_pos c0, y_fails1, y_xb, if_neg y_n10]
  obtain ⟨S, J, ⟨t1, tJ⟩, t2, t3⟩ := hj (c - 1) (by omega)
  have hn := t1.1.1
  rw [show (q + 8 - c + (c - 1)) % 8 = (q + 7) % 8 by omega] at t2
  obtain ⟨m, k1, k2, k3, k4, k5⟩ := y_takeC (b := x + 1) (by omega) h1 h2 hq hc (by omega) t2 hn
  have hcl : fL_undo x (x + 259) μ = some (0, xw m (x + 259) 0 (nI (c - 1))) := by
    rw [fL_undo, fX7_undo, h2, b0, if_neg (by omega), y_dS1, y_xcb0, k1, y_xbv, k3, y_xch0]
  generalize hX : xw m (x + 259) 0 (nI (c - 1)) = X at hcl
  have xm : ∀ a, a ≠ x + 259 → X a = m a := fun a a1 => by rw [← hX, xw_row a1]
  have xa : ∀ a, a ≠ x + 61 → (a < x + 1 ∨ x + 21 ≤ a) → a ≠ x + 259 → X a = μ a := fun a a1 a2 a3 => by rw [xm a a3, k5 a a1 a2]
  have xo : X (x + 259) 0 = nI (c - 1) := by rw [← hX, xw_same]
  have y5 : X (x + 251) 5 = nI c := by rw [xa _ (by omega) (by omega) (by omega)]; exact h5
  obtain ⟨n, l1, l2, l3, l4⟩ := y_copies (s := x + 251 + 2) (d := x + 251 + 1) (n0 := 1592) (n2 := 199) (P := 199 * (c - 1)) (Q := 0) (by omega) (by omega) (by omega) (by omega) (by omega) (xw (xw X (x + 251) 7 0) (x + 251) 5 (nI (c - 1)))
  have n5 : n (x + 251) 5 = nI (c - 1) := by rw [l4 _ (by omega), xw_same]
  have hmo : fX8_undo (x + 251) X = some (nI (c - 1), n) := by
    have w1 : nI c - 1 = nI (c - 1) := pk_sub (b := 1) (by omega)
    have w2 : (199 : Int32) * nI (c - 1) = nI (199 * (c - 1)) := pk_mul 199 (c - 1)
    rw [fX8_undo, y5, if_neg (by rw [e0]; exact c0), y_fails0, y_xb, if_pos rfl, y_wk (show (5 : Nat) ≠ 7 by decide), y5, w1, xw_same, w2]
    rw [show (0 : Int32) = nI 0 from rfl] at *
    rw [l1, y_xbv, n5]
  have na : ∀ a, a ≠ x + 61 → (a < x + 1 ∨ x + 21 ≤ a) → a ≠ x + 259 → a ≠ x + 251 → a ≠ x + 252 → n a = μ a := fun a a1 a2 a3 a4 a5 => by rw [l4 a a5, xw_row a4, xw_row a4, xa a a1 a2 a3]
  have nm : ∀ a, a ≠ x + 259 → a ≠ x + 251 → a ≠ x + 252 → n a = m a := fun a a3 a4 a5 => by rw [l4 a a5, xw_row a4, xw_row a4, xm a a3]
  have nk : ∀ k, k ≠ 5 → k ≠ 7 → n (x + 251) k = μ (x + 251) k := fun k a1 a2 => by rw [l4 _ (by omega), y_wk a1, y_wk a2, xa _ (by omega) (by omega) (by omega)]
  have n7 : n (x + 251) 7 = 0 := by rw [l4 _ (by omega), y_wk (by decide), xw_same]
  refine ⟨n, y_gl (M := fun m => fX8_undo (x + 251) m) hcl hmo n7 (fun _ => by rw [l4 _ (by omega), xw_row (by omega), xw_row (by omega)]; exact xo), ?_, na _ (by omega) (by omega) (by omega) (by omega) (by omega)⟩
  refine ⟨⟨S, J, ⟨yI_mono t1 hW, yJb_mono tJ hW⟩, yC_congr k4 (fun a _ _ => nm a (by omega) (by omega) (by omega)) hn, ?_⟩, ⟨(q + 7) % 8, c - 1, by omega, by omega, by rw [nm _ (by omega) (by omega) (by omega)]; exact k2, by rw [nm _ (by omega) (by omega) (by omega)]; exact k3, n5, fun j hjc => ?_⟩, ySn_congr hS hW (by rw [na x (by omega) (by omega) (by omega) (by omega) (by omega)]) (nk 4 (by decide) (by decide)) (fun a _ _ => na a (by omega) (by omega) (by omega) (by omega) (by omega)) (na _ (by omega) (by omega) (by omega) (by omega) (by omega)), yRf_congr hR (na _ (by omega) (by omega) (by omega) (by omega) (by omega)) nk, yIn_congr hN (by rw [na _ (by omega) (by omega) (by omega) (by omega) (by omega)]) (na _ (by omega) (by omega) (by omega) (by omega) (by omega)) (nk 13 (by decide) (by decide)) (na _ (by omega) (by omega) (by omega) (by omega) (by omega)), by rw [na x (by omega) (by omega) (by omega) (by omega) (by omega), nk 14 (by decide) (by decide)]; exact hE, yLi_congr hL (na _ (by omega) (by omega) (by omega) (by omega) (by omega)) (nk 16 (by decide) (by decide)) (na _ (by omega) (by omega) (by omega) (by omega) (by omega)), by rw [nk 6 (by decide) (by decide)]; exact h6⟩
  · refine yM_ext t3 (fun j hj => ?_) hn
    have := l2 j hj
    rw [Nat.zero_add] at this
    rw [show x + 252 = x + 251 + 1 from rfl, this, xw_row (by omega), xw_row (by omega), xa _ (by omega) (by omega) (by omega)]
  · obtain ⟨S', J', ⟨u1, uJ⟩, u2, u3⟩ := hj j (by omega)
    refine ⟨S', J', ⟨yI_mono u1 hW, yJb_mono uJ hW⟩, ?_, ?_⟩
    · rw [show ((q + 7) % 8 + 8 - (c - 1) + j) % 8 = (q + 8 - c + j) % 8 by omega]
      have hm8 := Nat.mod_lt (q + 8 - c + j) (show 0 < 8 by decide)
      exact yC_congr u2 (fun a g1 g2 => na a (by omega) (by omega) (by have := u1.1.1; omega) (by omega) (by omega)) u1.1.1
    · rw [show x + 251 + 2 = x + 253 from rfl, na (x + 253) (by omega) (by omega) (by omega) (by omega) (by omega)]
      exact u3
theorem y_L30 {x i : Nat} {μ : xM} (s1 s2 s3 : Int32) (h : yInv x i μ) (hi : i < 512) : ∃ μ1, gL_30 x (x + 251) (x + 259) s1 s2 s3 μ = some μ1 ∧ yInv x (i + 1) μ1 ∧ μ1 (x + 249) = μ (x + 249) := by
  obtain ⟨⟨S, J, ⟨g1, gJ⟩, g2, g3⟩, hH, hS, hR, hN, hE, hL, h6⟩ := h
  have hW : 400 * i ≤ 400 * (i + 1) := by omega
  have hn := g1.1.1
  obtain ⟨m, k1, k2, k3⟩ := y_copyFrom (b1 := x + 21) (b2 := x + 1) (by omega) g2 hn
  obtain ⟨n, l1, l2, l3, l4⟩ := y_copies (s := x + 251 + 1) (d := x + 251 + 3) (n0 := 199) (n2 := 199) (P := 0) (Q := 0) (by omega) (by omega) (by omega) (by omega) (by omega) (xw (xw (xw m x 3 1) (x + 251) 7 0) (x + 251) 4 1)
  have w0 : (xw m x 3 1) (x + 1) 4 = nI (S 16 1) := by rw [y_wn (by omega), k3 _ (by omega)]; exact g2.1.2.1
  have w1 : n (x + 251 + 1) 0 = nI (S 16 1) := by rw [l4 _ (by omega), xw_row (by omega), xw_row (by omega), xw_row (by omega), k3 _ (by omega)]; exact g3.1.1
  have na : ∀ a, a ≠ x → (a < x + 21 ∨ x + 41 ≤ a) → a ≠ x + 251 → a ≠ x + 254 → n a = μ a := fun a a1 a2 a3 a4 => by rw [l4 a a4, xw_row a3, xw_row a3, xw_row a1, k3 a (by omega)]
  have nm : ∀ a, a ≠ x → a ≠ x + 251 → a ≠ x + 254 → n a = m a := fun a a1 a3 a4 => by rw [l4 a a4, xw_row a3, xw_row a3, xw_row a1]
  have nk : ∀ k, k ≠ 4 → k ≠ 7 → n (x + 251) k = μ (x + 251) k := fun k a1 a2 => by rw [l4 _ (by omega), y_wk a1, y_wk a2, xw_row (by omega), k3 _ (by omega)]
  have n4 : n (x + 251) 4 = 1 := by rw [l4 _ (by omega), xw_same]
  have n3 : n x 3 = 1 := by rw [l4 _ (by omega), xw_row (by omega), xw_row (by omega), xw_same]
  have nx : ∀ k, k ≠ 3 → n x k = μ x k := fun k a1 => by rw [l4 _ (by omega), xw_row (by omega), xw_row (by omega), y_wk a1, k3 _ (by omega)]
  refine ⟨n, ?_, ⟨⟨S, J, ⟨yI_mono g1 hW, yJb_mono gJ hW⟩, yC_congr g2 (fun a _ _ => na a (by omega) (by omega) (by omega) (by omega)) hn, by rw [na _ (by omega) (by omega) (by omega) (by omega)]; exact g3⟩, yH_mono (yH_congr hH (fun a _ _ => na a (by omega) (by omega) (by omega) (by omega)) (nk 5 (by decide) (by decide)) (na (x + 251 + 2) (by omega) (by omega) (by omega) (by omega))) hW, ⟨by rw [n3, n4], Or.inr ⟨n3, S, J, ⟨yI_mono g1 hW, yJb_mono gJ hW⟩, yC_congr k2 (fun a _ _ => nm a (by omega) (by omega) (by omega)) hn, ?_⟩⟩, ?_, yIn_congr hN (by rw [na _ (by omega) (by omega) (by omega) (by omega)]) (na _ (by omega) (by omega) (by omega) (by omega)) (nk 13 (by decide) (by decide)) (na _ (by omega) (by omega) (by omega) (by omega)), by rw [nx 10 (by decide), nk 14 (by decide) (by decide)]; exact hE, yLi_congr hL (na _ (by omega) (by omega) (by omega) (by omega)) (nk 16 (by decide) (by decide)) (na _ (by omega) (by omega) (by omega) (by omega)), by rw [nk 6 (by decide) (by decide)]; exact h6⟩, na _ (by omega) (by omega) (by omega) (by omega)⟩
  · rw [gL_30, fX7_save, k1, y_xbv, y_xb, w0, fX8_save]
    have l1' : fX8_copies (x + 251 + 1) 199 0 (x + 251 + 3) 199 0 (xw (xw (xw m x 3 1) (x + 251) 7 0) (x + 251) 4 1) = some n := l1
    rw [l1', y_xbv, y_xb, w1, if_pos rfl]
  · refine yM_ext g3 (fun j hj => ?_) hn
    have := l2 j hj
    rw [Nat.zero_add] at this
    rw [show x + 254 = x + 251 + 3 from rfl, this, xw_row (by omega), xw_row (by omega), xw_row (by omega), k3 _ (by omega)]
  · unfold yRf at hR ⊢
    rw [na (x + 248) (by omega) (by omega) (by omega) (by omega), nk 8 (by decide) (by decide), nk 9 (by decide) (by decide), nk 10 (by decide) (by decide), nk 11 (by decide) (by decide)]
    exact hR
theorem y_L31 {x i : Nat} {μ : xM} (s1 s2 s3 : Int32) (h : yInv x i μ) (hi : i < 512) : ∃ μ1, gL_31 x (x + 251) (x + 259) s1 s2 s3 μ = some μ1 ∧ yInv x (i + 1) μ1 ∧ μ1 (x + 249) = μ (x + 249) := by
  have hh := h
  obtain ⟨⟨S0, J0, g1, g2, g3⟩, ⟨q, c, hq, hc, h1, h2, h5, hj⟩, ⟨hs1, hs2⟩, hR, hN, hE, hL, h6⟩ := h
  have hW : 400 * i ≤ 400 * (i + 1) := by omega
  rw [gL_31]
  rcases hs2 with hs0 | ⟨hs, S, J, ⟨t1, tJ⟩, t2, t3⟩
  · refine y_qT (M := fun m => fX8_restore (x + 251) m) (code := 1) (r2 := 0) hh ?_ ?_ (by decide)
    · rw [fL_restore, fX7_restore, hs0, y_dS0, y_xcbS 4, y_xchS 4, if_pos rfl]
    · simp only [fX8_restore, if_pos (show μ (x + 251) 4 = 0 from hs1 ▸ hs0), y_fails1, y_xb, if_neg y_n10]
  have hn := t1.1.1
  have s4 : μ (x + 251) 4 = 1 := by rw [← hs1]; exact hs
  obtain ⟨m, k1, k2, k3⟩ := y_copyFrom (b1 := x + 1) (b2 := x + 21) (by omega) t2 hn
  have k2' : yC (x + 1) S J (xw m (x + 61) 2 0) := yC_congr k2 (fun a _ _ => xw_row (by omega)) hn
  have hcl : fL_restore x (x + 259) μ = some (0, xw (xw m (x + 61) 2 0) (x + 259) 0 (nI (S 16 1))) := by
    rw [fL_restore, fX7_restore, hs, y_dS1, y_xcb0, k1, y_xbv, fX2_forget, y_xbv, k2'.1.2.1, y_xch0]
  generalize hX : xw (xw m (x + 61) 2 0) (x + 259) 0 (nI (S 16 1)) = X at hcl
  have xm : ∀ a, a ≠ x + 259 → a ≠ x + 61 → X a = m a := fun a a1 a2 => by rw [← hX, xw_row a1, xw_row a2]
  have xa : ∀ a, a ≠ x + 61 → (a < x + 1 ∨ x + 21 ≤ a) → a ≠ x + 259 → X a = μ a := fun a a1 a2 a3 => by rw [xm a a3 a1, k3 a a2]
  have xo : X (x + 259) 0 = nI (S 16 1) := by rw [← hX, xw_same]
  have x61 : X (x + 61) 1 = nI q := by rw [← hX, xw_row (by omega), y_wk (by decide), k3 _ (by omega)]; exact h1
  have x62 : X (x + 61) 2 = nI 0 := by rw [← hX, xw_row (by omega), xw_same]; rfl
  have y4 : ¬ X (x + 251) 4 = 0 := by rw [xa _ (by omega) (by omega) (by omega), s4]; decide
  obtain ⟨n, l1, l2, l3, l4⟩ := y_copies (s := x + 251 + 3) (d := x + 251 + 1) (n0 := 199) (n2 := 199) (P := 0) (Q := 0) (by omega) (by omega) (by omega) (by omega) (by omega) (xw X (x + 251) 7 0)
  have l1' : fX8_copies (x + 251 + 3) 199 0 (x + 251 + 1) 199 0 (xw X (x + 251) 7 0) = some n := l1
  have nrow : ∀ j, j < 199 → n (x + 251 + 1) j = μ (x + 254) j := fun j hj => by
    have := l2 j hj
    rw [Nat.zero_add] at this
    rw [this, xw_row (by omega), xa _ (by omega) (by omega) (by omega)]
  have nM : yM S J (n (x + 251 + 1)) := yM_ext t3 nrow hn
  have hmo : fX8_restore (x + 251) X = some (nI (S 16 1), xw n (x + 251) 5 0) := by
    rw [fX8_restore, if_neg y4, y_fails0, y_xb, if_pos rfl, l1', y_xbv, y_wn (by omega), nM.1.1]
  have na : ∀ a, a ≠ x + 61 → (a < x + 1 ∨ x + 21 ≤ a) → a ≠ x + 259 → a ≠ x + 251 → a ≠ x + 252 → (xw n (x + 251) 5 0) a = μ a := fun a a1 a2 a3 a4 a5 => by rw [xw_row a4, l4 a a5, xw_row a4, xa a a1 a2 a3]
  have nm : ∀ a, a ≠ x + 259 → a ≠ x + 61 → a ≠ x + 251 → a ≠ x + 252 → (xw n (x + 251) 5 0) a = m a := fun a a1 a3 a4 a5 => by rw [xw_row a4, l4 a a5, xw_row a4, xm a a1 a3]
  have nk : ∀ k, k ≠ 5 → k ≠ 7 → (xw n (x + 251) 5 0) (x + 251) k = μ (x + 251) k := fun k a1 a2 => by rw [y_wk a1, l4 _ (by omega), y_wk a2, xa _ (by omega) (by omega) (by omega)]
  have n7 : (xw n (x + 251) 5 0) (x + 251) 7 = 0 := by rw [y_wk (by decide), l4 _ (by omega), xw_same]
  refine ⟨_, y_gl (M := fun m => fX8_restore (x + 251) m) hcl hmo n7 (fun _ => by rw [xw_row (by omega), l4 _ (by omega), xw_row (by omega)]; exact xo), ?_, na _ (by omega) (by omega) (by omega) (by omega) (by omega)⟩
  refine ⟨⟨S, J, ⟨yI_mono t1 hW, yJb_mono tJ hW⟩, yC_congr k2 (fun a _ _ => nm a (by omega) (by omega) (by omega) (by omega)) hn, by rw [xw_row (by omega)]; exact nM⟩, ⟨q, 0, hq, by omega, by rw [xw_row (by omega), l4 _ (by omega), xw_row (by omega)]; exact x61, by rw [xw_row (by omega), l4 _ (by omega), xw_row (by omega)]; exact x62, xw_same _ _ _ _, fun j hj0 => by omega⟩, ?_, yRf_congr hR (na _ (by omega) (by omega) (by omega) (by omega) (by omega)) nk, yIn_congr hN (by rw [na _ (by omega) (by omega) (by omega) (by omega) (by omega)]) (na _ (by omega) (by omega) (by omega) (by omega) (by omega)) (nk 13 (by decide) (by decide)) (na _ (by omega) (by omega) (by omega) (by omega) (by omega)), by rw [na x (by omega) (by omega) (by omega) (by omega) (by omega), nk 14 (by decide) (by decide)]; exact hE, yLi_congr hL (na _ (by omega) (by omega) (by omega) (by omega) (by omega)) (nk 16 (by decide) (by decide)) (na _ (by omega) (by omega) (by omega) (by omega) (by omega)), by rw [nk 6 (by decide) (by decide)]; exact h6⟩
  have hsn : ySn (400 * i) x μ := ⟨hs1, Or.inr ⟨hs, S, J, ⟨t1, tJ⟩, t2, t3⟩⟩
  exact ySn_congr hsn hW (by rw [na x (by omega) (by omega) (by omega) (by omega) (by omega)]) (nk 4 (by decide) (by decide)) (fun a _ _ => na a (by omega) (by omega) (by omega) (by omega) (by omega)) (na _ (by omega) (by omega) (by omega) (by omega) (by omega))
