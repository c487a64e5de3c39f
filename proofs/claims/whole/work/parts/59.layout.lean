/-! THE LAYOUT at the law's start: all lies at fixed distances from z -/
def kb9 (e : Nat) : Nat := if e = 0 then 5 else if e = 1 then 113 else if e < 18 then 10 else 101
def kd9 (d : Nat) : Nat := if d = 0 then 12 else if d < 61 then kb9 ((d - 1) % 20) else if d = 61 then 7 else if d = 62 then 111 else if d < 223 then kb9 ((d - 63) % 20) else if d = 223 then 6 else if d = 224 then 9 else if d = 225 then 8 else if d = 226 then 102 else if d = 227 then 112 else if d < 248 then 9 else if d = 248 then 11 else if d < 251 then 0 else if d = 251 then 13 else if d = 257 then 102 else if d < 259 then 101 else if d = 259 then 104 else 0
def ln9 (d : Nat) : Nat := if kd9 d = 113 then 16 else if kd9 d = 111 then 8 else if kd9 d = 112 then 20 else if d = 226 then 60 else if d < 251 then 6 else if d = 253 then 1592 else if d = 256 then 60 else if d = 257 then 32 else if d = 258 then 124 else if d = 259 then 1 else 199
def Kf (z a : Nat) : Nat := if a < z then 0 else kd9 (a - z)
def rfK (K a : Nat) : Nat → Option Nat :=
  if K = 113 then xrf 16 1 (a + 1) else if K = 111 then xrf 8 20 (a + 1) else if K = 112 then xrf 20 1 (a + 1)
  else if K = 5 then (fun k => if k = 0 then some (a + 1) else if k = 1 then some (a + 18) else some (a + 19))
  else if K = 7 then (fun _ => some (a + 1))
  else if K = 8 then (fun k => if k = 0 then some (a + 1) else some (a + 2))
  else if K = 12 then (fun k => if k = 0 then some (a + 1) else if k = 1 then some (a + 21) else if k = 2 then some (a + 41) else if k = 4 then some (a + 61) else if k = 5 then some (a + 223) else if k = 6 then some (a + 224) else if k = 7 then some (a + 225) else if k = 8 then some (a + 248) else some (a + 249))
  else if K = 13 then (fun k => if k = 0 then some (a + 1) else if k = 1 then some (a + 2) else if k = 2 then some (a + 3) else if k = 3 then some (a + 4) else if k = 12 then some (a + 5) else if k = 15 then some (a + 6) else some (a + 7))
  else fun _ => none
def Gf (z : Nat) : xG := (Kf z, fun a => rfK (Kf z a) a, fun a => ln9 (a - z))
def μf (z : Nat) : xM := fun a => if Kf z a = 5 then (fun k => if k = 5 then 20 else if k = 6 then 5 else if k = 7 then 2000 else 0) else if Kf z a = 12 then (fun k => if k = 10 then -1 else 0) else if Kf z a = 13 then (fun k => if k = 10 then -1 else if k = 14 then -1 else 0) else if a = z + 252 then upd (upd (upd (fun _ => 0) 2 20) 3 5) 4 2000 else fun _ => 0
theorem Kf_at (z d : Nat) : Kf z (z + d) = kd9 d := by
  unfold Kf
  rw [if_neg (by omega), Nat.add_sub_cancel_left]
theorem G1_at {z d k : Nat} (h : kd9 d = k) : (Gf z).1 (z + d) = k := (Kf_at z d).trans h
theorem G2_at {z d k : Nat} (h : ln9 d = k) : (Gf z).2.2 (z + d) = k := by
  show ln9 (z + d - z) = k
  rw [Nat.add_sub_cancel_left]
  exact h
theorem Gr_at {z d K : Nat} (h : kd9 d = K) : (Gf z).2.1 (z + d) = rfK K (z + d) := by
  show rfK (Kf z (z + d)) (z + d) = _
  rw [Kf_at, h]
theorem μ0_at {z d : Nat} (h : kd9 d ≠ 5 ∧ kd9 d ≠ 12 ∧ kd9 d ≠ 13 ∧ d ≠ 252) : μf z (z + d) = fun _ => 0 := by
  unfold μf
  rw [Kf_at, if_neg h.1, if_neg h.2.1, if_neg h.2.2.1, if_neg (by omega)]
theorem xL_nul {z d k : Nat} (h : kd9 d = k) (h2 : kd9 d ≠ 5 ∧ kd9 d ≠ 12 ∧ kd9 d ≠ 13 ∧ d ≠ 252) : xL_Nul k (Gf z) (μf z) (z + d) := ⟨G1_at h, fun j => by rw [μ0_at h2]⟩
def bk9 (d : Nat) : Prop := kd9 d = 5 ∧ kd9 (d + 1) = 113 ∧ ln9 (d + 1) = 16 ∧ (∀ t, t < 16 → kd9 (d + 2 + t) = 10 ∧ d + 2 + t ≠ 252) ∧ (kd9 (d + 18) = 101 ∧ ln9 (d + 18) = 6 ∧ d + 18 ≠ 252) ∧ (kd9 (d + 19) = 101 ∧ ln9 (d + 19) = 6 ∧ d + 19 ≠ 252)
theorem xL_bank {z d : Nat} (h : bk9 d) : xL_Bank (Gf z) (μf z) (z + d) := by
  obtain ⟨h1, h2, h3, h4, ⟨h5, h6, h7⟩, ⟨h8, h9, h10⟩⟩ := h
  have r := Gr_at (z := z) h1
  have hm : μf z (z + d) = fun k => if k = 5 then 20 else if k = 6 then 5 else if k = 7 then 2000 else 0 := by
    unfold μf
    rw [Kf_at, h1, if_pos rfl]
  refine ⟨⟨G1_at h1, by rw [r]; rfl, by rw [r]; rfl, by rw [r]; rfl⟩, ⟨by rw [hm]; rfl, by rw [hm]; rfl, by rw [hm]; rfl, by rw [hm]; rfl, by rw [hm]; rfl⟩, ⟨G1_at (d := d + 1) h2, G2_at (d := d + 1) h3, Gr_at (d := d + 1) h2⟩, fun t ht => ?_, ⟨G1_at (d := d + 18) h5, G2_at (d := d + 18) h6, μ0_at (d := d + 18) (by rw [h5]; exact ⟨by decide, by decide, by decide, h7⟩)⟩, ⟨G1_at (d := d + 19) h8, G2_at (d := d + 19) h9, μ0_at (d := d + 19) (by rw [h8]; exact ⟨by decide, by decide, by decide, h10⟩)⟩⟩
  obtain ⟨g1, g2⟩ := h4 t ht
  have e : z + d + 2 + t = z + (d + 2 + t) := by omega
  rw [e]
  exact xL_nul g1 (by rw [g1]; exact ⟨by decide, by decide, by decide, g2⟩)
theorem bk_1 : bk9 1 := by unfold bk9; decide
theorem bk_21 : bk9 21 := by unfold bk9; decide
theorem bk_41 : bk9 41 := by unfold bk9; decide
theorem bk_h : ∀ t, t < 8 → bk9 (63 + 20 * t) := by unfold bk9; decide
theorem xL_hist {z : Nat} : xL_History (Gf z) (μf z) (z + 61) := by
  have r := Gr_at (z := z) (show kd9 61 = 7 by decide)
  refine ⟨⟨G1_at (by decide), by rw [r]; rfl⟩, ⟨by rw [μ0_at (by decide)], by rw [μ0_at (by decide)]⟩, ⟨G1_at (d := 62) (by decide), G2_at (d := 62) (by decide), Gr_at (d := 62) (K := 111) (by decide)⟩, fun t ht => ?_⟩
  have e : z + 61 + 2 + 20 * t = z + (63 + 20 * t) := by omega
  rw [e]
  exact xL_bank (bk_h t ht)
theorem ord9 : ∀ t, t < 20 → kd9 (228 + t) = 9 ∧ 228 + t ≠ 252 := by decide
theorem xL_inp {z : Nat} : xL_Input (Gf z) (μf z) (z + 225) := by
  have r := Gr_at (z := z) (show kd9 225 = 8 by decide)
  refine ⟨⟨G1_at (by decide), by rw [r]; rfl, by rw [r]; rfl⟩, ⟨by rw [μ0_at (by decide)], by rw [μ0_at (by decide)], by rw [μ0_at (by decide)]⟩, ⟨G1_at (d := 226) (by decide), G2_at (d := 226) (by decide), μ0_at (d := 226) (by decide)⟩, ⟨G1_at (d := 227) (by decide), G2_at (d := 227) (by decide), Gr_at (d := 227) (K := 112) (by decide)⟩, fun t ht => ?_⟩
  obtain ⟨g1, g2⟩ := ord9 t ht
  have e : z + 225 + 3 + t = z + (228 + t) := by omega
  rw [e]
  exact xL_nul g1 (by rw [g1]; exact ⟨by decide, by decide, by decide, g2⟩)
theorem xL_coat {z : Nat} : xL_Coat (Gf z) (μf z) z := by
  have r : (Gf z).2.1 z = rfK 12 z := Gr_at (z := z) (d := 0) (by decide)
  have hm : μf z z = fun k => if k = 10 then -1 else 0 := by
    unfold μf
    rw [show Kf z z = 12 from Kf_at z 0, if_neg (by decide), if_pos rfl]
  refine ⟨⟨G1_at (d := 0) (by decide), by rw [r]; rfl, by rw [r]; rfl, by rw [r]; rfl, by rw [r]; rfl, by rw [r]; rfl, by rw [r]; rfl, by rw [r]; rfl, by rw [r]; rfl, by rw [r]; rfl⟩, ⟨by rw [hm]; rfl, by rw [hm]; rfl⟩, xL_bank bk_1, xL_bank bk_21, xL_bank bk_41, xL_hist, xL_nul (by decide) (by decide), xL_nul (by decide) (by decide), xL_inp, xL_nul (by decide) (by decide), ⟨G1_at (by decide), G1_at (by decide)⟩⟩
theorem xL_model {z : Nat} : xL_Model (Gf z) (μf z) (z + 251) := by
  have r := Gr_at (z := z) (show kd9 251 = 13 by decide)
  have hm : μf z (z + 251) = fun k => if k = 10 then -1 else if k = 14 then -1 else 0 := by
    unfold μf
    rw [Kf_at, show kd9 251 = 13 by decide, if_neg (by decide), if_neg (by decide), if_pos rfl]
  have hg : μf z (z + 252) = upd (upd (upd (fun _ => 0) 2 20) 3 5) 4 2000 := by
    unfold μf
    rw [Kf_at, show kd9 252 = 101 by decide, if_neg (by decide), if_neg (by decide), if_neg (by decide), if_pos rfl]
  refine ⟨⟨G1_at (by decide), by rw [r]; rfl, by rw [r]; rfl, by rw [r]; rfl, by rw [r]; rfl, by rw [r]; rfl, by rw [r]; rfl, by rw [r]; rfl⟩, fun k h1 h2 => by rw [hm]; show (if k = 10 then (-1 : Int32) else if k = 14 then -1 else 0) = 0; rw [if_neg h1, if_neg h2], ⟨by rw [hm]; rfl, by rw [hm]; rfl⟩, ⟨G1_at (d := 252) (by decide), G2_at (d := 252) (by decide), hg⟩, ⟨G1_at (d := 253) (by decide), G2_at (d := 253) (by decide), μ0_at (d := 253) (by decide)⟩, ⟨G1_at (d := 254) (by decide), G2_at (d := 254) (by decide), μ0_at (d := 254) (by decide)⟩, ⟨G1_at (d := 255) (by decide), G2_at (d := 255) (by decide), μ0_at (d := 255) (by decide)⟩, ⟨G1_at (d := 256) (by decide), G2_at (d := 256) (by decide), μ0_at (d := 256) (by decide)⟩, ⟨G1_at (d := 257) (by decide), G2_at (d := 257) (by decide), μ0_at (d := 257) (by decide)⟩, ⟨G1_at (d := 258) (by decide), G2_at (d := 258) (by decide), μ0_at (d := 258) (by decide)⟩⟩
-- what the walks ask of the layout
theorem xI_bankL {G : xG} {μ : xM} {b : Nat} (h : xL_Bank G μ b) : xI_Bank G b := by
  obtain ⟨⟨h1, h2, h3, h4⟩, -, ⟨h5, h6, h7⟩, h8, ⟨h9, h10, -⟩, ⟨h11, h12, -⟩⟩ := h
  refine ⟨h1, ⟨h2, h5, h6, fun t ht => ⟨?_, (h8 t ht).1⟩⟩, ⟨h3, h9, h10⟩, ⟨h4, h11, h12⟩⟩
  rw [h7]
  show (if t < 16 then some (b + 2 + 1 * t) else none) = _
  rw [if_pos ht, Nat.one_mul]
theorem xI_histL {G : xG} {μ : xM} {h0 : Nat} (h : xL_History G μ h0) : xI_History G h0 := by
  obtain ⟨⟨h1, h2⟩, -, ⟨h3, h4, h5⟩, h6⟩ := h
  refine ⟨h1, h2, h3, h4, fun t ht => ⟨?_, xI_bankL (h6 t ht)⟩⟩
  rw [h5]
  show (if t < 8 then some (h0 + 2 + 20 * t) else none) = _
  rw [if_pos ht]
theorem xI_inpL {G : xG} {μ : xM} {n : Nat} (h : xL_Input G μ n) : xI_Input G n := by
  obtain ⟨⟨h1, h2, h3⟩, -, ⟨h4, h5, -⟩, ⟨h6, h7, h8⟩, h9⟩ := h
  refine ⟨h1, ⟨h2, h4, h5⟩, ⟨h3, h6, h7, fun t ht => ⟨?_, (h9 t ht).1⟩⟩⟩
  rw [h8]
  show (if t < 20 then some (n + 3 + 1 * t) else none) = _
  rw [if_pos ht, Nat.one_mul]
theorem xI_coatL {G : xG} {μ : xM} {x : Nat} (h : xL_Coat G μ x) : xI_Coat G x := by
  obtain ⟨⟨h1, h2, h3, h4, h5, h6, h7, h8, h9, h10⟩, -, b1, b2, b3, hh, hc, ho, hi, hr, hw⟩ := h
  exact ⟨h1, ⟨h2, xI_bankL b1⟩, ⟨h3, xI_bankL b2⟩, ⟨h4, xI_bankL b3⟩, ⟨h5, xI_histL hh⟩, ⟨h6, hc.1⟩, ⟨h7, ho.1⟩, ⟨h8, xI_inpL hi⟩, ⟨h9, hr.1⟩, ⟨h10, hw.1⟩⟩
theorem xI_modelL {G : xG} {μ : xM} {m : Nat} (h : xL_Model G μ m) : xI_Model G m := by
  obtain ⟨⟨h1, h2, h3, h4, h5, h6, h7, h8⟩, -, -, ⟨a1, a2, -⟩, ⟨b1, b2, -⟩, ⟨c1, c2, -⟩, ⟨d1, d2, -⟩, ⟨e1, e2, -⟩, ⟨f1, f2, -⟩, ⟨g1, g2, -⟩⟩ := h
  exact ⟨h1, ⟨h2, a1, a2⟩, ⟨h3, b1, b2⟩, ⟨h4, c1, c2⟩, ⟨h5, d1, d2⟩, ⟨h6, e1, e2⟩, ⟨h7, f1, f2⟩, ⟨h8, g1, g2⟩⟩
theorem xI_outL {z : Nat} : xI_Longs 1 (Gf z) (z + 259) := ⟨G1_at (by decide), G2_at (by decide)⟩
