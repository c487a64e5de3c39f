/-! THE PURE PART: what holds of the numbers still holds behind a change -/
theorem yI_row {W t : Nat} {S : Nat → Nat → Nat} {c : Nat → Nat} (h : yI W S) (ht : t < S 16 0) (hc : yP (S 16 1) (S 16 4) c) (h5 : c 5 ≠ 1) : yI W (yrow S t c) := by
  obtain ⟨h0, hP, hO⟩ := h
  have hn := h0.1
  have h16 : yrow S t c 16 = S 16 := yrow_n (by omega)
  refine ⟨by rw [h16]; exact h0, fun j hj => ?_, fun a o ha ho ha5 ho5 => ?_⟩
  · rw [h16] at hj ⊢
    by_cases cj : j = t
    · subst cj; rw [yrow_t]; exact hc
    · rw [yrow_n cj]; exact hP j hj
  · rw [h16] at ha ho
    have ca : a ≠ t := fun q => h5 (by rw [q, yrow_t] at ha5; exact ha5)
    have co : o ≠ t := fun q => h5 (by rw [q, yrow_t] at ho5; exact ho5)
    rw [yrow_n ca] at ha5 ⊢
    rw [yrow_n co] at ho5 ⊢
    exact hO a o ha ho ha5 ho5
theorem yI_sc {W k v : Nat} {S : Nat → Nat → Nat} (h : yI W S) (hk : k = 2 ∨ k = 3) (h2 : k = 2 → 1 ≤ v ∧ v ≤ 60) (h3 : k = 3 → v ≤ 20) : yI W (yu S 16 k v) := by
  obtain ⟨⟨h0, h1, a2, a3, a4, a5⟩, hP, hO⟩ := h
  have e0 : yu S 16 k v 16 0 = S 16 0 := yu_k (by omega)
  have e1 : yu S 16 k v 16 1 = S 16 1 := yu_k (by omega)
  have e4 : yu S 16 k v 16 4 = S 16 4 := yu_k (by omega)
  have er : ∀ t, t < S 16 0 → yu S 16 k v t = S t := fun t ht => yu_n (by omega)
  refine ⟨⟨by rw [e0]; exact h0, by rw [e1]; exact h1, ?_, ?_, ?_, by rw [e4, e1]; exact a5⟩, fun j hj => ?_, fun a o ha ho ha5 ho5 => ?_⟩
  · by_cases c : k = 2
    · subst c; rw [yu_s]; exact (h2 rfl).1
    · rw [yu_k (by omega)]; exact a2
  · by_cases c : k = 2
    · subst c; rw [yu_s]; exact (h2 rfl).2
    · rw [yu_k (by omega)]; exact a3
  · by_cases c : k = 3
    · subst c; rw [yu_s]; exact h3 rfl
    · rw [yu_k (by omega)]; exact a4
  · rw [e0] at hj
    rw [er j hj, e1, e4]
    exact hP j hj
  · rw [e0] at ha ho
    rw [er a ha] at ha5 ⊢
    rw [er o ho] at ho5 ⊢
    exact hO a o ha ho ha5 ho5
theorem yI_lend {W ow wo lo : Nat} {S : Nat → Nat → Nat} (h : yI W S) (how : ow < 6) (hwo : wo ≤ 999) (hlo : lo ≤ wo * 60 / 100) (hn : S 16 0 < 16) : yI W (yLend S ow wo lo) := by
  obtain ⟨⟨h0, h1, a2, a3, a4, a5⟩, hP, hO⟩ := h
  have hL : ∀ u, u < S 16 0 → yLend S ow wo lo u = S u := fun u hu => by unfold yLend; rw [yu_n (by omega), yrow_n (by omega)]
  have hLn : yLend S ow wo lo (S 16 0) = (fun k => if k = 0 then ow else if k = 1 then wo else if k = 2 then lo else if k = 3 then lo else if k = 6 then S 16 1 else if k = 7 then S 16 2 else 0) := by unfold yLend; rw [yu_n (by omega), yrow_t]
  have hL0 : yLend S ow wo lo 16 0 = S 16 0 + 1 := yu_s
  have hLk : ∀ k, k ≠ 0 → yLend S ow wo lo 16 k = S 16 k := fun k hk => by unfold yLend; rw [yu_k hk, yrow_n (by omega)]
  refine ⟨⟨by rw [hL0]; omega, by rw [hLk 1 (by decide)]; exact h1, by rw [hLk 2 (by decide)]; exact a2, by rw [hLk 2 (by decide)]; exact a3, by rw [hLk 3 (by decide)]; exact a4, by rw [hLk 4 (by decide), hLk 1 (by decide)]; exact a5⟩, fun j hj => ?_, fun a o ha ho ha5 ho5 => ?_⟩
  · rw [hL0] at hj
    rw [hLk 1 (by decide), hLk 4 (by decide)]
    by_cases cj : j = S 16 0
    · subst cj
      rw [hLn]
      exact ⟨how, hwo, by show lo ≤ 599; omega, by show 0 ≤ 400; decide, by show 0 ≤ 3; decide, Nat.le_refl (S 16 1), a3, by show 0 ≤ 2000; decide, by show 0 ≤ 2000; decide, by show 0 ≤ 9999; decide, fun _ => ⟨by show S 16 1 < S 16 1 + 9; omega, Nat.zero_le _⟩, fun (q : (0 : Nat) = 1) => absurd q (by decide), fun _ => rfl, fun _ => rfl⟩
    · rw [hL j (by omega)]
      exact hP j (by omega)
  · rw [hL0] at ha ho
    have ca : a ≠ S 16 0 := fun q => by rw [q, hLn] at ha5; exact absurd (show (0 : Nat) = 1 from ha5) (by decide)
    have co : o ≠ S 16 0 := fun q => by rw [q, hLn] at ho5; exact absurd (show (0 : Nat) = 1 from ho5) (by decide)
    rw [hL a (by omega)] at ha5 ⊢
    rw [hL o (by omega)] at ho5 ⊢
    exact hO a o (by omega) (by omega) ha5 ho5
theorem y_inv {b W : Nat} {S : Nat → Nat → Nat} {J : Nat → Int32} {μ : xM} {K p1 p2 p3 : Int32} (hC : yC b S J μ) (hI : yI W S) (hW : W < 80000000) (hK : yK K) (hv : (yv K p1 p2 p3 S J).1 = 0) : yI (W + 20) (yopS K p1 p2 p3 S) := by
  have hn := hI.1.1
  rcases hK with rfl | rfl | rfl | rfl | rfl | rfl | rfl | rfl | rfl
  · rw [yv_37] at hv
    obtain ⟨q, rfl, h1, h2, -⟩ := yv_S (lo := 1) (hi := 60) (by decide) (by decide) hv
    rw [(yD_37 (q := q) (p2 := p2) (p3 := p3) (S := S) (J := J) (by omega)).2.1]
    exact yI_mono (yI_sc hI (Or.inl rfl) (fun _ => ⟨h1, h2⟩) (fun q => absurd q (by decide))) (by omega)
  · rw [yv_99] at hv
    obtain ⟨o, rfl, h1, -⟩ := yv_C hv
    rw [(yD_99 (o := o) (p2 := p2) (p3 := p3) (S := S) (J := J) (by omega)).2.1]
    exact yI_mono hI (by omega)
  · rw [yv_102] at hv
    obtain ⟨q, rfl, h1, h2, -⟩ := yv_S (lo := 0) (hi := 20) (by decide) (by decide) hv
    rw [(yD_102 (q := q) (p2 := p2) (p3 := p3) (S := S) (J := J) (by omega)).2.1]
    exact yI_mono (yI_sc hI (Or.inr rfl) (fun q => absurd q (by decide)) (fun _ => h2)) (by omega)
  · obtain ⟨t, ht, rfl, hv2⟩ := yv_tick hn (Or.inl rfl) hv
    have c5 := (yv_T hv2).2.1 (by decide)
    obtain ⟨p0, q1, q3, q4, q5, q6, q7, q8, q10, q11, u0, u1, u2, u3⟩ := hI.2.1 t ht
    rw [(yD_110 (t := t) (p2 := p2) (p3 := p3) (S := S) (J := J) (by omega)).2.1]
    refine yI_mono (yI_row hI ht ⟨p0, q1, ?_, ?_, q5, Nat.le_refl (S 16 1), q7, q8, q10, q11, fun _ => ⟨?_, ?_⟩, fun (q : S t 5 = 1) => by omega, u2, u3⟩ (by show S t 5 ≠ 1; omega)) (by omega)
    · show S t 3 - (S t 4 - min (S t 4) (S t 4)) ≤ 599; omega
    · show S t 4 - min (S t 4) (S t 4) ≤ 400; omega
    · show S 16 1 < S 16 1 + 9; omega
    · show S t 4 - min (S t 4) (S t 4) ≤ 36 * (S 16 1 - S 16 1); omega
  · rw [yv_112] at hv
    obtain ⟨ow, wo, lo, rfl, rfl, rfl, h1, h2, h3, h4, h5, h6⟩ := yv_P hv
    rw [(yD_112 (ow := ow) (wo := wo) (lo := lo) (S := S) (J := J) (by omega) (by omega) (by omega)).2.1]
    exact yI_mono (yI_lend hI h1 h2 h4 h5) (by omega)
  · obtain ⟨t, ht, rfl, hv2⟩ := yv_tick hn (Or.inr (Or.inl rfl)) hv
    have c5 := (yv_T hv2).2.1 (by decide)
    obtain ⟨p0, q1, q3, q4, q5, q6, q7, q8, q10, q11, u0, u1, u2, u3⟩ := hI.2.1 t ht
    rw [(yD_114 (t := t) (p2 := p2) (p3 := p3) (S := S) (J := J) (by omega)).2.1]
    refine yI_mono (yI_row hI ht ⟨p0, q1, ?_, ?_, by show 2 ≤ 3; decide, q6, q7, q8, q10, q11, fun (q : (2 : Nat) = 0) => absurd q (by decide), fun (q : (2 : Nat) = 1) => absurd q (by decide), fun _ => u2 (by omega), fun _ => u3 (by omega)⟩ (by show (2 : Nat) ≠ 1; decide)) (by omega)
    · show S t 3 - (S t 3 + S t 4 - min (S t 3 + S t 4) (S t 4)) ≤ 599; omega
    · show S t 4 - min (S t 3 + S t 4) (S t 4) ≤ 400; omega
  · obtain ⟨t, ht, rfl, hv2⟩ := yv_tick hn (Or.inr (Or.inr (Or.inl rfl))) hv
    obtain ⟨c5, -, w, rfl, w1, w2⟩ := (yv_T hv2).1 rfl
    obtain ⟨p0, q1, q3, q4, q5, q6, q7, q8, q10, q11, u0, u1, u2, u3⟩ := hI.2.1 t ht
    rw [(yD_115 (t := t) (q := w) (p3 := p3) (S := S) (J := J) (by omega) (by omega)).2.1]
    exact yI_mono (yI_row hI ht ⟨p0, q1, q3, q4, by show 3 ≤ 3; decide, q6, q7, by show 0 ≤ 2000; decide, q10, w2, fun (q : (3 : Nat) = 0) => absurd q (by decide), fun (q : (3 : Nat) = 1) => absurd q (by decide), fun _ => rfl, fun (q : (3 : Nat) ≠ 3) => absurd rfl q⟩ (by show (3 : Nat) ≠ 1; decide)) (by omega)
  · obtain ⟨k, rfl, h1, h2⟩ := yv_pass hv
    rw [(yD_119 (k := k) (p2 := p2) (p3 := p3) (S := S) (J := J) (by omega)).2.1]
    obtain ⟨m, -, -, -, k4⟩ := y_c_pass hC hI hW h2
    exact yI_mono k4 (by omega)
  · obtain ⟨t, ht, rfl, hv2⟩ := yv_tick hn (Or.inr (Or.inr (Or.inr rfl))) hv
    have c5 := (yv_T hv2).2.1 (by decide)
    obtain ⟨q, rfl, w1, w2⟩ := yv_payq (hI.2.1 t ht) hv2
    obtain ⟨p0, q1, q3, q4, q5, q6, q7, q8, q10, q11, u0, u1, u2, u3⟩ := hI.2.1 t ht
    have u0' := u0 c5
    rw [(yD_121 (t := t) (q := q) (p3 := p3) (S := S) (J := J) (by omega) (by omega)).2.1]
    refine yI_mono (yI_row hI ht ⟨p0, q1, ?_, ?_, q5, q6, q7, q8, q10, q11, fun _ => ⟨u0'.1, ?_⟩, fun (z : S t 5 = 1) => by omega, u2, u3⟩ (by show S t 5 ≠ 1; omega)) (by omega)
    · show S t 3 - (q - min q (S t 4)) ≤ 599; omega
    · show S t 4 - min q (S t 4) ≤ 400; omega
    · show S t 4 - min q (S t 4) ≤ 36 * (S 16 1 - S t 6); omega
/-- what is left over for an owner is a number, and not too great -/
def yJb (W : Nat) (J : Nat → Int32) : Prop := ∀ o, o < 6 → ∃ a, a ≤ 500 * W ∧ J (1 + o) = nI a
def yIJ (W : Nat) (S : Nat → Nat → Nat) (J : Nat → Int32) : Prop := yI W S ∧ yJb W J
theorem yJb_mono {W W1 : Nat} {J : Nat → Int32} (h : yJb W J) (hW : W ≤ W1) : yJb W1 J := fun o ho => by
  obtain ⟨a, h1, h2⟩ := h o ho
  exact ⟨a, by omega, h2⟩
theorem yIJ_mono {W W1 : Nat} {S : Nat → Nat → Nat} {J : Nat → Int32} (h : yIJ W S J) (hW : W ≤ W1) : yIJ W1 S J := ⟨yI_mono h.1 hW, yJb_mono h.2 hW⟩
theorem yJb_0 {W : Nat} {J : Nat → Int32} {v : Int32} (h : yJb W J) : yJb W (yj J 0 v) := fun o ho => by
  obtain ⟨a, h1, h2⟩ := h o ho
  exact ⟨a, h1, by rw [yj_n (by omega)]; exact h2⟩
theorem y_invJ {W : Nat} {S : Nat → Nat → Nat} {J : Nat → Int32} {K p1 p2 p3 : Int32} (hI : yI W S) (hJ : yJb W J) (hK : yK K) (hv : (yv K p1 p2 p3 S J).1 = 0) : yJb (W + 20) (yopJ K p1 p2 p3 S J) := by
  have hn := hI.1.1
  rcases hK with rfl | rfl | rfl | rfl | rfl | rfl | rfl | rfl | rfl
  · rw [yv_37] at hv
    obtain ⟨q, rfl, h1, h2, -⟩ := yv_S (lo := 1) (hi := 60) (by decide) (by decide) hv
    rw [(yD_37 (q := q) (p2 := p2) (p3 := p3) (S := S) (J := J) (by omega)).2.2]
    exact yJb_mono hJ (by omega)
  · rw [yv_99] at hv
    obtain ⟨o, rfl, h1, -⟩ := yv_C hv
    rw [(yD_99 (o := o) (p2 := p2) (p3 := p3) (S := S) (J := J) (by omega)).2.2]
    intro u hu
    by_cases c : u = o
    · subst c
      exact ⟨0, by omega, by rw [yj_n (by omega), yj_n (by omega), yj_s]; rfl⟩
    · obtain ⟨a, k1, k2⟩ := hJ u hu
      exact ⟨a, by omega, by rw [yj_n (by omega), yj_n (by omega), yj_n (by omega)]; exact k2⟩
  · rw [yv_102] at hv
    obtain ⟨q, rfl, h1, h2, -⟩ := yv_S (lo := 0) (hi := 20) (by decide) (by decide) hv
    rw [(yD_102 (q := q) (p2 := p2) (p3 := p3) (S := S) (J := J) (by omega)).2.2]
    exact yJb_mono hJ (by omega)
  · obtain ⟨t, ht, rfl, hv2⟩ := yv_tick hn (Or.inl rfl) hv
    rw [(yD_110 (t := t) (p2 := p2) (p3 := p3) (S := S) (J := J) (by omega)).2.2]
    exact yJb_mono (yJb_0 hJ) (by omega)
  · rw [yv_112] at hv
    obtain ⟨ow, wo, lo, rfl, rfl, rfl, h1, h2, h3, h4, h5, h6⟩ := yv_P hv
    rw [(yD_112 (ow := ow) (wo := wo) (lo := lo) (S := S) (J := J) (by omega) (by omega) (by omega)).2.2]
    exact yJb_mono (yJb_0 hJ) (by omega)
  · obtain ⟨t, ht, rfl, hv2⟩ := yv_tick hn (Or.inr (Or.inl rfl)) hv
    rw [(yD_114 (t := t) (p2 := p2) (p3 := p3) (S := S) (J := J) (by omega)).2.2]
    exact yJb_mono (yJb_0 hJ) (by omega)
  · obtain ⟨t, ht, rfl, hv2⟩ := yv_tick hn (Or.inr (Or.inr (Or.inl rfl))) hv
    obtain ⟨c5, -, w, rfl, w1, w2⟩ := (yv_T hv2).1 rfl
    rw [(yD_115 (t := t) (q := w) (p3 := p3) (S := S) (J := J) (by omega) (by omega)).2.2]
    refine yJb_0 (fun u hu => ?_)
    obtain ⟨a, k1, k2⟩ := hJ u hu
    by_cases c : u = S t 0
    · subst c
      exact ⟨a + (w - S t 10), by omega, by rw [yj_s, k2, nI_add]⟩
    · exact ⟨a, by omega, by rw [yj_n (by omega)]; exact k2⟩
  · obtain ⟨k, rfl, h1, h2⟩ := yv_pass hv
    rw [(yD_119 (k := k) (p2 := p2) (p3 := p3) (S := S) (J := J) (by omega)).2.2]
    exact yJb_mono hJ (by omega)
  · obtain ⟨t, ht, rfl, hv2⟩ := yv_tick hn (Or.inr (Or.inr (Or.inr rfl))) hv
    obtain ⟨q, rfl, w1, w2⟩ := yv_payq (hI.2.1 t ht) hv2
    obtain ⟨p0, q1, q3, q4, -⟩ := hI.2.1 t ht
    rw [(yD_121 (t := t) (q := q) (p3 := p3) (S := S) (J := J) (by omega) (by omega)).2.2]
    exact yJb_mono (yJb_0 hJ) (by omega)
theorem ystep_4 {S : Nat → Nat → Nat} {t : Nat} (ht : t < 16) : S 16 4 ≤ ystep S t 16 4 := by
  unfold ystep
  by_cases c1 : S t 5 = 1
  · rw [if_pos c1, yrow_n (by omega)]; exact Nat.le_refl _
  · rw [if_neg c1]
    by_cases c2 : S t 5 = 0
    · rw [if_pos c2]
      by_cases c3 : S 16 1 < S t 6 + 9
      · rw [if_pos c3, yrow_n (by omega)]; exact Nat.le_refl _
      · rw [if_neg c3, yu_s]; omega
    · rw [if_neg c2]; exact Nat.le_refl _
theorem ywalk_4 : ∀ u t (S : Nat → Nat → Nat), t + u ≤ 16 → S 16 4 ≤ ywalk S t u 16 4 := by
  intro u
  induction u with
  | zero => intro t S _; exact Nat.le_refl _
  | succ u ih => intro t S h; exact Nat.le_trans (ystep_4 (by omega)) (ih (t + 1) (ystep S t) (by omega))
theorem yweeks_4 : ∀ k (S : Nat → Nat → Nat) b W J μ, yC b S J μ → yI W S → W + k < 80000000 → S 16 4 ≤ yweeks S k 16 4 := by
  intro k
  induction k with
  | zero => intro S b W J μ _ _ _; exact Nat.le_refl _
  | succ k ih =>
    intro S b W J μ hC hI hW
    obtain ⟨m, -, c2, -, c4⟩ := y_c_week hC hI (by omega)
    have e4 : yu S 16 1 (S 16 1 + 1) 16 4 = S 16 4 := yu_k (by omega)
    have h1 := ywalk_4 (S 16 0) 0 (yu S 16 1 (S 16 1 + 1)) (by have := hI.1.1; omega)
    rw [e4] at h1
    exact Nat.le_trans h1 (ih (yweek S) b (W + 1) J m c2 c4 (by omega))
/-- no change answers below 0 -/
theorem y_Rpos {b W : Nat} {S : Nat → Nat → Nat} {J : Nat → Int32} {μ : xM} {K p1 p2 p3 : Int32} (hC : yC b S J μ) (hI : yI W S) (hJ : yJb W J) (hW : W < 2000000) (hK : yK K) (hv : (yv K p1 p2 p3 S J).1 = 0) : 0 ≤ yopR K p1 p2 p3 S J := by
  have hn := hI.1.1
  have hI1 := hI.1
  rcases hK with rfl | rfl | rfl | rfl | rfl | rfl | rfl | rfl | rfl
  · rw [yv_37] at hv
    obtain ⟨q, rfl, h1, h2, -⟩ := yv_S (lo := 1) (hi := 60) (by decide) (by decide) hv
    rw [(yD_37 (q := q) (p2 := p2) (p3 := p3) (S := S) (J := J) (by omega)).1]
    exact nI_pos' (by omega)
  · rw [yv_99] at hv
    obtain ⟨o, rfl, h1, -⟩ := yv_C hv
    obtain ⟨a, k1, k2⟩ := hJ o h1
    rw [(yD_99 (o := o) (p2 := p2) (p3 := p3) (S := S) (J := J) (by omega)).1, k2]
    exact nI_pos' (by omega)
  · rw [yv_102] at hv
    obtain ⟨q, rfl, h1, h2, -⟩ := yv_S (lo := 0) (hi := 20) (by decide) (by decide) hv
    rw [(yD_102 (q := q) (p2 := p2) (p3 := p3) (S := S) (J := J) (by omega)).1]
    exact nI_pos' (by omega)
  · obtain ⟨t, ht, rfl, hv2⟩ := yv_tick hn (Or.inl rfl) hv
    obtain ⟨p0, q1, q3, q4, -⟩ := hI.2.1 t ht
    rw [(yD_110 (t := t) (p2 := p2) (p3 := p3) (S := S) (J := J) (by omega)).1]
    exact nI_pos' (by omega)
  · rw [yv_112] at hv
    obtain ⟨ow, wo, lo, rfl, rfl, rfl, h1, h2, h3, h4, h5, h6⟩ := yv_P hv
    rw [(yD_112 (ow := ow) (wo := wo) (lo := lo) (S := S) (J := J) (by omega) (by omega) (by omega)).1]
    exact nI_pos' (by omega)
  · obtain ⟨t, ht, rfl, hv2⟩ := yv_tick hn (Or.inr (Or.inl rfl)) hv
    obtain ⟨p0, q1, q3, q4, -⟩ := hI.2.1 t ht
    rw [(yD_114 (t := t) (p2 := p2) (p3 := p3) (S := S) (J := J) (by omega)).1]
    exact nI_pos' (by omega)
  · obtain ⟨t, ht, rfl, hv2⟩ := yv_tick hn (Or.inr (Or.inr (Or.inl rfl))) hv
    obtain ⟨c5, -, w, rfl, w1, w2⟩ := (yv_T hv2).1 rfl
    rw [(yD_115 (t := t) (q := w) (p3 := p3) (S := S) (J := J) (by omega) (by omega)).1]
    exact nI_pos' (by omega)
  · obtain ⟨k, rfl, h1, h2⟩ := yv_pass hv
    rw [(yD_119 (k := k) (p2 := p2) (p3 := p3) (S := S) (J := J) (by omega)).1]
    have h4 := yweeks_4 k S b W J μ hC hI (by omega)
    obtain ⟨m, -, -, -, c4⟩ := y_c_pass hC hI (by omega) h2
    have c41 := c4.1
    rw [pk_sub h4]
    exact nI_pos' (by omega)
  · obtain ⟨t, ht, rfl, hv2⟩ := yv_tick hn (Or.inr (Or.inr (Or.inr rfl))) hv
    obtain ⟨q, rfl, w1, w2⟩ := yv_payq (hI.2.1 t ht) hv2
    obtain ⟨p0, q1, q3, q4, -⟩ := hI.2.1 t ht
    rw [(yD_121 (t := t) (q := q) (p3 := p3) (S := S) (J := J) (by omega) (by omega)).1]
    have e3 : ypay (S t) q 3 ≤ S t 3 := Nat.sub_le _ _
    have e4 : ypay (S t) q 4 ≤ S t 4 := Nat.sub_le _ _
    exact nI_pos' (by omega)
