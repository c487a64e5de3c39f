/-! THE PURE PART: the changes as the bank carries them out -/
def yrow (S : Nat → Nat → Nat) (t : Nat) (c : Nat → Nat) : Nat → Nat → Nat := fun a => if a = t then c else S a
theorem yrow_t {S : Nat → Nat → Nat} {t : Nat} {c : Nat → Nat} : yrow S t c t = c := if_pos rfl
theorem yrow_n {S : Nat → Nat → Nat} {t a : Nat} {c : Nat → Nat} (h : a ≠ t) : yrow S t c a = S a := if_neg h
theorem yu_n {S : Nat → Nat → Nat} {t k v a : Nat} (h : a ≠ t) : yu S t k v a = S a := by funext j; unfold yu; rw [if_neg h]
theorem yu_s {S : Nat → Nat → Nat} {t k v : Nat} : yu S t k v t k = v := by unfold yu; rw [if_pos rfl, if_pos rfl]
theorem yu_k {S : Nat → Nat → Nat} {t k v j : Nat} (h : j ≠ k) : yu S t k v t j = S t j := by unfold yu; rw [if_pos rfl, if_neg h]
theorem yj_s {J : Nat → Int32} {k : Nat} {v : Int32} : yj J k v k = v := if_pos rfl
theorem yj_n {J : Nat → Int32} {k j : Nat} {v : Int32} (h : j ≠ k) : yj J k v j = J j := if_neg h
theorem yC_row {b t : Nat} {S : Nat → Nat → Nat} {J : Nat → Int32} {μ μ1 : xM} {c : Nat → Nat} (h : yC b S J μ) (hn : S 16 0 ≤ 16) (ht : t < 16) (e : ∀ a, a ≠ b + 1 + 1 + t → μ1 a = μ a) (ec : ∀ k, k < 12 → μ1 (b + 1 + 1 + t) k = nI (c k)) : yC b (yrow S t c) J μ1 := by
  have h16 : yrow S t c 16 = S 16 := yrow_n (by omega)
  refine ⟨by rw [h16, e b (by omega)]; exact h.1, fun u hu k hk => ?_, fun j hj => ?_⟩
  · by_cases c1 : u = t
    · subst c1; rw [yrow_t]; exact ec k hk
    · rw [yrow_n c1, e _ (by omega)]
      exact h.2.1 u (by rw [h16] at hu; exact hu) k hk
  · rw [e (b + 18) (by omega), e (b + 19) (by omega)]
    exact h.2.2 j hj
theorem yC_coin {b : Nat} {S : Nat → Nat → Nat} {J : Nat → Int32} {μ : xM} (h : yC b S J μ) (v : Int32) : yC b S (yj J 0 v) (xw μ b 7 v) := by
  refine ⟨⟨?_, ?_, ?_, ?_, ?_⟩, fun u hu k hk => ?_, fun j hj => ?_⟩
  · rw [y_wk (by decide)]; exact h.1.1
  · rw [y_wk (by decide)]; exact h.1.2.1
  · rw [y_wk (by decide)]; exact h.1.2.2.1
  · rw [y_wk (by decide)]; exact h.1.2.2.2.1
  · rw [xw_same, yj_s]
  · rw [y_wn (by omega)]; exact h.2.1 u hu k hk
  · rw [y_wn (by omega), y_wn (by omega), yj_n (by omega), yj_n (by omega)]; exact h.2.2 j hj
theorem yC_sc {b k v : Nat} {S : Nat → Nat → Nat} {J : Nat → Int32} {μ : xM} (h : yC b S J μ) (hn : S 16 0 ≤ 16) (hk : k = 1 ∨ k = 2 ∨ k = 3) : yC b (yu S 16 k v) J (xw μ b (3 + k) (nI v)) := by
  have e0 : yu S 16 k v 16 0 = S 16 0 := yu_k (by omega)
  refine ⟨⟨?_, ?_, ?_, ?_, ?_⟩, fun u hu j hj => ?_, fun j hj => ?_⟩
  · rw [e0, y_wk (by omega)]; exact h.1.1
  · by_cases c : k = 1
    · subst c; rw [yu_s]; exact xw_same _ _ _ _
    · rw [yu_k (by omega), y_wk (by omega)]; exact h.1.2.1
  · by_cases c : k = 2
    · subst c; rw [yu_s]; exact xw_same _ _ _ _
    · rw [yu_k (by omega), y_wk (by omega)]; exact h.1.2.2.1
  · by_cases c : k = 3
    · subst c; rw [yu_s]; exact xw_same _ _ _ _
    · rw [yu_k (by omega), y_wk (by omega)]; exact h.1.2.2.2.1
  · rw [y_wk (by omega)]; exact h.1.2.2.2.2
  · rw [e0] at hu
    rw [y_wn (by omega), yu_n (by omega)]; exact h.2.1 u hu j hj
  · rw [y_wn (by omega), y_wn (by omega)]; exact h.2.2 j hj
theorem yC_left {b o : Nat} {S : Nat → Nat → Nat} {J : Nat → Int32} {μ : xM} (h : yC b S J μ) (hn : S 16 0 ≤ 16) (ho : o < 6) (v : Int32) : yC b S (yj J (1 + o) v) (xw μ (b + 18) o v) := by
  refine ⟨⟨?_, ?_, ?_, ?_, ?_⟩, fun u hu k hk => ?_, fun j hj => ?_⟩
  · rw [y_wn (by omega)]; exact h.1.1
  · rw [y_wn (by omega)]; exact h.1.2.1
  · rw [y_wn (by omega)]; exact h.1.2.2.1
  · rw [y_wn (by omega)]; exact h.1.2.2.2.1
  · rw [y_wn (by omega), yj_n (by omega)]; exact h.1.2.2.2.2
  · rw [y_wn (by omega)]; exact h.2.1 u hu k hk
  · rw [y_wn (a := b + 18) (b := b + 19) (by omega), yj_n (j := 7 + j) (by omega)]
    refine ⟨?_, (h.2.2 j hj).2⟩
    by_cases c : j = o
    · subst c; rw [xw_same, yj_s]
    · rw [y_wk c, yj_n (by omega)]; exact (h.2.2 j hj).1
theorem yC_clai {b o : Nat} {S : Nat → Nat → Nat} {J : Nat → Int32} {μ : xM} (h : yC b S J μ) (hn : S 16 0 ≤ 16) (ho : o < 6) (v : Int32) : yC b S (yj J (7 + o) v) (xw μ (b + 19) o v) := by
  refine ⟨⟨?_, ?_, ?_, ?_, ?_⟩, fun u hu k hk => ?_, fun j hj => ?_⟩
  · rw [y_wn (by omega)]; exact h.1.1
  · rw [y_wn (by omega)]; exact h.1.2.1
  · rw [y_wn (by omega)]; exact h.1.2.2.1
  · rw [y_wn (by omega)]; exact h.1.2.2.2.1
  · rw [y_wn (by omega), yj_n (by omega)]; exact h.1.2.2.2.2
  · rw [y_wn (by omega)]; exact h.2.1 u hu k hk
  · rw [y_wn (a := b + 19) (b := b + 18) (by omega), yj_n (j := 1 + j) (by omega)]
    refine ⟨(h.2.2 j hj).1, ?_⟩
    by_cases c : j = o
    · subst c; rw [xw_same, yj_s]
    · rw [y_wk c, yj_n (by omega)]; exact (h.2.2 j hj).2
-- what is paid on a pledge
def ypay (c : Nat → Nat) (q : Nat) : Nat → Nat := fun k => if k = 3 then c 3 - (q - min q (c 4)) else if k = 4 then c 4 - min q (c 4) else if k = 9 then c 9 + q else c k
theorem y_payBack {a q w L : Nat} {c : Nat → Nat} {μ : xM} (h : yP w L c) (e : ∀ k, k < 12 → μ a k = nI (c k)) (hq : q ≤ c 3 + c 4) : ∃ μ1, fX5_payBack a (nI q) μ = some (nI (ypay c q 3 + ypay c q 4), μ1) ∧ (∀ k, k < 12 → μ1 a k = nI (ypay c q k)) ∧ ∀ d, d ≠ a → μ1 d = μ d := by
  obtain ⟨p0, p1, p3, p4, p5, p6, p7, -⟩ := h
  have e3 := e 3 (by decide)
  have e4 := e 4 (by decide)
  have e9 := e 9 (by decide)
  have key : ∀ v4 v3 : Nat, ypay c q 4 = v4 → ypay c q 3 = v3 → fX5_owed a (xw (xw (xw μ a 4 (nI v4)) a 3 (nI v3)) a 9 (nI (c 9 + q))) = some (nI (ypay c q 3 + ypay c q 4), (xw (xw (xw μ a 4 (nI v4)) a 3 (nI v3)) a 9 (nI (c 9 + q)))) ∧ (∀ k, k < 12 → (xw (xw (xw μ a 4 (nI v4)) a 3 (nI v3)) a 9 (nI (c 9 + q))) a k = nI (ypay c q k)) ∧ ∀ d, d ≠ a → (xw (xw (xw μ a 4 (nI v4)) a 3 (nI v3)) a 9 (nI (c 9 + q))) d = μ d := by
    intro v4 v3 h4 h3
    refine ⟨?_, fun k hk => ?_, fun d hd => ?_⟩
    · rw [fX5_owed, y_wk (by decide), xw_same, y_wk (by decide), y_wk (by decide), xw_same, h3, h4, nI_add]
    · by_cases c1 : k = 9
      · subst c1; rw [xw_same]; rfl
      · rw [y_wk c1]
        by_cases c2 : k = 3
        · subst c2; rw [xw_same, h3]
        · rw [y_wk c2]
          by_cases c3 : k = 4
          · subst c3; rw [xw_same, h4]
          · rw [y_wk c3, e k hk]
            unfold ypay
            rw [if_neg c2, if_neg c3, if_neg c1]
    · rw [xw_row hd, xw_row hd, xw_row hd]
  rw [fX5_payBack, e4, y_ile (by omega) (by omega)]
  by_cases c1 : c 4 ≤ q
  · rw [if_pos c1]
    have h4 : ypay c q 4 = 0 := by unfold ypay; rw [if_neg (by decide), if_pos rfl]; omega
    have h3 : ypay c q 3 = c 3 - (q - c 4) := by unfold ypay; rw [if_pos rfl]; omega
    obtain ⟨k1, k2, k3⟩ := key 0 (c 3 - (q - c 4)) h4 h3
    refine ⟨_, ?_, k2, k3⟩
    simp only [pk_sub (Nat.le_refl _), Nat.sub_self, y_wk (show (3 : Nat) ≠ 4 by decide), y_wk (show (9 : Nat) ≠ 3 by decide), y_wk (show (9 : Nat) ≠ 4 by decide), e3, e9, pk_sub c1, pk_sub (show q - c 4 ≤ c 3 by omega), nI_add, k1, y_xb]
  · rw [if_neg c1]
    have h4 : ypay c q 4 = c 4 - q := by unfold ypay; rw [if_neg (by decide), if_pos rfl]; omega
    have h3 : ypay c q 3 = c 3 := by unfold ypay; rw [if_pos rfl]; omega
    obtain ⟨k1, k2, k3⟩ := key (c 4 - q) (c 3) h4 h3
    refine ⟨_, ?_, k2, k3⟩
    simp only [pk_sub (Nat.le_refl q), pk_sub (show q ≤ c 4 by omega), Nat.sub_self, y_wk (show (3 : Nat) ≠ 4 by decide), y_wk (show (9 : Nat) ≠ 3 by decide), y_wk (show (9 : Nat) ≠ 4 by decide), e3, e9, pk_sub (Nat.zero_le (c 3)), Nat.sub_zero, nI_add, k1, y_xb]
-- the changes
def yLend (S : Nat → Nat → Nat) (ow wo lo : Nat) : Nat → Nat → Nat := yu (yrow S (S 16 0) (fun k => if k = 0 then ow else if k = 1 then wo else if k = 2 then lo else if k = 3 then lo else if k = 6 then S 16 1 else if k = 7 then S 16 2 else 0)) 16 0 (S 16 0 + 1)
def yRede (S : Nat → Nat → Nat) (t : Nat) : Nat → Nat → Nat := yrow S t (fun k => if k = 5 then 2 else ypay (S t) (S t 3 + S t 4) k)
def yRene (S : Nat → Nat → Nat) (t : Nat) : Nat → Nat → Nat := yrow S t (fun k => if k = 6 then S 16 1 else ypay (S t) (S t 4) k)
def ySell (S : Nat → Nat → Nat) (t q : Nat) : Nat → Nat → Nat := yrow S t (fun k => if k = 5 then 3 else if k = 8 then 0 else if k = 11 then q else S t k)
def yFar (b : Nat) (μ μ1 : xM) : Prop := ∀ a, (a < b ∨ b + 20 ≤ a) → μ1 a = μ a
theorem y_c_lend {b h W ow wo lo : Nat} {S : Nat → Nat → Nat} {J : Nat → Int32} {μ : xM} {K : Int32} (hC : yC b S J μ) (hI : yI W S) (ho : yOr h K (nI ow) (nI wo) (nI lo) μ) (hh : h < b ∨ b + 20 ≤ h) (hn : S 16 0 < 16) : ∃ μ1, fX0_lend b h μ = some (nI (S 16 0), μ1) ∧ yC b (yLend S ow wo lo) (yj J 0 (J 0 - nI lo)) μ1 ∧ yFar b μ μ1 := by
  obtain ⟨o0, o1, o2, o3⟩ := ho
  have hb : h ≠ b + 1 + 1 + S 16 0 := by omega
  have hbb : h ≠ b := by omega
  have bb : b ≠ b + 1 + 1 + S 16 0 := by omega
  have ba : b + 1 + 1 + S 16 0 ≠ b := by omega
  rw [fX0_lend, hC.1.1, y_xk (vp_in_nI hn (by decide)), nI_clamp (by omega), hC.1.2.1, hC.1.2.2.1, fX5_begin, y_xbv]
  refine ⟨_, rfl, ⟨⟨?_, ?_, ?_, ?_, ?_⟩, fun u hu k hk => ?_, fun j hj => ?_⟩, fun a ha => ?_⟩
  · rw [xw_same, y_wk (by decide)]
    simp only [y_wn bb, hC.1.1, nI_1]
    rw [yLend, yu_s]
  · simp only [y_wk (show (4 : Nat) ≠ 3 by decide), y_wk (show (4 : Nat) ≠ 7 by decide), y_wn bb, hC.1.2.1]
    rw [yLend, yu_k (by decide), yrow_n (by omega)]
  · simp only [y_wk (show (5 : Nat) ≠ 3 by decide), y_wk (show (5 : Nat) ≠ 7 by decide), y_wn bb, hC.1.2.2.1]
    rw [yLend, yu_k (by decide), yrow_n (by omega)]
  · simp only [y_wk (show (6 : Nat) ≠ 3 by decide), y_wk (show (6 : Nat) ≠ 7 by decide), y_wn bb, hC.1.2.2.2.1]
    rw [yLend, yu_k (by decide), yrow_n (by omega)]
  · simp only [y_wk (show (7 : Nat) ≠ 3 by decide), xw_same, y_wn bb, y_wn hb, hC.1.2.2.2.2, o3]
    rw [yj_s]
  · have hu2 : u < S 16 0 + 1 := by rw [yLend, yu_s] at hu; exact hu
    rw [yLend, yu_n (by omega)]
    by_cases c1 : u = S 16 0
    · subst c1
      rw [yrow_t]
      simp only [y_wn ba, y_wn hb, o1, o2, o3]
      have hk' : k = 0 ∨ k = 1 ∨ k = 2 ∨ k = 3 ∨ k = 4 ∨ k = 5 ∨ k = 6 ∨ k = 7 ∨ k = 8 ∨ k = 9 ∨ k = 10 ∨ k = 11 := by omega
      rcases hk' with rfl | rfl | rfl | rfl | rfl | rfl | rfl | rfl | rfl | rfl | rfl | rfl <;> simp [xw] <;> rfl
    · have c2 : b + 1 + 1 + u ≠ b + 1 + 1 + S 16 0 := by omega
      have c3 : b + 1 + 1 + u ≠ b := by omega
      rw [yrow_n c1]
      simp only [y_wn c2, y_wn c3]
      exact hC.2.1 u (by omega) k hk
  · have c1 : b + 18 ≠ b + 1 + 1 + S 16 0 := by omega
    have c2 : b + 18 ≠ b := by omega
    have c3 : b + 19 ≠ b + 1 + 1 + S 16 0 := by omega
    have c4 : b + 19 ≠ b := by omega
    simp only [y_wn c1, y_wn c2, y_wn c3, y_wn c4]
    rw [yj_n (by omega), yj_n (by omega)]
    exact hC.2.2 j hj
  · have c1 : a ≠ b + 1 + 1 + S 16 0 := by omega
    have c2 : a ≠ b := by omega
    simp only [xw_row c1, xw_row c2]
theorem y_c_redeem {b W t : Nat} {S : Nat → Nat → Nat} {J : Nat → Int32} {μ : xM} (hC : yC b S J μ) (hI : yI W S) (ht : t < S 16 0) : ∃ μ1, fX0_giveBack b (nI t) μ = some (nI (S t 3 + S t 4), μ1) ∧ yC b (yRede S t) (yj J 0 (J 0 + nI (S t 3 + S t 4))) μ1 ∧ yFar b μ μ1 := by
  have hn := hI.1.1
  obtain ⟨m, k1, k2, k3⟩ := y_payBack (hI.2.1 t ht) (hC.2.1 t ht) (Nat.le_refl (S t 3 + S t 4))
  rw [fX0_giveBack, y_xk (y_in16 ht hn), y_cl ht hn, y_owed (hC.2.1 t ht), y_xb, y_xk (y_in16 ht hn), k1, y_xb, y_xk (y_in16 ht hn)]
  have hr : yC b (yRede S t) J (xw m (b + 1 + 1 + t) 5 2) := by
    refine yC_row hC hn (by omega) (fun a ha => by rw [xw_row ha, k3 a ha]) (fun k hk => ?_)
    by_cases c : k = 5
    · subst c; rw [xw_same]; rfl
    · rw [y_wk c, k2 k hk, if_neg c]
  refine ⟨_, rfl, ?_, fun a ha => ?_⟩
  · rw [hr.1.2.2.2.2]
    exact yC_coin hr _
  · rw [xw_row (by omega), xw_row (by omega), k3 a (by omega)]
theorem y_c_pay {b W t q : Nat} {S : Nat → Nat → Nat} {J : Nat → Int32} {μ : xM} (hC : yC b S J μ) (hI : yI W S) (ht : t < S 16 0) (hq : q ≤ S t 3 + S t 4) : ∃ μ1, fX0_takePart b (nI t) (nI q) μ = some (nI (ypay (S t) q 3 + ypay (S t) q 4), μ1) ∧ yC b (yrow S t (ypay (S t) q)) (yj J 0 (J 0 + nI q)) μ1 ∧ yFar b μ μ1 := by
  have hn := hI.1.1
  have hC1 := yC_coin hC (J 0 + nI q)
  obtain ⟨m, k1, k2, k3⟩ := y_payBack (hI.2.1 t ht) (hC1.2.1 t ht) hq
  rw [fX0_takePart, y_xk (y_in16 ht hn), y_cl ht hn, hC.1.2.2.2.2, k1, y_xb]
  refine ⟨_, rfl, yC_row hC1 hn (by omega) k3 k2, fun a ha => ?_⟩
  rw [k3 a (by omega), xw_row (by omega)]
theorem y_c_renew {b W t : Nat} {S : Nat → Nat → Nat} {J : Nat → Int32} {μ : xM} (hC : yC b S J μ) (hI : yI W S) (ht : t < S 16 0) : ∃ μ1, fX0_beginAnew b (nI t) μ = some (nI (S t 4), μ1) ∧ yC b (yRene S t) (yj J 0 (J 0 + nI (S t 4))) μ1 ∧ yFar b μ μ1 := by
  have hn := hI.1.1
  obtain ⟨m, k1, k2, k3⟩ := y_c_pay hC hI ht (show S t 4 ≤ S t 3 + S t 4 by omega)
  rw [fX0_beginAnew, y_xk (y_in16 ht hn), y_cl ht hn, hC.2.1 t ht 4 (by decide), k1, y_xb, y_xk (y_in16 ht hn)]
  have e16 : yrow S t (ypay (S t) (S t 4)) 16 = S 16 := yrow_n (by omega)
  refine ⟨_, rfl, ?_, fun a ha => by rw [xw_row (by omega), k3 a ha]⟩
  have hr : yC b (yrow (yrow S t (ypay (S t) (S t 4))) t (fun k => if k = 6 then S 16 1 else ypay (S t) (S t 4) k)) (yj J 0 (J 0 + nI (S t 4))) (xw m (b + 1 + 1 + t) 6 (m b 4)) := by
    refine yC_row k2 (by rw [e16]; exact hn) (by omega) (fun a ha => xw_row ha) (fun k hk => ?_)
    by_cases c : k = 6
    · subst c; rw [xw_same, k2.1.2.1, e16]; rfl
    · rw [y_wk c, k2.2.1 t (by rw [e16]; exact ht) k hk, if_neg c, yrow_t]
  have e : yrow (yrow S t (ypay (S t) (S t 4))) t (fun k => if k = 6 then S 16 1 else ypay (S t) (S t 4) k) = yRene S t := by
    funext a
    unfold yRene
    by_cases c : a = t
    · subst c; rw [yrow_t, yrow_t]
    · rw [yrow_n c, yrow_n c, yrow_n c]
  rw [← e]
  exact hr
theorem y_c_sell {b W t q : Nat} {S : Nat → Nat → Nat} {J : Nat → Int32} {μ : xM} (hC : yC b S J μ) (hI : yI W S) (ht : t < S 16 0) (hq : q ≤ 9999) : ∃ μ1, fX0_sellLot b (nI t) (nI q) μ = some (nI (q - S t 10), μ1) ∧ yC b (ySell S t q) (yj (yj J (1 + S t 0) (J (1 + S t 0) + nI (q - S t 10))) 0 (J 0 + nI q)) μ1 ∧ yFar b μ μ1 := by
  have hn := hI.1.1
  have e := hC.2.1 t ht
  obtain ⟨p0, p1, p3, p4, p5, p6, p7, p8, p10, -⟩ := hI.2.1 t ht
  have hm : yC b (ySell S t q) J (xw (xw (xw μ (b + 1 + 1 + t) 5 3) (b + 1 + 1 + t) 8 0) (b + 1 + 1 + t) 11 (nI q)) := by
    refine yC_row hC hn (by omega) (fun a ha => by rw [xw_row ha, xw_row ha, xw_row ha]) (fun k hk => ?_)
    by_cases c1 : k = 11
    · subst c1; rw [xw_same]; rfl
    rw [y_wk c1]
    by_cases c2 : k = 8
    · subst c2; rw [xw_same]; rfl
    rw [y_wk c2]
    by_cases c3 : k = 5
    · subst c3; rw [xw_same]; rfl
    rw [y_wk c3, e k hk, if_neg c3, if_neg c2, if_neg c1]
  have ks : fX5_sellFor (b + 1 + 1 + t) (nI q) μ = some (nI (q - S t 10), xw (xw (xw μ (b + 1 + 1 + t) 5 3) (b + 1 + 1 + t) 8 0) (b + 1 + 1 + t) 11 (nI q)) := by
    rw [fX5_sellFor, y_wk (by decide), y_wk (by decide), y_wk (by decide), e 10 (by decide), y_ile (by omega) (by omega)]
    by_cases c : q ≤ S t 10
    · rw [if_pos c, show q - S t 10 = 0 by omega]
      rfl
    · rw [if_neg c, pk_sub (by omega)]
  have e16 : ySell S t q 16 = S 16 := yrow_n (by omega)
  generalize hg : xw (xw (xw μ (b + 1 + 1 + t) 5 3) (b + 1 + 1 + t) 8 0) (b + 1 + 1 + t) 11 (nI q) = m at hm ks
  have m0 : m (b + 1 + 1 + t) 0 = nI (S t 0) := by
    rw [hm.2.1 t (by rw [e16]; exact ht) 0 (by decide), ySell, yrow_t]
    rfl
  have h1 := yC_left hm (by rw [e16]; exact hn) p0 (J (1 + S t 0) + nI (q - S t 10))
  have ml : m (b + 18) (S t 0) = J (1 + S t 0) := (hm.2.2 _ p0).1
  rw [fX0_sellLot, y_xk (y_in16 ht hn), y_cl ht hn, ks, y_xb, y_xk (y_in16 ht hn), m0, y_xk (vp_in_nI p0 (by decide)), y_xk (vp_in_nI p0 (by decide)), nI_clamp (by omega), ml]
  refine ⟨_, rfl, ?_, fun a ha => ?_⟩
  · have hj : yj J (1 + S t 0) (J (1 + S t 0) + nI (q - S t 10)) 0 = J 0 := yj_n (by omega)
    rw [h1.1.2.2.2.2, hj]
    exact yC_coin h1 _
  · rw [xw_row (by omega), xw_row (by omega), ← hg, xw_row (by omega), xw_row (by omega), xw_row (by omega)]
theorem y_c_claim {b o : Nat} {S : Nat → Nat → Nat} {J : Nat → Int32} {μ : xM} (hC : yC b S J μ) (hn : S 16 0 ≤ 16) (ho : o < 6) : ∃ μ1, fX0_payOut b (nI o) μ = some (J (1 + o), μ1) ∧ yC b S (yj (yj (yj J (1 + o) 0) (7 + o) (J (7 + o) + J (1 + o))) 0 (J 0 - J (1 + o))) μ1 ∧ yFar b μ μ1 := by
  have h1 := yC_left hC hn ho 0
  have e7 : (xw μ (b + 18) o 0) (b + 19) o = J (7 + o) := by rw [y_wn (by omega)]; exact (hC.2.2 o ho).2
  have h2 := yC_clai h1 hn ho (J (7 + o) + J (1 + o))
  have e0 : (xw (xw μ (b + 18) o 0) (b + 19) o (J (7 + o) + J (1 + o))) b 7 = J 0 := by rw [y_wn (by omega), y_wn (by omega)]; exact hC.1.2.2.2.2
  have h3 := yC_coin h2 (J 0 - J (1 + o))
  rw [fX0_payOut, y_xk (vp_in_nI ho (by decide)), y_xk (vp_in_nI ho (by decide)), y_xk (vp_in_nI ho (by decide)), y_xk (vp_in_nI ho (by decide)), nI_clamp (by omega), (hC.2.2 o ho).1, e7, e0]
  exact ⟨_, rfl, h3, fun a ha => by rw [xw_row (by omega), xw_row (by omega), xw_row (by omega)]⟩
