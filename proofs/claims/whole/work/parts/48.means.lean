/-! THE PURE PART: means and shares -/
theorem y_sumN {g : Nat → Int32} {B : Nat} : ∀ {u t : Nat}, (∀ j, t ≤ j → j < t + u → ∃ a, a ≤ B ∧ g j = nI a) → ∃ s, s ≤ B * u ∧ ysI g t u = nI s := by
  intro u
  induction u with
  | zero => intro t _; exact ⟨0, Nat.zero_le _, rfl⟩
  | succ u ih =>
    intro t h
    obtain ⟨a, ha, ea⟩ := h t (by omega) (by omega)
    obtain ⟨s, hs, es⟩ := ih (t := t + 1) (fun j h1 h2 => h j (by omega) (by omega))
    refine ⟨a + s, by rw [Nat.mul_add, Nat.mul_one]; omega, ?_⟩
    show g t + ysI g (t + 1) u = _
    rw [ea, es, nI_add]
def y_isF (n : Nat) : Bool := match FP.Core.decode FP.Core.b64 n with
  | .fin _ c _ => decide (c ≠ 0)
  | _ => false
def y_isF0 (n : Nat) : Bool := match FP.Core.decode FP.Core.b64 n with
  | .fin _ _ _ => true
  | _ => false
theorem y_kd : ∀ k, k < 17 → k ≠ 0 → y_isF (FP.i2d (nI k)).toNat = true := by decide +kernel
theorem y_kn : ((List.range 9600).all (fun v => y_isF0 (FP.i2d (nI v)).toNat)) = true := by decide +kernel
theorem y_kn' {v : Nat} (h : v < 9600) : y_isF0 (FP.i2d (nI v)).toNat = true := List.all_eq_true.mp y_kn v (List.mem_range.mpr h)
theorem y_kf : ∀ a, a < 17 → ∀ b, b < 17 → b ≠ 0 → ((FP.fdiv (FP.i2f (nI a)) (FP.i2f (nI b))) &&& 0x7fffffff ≤ 0x7f800000) ∧ (FP.f2d (FP.fdiv (FP.i2f (nI a)) (FP.i2f (nI b))) &&& 0x7fffffffffffffff ≤ 0x7ff0000000000000) ∧ Op.cmpValue (FP.dcmp (FP.f2d (FP.fdiv (FP.i2f (nI a)) (FP.i2f (nI b)))) (FP.f2d (FP.fdiv (FP.i2f (nI a)) (FP.i2f (nI b))))) .l = 0 := by decide +kernel
theorem y_t64 : FP.Core.Fmt.tails FP.Core.b64 = 4503599627370496 := by decide +kernel
theorem y_e64 : FP.Core.Fmt.exps FP.Core.b64 = 2048 := by decide +kernel
theorem y_q64 : FP.Core.Fmt.qmin FP.Core.b64 = -1074 := by decide +kernel
theorem y_m64 : FP.Core.Fmt.qmax FP.Core.b64 = 971 := by decide +kernel
theorem y_p64 : 2 ^ FP.Core.b64.p = 9007199254740992 := by decide +kernel
/-- a datum that is no NaN, and is written in 64 bits -/
def y_dOk (d : FP.Core.Datum) : Prop := (∃ s, d = .inf s) ∨ ∃ s c q, d = .fin s c q ∧ c < 9007199254740992 ∧ -1074 ≤ q ∧ q ≤ 971
theorem y_bound {s : Bool} {c : Nat} {q : Int} (hc : c < 9007199254740992) (hq : -1074 ≤ q) : y_dOk (FP.Core.bound FP.Core.b64 s c q) := by
  unfold FP.Core.bound
  rw [y_m64]
  by_cases h : q ≤ 971
  · rw [if_pos h]; exact Or.inr ⟨s, c, q, rfl, hc, hq, h⟩
  · rw [if_neg h]; exact Or.inl ⟨s, rfl⟩
theorem y_rr {s : Bool} {num den : Nat} {e : Int} : y_dOk (FP.Core.roundRatio FP.Core.b64 s num den e) := by
  unfold FP.Core.roundRatio
  by_cases h : num = 0
  · rw [if_pos h, y_q64]; exact Or.inr ⟨s, 0, -1074, rfl, by decide, by decide, by decide⟩
  · rw [if_neg h]
    unfold FP.Core.roundAt FP.Core.settle
    have hq : -1074 ≤ FP.Core.quantum FP.Core.b64 num den e := by
      unfold FP.Core.quantum
      rw [y_q64]
      exact Int.le_max_left _ _
    rw [y_p64]
    by_cases h2 : FP.Core.nearest (FP.Core.unitsNum num e (FP.Core.quantum FP.Core.b64 num den e)) (FP.Core.unitsDen den e (FP.Core.quantum FP.Core.b64 num den e)) < 9007199254740992
    · rw [if_pos h2]; exact y_bound h2 hq
    · rw [if_neg h2, y_t64]; exact y_bound (by decide) (by omega)
theorem y_enc {d : FP.Core.Datum} (h : y_dOk d) : ∃ s e t : Nat, FP.Core.encode FP.Core.b64 d = (s * 2048 + e) * 4503599627370496 + t ∧ s ≤ 1 ∧ t < 4503599627370496 ∧ (e ≤ 2046 ∨ (e = 2047 ∧ t = 0)) := by
  rcases h with ⟨s, rfl⟩ | ⟨s, c, q, rfl, hc, h1, h2⟩
  · refine ⟨s.toNat, 2047, 0, ?_, Bool.toNat_le s, by decide, Or.inr ⟨rfl, rfl⟩⟩
    show FP.Core.assemble FP.Core.b64 s (FP.Core.Fmt.exps FP.Core.b64 - 1) 0 = _
    unfold FP.Core.assemble
    rw [y_e64, y_t64]
  · show ∃ s' e t : Nat, (if c < FP.Core.Fmt.tails FP.Core.b64 then FP.Core.assemble FP.Core.b64 s 0 c else FP.Core.assemble FP.Core.b64 s ((q - FP.Core.Fmt.qmin FP.Core.b64).toNat + 1) (c - FP.Core.Fmt.tails FP.Core.b64)) = (s' * 2048 + e) * 4503599627370496 + t ∧ s' ≤ 1 ∧ t < 4503599627370496 ∧ (e ≤ 2046 ∨ (e = 2047 ∧ t = 0))
    unfold FP.Core.assemble
    rw [y_e64, y_t64, y_q64]
    by_cases hc2 : c < 4503599627370496
    · rw [if_pos hc2]
      exact ⟨s.toNat, 0, c, rfl, Bool.toNat_le s, hc2, Or.inl (by decide)⟩
    · rw [if_neg hc2]
      exact ⟨s.toNat, (q - -1074).toNat + 1, c - 4503599627370496, rfl, Bool.toNat_le s, by omega, Or.inl (by omega)⟩
theorem y_mag {d : FP.Core.Datum} (h : y_dOk d) : (UInt64.ofNat (FP.Core.encode FP.Core.b64 d)).toNat % 9223372036854775808 ≤ 9218868437227405312 ∧ FP.Core.decode FP.Core.b64 (UInt64.ofNat (FP.Core.encode FP.Core.b64 d)).toNat ≠ .nan := by
  obtain ⟨s, e, t, he, hs, ht, hc⟩ := y_enc h
  have e1 : (UInt64.ofNat (FP.Core.encode FP.Core.b64 d)).toNat = (s * 2048 + e) * 4503599627370496 + t := by
    rw [he, UInt64.toNat_ofNat']
    omega
  rw [e1]
  refine ⟨by omega, ?_⟩
  unfold FP.Core.decode FP.Core.fieldE FP.Core.fieldT
  rw [y_e64, y_t64]
  have d1 : ((s * 2048 + e) * 4503599627370496 + t) / 4503599627370496 % 2048 = e := by omega
  have d2 : ((s * 2048 + e) * 4503599627370496 + t) % 4503599627370496 = t := by omega
  rw [d1, d2]
  by_cases h1 : e = 2048 - 1
  · rw [if_pos h1, if_pos (by omega)]
    intro q; cases q
  · rw [if_neg h1]
    by_cases h2 : e = 0
    · rw [if_pos h2]; intro q; cases q
    · rw [if_neg h2]; intro q; cases q
theorem y_n64 {x : UInt64} (h : x.toNat % 9223372036854775808 ≤ 9218868437227405312) : vf_n64 x := by
  unfold vf_n64
  rw [UInt64.le_iff_toNat_le, UInt64.toNat_and]
  have h1 : (0x7fffffffffffffff : UInt64).toNat = 2 ^ 63 - 1 := by decide
  have h2 : (0x7ff0000000000000 : UInt64).toNat = 9218868437227405312 := by decide
  rw [h1, h2, Nat.and_two_pow_sub_one_eq_mod]
  exact h
theorem y_cmp {x : UInt64} (h : FP.Core.decode FP.Core.b64 x.toNat ≠ .nan) : Op.cmpValue (FP.dcmp x x) .l = 0 := by
  have e : FP.Core.dcmp x x = some .eq := by
    show FP.Core.order (FP.Core.decode FP.Core.b64 x.toNat) (FP.Core.decode FP.Core.b64 x.toNat) = some .eq
    generalize FP.Core.decode FP.Core.b64 x.toNat = d at h
    have cs : ∀ a : Int, compare a a = .eq := fun a => by simp [compare, compareOfLessAndEq]
    cases d with
    | nan => exact absurd rfl h
    | inf s => exact congrArg some (cs _)
    | fin s c q => exact congrArg some (cs _)
  show Op.cmpValue (FP.Core.dcmp x x) .l = 0
  rw [e]
  rfl
theorem y_ddiv {a b : UInt64} (ha : y_isF0 a.toNat = true) (hb : y_isF b.toNat = true) : vf_n64 (FP.ddiv a b) ∧ Op.cmpValue (FP.dcmp (FP.ddiv a b) (FP.ddiv a b)) .l = 0 := by
  unfold y_isF0 at ha
  unfold y_isF at hb
  have e : ∃ d, y_dOk d ∧ FP.ddiv a b = UInt64.ofNat (FP.Core.encode FP.Core.b64 d) := by
    refine ⟨FP.Core.quotient FP.Core.b64 (FP.Core.decode FP.Core.b64 a.toNat) (FP.Core.decode FP.Core.b64 b.toNat), ?_, rfl⟩
    generalize FP.Core.decode FP.Core.b64 a.toNat = da at ha
    generalize FP.Core.decode FP.Core.b64 b.toNat = db at hb
    cases da with
    | nan => cases ha
    | inf s => cases ha
    | fin s c q =>
      cases db with
      | nan => cases hb
      | inf s => cases hb
      | fin t d r =>
        have hd : d ≠ 0 := of_decide_eq_true hb
        show y_dOk (if d = 0 then (if c = 0 then .nan else .inf (s != t)) else FP.Core.roundRatio FP.Core.b64 (s != t) c d (q - r))
        rw [if_neg hd]
        exact y_rr
  obtain ⟨d, hd, e⟩ := e
  rw [e]
  exact ⟨y_n64 (y_mag hd).1, y_cmp (y_mag hd).2⟩
theorem y_m_mean {md : Nat} {S : Nat → Nat → Nat} {J : Nat → Int32} {ν : xM} (h : yM S J (ν (md + 1))) (hn : S 16 0 ≤ 16) : lX8_meanLoan_26 md xfu 0 0 ν = xb (fX8_many md 0 ν) (fun r6 m6 => xk (vf_n64 (FP.ddiv ((FP.i2d (ysI (fun t => if nI (S t 5) = 0 then nI (S t 3) else 0) 0 (S 16 0)))) ((FP.i2d r6)))) (some ((FP.ddiv ((FP.i2d (ysI (fun t => if nI (S t 5) = 0 then nI (S t 3) else 0) 0 (S 16 0)))) ((FP.i2d r6))), m6))) := by
  refine (y_loop (fun f x t => lX8_meanLoan_26 md f x t ν) (fun x => xb (fX8_many md 0 ν) (fun r6 m6 => xk (vf_n64 (FP.ddiv ((FP.i2d x)) ((FP.i2d r6)))) (some ((FP.ddiv ((FP.i2d x)) ((FP.i2d r6))), m6)))) (S 16 0) (fun t => if nI (S t 5) = 0 then nI (S t 3) else 0) (fun f x => ?_) (fun f x t ht => ?_) (S 16 0) 0 xfu 0 (by omega) (by unfold xfu; omega)).trans (by rw [Int32.zero_add])
  · show lX8_meanLoan_26 md (f + 1) x (nI (S 16 0)) ν = _
    rw [lX8_meanLoan_26, h.1.2.1, if_pos (Int32.le_refl _)]
  · show lX8_meanLoan_26 md (f + 1) x (nI t) ν = lX8_meanLoan_26 md f (x + _) (nI (t + 1)) ν
    obtain ⟨q0, q1, q2, q3, q4, -⟩ := h.2.1 t ht
    rw [lX8_meanLoan_26, h.1.2.1, if_neg (y_nle ht hn), y_of4 (by omega), y_xb, y_of2 (by omega), y_xb, show ν (md + 1) (11 + 11 * t + 4) = nI (S t 5) from q4, show ν (md + 1) (11 + 11 * t + 2) = nI (S t 3) from q2, nI_1]
    by_cases c1 : nI (S t 5) = 0 <;> simp [c1]
theorem y_cntN {n : Nat} {S : Nat → Nat → Nat} {s : Int32} : ∃ c, c ≤ n ∧ ysI (fun t => if nI (S t 5) = s then 1 else 0) 0 n = nI c := by
  obtain ⟨c, h1, h2⟩ := y_sumN (g := fun t => if nI (S t 5) = s then 1 else 0) (B := 1) (u := n) (t := 0) (fun j _ _ => by
    by_cases c : nI (S j 5) = s
    · exact ⟨1, Nat.le_refl 1, by show (if nI (S j 5) = s then (1 : Int32) else 0) = nI 1; rw [if_pos c]; rfl⟩
    · exact ⟨0, by decide, by show (if nI (S j 5) = s then (1 : Int32) else 0) = nI 0; rw [if_neg c]; rfl⟩)
  exact ⟨c, by omega, h2⟩
theorem y_L27 {x i : Nat} {μ : xM} (h : yInv x i μ) (hi : i < 512) : ∃ μ1, (∀ u0, gL_27 x (x + 251) u0 μ = some μ1) ∧ yInv x (i + 1) μ1 ∧ μ1 (x + 249) = μ (x + 249) := by
  have hh := h
  obtain ⟨⟨S, J, ⟨hI, hJ⟩, hC, hB⟩, -⟩ := h
  have hn := hI.1.1
  have hB1 : yM S J (μ (x + 251 + 1)) := hB
  have hB2 : yM S J ((xw μ (x + 251) 7 0) (x + 251 + 1)) := yM_7 hB1
  obtain ⟨c, hc, ec⟩ := y_cntN (n := S 16 0) (S := S) (s := 0)
  have hcl := y_countOf hC hn (-1) 0
  rw [y_cntA, ec] at hcl
  have hmm := y_m_many hB1 hn 0
  rw [ec] at hmm
  have hm2 := y_m_many hB2 hn 0
  rw [ec] at hm2
  by_cases c0 : c = 0
  · subst c0
    refine ⟨xw μ (x + 251) 7 1, fun u0 => ?_, yInv_q hh (fun a a1 _ => xw_row a1) (fun k k7 => y_wk k7), xw_row (by omega)⟩
    have h1 : fL_meanLoan x u0 μ = some ((1, u0), μ) := by
      have h0 : fX7_meanLoan x μ = some ((6, 0), μ) := by rw [fX7_meanLoan, hcl, y_xb, if_pos (show nI 0 = 0 from rfl)]
      rw [fL_meanLoan, h0]
      rfl
    have h2 : fX8_meanLoan (x + 251) μ = some (FP.dconst0, xw μ (x + 251) 7 1) := by
      rw [fX8_meanLoan, hmm, y_xb, if_pos (show nI 0 = 0 from rfl), y_fails1, y_xb, if_neg y_n10]
    rw [gL_27, h1]
    show (match fX8_meanLoan (x + 251) μ with
      | some (v, m2) => xb (fX8_thrown (x + 251) m2) (fun r3 m3 => if r3 = 1 then (if (1 : Int32) = 0 then (if Op.cmpValue (FP.dcmp u0 v) .l = 0 then some m3 else none) else some m3) else none)
      | none => none) = _
    rw [h2]
    show xb (fX8_thrown (x + 251) (xw μ (x + 251) 7 1)) _ = _
    rw [fX8_thrown, y_xb, xw_same, if_pos rfl, if_neg y_n10]
  · have nz : ¬ nI c = 0 := by rw [y_e0 (by omega)]; exact c0
    obtain ⟨s, hs, es⟩ := y_sumN (g := fun t => if nI (S t 5) = 0 then nI (S t 3) else 0) (B := 599) (u := S 16 0) (t := 0) (fun j _ hj => by
      by_cases cj : nI (S j 5) = 0
      · exact ⟨S j 3, (hI.2.1 j (by omega)).2.2.1, by show (if nI (S j 5) = 0 then nI (S j 3) else 0) = _; rw [if_pos cj]⟩
      · exact ⟨0, by decide, by show (if nI (S j 5) = 0 then nI (S j 3) else 0) = nI 0; rw [if_neg cj]; rfl⟩)
    obtain ⟨v1, v2⟩ := y_ddiv (y_kn' (v := s) (by omega)) (y_kd c (by omega) c0)
    have hsum := y_sumOfRunningLoans hC hn
    rw [es] at hsum
    have hml := y_m_mean hB2 hn
    rw [es, hm2, y_xb, y_xk v1] at hml
    refine ⟨xw μ (x + 251) 7 0, fun u0 => ?_, yInv_q hh (fun a a1 _ => xw_row a1) (fun k k7 => y_wk k7), xw_row (by omega)⟩
    have h1 : fL_meanLoan x u0 μ = some ((0, FP.ddiv (FP.i2d (nI s)) (FP.i2d (nI c))), μ) := by
      have h0 : fX7_meanLoan x μ = some ((0, FP.ddiv (FP.i2d (nI s)) (FP.i2d (nI c))), μ) := by rw [fX7_meanLoan, hcl, y_xb, if_neg nz, hsum, y_xb, y_xk v1]
      rw [fL_meanLoan, h0]
    have h2 : fX8_meanLoan (x + 251) μ = some (FP.ddiv (FP.i2d (nI s)) (FP.i2d (nI c)), xw μ (x + 251) 7 0) := by
      rw [fX8_meanLoan, hmm, y_xb, if_neg nz, y_fails0, y_xb, if_pos rfl, hml]
    rw [gL_27, h1]
    show (match fX8_meanLoan (x + 251) μ with
      | some (v, m2) => xb (fX8_thrown (x + 251) m2) (fun r3 m3 => if r3 = 0 then (if (0 : Int32) = 0 then (if Op.cmpValue (FP.dcmp (FP.ddiv (FP.i2d (nI s)) (FP.i2d (nI c))) v) .l = 0 then some m3 else none) else some m3) else none)
      | none => none) = _
    rw [h2]
    show xb (fX8_thrown (x + 251) (xw μ (x + 251) 7 0)) _ = _
    rw [fX8_thrown, y_xb, xw_same, if_pos rfl, if_pos rfl, if_pos v2]
theorem y_L28 {x i : Nat} {μ : xM} (h : yInv x i μ) (hi : i < 512) : ∃ μ1, (∀ u0, gL_28 x (x + 251) u0 μ = some μ1) ∧ yInv x (i + 1) μ1 ∧ μ1 (x + 249) = μ (x + 249) := by
  have hh := h
  obtain ⟨⟨S, J, ⟨hI, hJ⟩, hC, hB⟩, -⟩ := h
  have hn := hI.1.1
  have hB1 : yM S J (μ (x + 251 + 1)) := hB
  have hB2 : yM S J ((xw μ (x + 251) 7 0) (x + 251 + 1)) := yM_7 hB1
  obtain ⟨c, hc, ec⟩ := y_cntN (n := S 16 0) (S := S) (s := 2)
  have hcl := y_countOf hC hn (-1) 2
  rw [y_cntA, ec] at hcl
  have hm2 := y_m_many hB2 hn 2
  rw [ec] at hm2
  have hne : x + 251 + 1 ≠ x + 251 := by omega
  have g1 : μ (x + 251 + 1) 1 = nI (S 16 0) := hB1.1.2.1
  by_cases c0 : S 16 0 = 0
  · have z : nI (S 16 0) = 0 := by rw [c0]; rfl
    refine ⟨xw μ (x + 251) 7 1, fun u0 => ?_, yInv_q hh (fun a a1 _ => xw_row a1) (fun k k7 => y_wk k7), xw_row (by omega)⟩
    have h1 : fL_redeemedShare x u0 μ = some ((1, u0), μ) := by
      have h0 : fX7_redeemedShare x μ = some ((6, 0), μ) := by rw [fX7_redeemedShare, hC.1.1, if_pos z]
      rw [fL_redeemedShare, h0]
      rfl
    have h2 : fX8_redeemedShare (x + 251) μ = some (FP.fconst0, xw μ (x + 251) 7 1) := by
      rw [fX8_redeemedShare, g1, if_pos z, y_fails1, y_xb, if_neg y_n10]
    rw [gL_28, h1]
    show (match fX8_redeemedShare (x + 251) μ with
      | some (v, m2) => xb (fX8_thrown (x + 251) m2) (fun r3 m3 => if r3 = 1 then (if (1 : Int32) = 0 then (xk (vf_n64 (FP.f2d v)) (if Op.cmpValue (FP.dcmp u0 (FP.f2d v)) .l = 0 then some m3 else none)) else some m3) else none)
      | none => none) = _
    rw [h2]
    show xb (fX8_thrown (x + 251) (xw μ (x + 251) 7 1)) _ = _
    rw [fX8_thrown, y_xb, xw_same, if_pos rfl, if_neg y_n10]
  · have nz : ¬ nI (S 16 0) = 0 := by rw [y_e0 (by omega)]; exact c0
    obtain ⟨v1, v2, v3⟩ := y_kf c (by omega) (S 16 0) (by omega) c0
    have v1' : vf_n32 (FP.fdiv (FP.i2f (nI c)) (FP.i2f (nI (S 16 0)))) := v1
    have v2' : vf_n64 (FP.f2d (FP.fdiv (FP.i2f (nI c)) (FP.i2f (nI (S 16 0))))) := v2
    refine ⟨xw μ (x + 251) 7 0, fun u0 => ?_, yInv_q hh (fun a a1 _ => xw_row a1) (fun k k7 => y_wk k7), xw_row (by omega)⟩
    have h1 : fL_redeemedShare x u0 μ = some ((0, FP.f2d (FP.fdiv (FP.i2f (nI c)) (FP.i2f (nI (S 16 0))))), μ) := by
      have h0 : fX7_redeemedShare x μ = some ((0, FP.fdiv (FP.i2f (nI c)) (FP.i2f (nI (S 16 0)))), μ) := by rw [fX7_redeemedShare, hC.1.1, if_neg nz, hcl, y_xb, hC.1.1, y_xk v1']
      rw [fL_redeemedShare, h0]
      exact y_xk v2'
    have h2 : fX8_redeemedShare (x + 251) μ = some (FP.fdiv (FP.i2f (nI c)) (FP.i2f (nI (S 16 0))), xw μ (x + 251) 7 0) := by
      rw [fX8_redeemedShare, g1, if_neg nz, y_fails0, y_xb, if_pos rfl, hm2, y_xb, y_wn hne, g1, y_xk v1']
    rw [gL_28, h1]
    show (match fX8_redeemedShare (x + 251) μ with
      | some (v, m2) => xb (fX8_thrown (x + 251) m2) (fun r3 m3 => if r3 = 0 then (if (0 : Int32) = 0 then (xk (vf_n64 (FP.f2d v)) (if Op.cmpValue (FP.dcmp (FP.f2d (FP.fdiv (FP.i2f (nI c)) (FP.i2f (nI (S 16 0))))) (FP.f2d v)) .l = 0 then some m3 else none)) else some m3) else none)
      | none => none) = _
    rw [h2]
    show xb (fX8_thrown (x + 251) (xw μ (x + 251) 7 0)) _ = _
    rw [fX8_thrown, y_xb, xw_same, if_pos rfl, if_pos rfl, y_xk v2', if_pos v3]
