set_option maxHeartbeats 1000000 in
set_option maxRecDepth 20000 in
theorem mX5_writeTo {l : Launch} {D : va_G} {ca : Nat → ClassId} {z : Nat} {G : xG} {ad av : Nat → Nat} {sb od : Nat} {fd : Nat → UInt64} {μ : xM} {X : va_W} {n : Nat} {t : Nat → Nat} (hX : xTx ca sb od fd n t X) (hF : xFix z G X) (hXD : va_D (fun q => z ≤ q) X) {h0 a b k lc : Nat} (k0 : xI_Pledge G h0) (e1 : μ h0 1 = nI a) (e2 : a < 1000) (e3 : μ h0 3 = nI b) (e4 : b < 1000) (e5 : μ h0 4 = nI k) (e6 : k < 1000) (e7 : fX5_letter h0 μ = some (nI lc, μ)) (e8 : lc < 256) (hn : (xWt (n, t) a b k lc).1 ≤ 34) : xZ l yX5_writeTo (xws yX5_writeTo cX5_writeTo 2 none) 6 8 272 D ca z G X ad av [.ref h0, .ref sb] μ (xQv D ca z G μ (fun X1 => xTx ca sb od fd (xWt (n, t) a b k lc).1 (xWt (n, t) a b k lc).2 X1)) := by
  simp only [xWt, xpc, xpd] at hn
  refine xm_g (by decide) rfl (Nat.le_of_ble_eq_true rfl) [(0, .ref h0), (1, .ref sb)] rfl ?_
  intro p e s m args below meth c ls hx hb hr hml hlocks hts hown hK hE hR hS hl
  have hts : ∀ w ∈ xAll, w.before args s = true := fun w hw => hts w (List.mem_cons_of_mem _ hw)
  refine lv_aload_n (pc := 0) hx hb dX5_writeTo_0 rfl (lv_at hl 1 rfl) ?_
  refine lv_bipush (pc := 1) hx hb dX5_writeTo_1 kb_32 ?_
  refine xq_r (pc := 3) (va_runV (As := [.int _]) (rest := []) ⟨hx, hb, hml, hown, hts⟩ (mJ4_append_cf468 hX hF hXD (c0 := 32) (by decide) (by omega)) (xcwV 1 hts fdJ4_append_cf468 q_m_X5_74 ⟨Nat.le_of_ble_eq_true rfl, Nat.le_of_ble_eq_true rfl⟩) ⟨xSt_blind, xSrT hX hK hR, xSt_at hR hK hE hS⟩ rfl rfl hl.1 rfl (lv_room (Nat.le_of_ble_eq_true rfl)) dX5_writeTo_3 ⟨Nat.le_of_ble_eq_true rfl, Nat.le_of_ble_eq_true rfl⟩) hS (fun q9 X H locs hk hF hXD hR hS => ?_)
  have hX := hk.2
  refine lv_pop (pc := 6) hx hb dX5_writeTo_6 rfl ?_
  refine lv_aload_n (pc := 7) hx hb dX5_writeTo_7 rfl (lv_at hl 1 rfl) ?_
  refine lv_aload_n (pc := 8) hx hb dX5_writeTo_8 rfl (lv_at hl 0 rfl) ?_
  refine xr_getI (pc := 9) (ci := 9) hx hb hts inX5 hown hK hR rfl k0 1 (Nat.le_of_ble_eq_true rfl) rfl (hts _ q_f_X5_23) (fun _ h9 => h9) dX5_writeTo_9 ?_
  rw [e1]
  refine xq_r (pc := 12) (va_runV (As := [.int _]) (rest := []) ⟨hx, hb, hml, hown, hts⟩ (mJ4_append_bf812 hX hF hXD (w := a) e2 (by omega)) (xcwV 1 hts fdJ4_append_bf812 q_m_X5_80 ⟨Nat.le_of_ble_eq_true rfl, Nat.le_of_ble_eq_true rfl⟩) ⟨xSt_blind, xSrT hX hK hR, xSt_at hR hK hE hS⟩ rfl rfl hl.1 rfl (lv_room (Nat.le_of_ble_eq_true rfl)) dX5_writeTo_12 ⟨Nat.le_of_ble_eq_true rfl, Nat.le_of_ble_eq_true rfl⟩) hS (fun q9 X H locs hk hF hXD hR hS => ?_)
  have hX := hk.2
  refine lv_pop (pc := 15) hx hb dX5_writeTo_15 rfl ?_
  refine lv_aload_n (pc := 16) hx hb dX5_writeTo_16 rfl (lv_at hl 1 rfl) ?_
  refine lv_bipush (pc := 17) hx hb dX5_writeTo_17 kb_47 ?_
  refine xq_r (pc := 19) (va_runV (As := [.int _]) (rest := []) ⟨hx, hb, hml, hown, hts⟩ (mJ4_append_cf468 hX hF hXD (c0 := 47) (by decide) (by omega)) (xcwV 1 hts fdJ4_append_cf468 q_m_X5_74 ⟨Nat.le_of_ble_eq_true rfl, Nat.le_of_ble_eq_true rfl⟩) ⟨xSt_blind, xSrT hX hK hR, xSt_at hR hK hE hS⟩ rfl rfl hl.1 rfl (lv_room (Nat.le_of_ble_eq_true rfl)) dX5_writeTo_19 ⟨Nat.le_of_ble_eq_true rfl, Nat.le_of_ble_eq_true rfl⟩) hS (fun q9 X H locs hk hF hXD hR hS => ?_)
  have hX := hk.2
  refine lv_pop (pc := 22) hx hb dX5_writeTo_22 rfl ?_
  refine lv_aload_n (pc := 23) hx hb dX5_writeTo_23 rfl (lv_at hl 1 rfl) ?_
  refine lv_aload_n (pc := 24) hx hb dX5_writeTo_24 rfl (lv_at hl 0 rfl) ?_
  refine xr_getI (pc := 25) (ci := 9) hx hb hts inX5 hown hK hR rfl k0 3 (Nat.le_of_ble_eq_true rfl) rfl (hts _ q_f_X5_32) (fun _ h9 => h9) dX5_writeTo_25 ?_
  rw [e3]
  refine xq_r (pc := 28) (va_runV (As := [.int _]) (rest := []) ⟨hx, hb, hml, hown, hts⟩ (mJ4_append_bf812 hX hF hXD (w := b) e4 (by omega)) (xcwV 1 hts fdJ4_append_bf812 q_m_X5_80 ⟨Nat.le_of_ble_eq_true rfl, Nat.le_of_ble_eq_true rfl⟩) ⟨xSt_blind, xSrT hX hK hR, xSt_at hR hK hE hS⟩ rfl rfl hl.1 rfl (lv_room (Nat.le_of_ble_eq_true rfl)) dX5_writeTo_28 ⟨Nat.le_of_ble_eq_true rfl, Nat.le_of_ble_eq_true rfl⟩) hS (fun q9 X H locs hk hF hXD hR hS => ?_)
  have hX := hk.2
  refine lv_pop (pc := 31) hx hb dX5_writeTo_31 rfl ?_
  refine lv_aload_n (pc := 32) hx hb dX5_writeTo_32 rfl (lv_at hl 1 rfl) ?_
  refine lv_bipush (pc := 33) hx hb dX5_writeTo_33 kb_43 ?_
  refine xq_r (pc := 35) (va_runV (As := [.int _]) (rest := []) ⟨hx, hb, hml, hown, hts⟩ (mJ4_append_cf468 hX hF hXD (c0 := 43) (by decide) (by omega)) (xcwV 1 hts fdJ4_append_cf468 q_m_X5_74 ⟨Nat.le_of_ble_eq_true rfl, Nat.le_of_ble_eq_true rfl⟩) ⟨xSt_blind, xSrT hX hK hR, xSt_at hR hK hE hS⟩ rfl rfl hl.1 rfl (lv_room (Nat.le_of_ble_eq_true rfl)) dX5_writeTo_35 ⟨Nat.le_of_ble_eq_true rfl, Nat.le_of_ble_eq_true rfl⟩) hS (fun q9 X H locs hk hF hXD hR hS => ?_)
  have hX := hk.2
  refine lv_pop (pc := 38) hx hb dX5_writeTo_38 rfl ?_
  refine lv_aload_n (pc := 39) hx hb dX5_writeTo_39 rfl (lv_at hl 1 rfl) ?_
  refine lv_aload_n (pc := 40) hx hb dX5_writeTo_40 rfl (lv_at hl 0 rfl) ?_
  refine xr_getI (pc := 41) (ci := 9) hx hb hts inX5 hown hK hR rfl k0 4 (Nat.le_of_ble_eq_true rfl) rfl (hts _ q_f_X5_35) (fun _ h9 => h9) dX5_writeTo_41 ?_
  rw [e5]
  refine xq_r (pc := 44) (va_runV (As := [.int _]) (rest := []) ⟨hx, hb, hml, hown, hts⟩ (mJ4_append_bf812 hX hF hXD (w := k) e6 (by omega)) (xcwV 1 hts fdJ4_append_bf812 q_m_X5_80 ⟨Nat.le_of_ble_eq_true rfl, Nat.le_of_ble_eq_true rfl⟩) ⟨xSt_blind, xSrT hX hK hR, xSt_at hR hK hE hS⟩ rfl rfl hl.1 rfl (lv_room (Nat.le_of_ble_eq_true rfl)) dX5_writeTo_44 ⟨Nat.le_of_ble_eq_true rfl, Nat.le_of_ble_eq_true rfl⟩) hS (fun q9 X H locs hk hF hXD hR hS => ?_)
  have hX := hk.2
  refine lv_pop (pc := 47) hx hb dX5_writeTo_47 rfl ?_
  refine lv_aload_n (pc := 48) hx hb dX5_writeTo_48 rfl (lv_at hl 1 rfl) ?_
  refine lv_bipush (pc := 49) hx hb dX5_writeTo_49 kb_32 ?_
  refine xq_r (pc := 51) (va_runV (As := [.int _]) (rest := []) ⟨hx, hb, hml, hown, hts⟩ (mJ4_append_cf468 hX hF hXD (c0 := 32) (by decide) (by omega)) (xcwV 1 hts fdJ4_append_cf468 q_m_X5_74 ⟨Nat.le_of_ble_eq_true rfl, Nat.le_of_ble_eq_true rfl⟩) ⟨xSt_blind, xSrT hX hK hR, xSt_at hR hK hE hS⟩ rfl rfl hl.1 rfl (lv_room (Nat.le_of_ble_eq_true rfl)) dX5_writeTo_51 ⟨Nat.le_of_ble_eq_true rfl, Nat.le_of_ble_eq_true rfl⟩) hS (fun q9 X H locs hk hF hXD hR hS => ?_)
  have hX := hk.2
  refine lv_pop (pc := 54) hx hb dX5_writeTo_54 rfl ?_
  refine lv_aload_n (pc := 55) hx hb dX5_writeTo_55 rfl (lv_at hl 1 rfl) ?_
  refine lv_aload_n (pc := 56) hx hb dX5_writeTo_56 rfl (lv_at hl 0 rfl) ?_
  refine xc_iV (pc := 57) (As := []) (rest := [.ref _]) ⟨hx, hb, hml, hown, hts⟩ (mX5_letter hF _ k0 e7) (xcwV 0 hts fdX5_letter q_m_X5_83 ⟨Nat.le_of_ble_eq_true rfl, Nat.le_of_ble_eq_true rfl⟩) (xRecv hK hR (ci := 9) rfl k0) hR hK hE hS rfl hl.1 rfl (Nat.le_of_ble_eq_true rfl) dX5_writeTo_57 ⟨Nat.le_of_ble_eq_true rfl, Nat.le_of_ble_eq_true rfl⟩ (fun H locs hR hS => ?_)
  refine xq_r (pc := 60) (va_runV (As := [.int _]) (rest := []) ⟨hx, hb, hml, hown, hts⟩ (mJ4_append_cf468 hX hF hXD (c0 := lc) e8 (by omega)) (xcwV 1 hts fdJ4_append_cf468 q_m_X5_74 ⟨Nat.le_of_ble_eq_true rfl, Nat.le_of_ble_eq_true rfl⟩) ⟨xSt_blind, xSrT hX hK hR, xSt_at hR hK hE hS⟩ rfl rfl hl.1 rfl (lv_room (Nat.le_of_ble_eq_true rfl)) dX5_writeTo_60 ⟨Nat.le_of_ble_eq_true rfl, Nat.le_of_ble_eq_true rfl⟩) hS (fun q9 X H locs hk hF hXD hR hS => ?_)
  have hX := hk.2
  refine lv_pop (pc := 63) hx hb dX5_writeTo_63 rfl ?_
  exact xg_v (pc := 64) hx hb hr hlocks hX hF hXD hR hK hS (Nat.le_of_ble_eq_true rfl) (Nat.le_of_ble_eq_true rfl) dX5_writeTo_64
noncomputable def fX7_line (h0 : Nat) (p1 : Int32) (μ : xM) : Option (xO × xM) := xcb (fX7_demandTicket h0 p1 μ) (fun _ m => xb (fX5_letter (h0 + 1 + 1 + 1 + p1.toNatClampNeg) m) (fun r m2 => xk (m2 = m ∧ vp_in p1 16 ∧ (m (h0 + 1 + 1 + 1 + p1.toNatClampNeg) 1 = nI (m (h0 + 1 + 1 + 1 + p1.toNatClampNeg) 1).toNatClampNeg ∧ (m (h0 + 1 + 1 + 1 + p1.toNatClampNeg) 1).toNatClampNeg < 1000) ∧ (m (h0 + 1 + 1 + 1 + p1.toNatClampNeg) 3 = nI (m (h0 + 1 + 1 + 1 + p1.toNatClampNeg) 3).toNatClampNeg ∧ (m (h0 + 1 + 1 + 1 + p1.toNatClampNeg) 3).toNatClampNeg < 1000) ∧ (m (h0 + 1 + 1 + 1 + p1.toNatClampNeg) 4 = nI (m (h0 + 1 + 1 + 1 + p1.toNatClampNeg) 4).toNatClampNeg ∧ (m (h0 + 1 + 1 + 1 + p1.toNatClampNeg) 4).toNatClampNeg < 1000) ∧ r = nI r.toNatClampNeg ∧ r.toNatClampNeg < 256 ∧ p1 = nI p1.toNatClampNeg) (some ((0, nI (xLt p1.toNatClampNeg (m (h0 + 1 + 1 + 1 + p1.toNatClampNeg) 1).toNatClampNeg (m (h0 + 1 + 1 + 1 + p1.toNatClampNeg) 3).toNatClampNeg (m (h0 + 1 + 1 + 1 + p1.toNatClampNeg) 4).toNatClampNeg r.toNatClampNeg).1), xgh h0 (xLt p1.toNatClampNeg (m (h0 + 1 + 1 + 1 + p1.toNatClampNeg) 1).toNatClampNeg (m (h0 + 1 + 1 + 1 + p1.toNatClampNeg) 3).toNatClampNeg (m (h0 + 1 + 1 + 1 + p1.toNatClampNeg) 4).toNatClampNeg r.toNatClampNeg).1 (xLt p1.toNatClampNeg (m (h0 + 1 + 1 + 1 + p1.toNatClampNeg) 1).toNatClampNeg (m (h0 + 1 + 1 + 1 + p1.toNatClampNeg) 3).toNatClampNeg (m (h0 + 1 + 1 + 1 + p1.toNatClampNeg) 4).toNatClampNeg r.toNatClampNeg).2 m))))
theorem xLt_34 {T a b c lc : Nat} (h1 : T < 16) (h2 : a < 1000) (h3 : b < 1000) (h4 : c < 1000) : (xLt T a b c lc).1 ≤ 17 := by
  have d : ∀ {w : Nat}, w < 1000 → sb_dg w ≤ 3 := by
    intro w hw
    unfold sb_dg
    (repeat' split) <;> omega
  have d1 : sb_dg T ≤ 2 := by
    unfold sb_dg
    (repeat' split) <;> omega
  have d2 := d h2
  have d3 := d h3
  have d4 := d h4
  simp only [xLt, xWt, xpc, xpd]
  omega
set_option maxHeartbeats 1000000 in
set_option maxRecDepth 20000 in
theorem mX7_line {l : Launch} (hls : l.stackTraces = false) {D : va_G} {ca : Nat → ClassId} {z : Nat} {G : xG} {ad av : Nat → Nat} {od : Nat} {fd : Nat → UInt64} {X : va_W} (hF : xFix z G X) (hXD : va_D (fun q => z ≤ q) X) (h0 : Nat) (p1 : Int32) (k0 : xI_Coat G h0) {μ μ1 : xM} (hT : xTm ca h0 od fd μ X) {o : xO} (h : fX7_line h0 p1 μ = some (o, μ1)) : xMxl l yX7_line (xws yX7_line cX7_line 2 (some .int)) 7 12 380 D ca z G X ad av [.ref h0, .int p1] μ o (xTm ca h0 od fd μ1) μ1 := by
  obtain ⟨n, t, hX, -, -⟩ := hT
  refine xm_xl (by decide) rfl (Nat.le_of_ble_eq_true rfl) [(0, .ref h0), (1, .int p1)] rfl ?_
  intro p e s m args below meth c ls hx hb hr hml hlocks hex hts hown hK hE hR hS hl
  have hts : ∀ w ∈ xAll, w.before args s = true := fun w hw => hts w (List.mem_cons_of_mem _ hw)
  rw [fX7_line] at h
  refine lv_aload_n (pc := 0) hx hb dX7_line_0 rfl (lv_at hl 0 rfl) ?_
  refine lv_iload_n (pc := 1) hx hb dX7_line_1 rfl (lv_at hl 1 rfl) ?_
  rcases xcb_inv h with ⟨r1, m1, c1, h⟩ | ⟨e1, r1, m1, c1, h⟩
  rotate_left
  · exact xz_vV (pc := 2) (As := [.int _]) (rest := []) ⟨hx, hb, hml, hown, hts⟩ (mX7_demandTicket hls hF _ _ k0 c1) (xcwV 1 hts fdX7_demandTicket q_m_X7_76 ⟨Nat.le_of_ble_eq_true rfl, Nat.le_of_ble_eq_true rfl⟩) (xRecv hK hR (ci := 11) rfl k0.1) hR hK hE hS rfl hl.1 rfl (Nat.le_of_ble_eq_true rfl) dX7_line_2 ⟨Nat.le_of_ble_eq_true rfl, Nat.le_of_ble_eq_true rfl⟩ (fun ce q9 H locs hR hS h1 h2 h3 => xo_ut hlocks hex (congrArg some h.symm) hK hR hS h1 h2 h3 (Nat.le_of_ble_eq_true rfl) (Nat.le_of_ble_eq_true rfl))
  refine xy_vV (pc := 2) (As := [.int _]) (rest := []) ⟨hx, hb, hml, hown, hts⟩ (mX7_demandTicket hls hF _ _ k0 c1) (xcwV 1 hts fdX7_demandTicket q_m_X7_76 ⟨Nat.le_of_ble_eq_true rfl, Nat.le_of_ble_eq_true rfl⟩) (xRecv hK hR (ci := 11) rfl k0.1) hR hK hE hS rfl hl.1 rfl (Nat.le_of_ble_eq_true rfl) dX7_line_2 ⟨Nat.le_of_ble_eq_true rfl, Nat.le_of_ble_eq_true rfl⟩ (fun H locs hR hS => ?_)
  obtain ⟨r2, m2, c2, h⟩ := xb_inv h
  obtain ⟨⟨rfl, b1, ⟨b2, b3⟩, ⟨b4, b5⟩, ⟨b6, b7⟩, b8, b9, b10⟩, h⟩ := xk_inv h
  have hT16 : p1.toNatClampNeg < 16 := xlt b1
  have h17 := xLt_34 (lc := r2.toNatClampNeg) hT16 b3 b5 b7
  have h34 := h17
  simp only [xLt, xWt, xpc, xpd] at h34
  refine lv_aload_n (pc := 5) hx hb dX7_line_5 rfl (lv_at hl 0 rfl) ?_
  refine xr_getR (pc := 6) (ci := 11) hx hb hts inX7 hown hK hR rfl k0.1 9 (Nat.le_of_ble_eq_true rfl) rfl k0.2.2.2.2.2.2.2.2.2.1 (hts _ q_f_X7_64) (fun _ h9 => h9) dX7_line_6 ?_
  refine lv_iconst (pc := 9) hx hb dX7_line_9 kc_0 ?_
  refine xq_v (pc := 10) (va_runV (As := [.int _]) (rest := []) ⟨hx, hb, hml, hown, hts⟩ (mJ4_setLength_d00df hX hF hXD) (xcwV 1 hts fdJ4_setLength_d00df q_m_X7_164 ⟨Nat.le_of_ble_eq_true rfl, Nat.le_of_ble_eq_true rfl⟩) ⟨xSt_blind, xSrT hX hK hR, xSt_at hR hK hE hS⟩ rfl rfl hl.1 rfl (lv_room (Nat.le_of_ble_eq_true rfl)) dX7_line_10 ⟨Nat.le_of_ble_eq_true rfl, Nat.le_of_ble_eq_true rfl⟩) hS (fun X2 H locs hX hF hXD hR hS => ?_)
  have hX : xTx ca (h0 + 249) od fd 0 (fun _ => 0) X2 := by
    obtain ⟨v, cap, ml, f, e1, e2, e3, e4, e5⟩ := hX
    exact ⟨v, cap, ml, f, e1, e2, e3, fun j hj => absurd hj (Nat.not_lt_zero j), e5⟩
  refine lv_aload_n (pc := 13) hx hb dX7_line_13 rfl (lv_at hl 0 rfl) ?_
  refine xr_getR (pc := 14) (ci := 11) hx hb hts inX7 hown hK hR rfl k0.1 9 (Nat.le_of_ble_eq_true rfl) rfl k0.2.2.2.2.2.2.2.2.2.1 (hts _ q_f_X7_64) (fun _ h9 => h9) dX7_line_14 ?_
  refine lv_bipush (pc := 17) hx hb dX7_line_17 kb_35 ?_
  refine xq_r (pc := 19) (va_runV (As := [.int _]) (rest := []) ⟨hx, hb, hml, hown, hts⟩ (mJ4_append_cf468 hX hF hXD (c0 := 35) (by decide) (by omega)) (xcwV 1 hts fdJ4_append_cf468 q_m_X7_167 ⟨Nat.le_of_ble_eq_true rfl, Nat.le_of_ble_eq_true rfl⟩) ⟨xSt_blind, xSrT hX hK hR, xSt_at hR hK hE hS⟩ rfl rfl hl.1 rfl (lv_room (Nat.le_of_ble_eq_true rfl)) dX7_line_19 ⟨Nat.le_of_ble_eq_true rfl, Nat.le_of_ble_eq_true rfl⟩) hS (fun q9 X3 H locs hk hF hXD hR hS => ?_)
  have hX := hk.2
  refine lv_pop (pc := 22) hx hb dX7_line_22 rfl ?_
  refine lv_aload_n (pc := 23) hx hb dX7_line_23 rfl (lv_at hl 0 rfl) ?_
  refine xr_getR (pc := 24) (ci := 11) hx hb hts inX7 hown hK hR rfl k0.1 9 (Nat.le_of_ble_eq_true rfl) rfl k0.2.2.2.2.2.2.2.2.2.1 (hts _ q_f_X7_64) (fun _ h9 => h9) dX7_line_24 ?_
  refine lv_iload_n (pc := 27) hx hb dX7_line_27 rfl (lv_at hl 1 rfl) ?_
  refine xq_r (pc := 28) (va_runV (As := [.int _]) (rest := []) ⟨hx, hb, hml, hown, hts⟩ (mJ4_append_bf812 hX hF hXD (w := p1.toNatClampNeg) (by omega) (by omega)) (xcwV 1 hts fdJ4_append_bf812 q_m_X7_171 ⟨Nat.le_of_ble_eq_true rfl, Nat.le_of_ble_eq_true rfl⟩) ⟨xSt_blind, xSrT hX hK hR, xSt_at hR hK hE hS⟩ rfl rfl hl.1 (by rw [← b10]; rfl) (lv_room (Nat.le_of_ble_eq_true rfl)) dX7_line_28 ⟨Nat.le_of_ble_eq_true rfl, Nat.le_of_ble_eq_true rfl⟩) hS (fun q9 X4 H locs hk hF hXD hR hS => ?_)
  have hX := hk.2
  refine lv_pop (pc := 31) hx hb dX7_line_31 rfl ?_
  refine lv_aload_n (pc := 32) hx hb dX7_line_32 rfl (lv_at hl 0 rfl) ?_
  refine xr_getR (pc := 33) (ci := 11) hx hb hts inX7 hown hK hR rfl k0.1 0 (Nat.le_of_ble_eq_true rfl) rfl k0.2.1.1 (hts _ q_f_X7_10) (fun _ h9 => h9) dX7_line_33 ?_
  refine xr_getR (pc := 36) (ci := 4) hx hb hts inX0 hown hK hR rfl k0.2.1.2.1 0 (Nat.le_of_ble_eq_true rfl) rfl k0.2.1.2.2.1.1 (hts _ q_f_X7_84) (fun _ h9 => h9) dX7_line_36 ?_
  refine lv_iload_n (pc := 39) hx hb dX7_line_39 rfl (lv_at hl 1 rfl) ?_
  refine xr_aald (pc := 40) hx hb hK hR 2 (by decide) k0.2.1.2.2.1.2.1 rfl k0.2.1.2.2.1.2.2.1 b1 (k0.2.1.2.2.1.2.2.2 _ hT16).1 dX7_line_40 ?_
  refine lv_aload_n (pc := 41) hx hb dX7_line_41 rfl (lv_at hl 0 rfl) ?_
  refine xr_getR (pc := 42) (ci := 11) hx hb hts inX7 hown hK hR rfl k0.1 9 (Nat.le_of_ble_eq_true rfl) rfl k0.2.2.2.2.2.2.2.2.2.1 (hts _ q_f_X7_64) (fun _ h9 => h9) dX7_line_42 ?_
  refine xq_v (pc := 45) (va_runV (As := [.ref _]) (rest := []) ⟨hx, hb, hml, hown, hts⟩ (mX5_writeTo hX hF hXD (k0.2.1.2.2.1.2.2.2 _ hT16).2 b2 b3 b4 b5 b6 b7 (by rw [← b8]; exact c2) b9 (Nat.le_trans h17 (by decide))) (xcwV 1 hts fdX5_writeTo q_m_X7_174 ⟨Nat.le_of_ble_eq_true rfl, Nat.le_of_ble_eq_true rfl⟩) ⟨xSt_blind, xRecv hK hR (ci := 9) rfl (k0.2.1.2.2.1.2.2.2 _ hT16).2, xSt_at hR hK hE hS⟩ rfl rfl hl.1 rfl (lv_room (Nat.le_of_ble_eq_true rfl)) dX7_line_45 ⟨Nat.le_of_ble_eq_true rfl, Nat.le_of_ble_eq_true rfl⟩) hS (fun X5 H locs hX hF hXD hR hS => ?_)
  refine lv_aload_n (pc := 48) hx hb dX7_line_48 rfl (lv_at hl 0 rfl) ?_
  refine xr_getR (pc := 49) (ci := 11) hx hb hts inX7 hown hK hR rfl k0.1 9 (Nat.le_of_ble_eq_true rfl) rfl k0.2.2.2.2.2.2.2.2.2.1 (hts _ q_f_X7_64) (fun _ h9 => h9) dX7_line_49 ?_
  refine xc_iV (pc := 52) (As := []) (rest := []) ⟨hx, hb, hml, hown, hts⟩ (mJ4_length_8abf5 hX hF hXD) (xcwV 0 hts fdJ4_length_8abf5 q_m_X7_178 ⟨Nat.le_of_ble_eq_true rfl, Nat.le_of_ble_eq_true rfl⟩) (xSrT hX hK hR) hR hK hE hS rfl hl.1 rfl (Nat.le_of_ble_eq_true rfl) dX7_line_52 ⟨Nat.le_of_ble_eq_true rfl, Nat.le_of_ble_eq_true rfl⟩ (fun H locs hR hS => ?_)
  cases h
  exact xe_xl (pc := 55) hx hb hr rfl hlocks rfl (xTm_gh hX) hF hXD (hR.gh k0.2.2.2.2.2.2.2.2.2.2) hK hS (Nat.le_of_ble_eq_true rfl) (Nat.le_of_ble_eq_true rfl) dX7_line_55
noncomputable def fX8_line (h0 : Nat) (p1 : Int32) (μ : xM) : Option (Int32 × xM) :=
  xb (fX8_isTicket h0 p1 μ) (fun r1 m1 => if r1 = 0 then (xb (fX8_fails h0 ((1 : Int32)) m1) (fun r3 m3 => if r3 = 0 then (xbv (fX8_writes h0 ((35 : Int32)) ((xw m3 h0 16 (0 : Int32)))) (fun m5 => xbv (fX8_writesNumber h0 p1 m5) (fun m6 => xbv (fX8_writes h0 ((32 : Int32)) m6) (fun m7 => xb (fX8_of h0 p1 ((1 : Int32)) m7) (fun r8 m8 => xbv (fX8_writesNumber h0 r8 m8) (fun m9 => xbv (fX8_writes h0 ((47 : Int32)) m9) (fun m10 => xb (fX8_of h0 p1 ((2 : Int32)) m10) (fun r11 m11 => xbv (fX8_writesNumber h0 r11 m11) (fun m12 => xbv (fX8_writes h0 ((43 : Int32)) m12) (fun m13 => xb (fX8_of h0 p1 ((3 : Int32)) m13) (fun r14 m14 => xbv (fX8_writesNumber h0 r14 m14) (fun m15 => xbv (fX8_writes h0 ((32 : Int32)) m15) (fun m16 => xb (fX8_of h0 p1 ((4 : Int32)) m16) (fun r17 m17 => xb (fJ0_charAt_5068e 18 r17 m17) (fun r18 m18 => xbv (fX8_writes h0 r18 m18) (fun m19 => some ((m19 h0 16), m19))))))))))))))))) else (some ((0 : Int32), m3)))) else (xb (fX8_fails h0 ((0 : Int32)) m1) (fun r20 m20 => if r20 = 0 then (xbv (fX8_writes h0 ((35 : Int32)) ((xw m20 h0 16 (0 : Int32)))) (fun m22 => xbv (fX8_writesNumber h0 p1 m22) (fun m23 => xbv (fX8_writes h0 ((32 : Int32)) m23) (fun m24 => xb (fX8_of h0 p1 ((1 : Int32)) m24) (fun r25 m25 => xbv (fX8_writesNumber h0 r25 m25) (fun m26 => xbv (fX8_writes h0 ((47 : Int32)) m26) (fun m27 => xb (fX8_of h0 p1 ((2 : Int32)) m27) (fun r28 m28 => xbv (fX8_writesNumber h0 r28 m28) (fun m29 => xbv (fX8_writes h0 ((43 : Int32)) m29) (fun m30 => xb (fX8_of h0 p1 ((3 : Int32)) m30) (fun r31 m31 => xbv (fX8_writesNumber h0 r31 m31) (fun m32 => xbv (fX8_writes h0 ((32 : Int32)) m32) (fun m33 => xb (fX8_of h0 p1 ((4 : Int32)) m33) (fun r34 m34 => xb (fJ0_charAt_5068e 18 r34 m34) (fun r35 m35 => xbv (fX8_writes h0 r35 m35) (fun m36 => some ((m36 h0 16), m36))))))))))))))))) else (some ((0 : Int32), m20)))))
set_option maxHeartbeats 1000000 in
set_option maxRecDepth 20000 in
theorem mX8_line {l : Launch} {D : va_G} {ca : Nat → ClassId} {z : Nat} {G : xG} {X : va_W} {ad av : Nat → Nat} (hF : xFix z G X) (h0 : Nat) (p1 : Int32) (k0 : xI_Model G h0) {μ μ1 : xM} {r : Int32} (h : fX8_line h0 p1 μ = some (r, μ1)) : xMi l yX8_line (xws yX8_line cX8_line 2 (some .int)) 4 D ca z G X ad av [.ref h0, .int p1] μ r μ1 := by
  refine xm_i (by decide) rfl (Nat.le_of_ble_eq_true rfl) [(0, .ref h0), (1, .int p1)] rfl ?_
  intro p e s m args below meth c ls hx hb hr hml hlocks hts hown hK hE hR hS hl
  have hts : ∀ w ∈ xAll, w.before args s = true := fun w hw => hts w (List.mem_cons_of_mem _ hw)
  rw [fX8_line] at h
  refine lv_aload_n (pc := 0) hx hb dX8_line_0 rfl (lv_at hl 0 rfl) ?_
  refine lv_aload_n (pc := 1) hx hb dX8_line_1 rfl (lv_at hl 0 rfl) ?_
  refine lv_iload_n (pc := 2) hx hb dX8_line_2 rfl (lv_at hl 1 rfl) ?_
  obtain ⟨r1, m1, c1, h⟩ := xb_inv h
  refine xc_iV (pc := 3) (As := [.int _]) (rest := [.ref _]) ⟨hx, hb, hml, hown, hts⟩ (mX8_isTicket hF _ _ k0 c1) (xcwV 1 hts fdX8_isTicket q_m_X8_94 ⟨Nat.le_of_ble_eq_true rfl, Nat.le_of_ble_eq_true rfl⟩) (xRecv hK hR (ci := 12) rfl k0.1) hR hK hE hS rfl hl.1 rfl (Nat.le_of_ble_eq_true rfl) dX8_line_3 ⟨Nat.zero_le _, Nat.zero_le _⟩ (fun H locs hR hS => ?_)
  refine lv_if_eq (pc := 6) (tgt := 13) hx hb dX8_line_6 (by decide) (fun c2 => ?_) (fun c2 => ?_)
  · have h := xpos c2 h
    refine lv_iconst (pc := 13) hx hb dX8_line_13 kc_1 ?_
    obtain ⟨r3, m3, c3, h⟩ := xb_inv h
    refine xc_iV (pc := 14) (As := [.int _]) (rest := []) ⟨hx, hb, hml, hown, hts⟩ (mX8_fails hF _ _ k0 c3) (xcwV 1 hts fdX8_fails q_m_X8_67 ⟨Nat.le_of_ble_eq_true rfl, Nat.le_of_ble_eq_true rfl⟩) (xRecv hK hR (ci := 12) rfl k0.1) hR hK hE hS rfl hl.1 rfl (Nat.le_of_ble_eq_true rfl) dX8_line_14 ⟨Nat.zero_le _, Nat.zero_le _⟩ (fun H locs hR hS => ?_)
    refine lv_if_eq (pc := 17) (tgt := 22) hx hb dX8_line_17 (by decide) (fun c4 => ?_) (fun c4 => ?_)
    · have h := xpos c4 h
      refine lv_aload_n (pc := 22) hx hb dX8_line_22 rfl (lv_at hl 0 rfl) ?_
      refine lv_iconst (pc := 23) hx hb dX8_line_23 kc_0 ?_
      refine xr_putI (pc := 24) (ci := 12) (ty := .int) hx hb hts inX8 tyX8 tyX8_ok nmX8 hown hK hR hF hS rfl k0.1 16 (Nat.le_of_ble_eq_true rfl) rfl (hts _ q_f_X8_117) (fun _ h9 => h9) rfl rfl rfl rfl dX8_line_24 (fun H locs hR hS => ?_)
      refine lv_aload_n (pc := 27) hx hb dX8_line_27 rfl (lv_at hl 0 rfl) ?_
      refine lv_bipush (pc := 28) hx hb dX8_line_28 kb_35 ?_
      obtain ⟨m5, c5, h⟩ := xbv_inv h
      refine xc_vV (pc := 30) (As := [.int _]) (rest := []) ⟨hx, hb, hml, hown, hts⟩ (mX8_writes hF _ _ k0 c5) (xcwV 1 hts fdX8_writes q_m_X8_120 ⟨Nat.le_of_ble_eq_true rfl, Nat.le_of_ble_eq_true rfl⟩) (xRecv hK hR (ci := 12) rfl k0.1) hR hK hE hS rfl hl.1 rfl (Nat.le_of_ble_eq_true rfl) dX8_line_30 ⟨Nat.zero_le _, Nat.zero_le _⟩ (fun H locs hR hS => ?_)
      refine lv_aload_n (pc := 33) hx hb dX8_line_33 rfl (lv_at hl 0 rfl) ?_
      refine lv_iload_n (pc := 34) hx hb dX8_line_34 rfl (lv_at hl 1 rfl) ?_
      obtain ⟨m6, c6, h⟩ := xbv_inv h
      refine xc_vV (pc := 35) (As := [.int _]) (rest := []) ⟨hx, hb, hml, hown, hts⟩ (mX8_writesNumber hF _ _ k0 c6) (xcwV 1 hts fdX8_writesNumber q_m_X8_124 ⟨Nat.le_of_ble_eq_true rfl, Nat.le_of_ble_eq_true rfl⟩) (xRecv hK hR (ci := 12) rfl k0.1) hR hK hE hS rfl hl.1 rfl (Nat.le_of_ble_eq_true rfl) dX8_line_35 ⟨Nat.zero_le _, Nat.zero_le _⟩ (fun H locs hR hS => ?_)
      refine lv_aload_n (pc := 38) hx hb dX8_line_38 rfl (lv_at hl 0 rfl) ?_
      refine lv_bipush (pc := 39) hx hb dX8_line_39 kb_32 ?_
      obtain ⟨m7, c7, h⟩ := xbv_inv h
      refine xc_vV (pc := 41) (As := [.int _]) (rest := []) ⟨hx, hb, hml, hown, hts⟩ (mX8_writes hF _ _ k0 c7) (xcwV 1 hts fdX8_writes q_m_X8_120 ⟨Nat.le_of_ble_eq_true rfl, Nat.le_of_ble_eq_true rfl⟩) (xRecv hK hR (ci := 12) rfl k0.1) hR hK hE hS rfl hl.1 rfl (Nat.le_of_ble_eq_true rfl) dX8_line_41 ⟨Nat.zero_le _, Nat.zero_le _⟩ (fun H locs hR hS => ?_)
      refine lv_aload_n (pc := 44) hx hb dX8_line_44 rfl (lv_at hl 0 rfl) ?_
      refine lv_aload_n (pc := 45) hx hb dX8_line_45 rfl (lv_at hl 0 rfl) ?_
      refine lv_iload_n (pc := 46) hx hb dX8_line_46 rfl (lv_at hl 1 rfl) ?_
      refine lv_iconst (pc := 47) hx hb dX8_line_47 kc_1 ?_
      obtain ⟨r8, m8, c8, h⟩ := xb_inv h
      refine xc_iV (pc := 48) (As := [.int _, .int _]) (rest := [.ref _]) ⟨hx, hb, hml, hown, hts⟩ (mX8_of hF _ _ _ k0 c8) (xcwV 2 hts fdX8_of q_m_X8_63 ⟨Nat.le_of_ble_eq_true rfl, Nat.le_of_ble_eq_true rfl⟩) (xRecv hK hR (ci := 12) rfl k0.1) hR hK hE hS rfl hl.1 rfl (Nat.le_of_ble_eq_true rfl) dX8_line_48 ⟨Nat.zero_le _, Nat.zero_le _⟩ (fun H locs hR hS => ?_)
      obtain ⟨m9, c9, h⟩ := xbv_inv h
      refine xc_vV (pc := 51) (As := [.int _]) (rest := []) ⟨hx, hb, hml, hown, hts⟩ (mX8_writesNumber hF _ _ k0 c9) (xcwV 1 hts fdX8_writesNumber q_m_X8_124 ⟨Nat.le_of_ble_eq_true rfl, Nat.le_of_ble_eq_true rfl⟩) (xRecv hK hR (ci := 12) rfl k0.1) hR hK hE hS rfl hl.1 rfl (Nat.le_of_ble_eq_true rfl) dX8_line_51 ⟨Nat.zero_le _, Nat.zero_le _⟩ (fun H locs hR hS => ?_)
      refine lv_aload_n (pc := 54) hx hb dX8_line_54 rfl (lv_at hl 0 rfl) ?_
      refine lv_bipush (pc := 55) hx hb dX8_line_55 kb_47 ?_
      obtain ⟨m10, c10, h⟩ := xbv_inv h
      refine xc_vV (pc := 57) (As := [.int _]) (rest := []) ⟨hx, hb, hml, hown, hts⟩ (mX8_writes hF _ _ k0 c10) (xcwV 1 hts fdX8_writes q_m_X8_120 ⟨Nat.le_of_ble_eq_true rfl, Nat.le_of_ble_eq_true rfl⟩) (xRecv hK hR (ci := 12) rfl k0.1) hR hK hE hS rfl hl.1 rfl (Nat.le_of_ble_eq_true rfl) dX8_line_57 ⟨Nat.zero_le _, Nat.zero_le _⟩ (fun H locs hR hS => ?_)
      refine lv_aload_n (pc := 60) hx hb dX8_line_60 rfl (lv_at hl 0 rfl) ?_
      refine lv_aload_n (pc := 61) hx hb dX8_line_61 rfl (lv_at hl 0 rfl) ?_
      refine lv_iload_n (pc := 62) hx hb dX8_line_62 rfl (lv_at hl 1 rfl) ?_
      refine lv_iconst (pc := 63) hx hb dX8_line_63 kc_2 ?_
      obtain ⟨r11, m11, c11, h⟩ := xb_inv h
      refine xc_iV (pc := 64) (As := [.int _, .int _]) (rest := [.ref _]) ⟨hx, hb, hml, hown, hts⟩ (mX8_of hF _ _ _ k0 c11) (xcwV 2 hts fdX8_of q_m_X8_63 ⟨Nat.le_of_ble_eq_true rfl, Nat.le_of_ble_eq_true rfl⟩) (xRecv hK hR (ci := 12) rfl k0.1) hR hK hE hS rfl hl.1 rfl (Nat.le_of_ble_eq_true rfl) dX8_line_64 ⟨Nat.zero_le _, Nat.zero_le _⟩ (fun H locs hR hS => ?_)
      obtain ⟨m12, c12, h⟩ := xbv_inv h
      refine xc_vV (pc := 67) (As := [.int _]) (rest := []) ⟨hx, hb, hml, hown, hts⟩ (mX8_writesNumber hF _ _ k0 c12) (xcwV 1 hts fdX8_writesNumber q_m_X8_124 ⟨Nat.le_of_ble_eq_true rfl, Nat.le_of_ble_eq_true rfl⟩) (xRecv hK hR (ci := 12) rfl k0.1) hR hK hE hS rfl hl.1 rfl (Nat.le_of_ble_eq_true rfl) dX8_line_67 ⟨Nat.zero_le _, Nat.zero_le _⟩ (fun H locs hR hS => ?_)
      refine lv_aload_n (pc := 70) hx hb dX8_line_70 rfl (lv_at hl 0 rfl) ?_
      refine lv_bipush (pc := 71) hx hb dX8_line_71 kb_43 ?_
      obtain ⟨m13, c13, h⟩ := xbv_inv h
      refine xc_vV (pc := 73) (As := [.int _]) (rest := []) ⟨hx, hb, hml, hown, hts⟩ (mX8_writes hF _ _ k0 c13) (xcwV 1 hts fdX8_writes q_m_X8_120 ⟨Nat.le_of_ble_eq_true rfl, Nat.le_of_ble_eq_true rfl⟩) (xRecv hK hR (ci := 12) rfl k0.1) hR hK hE hS rfl hl.1 rfl (Nat.le_of_ble_eq_true rfl) dX8_line_73 ⟨Nat.zero_le _, Nat.zero_le _⟩ (fun H locs hR hS => ?_)
      refine lv_aload_n (pc := 76) hx hb dX8_line_76 rfl (lv_at hl 0 rfl) ?_
      refine lv_aload_n (pc := 77) hx hb dX8_line_77 rfl (lv_at hl 0 rfl) ?_
      refine lv_iload_n (pc := 78) hx hb dX8_line_78 rfl (lv_at hl 1 rfl) ?_
      refine lv_iconst (pc := 79) hx hb dX8_line_79 kc_3 ?_
      obtain ⟨r14, m14, c14, h⟩ := xb_inv h
      refine xc_iV (pc := 80) (As := [.int _, .int _]) (rest := [.ref _]) ⟨hx, hb, hml, hown, hts⟩ (mX8_of hF _ _ _ k0 c14) (xcwV 2 hts fdX8_of q_m_X8_63 ⟨Nat.le_of_ble_eq_true rfl, Nat.le_of_ble_eq_true rfl⟩) (xRecv hK hR (ci := 12) rfl k0.1) hR hK hE hS rfl hl.1 rfl (Nat.le_of_ble_eq_true rfl) dX8_line_80 ⟨Nat.zero_le _, Nat.zero_le _⟩ (fun H locs hR hS => ?_)
      obtain ⟨m15, c15, h⟩ := xbv_inv h
      refine xc_vV (pc := 83) (As := [.int _]) (rest := []) ⟨hx, hb, hml, hown, hts⟩ (mX8_writesNumber hF _ _ k0 c15) (xcwV 1 hts fdX8_writesNumber q_m_X8_124 ⟨Nat.le_of_ble_eq_true rfl, Nat.le_of_ble_eq_true rfl⟩) (xRecv hK hR (ci := 12) rfl k0.1) hR hK hE hS rfl hl.1 rfl (Nat.le_of_ble_eq_true rfl) dX8_line_83 ⟨Nat.zero_le _, Nat.zero_le _⟩ (fun H locs hR hS => ?_)
      refine lv_aload_n (pc := 86) hx hb dX8_line_86 rfl (lv_at hl 0 rfl) ?_
      refine lv_bipush (pc := 87) hx hb dX8_line_87 kb_32 ?_
      obtain ⟨m16, c16, h⟩ := xbv_inv h
      refine xc_vV (pc := 89) (As := [.int _]) (rest := []) ⟨hx, hb, hml, hown, hts⟩ (mX8_writes hF _ _ k0 c16) (xcwV 1 hts fdX8_writes q_m_X8_120 ⟨Nat.le_of_ble_eq_true rfl, Nat.le_of_ble_eq_true rfl⟩) (xRecv hK hR (ci := 12) rfl k0.1) hR hK hE hS rfl hl.1 rfl (Nat.le_of_ble_eq_true rfl) dX8_line_89 ⟨Nat.zero_le _, Nat.zero_le _⟩ (fun H locs hR hS => ?_)
      refine lv_aload_n (pc := 92) hx hb dX8_line_92 rfl (lv_at hl 0 rfl) ?_
      refine va_ldcS (pc := 93) hx hb hown (xStr hE 18 (by decide) (by decide +kernel) rfl) dX8_line_93 ?_
      refine lv_aload_n (pc := 95) hx hb dX8_line_95 rfl (lv_at hl 0 rfl) ?_
      refine lv_iload_n (pc := 96) hx hb dX8_line_96 rfl (lv_at hl 1 rfl) ?_
      refine lv_iconst (pc := 97) hx hb dX8_line_97 kc_4 ?_
      obtain ⟨r17, m17, c17, h⟩ := xb_inv h
      refine xc_iV (pc := 98) (As := [.int _, .int _]) (rest := [.ref _, .ref _]) ⟨hx, hb, hml, hown, hts⟩ (mX8_of hF _ _ _ k0 c17) (xcwV 2 hts fdX8_of q_m_X8_63 ⟨Nat.le_of_ble_eq_true rfl, Nat.le_of_ble_eq_true rfl⟩) (xRecv hK hR (ci := 12) rfl k0.1) hR hK hE hS rfl hl.1 rfl (Nat.le_of_ble_eq_true rfl) dX8_line_98 ⟨Nat.zero_le _, Nat.zero_le _⟩ (fun H locs hR hS => ?_)
      obtain ⟨r18, m18, c18, h⟩ := xb_inv h
      refine xc_iV (pc := 101) (As := [.int _]) (rest := [.ref _]) ⟨hx, hb, hml, hown, hts⟩ (mJ0_charAt_5068e hF _ _ (show (18 : Nat) < xsN by decide) c18) (xcwV 1 hts fdJ0_charAt_5068e q_m_X8_129 ⟨Nat.le_of_ble_eq_true rfl, Nat.le_of_ble_eq_true rfl⟩) (vk_recv hE.2.2.2.1 (show (18 : Nat) < xsN by decide) hS) hR hK hE hS rfl hl.1 rfl (Nat.le_of_ble_eq_true rfl) dX8_line_101 ⟨Nat.zero_le _, Nat.zero_le _⟩ (fun H locs hR hS => ?_)
      obtain ⟨m19, c19, h⟩ := xbv_inv h
      refine xc_vV (pc := 104) (As := [.int _]) (rest := []) ⟨hx, hb, hml, hown, hts⟩ (mX8_writes hF _ _ k0 c19) (xcwV 1 hts fdX8_writes q_m_X8_120 ⟨Nat.le_of_ble_eq_true rfl, Nat.le_of_ble_eq_true rfl⟩) (xRecv hK hR (ci := 12) rfl k0.1) hR hK hE hS rfl hl.1 rfl (Nat.le_of_ble_eq_true rfl) dX8_line_104 ⟨Nat.zero_le _, Nat.zero_le _⟩ (fun H locs hR hS => ?_)
      refine lv_aload_n (pc := 107) hx hb dX8_line_107 rfl (lv_at hl 0 rfl) ?_
      refine xr_getI (pc := 108) (ci := 12) hx hb hts inX8 hown hK hR rfl k0.1 16 (Nat.le_of_ble_eq_true rfl) rfl (hts _ q_f_X8_117) (fun _ h9 => h9) dX8_line_108 ?_
      exact xf_i (pc := 111) hx hb hr rfl hlocks h hR hK hS dX8_line_111
    · have h := xneg c4 h
      refine lv_iconst (pc := 20) hx hb dX8_line_20 kc_0 ?_
      exact xf_i (pc := 21) hx hb hr rfl hlocks h hR hK hS dX8_line_21
  · have h := xneg c2 h
    refine lv_iconst (pc := 9) hx hb dX8_line_9 kc_0 ?_
    refine lv_goto (pc := 10) (tgt := 14) hx hb dX8_line_10 (by decide) ?_
    obtain ⟨r20, m20, c20, h⟩ := xb_inv h
    refine xc_iV (pc := 14) (As := [.int _]) (rest := []) ⟨hx, hb, hml, hown, hts⟩ (mX8_fails hF _ _ k0 c20) (xcwV 1 hts fdX8_fails q_m_X8_67 ⟨Nat.le_of_ble_eq_true rfl, Nat.le_of_ble_eq_true rfl⟩) (xRecv hK hR (ci := 12) rfl k0.1) hR hK hE hS rfl hl.1 rfl (Nat.le_of_ble_eq_true rfl) dX8_line_14 ⟨Nat.zero_le _, Nat.zero_le _⟩ (fun H locs hR hS => ?_)
    refine lv_if_eq (pc := 17) (tgt := 22) hx hb dX8_line_17 (by decide) (fun c21 => ?_) (fun c21 => ?_)
    · have h := xpos c21 h
      refine lv_aload_n (pc := 22) hx hb dX8_line_22 rfl (lv_at hl 0 rfl) ?_
      refine lv_iconst (pc := 23) hx hb dX8_line_23 kc_0 ?_
      refine xr_putI (pc := 24) (ci := 12) (ty := .int) hx hb hts inX8 tyX8 tyX8_ok nmX8 hown hK hR hF hS rfl k0.1 16 (Nat.le_of_ble_eq_true rfl) rfl (hts _ q_f_X8_117) (fun _ h9 => h9) rfl rfl rfl rfl dX8_line_24 (fun H locs hR hS => ?_)
      refine lv_aload_n (pc := 27) hx hb dX8_line_27 rfl (lv_at hl 0 rfl) ?_
      refine lv_bipush (pc := 28) hx hb dX8_line_28 kb_35 ?_
      obtain ⟨m22, c22, h⟩ := xbv_inv h
      refine xc_vV (pc := 30) (As := [.int _]) (rest := []) ⟨hx, hb, hml, hown, hts⟩ (mX8_writes hF _ _ k0 c22) (xcwV 1 hts fdX8_writes q_m_X8_120 ⟨Nat.le_of_ble_eq_true rfl, Nat.le_of_ble_eq_true rfl⟩) (xRecv hK hR (ci := 12) rfl k0.1) hR hK hE hS rfl hl.1 rfl (Nat.le_of_ble_eq_true rfl) dX8_line_30 ⟨Nat.zero_le _, Nat.zero_le _⟩ (fun H locs hR hS => ?_)
      refine lv_aload_n (pc := 33) hx hb dX8_line_33 rfl (lv_at hl 0 rfl) ?_
      refine lv_iload_n (pc := 34) hx hb dX8_line_34 rfl (lv_at hl 1 rfl) ?_
      obtain ⟨m23, c23, h⟩ := xbv_inv h
      refine xc_vV (pc := 35) (As := [.int _]) (rest := []) ⟨hx, hb, hml, hown, hts⟩ (mX8_writesNumber hF _ _ k0 c23) (xcwV 1 hts fdX8_writesNumber q_m_X8_124 ⟨Nat.le_of_ble_eq_true rfl, Nat.le_of_ble_eq_true rfl⟩) (xRecv hK hR (ci := 12) rfl k0.1) hR hK hE hS rfl hl.1 rfl (Nat.le_of_ble_eq_true rfl) dX8_line_35 ⟨Nat.zero_le _, Nat.zero_le _⟩ (fun H locs hR hS => ?_)
      refine lv_aload_n (pc := 38) hx hb dX8_line_38 rfl (lv_at hl 0 rfl) ?_
      refine lv_bipush (pc := 39) hx hb dX8_line_39 kb_32 ?_
      obtain ⟨m24, c24, h⟩ := xbv_inv h
      refine xc_vV (pc := 41) (As := [.int _]) (rest := []) ⟨hx, hb, hml, hown, hts⟩ (mX8_writes hF _ _ k0 c24) (xcwV 1 hts fdX8_writes q_m_X8_120 ⟨Nat.le_of_ble_eq_true rfl, Nat.le_of_ble_eq_true rfl⟩) (xRecv hK hR (ci := 12) rfl k0.1) hR hK hE hS rfl hl.1 rfl (Nat.le_of_ble_eq_true rfl) dX8_line_41 ⟨Nat.zero_le _, Nat.zero_le _⟩ (fun H locs hR hS => ?_)
      refine lv_aload_n (pc := 44) hx hb dX8_line_44 rfl (lv_at hl 0 rfl) ?_
      refine lv_aload_n (pc := 45) hx hb dX8_line_45 rfl (lv_at hl 0 rfl) ?_
      refine lv_iload_n (pc := 46) hx hb dX8_line_46 rfl (lv_at hl 1 rfl) ?_
      refine lv_iconst (pc := 47) hx hb dX8_line_47 kc_1 ?_
      obtain ⟨r25, m25, c25, h⟩ := xb_inv h
      refine xc_iV (pc := 48) (As := [.int _, .int _]) (rest := [.ref _]) ⟨hx, hb, hml, hown, hts⟩ (mX8_of hF _ _ _ k0 c25) (xcwV 2 hts fdX8_of q_m_X8_63 ⟨Nat.le_of_ble_eq_true rfl, Nat.le_of_ble_eq_true rfl⟩) (xRecv hK hR (ci := 12) rfl k0.1) hR hK hE hS rfl hl.1 rfl (Nat.le_of_ble_eq_true rfl) dX8_line_48 ⟨Nat.zero_le _, Nat.zero_le _⟩ (fun H locs hR hS => ?_)
      obtain ⟨m26, c26, h⟩ := xbv_inv h
      refine xc_vV (pc := 51) (As := [.int _]) (rest := []) ⟨hx, hb, hml, hown, hts⟩ (mX8_writesNumber hF _ _ k0 c26) (xcwV 1 hts fdX8_writesNumber q_m_X8_124 ⟨Nat.le_of_ble_eq_true rfl, Nat.le_of_ble_eq_true rfl⟩) (xRecv hK hR (ci := 12) rfl k0.1) hR hK hE hS rfl hl.1 rfl (Nat.le_of_ble_eq_true rfl) dX8_line_51 ⟨Nat.zero_le _, Nat.zero_le _⟩ (fun H locs hR hS => ?_)
      refine lv_aload_n (pc := 54) hx hb dX8_line_54 rfl (lv_at hl 0 rfl) ?_
      refine lv_bipush (pc := 55) hx hb dX8_line_55 kb_47 ?_
      obtain ⟨m27, c27, h⟩ := xbv_inv h
      refine xc_vV (pc := 57) (As := [.int _]) (rest := []) ⟨hx, hb, hml, hown, hts⟩ (mX8_writes hF _ _ k0 c27) (xcwV 1 hts fdX8_writes q_m_X8_120 ⟨Nat.le_of_ble_eq_true rfl, Nat.le_of_ble_eq_true rfl⟩) (xRecv hK hR (ci := 12) rfl k0.1) hR hK hE hS rfl hl.1 rfl (Nat.le_of_ble_eq_true rfl) dX8_line_57 ⟨Nat.zero_le _, Nat.zero_le _⟩ (fun H locs hR hS => ?_)
      refine lv_aload_n (pc := 60) hx hb dX8_line_60 rfl (lv_at hl 0 rfl) ?_
      refine lv_aload_n (pc := 61) hx hb dX8_line_61 rfl (lv_at hl 0 rfl) ?_
      refine lv_iload_n (pc := 62) hx hb dX8_line_62 rfl (lv_at hl 1 rfl) ?_
      refine lv_iconst (pc := 63) hx hb dX8_line_63 kc_2 ?_
      obtain ⟨r28, m28, c28, h⟩ := xb_inv h
      refine xc_iV (pc := 64) (As := [.int _, .int _]) (rest := [.ref _]) ⟨hx, hb, hml, hown, hts⟩ (mX8_of hF _ _ _ k0 c28) (xcwV 2 hts fdX8_of q_m_X8_63 ⟨Nat.le_of_ble_eq_true rfl, Nat.le_of_ble_eq_true rfl⟩) (xRecv hK hR (ci := 12) rfl k0.1) hR hK hE hS rfl hl.1 rfl (Nat.le_of_ble_eq_true rfl) dX8_line_64 ⟨Nat.zero_le _, Nat.zero_le _⟩ (fun H locs hR hS => ?_)
      obtain ⟨m29, c29, h⟩ := xbv_inv h
      refine xc_vV (pc := 67) (As := [.int _]) (rest := []) ⟨hx, hb, hml, hown, hts⟩ (mX8_writesNumber hF _ _ k0 c29) (xcwV 1 hts fdX8_writesNumber q_m_X8_124 ⟨Nat.le_of_ble_eq_true rfl, Nat.le_of_ble_eq_true rfl⟩) (xRecv hK hR (ci := 12) rfl k0.1) hR hK hE hS rfl hl.1 rfl (Nat.le_of_ble_eq_true rfl) dX8_line_67 ⟨Nat.zero_le _, Nat.zero_le _⟩ (fun H locs hR hS => ?_)
      refine lv_aload_n (pc := 70) hx hb dX8_line_70 rfl (lv_at hl 0 rfl) ?_
      refine lv_bipush (pc := 71) hx hb dX8_line_71 kb_43 ?_
      obtain ⟨m30, c30, h⟩ := xbv_inv h
      refine xc_vV (pc := 73) (As := [.int _]) (rest := []) ⟨hx, hb, hml, hown, hts⟩ (mX8_writes hF _ _ k0 c30) (xcwV 1 hts fdX8_writes q_m_X8_120 ⟨Nat.le_of_ble_eq_true rfl, Nat.le_of_ble_eq_true rfl⟩) (xRecv hK hR (ci := 12) rfl k0.1) hR hK hE hS rfl hl.1 rfl (Nat.le_of_ble_eq_true rfl) dX8_line_73 ⟨Nat.zero_le _, Nat.zero_le _⟩ (fun H locs hR hS => ?_)
      refine lv_aload_n (pc := 76) hx hb dX8_line_76 rfl (lv_at hl 0 rfl) ?_
      refine lv_aload_n (pc := 77) hx hb dX8_line_77 rfl (lv_at hl 0 rfl) ?_
      refine lv_iload_n (pc := 78) hx hb dX8_line_78 rfl (lv_at hl 1 rfl) ?_
      refine lv_iconst (pc := 79) hx hb dX8_line_79 kc_3 ?_
      obtain ⟨r31, m31, c31, h⟩ := xb_inv h
      refine xc_iV (pc := 80) (As := [.int _, .int _]) (rest := [.ref _]) ⟨hx, hb, hml, hown, hts⟩ (mX8_of hF _ _ _ k0 c31) (xcwV 2 hts fdX8_of q_m_X8_63 ⟨Nat.le_of_ble_eq_true rfl, Nat.le_of_ble_eq_true rfl⟩) (xRecv hK hR (ci := 12) rfl k0.1) hR hK hE hS rfl hl.1 rfl (Nat.le_of_ble_eq_true rfl) dX8_line_80 ⟨Nat.zero_le _, Nat.zero_le _⟩ (fun H locs hR hS => ?_)
      obtain ⟨m32, c32, h⟩ := xbv_inv h
      refine xc_vV (pc := 83) (As := [.int _]) (rest := []) ⟨hx, hb, hml, hown, hts⟩ (mX8_writesNumber hF _ _ k0 c32) (xcwV 1 hts fdX8_writesNumber q_m_X8_124 ⟨Nat.le_of_ble_eq_true rfl, Nat.le_of_ble_eq_true rfl⟩) (xRecv hK hR (ci := 12) rfl k0.1) hR hK hE hS rfl hl.1 rfl (Nat.le_of_ble_eq_true rfl) dX8_line_83 ⟨Nat.zero_le _, Nat.zero_le _⟩ (fun H locs hR hS => ?_)
      refine lv_aload_n (pc := 86) hx hb dX8_line_86 rfl (lv_at hl 0 rfl) ?_
      refine lv_bipush (pc := 87) hx hb dX8_line_87 kb_32 ?_
      obtain ⟨m33, c33, h⟩ := xbv_inv h
      refine xc_vV (pc := 89) (As := [.int _]) (rest := []) ⟨hx, hb, hml, hown, hts⟩ (mX8_writes hF _ _ k0 c33) (xcwV 1 hts fdX8_writes q_m_X8_120 ⟨Nat.le_of_ble_eq_true rfl, Nat.le_of_ble_eq_true rfl⟩) (xRecv hK hR (ci := 12) rfl k0.1) hR hK hE hS rfl hl.1 rfl (Nat.le_of_ble_eq_true rfl) dX8_line_89 ⟨Nat.zero_le _, Nat.zero_le _⟩ (fun H locs hR hS => ?_)
      refine lv_aload_n (pc := 92) hx hb dX8_line_92 rfl (lv_at hl 0 rfl) ?_
      refine va_ldcS (pc := 93) hx hb hown (xStr hE 18 (by decide) (by decide +kernel) rfl) dX8_line_93 ?_
      refine lv_aload_n (pc := 95) hx hb dX8_line_95 rfl (lv_at hl 0 rfl) ?_
      refine lv_iload_n (pc := 96) hx hb dX8_line_96 rfl (lv_at hl 1 rfl) ?_
      refine lv_iconst (pc := 97) hx hb dX8_line_97 kc_4 ?_
      obtain ⟨r34, m34, c34, h⟩ := xb_inv h
      refine xc_iV (pc := 98) (As := [.int _, .int _]) (rest := [.ref _, .ref _]) ⟨hx, hb, hml, hown, hts⟩ (mX8_of hF _ _ _ k0 c34) (xcwV 2 hts fdX8_of q_m_X8_63 ⟨Nat.le_of_ble_eq_true rfl, Nat.le_of_ble_eq_true rfl⟩) (xRecv hK hR (ci := 12) rfl k0.1) hR hK hE hS rfl hl.1 rfl (Nat.le_of_ble_eq_true rfl) dX8_line_98 ⟨Nat.zero_le _, Nat.zero_le _⟩ (fun H locs hR hS => ?_)
      obtain ⟨r35, m35, c35, h⟩ := xb_inv h
      refine xc_iV (pc := 101) (As := [.int _]) (rest := [.ref _]) ⟨hx, hb, hml, hown, hts⟩ (mJ0_charAt_5068e hF _ _ (show (18 : Nat) < xsN by decide) c35) (xcwV 1 hts fdJ0_charAt_5068e q_m_X8_129 ⟨Nat.le_of_ble_eq_true rfl, Nat.le_of_ble_eq_true rfl⟩) (vk_recv hE.2.2.2.1 (show (18 : Nat) < xsN by decide) hS) hR hK hE hS rfl hl.1 rfl (Nat.le_of_ble_eq_true rfl) dX8_line_101 ⟨Nat.zero_le _, Nat.zero_le _⟩ (fun H locs hR hS => ?_)
      obtain ⟨m36, c36, h⟩ := xbv_inv h
      refine xc_vV (pc := 104) (As := [.int _]) (rest := []) ⟨hx, hb, hml, hown, hts⟩ (mX8_writes hF _ _ k0 c36) (xcwV 1 hts fdX8_writes q_m_X8_120 ⟨Nat.le_of_ble_eq_true rfl, Nat.le_of_ble_eq_true rfl⟩) (xRecv hK hR (ci := 12) rfl k0.1) hR hK hE hS rfl hl.1 rfl (Nat.le_of_ble_eq_true rfl) dX8_line_104 ⟨Nat.zero_le _, Nat.zero_le _⟩ (fun H locs hR hS => ?_)
      refine lv_aload_n (pc := 107) hx hb dX8_line_107 rfl (lv_at hl 0 rfl) ?_
      refine xr_getI (pc := 108) (ci := 12) hx hb hts inX8 hown hK hR rfl k0.1 16 (Nat.le_of_ble_eq_true rfl) rfl (hts _ q_f_X8_117) (fun _ h9 => h9) dX8_line_108 ?_
      exact xf_i (pc := 111) hx hb hr rfl hlocks h hR hK hS dX8_line_111
    · have h := xneg c21 h
      refine lv_iconst (pc := 20) hx hb dX8_line_20 kc_0 ?_
      exact xf_i (pc := 21) hx hb hr rfl hlocks h hR hK hS dX8_line_21
