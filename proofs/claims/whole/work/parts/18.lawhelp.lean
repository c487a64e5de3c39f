set_option maxHeartbeats 1000000 in
set_option maxRecDepth 20000 in
theorem mL_pledge {l : Launch} (hls : l.stackTraces = false) {D : va_G} {ca : Nat → ClassId} {z : Nat} {G : xG} {X : va_W} {ad av : Nat → Nat} (hF : xFix z G X) (h0 : Nat) (p1 : Int32) (p2 : Int32) (p3 : Int32) (h4 : Nat) (k0 : xI_Coat G h0) (k4 : xI_Longs 1 G h4) {μ μ1 : xM} {r : Int32} (h : fL_pledge h0 p1 p2 p3 h4 μ = some (r, μ1)) : xMw l yL_pledge (xwh yL_pledge cL_pledge 6 (some .int) [(0, 12, 15, 13), (0, 12, 19, 15), (0, 12, 23, 17)]) 9 1 6 D ca z G X ad av [.ref h0, .int p1, .int p2, .int p3, .ref h4] μ r μ1 := by
  refine xm_w (by decide) rfl (Nat.le_of_ble_eq_true rfl) [(0, .ref h0), (1, .int p1), (2, .int p2), (3, .int p3), (4, .ref h4)] rfl ?_
  intro p e s m args below meth c ls hx hb hr hml hlocks hT hts hown hK hE hR hS hl
  have hts : ∀ w ∈ xAll, w.before args s = true := fun w hw => hts w (List.mem_cons_of_mem _ hw)
  rw [fL_pledge] at h
  refine lv_aload (pc := 0) hx hb dL_pledge_0 (lv_at hl 4 rfl) ?_
  refine lv_iconst (pc := 2) hx hb dL_pledge_2 kc_0 ?_
  refine lv_aload_n (pc := 3) hx hb dL_pledge_3 rfl (lv_at hl 0 rfl) ?_
  refine lv_iload_n (pc := 4) hx hb dL_pledge_4 rfl (lv_at hl 1 rfl) ?_
  refine lv_iload_n (pc := 5) hx hb dL_pledge_5 rfl (lv_at hl 2 rfl) ?_
  refine lv_iload_n (pc := 6) hx hb dL_pledge_6 rfl (lv_at hl 3 rfl) ?_
  rcases xch_inv h with ⟨r1, m1, c1, h⟩ | ⟨e1, r1, m1, c1, h⟩
  rotate_left
  · by_cases z2 : e1 + 1 = 1
    · have h := xpos z2 h
      obtain rfl : e1 = 0 := by omega
      refine xz_iV (pc := 7) (As := [.int _, .int _, .int _]) (rest := [.int _, .ref _]) ⟨hx, hb, hml, hown, hts⟩ (mX7_pledge hls hF _ _ _ _ k0 c1) (xcwV 3 hts fdX7_pledge q_m_L_7 ⟨Nat.le_of_ble_eq_true rfl, Nat.le_of_ble_eq_true rfl⟩) (xRecv hK hR (ci := 11) rfl k0.1) hR hK hE hS rfl hl.1 rfl (Nat.le_of_ble_eq_true rfl) dL_pledge_7 ⟨Nat.le_of_ble_eq_true rfl, Nat.le_of_ble_eq_true rfl⟩ (fun ce q9 H locs hR hS h1 h2 h3 => ?_)
      refine xCatch hT hown hE [] ⟨0, 12, 15, 13⟩ [⟨0, 12, 19, 15⟩, ⟨0, 12, 23, 17⟩] rfl 0 (by decide) (fun w hw => absurd hw List.not_mem_nil) (by decide) (by decide) (hts _ q_Lc_13) (List.mem_of_getElem? (i := 6) rfl) h1 h2 h3 ?_
      refine lv_astore (pc := 15) (lv' := [(5, .ref _), (0, .ref _), (1, .int _), (2, .int _), (3, .int _), (4, .ref _)]) hx hb dL_pledge_15 hl (Nat.le_of_ble_eq_true rfl) rfl (fun ls hl => ?_)
      refine lv_iconst (pc := 17) hx hb dL_pledge_17 kc_1 ?_
      exact xf_w (pc := 18) hx hb hr rfl hlocks h hR hK hS (Nat.le_of_ble_eq_true rfl) (Nat.le_of_ble_eq_true rfl) dL_pledge_18
    have h := xneg z2 h
    by_cases z3 : e1 + 1 = 2
    · have h := xpos z3 h
      obtain rfl : e1 = 1 := by omega
      refine xz_iV (pc := 7) (As := [.int _, .int _, .int _]) (rest := [.int _, .ref _]) ⟨hx, hb, hml, hown, hts⟩ (mX7_pledge hls hF _ _ _ _ k0 c1) (xcwV 3 hts fdX7_pledge q_m_L_7 ⟨Nat.le_of_ble_eq_true rfl, Nat.le_of_ble_eq_true rfl⟩) (xRecv hK hR (ci := 11) rfl k0.1) hR hK hE hS rfl hl.1 rfl (Nat.le_of_ble_eq_true rfl) dL_pledge_7 ⟨Nat.le_of_ble_eq_true rfl, Nat.le_of_ble_eq_true rfl⟩ (fun ce q9 H locs hR hS h1 h2 h3 => ?_)
      refine xCatch hT hown hE [⟨0, 12, 15, 13⟩] ⟨0, 12, 19, 15⟩ [⟨0, 12, 23, 17⟩] rfl 1 (by decide) (List.forall_mem_cons.mpr ⟨⟨by decide, 0, by decide, by decide, hts _ q_Lc_13⟩, (fun w hw => absurd hw List.not_mem_nil)⟩) (by decide) (by decide) (hts _ q_Lc_15) (List.mem_of_getElem? (i := 7) rfl) h1 h2 h3 ?_
      refine lv_astore (pc := 19) (lv' := [(5, .ref _), (0, .ref _), (1, .int _), (2, .int _), (3, .int _), (4, .ref _)]) hx hb dL_pledge_19 hl (Nat.le_of_ble_eq_true rfl) rfl (fun ls hl => ?_)
      refine lv_iconst (pc := 21) hx hb dL_pledge_21 kc_2 ?_
      exact xf_w (pc := 22) hx hb hr rfl hlocks h hR hK hS (Nat.le_of_ble_eq_true rfl) (Nat.le_of_ble_eq_true rfl) dL_pledge_22
    have h := xneg z3 h
    by_cases z4 : e1 + 1 = 3
    · have h := xpos z4 h
      obtain rfl : e1 = 2 := by omega
      refine xz_iV (pc := 7) (As := [.int _, .int _, .int _]) (rest := [.int _, .ref _]) ⟨hx, hb, hml, hown, hts⟩ (mX7_pledge hls hF _ _ _ _ k0 c1) (xcwV 3 hts fdX7_pledge q_m_L_7 ⟨Nat.le_of_ble_eq_true rfl, Nat.le_of_ble_eq_true rfl⟩) (xRecv hK hR (ci := 11) rfl k0.1) hR hK hE hS rfl hl.1 rfl (Nat.le_of_ble_eq_true rfl) dL_pledge_7 ⟨Nat.le_of_ble_eq_true rfl, Nat.le_of_ble_eq_true rfl⟩ (fun ce q9 H locs hR hS h1 h2 h3 => ?_)
      refine xCatch hT hown hE [⟨0, 12, 15, 13⟩, ⟨0, 12, 19, 15⟩] ⟨0, 12, 23, 17⟩ [] rfl 2 (by decide) (List.forall_mem_cons.mpr ⟨⟨by decide, 0, by decide, by decide, hts _ q_Lc_13⟩, (List.forall_mem_cons.mpr ⟨⟨by decide, 1, by decide, by decide, hts _ q_Lc_15⟩, (fun w hw => absurd hw List.not_mem_nil)⟩)⟩) (by decide) (by decide) (hts _ q_Lc_17) (List.mem_of_getElem? (i := 8) rfl) h1 h2 h3 ?_
      refine lv_astore (pc := 23) (lv' := [(5, .ref _), (0, .ref _), (1, .int _), (2, .int _), (3, .int _), (4, .ref _)]) hx hb dL_pledge_23 hl (Nat.le_of_ble_eq_true rfl) rfl (fun ls hl => ?_)
      refine lv_iconst (pc := 25) hx hb dL_pledge_25 kc_3 ?_
      exact xf_w (pc := 26) hx hb hr rfl hlocks h hR hK hS (Nat.le_of_ble_eq_true rfl) (Nat.le_of_ble_eq_true rfl) dL_pledge_26
    have h := xneg z4 h
    cases h
  refine xy_iV (pc := 7) (As := [.int _, .int _, .int _]) (rest := [.int _, .ref _]) ⟨hx, hb, hml, hown, hts⟩ (mX7_pledge hls hF _ _ _ _ k0 c1) (xcwV 3 hts fdX7_pledge q_m_L_7 ⟨Nat.le_of_ble_eq_true rfl, Nat.le_of_ble_eq_true rfl⟩) (xRecv hK hR (ci := 11) rfl k0.1) hR hK hE hS rfl hl.1 rfl (Nat.le_of_ble_eq_true rfl) dL_pledge_7 ⟨Nat.le_of_ble_eq_true rfl, Nat.le_of_ble_eq_true rfl⟩ (fun H locs hR hS => ?_)
  refine lv_i2l (pc := 10) hx hb dL_pledge_10 rfl ?_
  refine xr_lastk (pc := 11) 0 hx hb hK hR hF hS k4.1 k4.2 tn_0 (vl_0 (by decide)) dL_pledge_11 (fun H locs hR hS => ?_)
  refine lv_goto (pc := 12) (tgt := 27) hx hb dL_pledge_12 (by decide) ?_
  refine lv_iconst (pc := 27) hx hb dL_pledge_27 kc_0 ?_
  exact xf_w (pc := 28) hx hb hr rfl hlocks h hR hK hS (Nat.le_of_ble_eq_true rfl) (Nat.le_of_ble_eq_true rfl) dL_pledge_28
set_option maxHeartbeats 1000000 in
set_option maxRecDepth 20000 in
theorem mL_rate {l : Launch} (hls : l.stackTraces = false) {D : va_G} {ca : Nat → ClassId} {z : Nat} {G : xG} {X : va_W} {ad av : Nat → Nat} (hF : xFix z G X) (h0 : Nat) (p1 : Int32) (h2 : Nat) (k0 : xI_Coat G h0) (k2 : xI_Longs 1 G h2) {μ μ1 : xM} {r : Int32} (h : fL_rate h0 p1 h2 μ = some (r, μ1)) : xMw l yL_rate (xwh yL_rate cL_rate 4 (some .int) [(0, 9, 12, 15), (0, 9, 15, 17)]) 9 1 6 D ca z G X ad av [.ref h0, .int p1, .ref h2] μ r μ1 := by
  refine xm_w (by decide) rfl (Nat.le_of_ble_eq_true rfl) [(0, .ref h0), (1, .int p1), (2, .ref h2)] rfl ?_
  intro p e s m args below meth c ls hx hb hr hml hlocks hT hts hown hK hE hR hS hl
  have hts : ∀ w ∈ xAll, w.before args s = true := fun w hw => hts w (List.mem_cons_of_mem _ hw)
  rw [fL_rate] at h
  refine lv_aload_n (pc := 0) hx hb dL_rate_0 rfl (lv_at hl 2 rfl) ?_
  refine lv_iconst (pc := 1) hx hb dL_rate_1 kc_0 ?_
  refine lv_aload_n (pc := 2) hx hb dL_rate_2 rfl (lv_at hl 0 rfl) ?_
  refine lv_iload_n (pc := 3) hx hb dL_rate_3 rfl (lv_at hl 1 rfl) ?_
  rcases xch_inv h with ⟨r1, m1, c1, h⟩ | ⟨e1, r1, m1, c1, h⟩
  rotate_left
  · by_cases z2 : e1 + 1 = 2
    · have h := xpos z2 h
      obtain rfl : e1 = 1 := by omega
      refine xz_iV (pc := 4) (As := [.int _]) (rest := [.int _, .ref _]) ⟨hx, hb, hml, hown, hts⟩ (mX7_rate hls hF _ _ k0 c1) (xcwV 1 hts fdX7_rate q_m_L_19 ⟨Nat.le_of_ble_eq_true rfl, Nat.le_of_ble_eq_true rfl⟩) (xRecv hK hR (ci := 11) rfl k0.1) hR hK hE hS rfl hl.1 rfl (Nat.le_of_ble_eq_true rfl) dL_rate_4 ⟨Nat.le_of_ble_eq_true rfl, Nat.le_of_ble_eq_true rfl⟩ (fun ce q9 H locs hR hS h1 h2 h3 => ?_)
      refine xCatch hT hown hE [] ⟨0, 9, 12, 15⟩ [⟨0, 9, 15, 17⟩] rfl 1 (by decide) (fun w hw => absurd hw List.not_mem_nil) (by decide) (by decide) (hts _ q_Lc_15) (List.mem_of_getElem? (i := 7) rfl) h1 h2 h3 ?_
      refine lv_astore_n (pc := 12) (lv' := [(3, .ref _), (0, .ref _), (1, .int _), (2, .ref _)]) hx hb dL_rate_12 rfl hl (Nat.le_of_ble_eq_true rfl) rfl (fun ls hl => ?_)
      refine lv_iconst (pc := 13) hx hb dL_rate_13 kc_1 ?_
      exact xf_w (pc := 14) hx hb hr rfl hlocks h hR hK hS (Nat.le_of_ble_eq_true rfl) (Nat.le_of_ble_eq_true rfl) dL_rate_14
    have h := xneg z2 h
    by_cases z3 : e1 + 1 = 3
    · have h := xpos z3 h
      obtain rfl : e1 = 2 := by omega
      refine xz_iV (pc := 4) (As := [.int _]) (rest := [.int _, .ref _]) ⟨hx, hb, hml, hown, hts⟩ (mX7_rate hls hF _ _ k0 c1) (xcwV 1 hts fdX7_rate q_m_L_19 ⟨Nat.le_of_ble_eq_true rfl, Nat.le_of_ble_eq_true rfl⟩) (xRecv hK hR (ci := 11) rfl k0.1) hR hK hE hS rfl hl.1 rfl (Nat.le_of_ble_eq_true rfl) dL_rate_4 ⟨Nat.le_of_ble_eq_true rfl, Nat.le_of_ble_eq_true rfl⟩ (fun ce q9 H locs hR hS h1 h2 h3 => ?_)
      refine xCatch hT hown hE [⟨0, 9, 12, 15⟩] ⟨0, 9, 15, 17⟩ [] rfl 2 (by decide) (List.forall_mem_cons.mpr ⟨⟨by decide, 1, by decide, by decide, hts _ q_Lc_15⟩, (fun w hw => absurd hw List.not_mem_nil)⟩) (by decide) (by decide) (hts _ q_Lc_17) (List.mem_of_getElem? (i := 8) rfl) h1 h2 h3 ?_
      refine lv_astore_n (pc := 15) (lv' := [(3, .ref _), (0, .ref _), (1, .int _), (2, .ref _)]) hx hb dL_rate_15 rfl hl (Nat.le_of_ble_eq_true rfl) rfl (fun ls hl => ?_)
      refine lv_iconst (pc := 16) hx hb dL_rate_16 kc_2 ?_
      exact xf_w (pc := 17) hx hb hr rfl hlocks h hR hK hS (Nat.le_of_ble_eq_true rfl) (Nat.le_of_ble_eq_true rfl) dL_rate_17
    have h := xneg z3 h
    cases h
  refine xy_iV (pc := 4) (As := [.int _]) (rest := [.int _, .ref _]) ⟨hx, hb, hml, hown, hts⟩ (mX7_rate hls hF _ _ k0 c1) (xcwV 1 hts fdX7_rate q_m_L_19 ⟨Nat.le_of_ble_eq_true rfl, Nat.le_of_ble_eq_true rfl⟩) (xRecv hK hR (ci := 11) rfl k0.1) hR hK hE hS rfl hl.1 rfl (Nat.le_of_ble_eq_true rfl) dL_rate_4 ⟨Nat.le_of_ble_eq_true rfl, Nat.le_of_ble_eq_true rfl⟩ (fun H locs hR hS => ?_)
  refine lv_i2l (pc := 7) hx hb dL_rate_7 rfl ?_
  refine xr_lastk (pc := 8) 0 hx hb hK hR hF hS k2.1 k2.2 tn_0 (vl_0 (by decide)) dL_rate_8 (fun H locs hR hS => ?_)
  refine lv_goto (pc := 9) (tgt := 18) hx hb dL_rate_9 (by decide) ?_
  refine lv_iconst (pc := 18) hx hb dL_rate_18 kc_0 ?_
  exact xf_w (pc := 19) hx hb hr rfl hlocks h hR hK hS (Nat.le_of_ble_eq_true rfl) (Nat.le_of_ble_eq_true rfl) dL_rate_19
set_option maxHeartbeats 1000000 in
set_option maxRecDepth 20000 in
theorem mL_fee {l : Launch} (hls : l.stackTraces = false) {D : va_G} {ca : Nat → ClassId} {z : Nat} {G : xG} {X : va_W} {ad av : Nat → Nat} (hF : xFix z G X) (h0 : Nat) (p1 : Int32) (h2 : Nat) (k0 : xI_Coat G h0) (k2 : xI_Longs 1 G h2) {μ μ1 : xM} {r : Int32} (h : fL_fee h0 p1 h2 μ = some (r, μ1)) : xMw l yL_fee (xwh yL_fee cL_fee 4 (some .int) [(0, 9, 12, 15), (0, 9, 15, 17)]) 9 1 6 D ca z G X ad av [.ref h0, .int p1, .ref h2] μ r μ1 := by
  refine xm_w (by decide) rfl (Nat.le_of_ble_eq_true rfl) [(0, .ref h0), (1, .int p1), (2, .ref h2)] rfl ?_
  intro p e s m args below meth c ls hx hb hr hml hlocks hT hts hown hK hE hR hS hl
  have hts : ∀ w ∈ xAll, w.before args s = true := fun w hw => hts w (List.mem_cons_of_mem _ hw)
  rw [fL_fee] at h
  refine lv_aload_n (pc := 0) hx hb dL_fee_0 rfl (lv_at hl 2 rfl) ?_
  refine lv_iconst (pc := 1) hx hb dL_fee_1 kc_0 ?_
  refine lv_aload_n (pc := 2) hx hb dL_fee_2 rfl (lv_at hl 0 rfl) ?_
  refine lv_iload_n (pc := 3) hx hb dL_fee_3 rfl (lv_at hl 1 rfl) ?_
  rcases xch_inv h with ⟨r1, m1, c1, h⟩ | ⟨e1, r1, m1, c1, h⟩
  rotate_left
  · by_cases z2 : e1 + 1 = 2
    · have h := xpos z2 h
      obtain rfl : e1 = 1 := by omega
      refine xz_iV (pc := 4) (As := [.int _]) (rest := [.int _, .ref _]) ⟨hx, hb, hml, hown, hts⟩ (mX7_fee hls hF _ _ k0 c1) (xcwV 1 hts fdX7_fee q_m_L_23 ⟨Nat.le_of_ble_eq_true rfl, Nat.le_of_ble_eq_true rfl⟩) (xRecv hK hR (ci := 11) rfl k0.1) hR hK hE hS rfl hl.1 rfl (Nat.le_of_ble_eq_true rfl) dL_fee_4 ⟨Nat.le_of_ble_eq_true rfl, Nat.le_of_ble_eq_true rfl⟩ (fun ce q9 H locs hR hS h1 h2 h3 => ?_)
      refine xCatch hT hown hE [] ⟨0, 9, 12, 15⟩ [⟨0, 9, 15, 17⟩] rfl 1 (by decide) (fun w hw => absurd hw List.not_mem_nil) (by decide) (by decide) (hts _ q_Lc_15) (List.mem_of_getElem? (i := 7) rfl) h1 h2 h3 ?_
      refine lv_astore_n (pc := 12) (lv' := [(3, .ref _), (0, .ref _), (1, .int _), (2, .ref _)]) hx hb dL_fee_12 rfl hl (Nat.le_of_ble_eq_true rfl) rfl (fun ls hl => ?_)
      refine lv_iconst (pc := 13) hx hb dL_fee_13 kc_1 ?_
      exact xf_w (pc := 14) hx hb hr rfl hlocks h hR hK hS (Nat.le_of_ble_eq_true rfl) (Nat.le_of_ble_eq_true rfl) dL_fee_14
    have h := xneg z2 h
    by_cases z3 : e1 + 1 = 3
    · have h := xpos z3 h
      obtain rfl : e1 = 2 := by omega
      refine xz_iV (pc := 4) (As := [.int _]) (rest := [.int _, .ref _]) ⟨hx, hb, hml, hown, hts⟩ (mX7_fee hls hF _ _ k0 c1) (xcwV 1 hts fdX7_fee q_m_L_23 ⟨Nat.le_of_ble_eq_true rfl, Nat.le_of_ble_eq_true rfl⟩) (xRecv hK hR (ci := 11) rfl k0.1) hR hK hE hS rfl hl.1 rfl (Nat.le_of_ble_eq_true rfl) dL_fee_4 ⟨Nat.le_of_ble_eq_true rfl, Nat.le_of_ble_eq_true rfl⟩ (fun ce q9 H locs hR hS h1 h2 h3 => ?_)
      refine xCatch hT hown hE [⟨0, 9, 12, 15⟩] ⟨0, 9, 15, 17⟩ [] rfl 2 (by decide) (List.forall_mem_cons.mpr ⟨⟨by decide, 1, by decide, by decide, hts _ q_Lc_15⟩, (fun w hw => absurd hw List.not_mem_nil)⟩) (by decide) (by decide) (hts _ q_Lc_17) (List.mem_of_getElem? (i := 8) rfl) h1 h2 h3 ?_
      refine lv_astore_n (pc := 15) (lv' := [(3, .ref _), (0, .ref _), (1, .int _), (2, .ref _)]) hx hb dL_fee_15 rfl hl (Nat.le_of_ble_eq_true rfl) rfl (fun ls hl => ?_)
      refine lv_iconst (pc := 16) hx hb dL_fee_16 kc_2 ?_
      exact xf_w (pc := 17) hx hb hr rfl hlocks h hR hK hS (Nat.le_of_ble_eq_true rfl) (Nat.le_of_ble_eq_true rfl) dL_fee_17
    have h := xneg z3 h
    cases h
  refine xy_iV (pc := 4) (As := [.int _]) (rest := [.int _, .ref _]) ⟨hx, hb, hml, hown, hts⟩ (mX7_fee hls hF _ _ k0 c1) (xcwV 1 hts fdX7_fee q_m_L_23 ⟨Nat.le_of_ble_eq_true rfl, Nat.le_of_ble_eq_true rfl⟩) (xRecv hK hR (ci := 11) rfl k0.1) hR hK hE hS rfl hl.1 rfl (Nat.le_of_ble_eq_true rfl) dL_fee_4 ⟨Nat.le_of_ble_eq_true rfl, Nat.le_of_ble_eq_true rfl⟩ (fun H locs hR hS => ?_)
  refine lv_i2l (pc := 7) hx hb dL_fee_7 rfl ?_
  refine xr_lastk (pc := 8) 0 hx hb hK hR hF hS k2.1 k2.2 tn_0 (vl_0 (by decide)) dL_fee_8 (fun H locs hR hS => ?_)
  refine lv_goto (pc := 9) (tgt := 18) hx hb dL_fee_9 (by decide) ?_
  refine lv_iconst (pc := 18) hx hb dL_fee_18 kc_0 ?_
  exact xf_w (pc := 19) hx hb hr rfl hlocks h hR hK hS (Nat.le_of_ble_eq_true rfl) (Nat.le_of_ble_eq_true rfl) dL_fee_19
set_option maxHeartbeats 1000000 in
set_option maxRecDepth 20000 in
theorem mL_pass {l : Launch} (hls : l.stackTraces = false) {D : va_G} {ca : Nat → ClassId} {z : Nat} {G : xG} {X : va_W} {ad av : Nat → Nat} (hF : xFix z G X) (h0 : Nat) (p1 : Int32) (h2 : Nat) (k0 : xI_Coat G h0) (k2 : xI_Longs 1 G h2) {μ μ1 : xM} {r : Int32} (h : fL_pass h0 p1 h2 μ = some (r, μ1)) : xMw l yL_pass (xwh yL_pass cL_pass 4 (some .int) [(0, 9, 12, 15)]) 9 1 6 D ca z G X ad av [.ref h0, .int p1, .ref h2] μ r μ1 := by
  refine xm_w (by decide) rfl (Nat.le_of_ble_eq_true rfl) [(0, .ref h0), (1, .int p1), (2, .ref h2)] rfl ?_
  intro p e s m args below meth c ls hx hb hr hml hlocks hT hts hown hK hE hR hS hl
  have hts : ∀ w ∈ xAll, w.before args s = true := fun w hw => hts w (List.mem_cons_of_mem _ hw)
  rw [fL_pass] at h
  refine lv_aload_n (pc := 0) hx hb dL_pass_0 rfl (lv_at hl 2 rfl) ?_
  refine lv_iconst (pc := 1) hx hb dL_pass_1 kc_0 ?_
  refine lv_aload_n (pc := 2) hx hb dL_pass_2 rfl (lv_at hl 0 rfl) ?_
  refine lv_iload_n (pc := 3) hx hb dL_pass_3 rfl (lv_at hl 1 rfl) ?_
  rcases xch_inv h with ⟨r1, m1, c1, h⟩ | ⟨e1, r1, m1, c1, h⟩
  rotate_left
  · by_cases z2 : e1 + 1 = 2
    · have h := xpos z2 h
      obtain rfl : e1 = 1 := by omega
      refine xz_iV (pc := 4) (As := [.int _]) (rest := [.int _, .ref _]) ⟨hx, hb, hml, hown, hts⟩ (mX7_pass hls hF _ _ k0 c1) (xcwV 1 hts fdX7_pass q_m_L_26 ⟨Nat.le_of_ble_eq_true rfl, Nat.le_of_ble_eq_true rfl⟩) (xRecv hK hR (ci := 11) rfl k0.1) hR hK hE hS rfl hl.1 rfl (Nat.le_of_ble_eq_true rfl) dL_pass_4 ⟨Nat.le_of_ble_eq_true rfl, Nat.le_of_ble_eq_true rfl⟩ (fun ce q9 H locs hR hS h1 h2 h3 => ?_)
      refine xCatch hT hown hE [] ⟨0, 9, 12, 15⟩ [] rfl 1 (by decide) (fun w hw => absurd hw List.not_mem_nil) (by decide) (by decide) (hts _ q_Lc_15) (List.mem_of_getElem? (i := 7) rfl) h1 h2 h3 ?_
      refine lv_astore_n (pc := 12) (lv' := [(3, .ref _), (0, .ref _), (1, .int _), (2, .ref _)]) hx hb dL_pass_12 rfl hl (Nat.le_of_ble_eq_true rfl) rfl (fun ls hl => ?_)
      refine lv_iconst (pc := 13) hx hb dL_pass_13 kc_1 ?_
      exact xf_w (pc := 14) hx hb hr rfl hlocks h hR hK hS (Nat.le_of_ble_eq_true rfl) (Nat.le_of_ble_eq_true rfl) dL_pass_14
    have h := xneg z2 h
    cases h
  refine xy_iV (pc := 4) (As := [.int _]) (rest := [.int _, .ref _]) ⟨hx, hb, hml, hown, hts⟩ (mX7_pass hls hF _ _ k0 c1) (xcwV 1 hts fdX7_pass q_m_L_26 ⟨Nat.le_of_ble_eq_true rfl, Nat.le_of_ble_eq_true rfl⟩) (xRecv hK hR (ci := 11) rfl k0.1) hR hK hE hS rfl hl.1 rfl (Nat.le_of_ble_eq_true rfl) dL_pass_4 ⟨Nat.le_of_ble_eq_true rfl, Nat.le_of_ble_eq_true rfl⟩ (fun H locs hR hS => ?_)
  refine lv_i2l (pc := 7) hx hb dL_pass_7 rfl ?_
  refine xr_lastk (pc := 8) 0 hx hb hK hR hF hS k2.1 k2.2 tn_0 (vl_0 (by decide)) dL_pass_8 (fun H locs hR hS => ?_)
  refine lv_goto (pc := 9) (tgt := 15) hx hb dL_pass_9 (by decide) ?_
  refine lv_iconst (pc := 15) hx hb dL_pass_15 kc_0 ?_
  exact xf_w (pc := 16) hx hb hr rfl hlocks h hR hK hS (Nat.le_of_ble_eq_true rfl) (Nat.le_of_ble_eq_true rfl) dL_pass_16
set_option maxHeartbeats 1000000 in
set_option maxRecDepth 20000 in
theorem mL_redeem {l : Launch} (hls : l.stackTraces = false) {D : va_G} {ca : Nat → ClassId} {z : Nat} {G : xG} {X : va_W} {ad av : Nat → Nat} (hF : xFix z G X) (h0 : Nat) (p1 : Int32) (h2 : Nat) (k0 : xI_Coat G h0) (k2 : xI_Longs 1 G h2) {μ μ1 : xM} {r : Int32} (h : fL_redeem h0 p1 h2 μ = some (r, μ1)) : xMw l yL_redeem (xwh yL_redeem cL_redeem 4 (some .int) [(0, 9, 12, 32), (0, 9, 15, 17)]) 9 1 6 D ca z G X ad av [.ref h0, .int p1, .ref h2] μ r μ1 := by
  refine xm_w (by decide) rfl (Nat.le_of_ble_eq_true rfl) [(0, .ref h0), (1, .int p1), (2, .ref h2)] rfl ?_
  intro p e s m args below meth c ls hx hb hr hml hlocks hT hts hown hK hE hR hS hl
  have hts : ∀ w ∈ xAll, w.before args s = true := fun w hw => hts w (List.mem_cons_of_mem _ hw)
  rw [fL_redeem] at h
  refine lv_aload_n (pc := 0) hx hb dL_redeem_0 rfl (lv_at hl 2 rfl) ?_
  refine lv_iconst (pc := 1) hx hb dL_redeem_1 kc_0 ?_
  refine lv_aload_n (pc := 2) hx hb dL_redeem_2 rfl (lv_at hl 0 rfl) ?_
  refine lv_iload_n (pc := 3) hx hb dL_redeem_3 rfl (lv_at hl 1 rfl) ?_
  rcases xch_inv h with ⟨r1, m1, c1, h⟩ | ⟨e1, r1, m1, c1, h⟩
  rotate_left
  · by_cases z2 : e1 + 1 = 4
    · have h := xpos z2 h
      obtain rfl : e1 = 3 := by omega
      refine xz_iV (pc := 4) (As := [.int _]) (rest := [.int _, .ref _]) ⟨hx, hb, hml, hown, hts⟩ (mX7_redeem hls hF _ _ k0 c1) (xcwV 1 hts fdX7_redeem q_m_L_29 ⟨Nat.le_of_ble_eq_true rfl, Nat.le_of_ble_eq_true rfl⟩) (xRecv hK hR (ci := 11) rfl k0.1) hR hK hE hS rfl hl.1 rfl (Nat.le_of_ble_eq_true rfl) dL_redeem_4 ⟨Nat.le_of_ble_eq_true rfl, Nat.le_of_ble_eq_true rfl⟩ (fun ce q9 H locs hR hS h1 h2 h3 => ?_)
      refine xCatch hT hown hE [] ⟨0, 9, 12, 32⟩ [⟨0, 9, 15, 17⟩] rfl 3 (by decide) (fun w hw => absurd hw List.not_mem_nil) (by decide) (by decide) (hts _ q_Lc_32) (List.mem_of_getElem? (i := 9) rfl) h1 h2 h3 ?_
      refine lv_astore_n (pc := 12) (lv' := [(3, .ref _), (0, .ref _), (1, .int _), (2, .ref _)]) hx hb dL_redeem_12 rfl hl (Nat.le_of_ble_eq_true rfl) rfl (fun ls hl => ?_)
      refine lv_iconst (pc := 13) hx hb dL_redeem_13 kc_1 ?_
      exact xf_w (pc := 14) hx hb hr rfl hlocks h hR hK hS (Nat.le_of_ble_eq_true rfl) (Nat.le_of_ble_eq_true rfl) dL_redeem_14
    have h := xneg z2 h
    by_cases z3 : e1 + 1 = 3
    · have h := xpos z3 h
      obtain rfl : e1 = 2 := by omega
      refine xz_iV (pc := 4) (As := [.int _]) (rest := [.int _, .ref _]) ⟨hx, hb, hml, hown, hts⟩ (mX7_redeem hls hF _ _ k0 c1) (xcwV 1 hts fdX7_redeem q_m_L_29 ⟨Nat.le_of_ble_eq_true rfl, Nat.le_of_ble_eq_true rfl⟩) (xRecv hK hR (ci := 11) rfl k0.1) hR hK hE hS rfl hl.1 rfl (Nat.le_of_ble_eq_true rfl) dL_redeem_4 ⟨Nat.le_of_ble_eq_true rfl, Nat.le_of_ble_eq_true rfl⟩ (fun ce q9 H locs hR hS h1 h2 h3 => ?_)
      refine xCatch hT hown hE [⟨0, 9, 12, 32⟩] ⟨0, 9, 15, 17⟩ [] rfl 2 (by decide) (List.forall_mem_cons.mpr ⟨⟨by decide, 3, by decide, by decide, hts _ q_Lc_32⟩, (fun w hw => absurd hw List.not_mem_nil)⟩) (by decide) (by decide) (hts _ q_Lc_17) (List.mem_of_getElem? (i := 8) rfl) h1 h2 h3 ?_
      refine lv_astore_n (pc := 15) (lv' := [(3, .ref _), (0, .ref _), (1, .int _), (2, .ref _)]) hx hb dL_redeem_15 rfl hl (Nat.le_of_ble_eq_true rfl) rfl (fun ls hl => ?_)
      refine lv_iconst (pc := 16) hx hb dL_redeem_16 kc_2 ?_
      exact xf_w (pc := 17) hx hb hr rfl hlocks h hR hK hS (Nat.le_of_ble_eq_true rfl) (Nat.le_of_ble_eq_true rfl) dL_redeem_17
    have h := xneg z3 h
    cases h
  refine xy_iV (pc := 4) (As := [.int _]) (rest := [.int _, .ref _]) ⟨hx, hb, hml, hown, hts⟩ (mX7_redeem hls hF _ _ k0 c1) (xcwV 1 hts fdX7_redeem q_m_L_29 ⟨Nat.le_of_ble_eq_true rfl, Nat.le_of_ble_eq_true rfl⟩) (xRecv hK hR (ci := 11) rfl k0.1) hR hK hE hS rfl hl.1 rfl (Nat.le_of_ble_eq_true rfl) dL_redeem_4 ⟨Nat.le_of_ble_eq_true rfl, Nat.le_of_ble_eq_true rfl⟩ (fun H locs hR hS => ?_)
  refine lv_i2l (pc := 7) hx hb dL_redeem_7 rfl ?_
  refine xr_lastk (pc := 8) 0 hx hb hK hR hF hS k2.1 k2.2 tn_0 (vl_0 (by decide)) dL_redeem_8 (fun H locs hR hS => ?_)
  refine lv_goto (pc := 9) (tgt := 18) hx hb dL_redeem_9 (by decide) ?_
  refine lv_iconst (pc := 18) hx hb dL_redeem_18 kc_0 ?_
  exact xf_w (pc := 19) hx hb hr rfl hlocks h hR hK hS (Nat.le_of_ble_eq_true rfl) (Nat.le_of_ble_eq_true rfl) dL_redeem_19
set_option maxHeartbeats 1000000 in
set_option maxRecDepth 20000 in
theorem mL_pay {l : Launch} (hls : l.stackTraces = false) {D : va_G} {ca : Nat → ClassId} {z : Nat} {G : xG} {X : va_W} {ad av : Nat → Nat} (hF : xFix z G X) (h0 : Nat) (p1 : Int32) (p2 : Int32) (h3 : Nat) (k0 : xI_Coat G h0) (k3 : xI_Longs 1 G h3) {μ μ1 : xM} {r : Int32} (h : fL_pay h0 p1 p2 h3 μ = some (r, μ1)) : xMw l yL_pay (xwh yL_pay cL_pay 5 (some .int) [(0, 10, 13, 32), (0, 10, 17, 15), (0, 10, 21, 17)]) 9 1 6 D ca z G X ad av [.ref h0, .int p1, .int p2, .ref h3] μ r μ1 := by
  refine xm_w (by decide) rfl (Nat.le_of_ble_eq_true rfl) [(0, .ref h0), (1, .int p1), (2, .int p2), (3, .ref h3)] rfl ?_
  intro p e s m args below meth c ls hx hb hr hml hlocks hT hts hown hK hE hR hS hl
  have hts : ∀ w ∈ xAll, w.before args s = true := fun w hw => hts w (List.mem_cons_of_mem _ hw)
  rw [fL_pay] at h
  refine lv_aload_n (pc := 0) hx hb dL_pay_0 rfl (lv_at hl 3 rfl) ?_
  refine lv_iconst (pc := 1) hx hb dL_pay_1 kc_0 ?_
  refine lv_aload_n (pc := 2) hx hb dL_pay_2 rfl (lv_at hl 0 rfl) ?_
  refine lv_iload_n (pc := 3) hx hb dL_pay_3 rfl (lv_at hl 1 rfl) ?_
  refine lv_iload_n (pc := 4) hx hb dL_pay_4 rfl (lv_at hl 2 rfl) ?_
  rcases xch_inv h with ⟨r1, m1, c1, h⟩ | ⟨e1, r1, m1, c1, h⟩
  rotate_left
  · by_cases z2 : e1 + 1 = 4
    · have h := xpos z2 h
      obtain rfl : e1 = 3 := by omega
      refine xz_iV (pc := 5) (As := [.int _, .int _]) (rest := [.int _, .ref _]) ⟨hx, hb, hml, hown, hts⟩ (mX7_pay hls hF _ _ _ k0 c1) (xcwV 2 hts fdX7_pay q_m_L_34 ⟨Nat.le_of_ble_eq_true rfl, Nat.le_of_ble_eq_true rfl⟩) (xRecv hK hR (ci := 11) rfl k0.1) hR hK hE hS rfl hl.1 rfl (Nat.le_of_ble_eq_true rfl) dL_pay_5 ⟨Nat.le_of_ble_eq_true rfl, Nat.le_of_ble_eq_true rfl⟩ (fun ce q9 H locs hR hS h1 h2 h3 => ?_)
      refine xCatch hT hown hE [] ⟨0, 10, 13, 32⟩ [⟨0, 10, 17, 15⟩, ⟨0, 10, 21, 17⟩] rfl 3 (by decide) (fun w hw => absurd hw List.not_mem_nil) (by decide) (by decide) (hts _ q_Lc_32) (List.mem_of_getElem? (i := 9) rfl) h1 h2 h3 ?_
      refine lv_astore (pc := 13) (lv' := [(4, .ref _), (0, .ref _), (1, .int _), (2, .int _), (3, .ref _)]) hx hb dL_pay_13 hl (Nat.le_of_ble_eq_true rfl) rfl (fun ls hl => ?_)
      refine lv_iconst (pc := 15) hx hb dL_pay_15 kc_1 ?_
      exact xf_w (pc := 16) hx hb hr rfl hlocks h hR hK hS (Nat.le_of_ble_eq_true rfl) (Nat.le_of_ble_eq_true rfl) dL_pay_16
    have h := xneg z2 h
    by_cases z3 : e1 + 1 = 2
    · have h := xpos z3 h
      obtain rfl : e1 = 1 := by omega
      refine xz_iV (pc := 5) (As := [.int _, .int _]) (rest := [.int _, .ref _]) ⟨hx, hb, hml, hown, hts⟩ (mX7_pay hls hF _ _ _ k0 c1) (xcwV 2 hts fdX7_pay q_m_L_34 ⟨Nat.le_of_ble_eq_true rfl, Nat.le_of_ble_eq_true rfl⟩) (xRecv hK hR (ci := 11) rfl k0.1) hR hK hE hS rfl hl.1 rfl (Nat.le_of_ble_eq_true rfl) dL_pay_5 ⟨Nat.le_of_ble_eq_true rfl, Nat.le_of_ble_eq_true rfl⟩ (fun ce q9 H locs hR hS h1 h2 h3 => ?_)
      refine xCatch hT hown hE [⟨0, 10, 13, 32⟩] ⟨0, 10, 17, 15⟩ [⟨0, 10, 21, 17⟩] rfl 1 (by decide) (List.forall_mem_cons.mpr ⟨⟨by decide, 3, by decide, by decide, hts _ q_Lc_32⟩, (fun w hw => absurd hw List.not_mem_nil)⟩) (by decide) (by decide) (hts _ q_Lc_15) (List.mem_of_getElem? (i := 7) rfl) h1 h2 h3 ?_
      refine lv_astore (pc := 17) (lv' := [(4, .ref _), (0, .ref _), (1, .int _), (2, .int _), (3, .ref _)]) hx hb dL_pay_17 hl (Nat.le_of_ble_eq_true rfl) rfl (fun ls hl => ?_)
      refine lv_iconst (pc := 19) hx hb dL_pay_19 kc_2 ?_
      exact xf_w (pc := 20) hx hb hr rfl hlocks h hR hK hS (Nat.le_of_ble_eq_true rfl) (Nat.le_of_ble_eq_true rfl) dL_pay_20
    have h := xneg z3 h
    by_cases z4 : e1 + 1 = 3
    · have h := xpos z4 h
      obtain rfl : e1 = 2 := by omega
      refine xz_iV (pc := 5) (As := [.int _, .int _]) (rest := [.int _, .ref _]) ⟨hx, hb, hml, hown, hts⟩ (mX7_pay hls hF _ _ _ k0 c1) (xcwV 2 hts fdX7_pay q_m_L_34 ⟨Nat.le_of_ble_eq_true rfl, Nat.le_of_ble_eq_true rfl⟩) (xRecv hK hR (ci := 11) rfl k0.1) hR hK hE hS rfl hl.1 rfl (Nat.le_of_ble_eq_true rfl) dL_pay_5 ⟨Nat.le_of_ble_eq_true rfl, Nat.le_of_ble_eq_true rfl⟩ (fun ce q9 H locs hR hS h1 h2 h3 => ?_)
      refine xCatch hT hown hE [⟨0, 10, 13, 32⟩, ⟨0, 10, 17, 15⟩] ⟨0, 10, 21, 17⟩ [] rfl 2 (by decide) (List.forall_mem_cons.mpr ⟨⟨by decide, 3, by decide, by decide, hts _ q_Lc_32⟩, (List.forall_mem_cons.mpr ⟨⟨by decide, 1, by decide, by decide, hts _ q_Lc_15⟩, (fun w hw => absurd hw List.not_mem_nil)⟩)⟩) (by decide) (by decide) (hts _ q_Lc_17) (List.mem_of_getElem? (i := 8) rfl) h1 h2 h3 ?_
      refine lv_astore (pc := 21) (lv' := [(4, .ref _), (0, .ref _), (1, .int _), (2, .int _), (3, .ref _)]) hx hb dL_pay_21 hl (Nat.le_of_ble_eq_true rfl) rfl (fun ls hl => ?_)
      refine lv_iconst (pc := 23) hx hb dL_pay_23 kc_3 ?_
      exact xf_w (pc := 24) hx hb hr rfl hlocks h hR hK hS (Nat.le_of_ble_eq_true rfl) (Nat.le_of_ble_eq_true rfl) dL_pay_24
    have h := xneg z4 h
    cases h
  refine xy_iV (pc := 5) (As := [.int _, .int _]) (rest := [.int _, .ref _]) ⟨hx, hb, hml, hown, hts⟩ (mX7_pay hls hF _ _ _ k0 c1) (xcwV 2 hts fdX7_pay q_m_L_34 ⟨Nat.le_of_ble_eq_true rfl, Nat.le_of_ble_eq_true rfl⟩) (xRecv hK hR (ci := 11) rfl k0.1) hR hK hE hS rfl hl.1 rfl (Nat.le_of_ble_eq_true rfl) dL_pay_5 ⟨Nat.le_of_ble_eq_true rfl, Nat.le_of_ble_eq_true rfl⟩ (fun H locs hR hS => ?_)
  refine lv_i2l (pc := 8) hx hb dL_pay_8 rfl ?_
  refine xr_lastk (pc := 9) 0 hx hb hK hR hF hS k3.1 k3.2 tn_0 (vl_0 (by decide)) dL_pay_9 (fun H locs hR hS => ?_)
  refine lv_goto (pc := 10) (tgt := 25) hx hb dL_pay_10 (by decide) ?_
  refine lv_iconst (pc := 25) hx hb dL_pay_25 kc_0 ?_
  exact xf_w (pc := 26) hx hb hr rfl hlocks h hR hK hS (Nat.le_of_ble_eq_true rfl) (Nat.le_of_ble_eq_true rfl) dL_pay_26
set_option maxHeartbeats 1000000 in
set_option maxRecDepth 20000 in
theorem mL_renew {l : Launch} (hls : l.stackTraces = false) {D : va_G} {ca : Nat → ClassId} {z : Nat} {G : xG} {X : va_W} {ad av : Nat → Nat} (hF : xFix z G X) (h0 : Nat) (p1 : Int32) (h2 : Nat) (k0 : xI_Coat G h0) (k2 : xI_Longs 1 G h2) {μ μ1 : xM} {r : Int32} (h : fL_renew h0 p1 h2 μ = some (r, μ1)) : xMw l yL_renew (xwh yL_renew cL_renew 4 (some .int) [(0, 9, 12, 32), (0, 9, 15, 17)]) 9 1 6 D ca z G X ad av [.ref h0, .int p1, .ref h2] μ r μ1 := by
  refine xm_w (by decide) rfl (Nat.le_of_ble_eq_true rfl) [(0, .ref h0), (1, .int p1), (2, .ref h2)] rfl ?_
  intro p e s m args below meth c ls hx hb hr hml hlocks hT hts hown hK hE hR hS hl
  have hts : ∀ w ∈ xAll, w.before args s = true := fun w hw => hts w (List.mem_cons_of_mem _ hw)
  rw [fL_renew] at h
  refine lv_aload_n (pc := 0) hx hb dL_renew_0 rfl (lv_at hl 2 rfl) ?_
  refine lv_iconst (pc := 1) hx hb dL_renew_1 kc_0 ?_
  refine lv_aload_n (pc := 2) hx hb dL_renew_2 rfl (lv_at hl 0 rfl) ?_
  refine lv_iload_n (pc := 3) hx hb dL_renew_3 rfl (lv_at hl 1 rfl) ?_
  rcases xch_inv h with ⟨r1, m1, c1, h⟩ | ⟨e1, r1, m1, c1, h⟩
  rotate_left
  · by_cases z2 : e1 + 1 = 4
    · have h := xpos z2 h
      obtain rfl : e1 = 3 := by omega
      refine xz_iV (pc := 4) (As := [.int _]) (rest := [.int _, .ref _]) ⟨hx, hb, hml, hown, hts⟩ (mX7_renew hls hF _ _ k0 c1) (xcwV 1 hts fdX7_renew q_m_L_38 ⟨Nat.le_of_ble_eq_true rfl, Nat.le_of_ble_eq_true rfl⟩) (xRecv hK hR (ci := 11) rfl k0.1) hR hK hE hS rfl hl.1 rfl (Nat.le_of_ble_eq_true rfl) dL_renew_4 ⟨Nat.le_of_ble_eq_true rfl, Nat.le_of_ble_eq_true rfl⟩ (fun ce q9 H locs hR hS h1 h2 h3 => ?_)
      refine xCatch hT hown hE [] ⟨0, 9, 12, 32⟩ [⟨0, 9, 15, 17⟩] rfl 3 (by decide) (fun w hw => absurd hw List.not_mem_nil) (by decide) (by decide) (hts _ q_Lc_32) (List.mem_of_getElem? (i := 9) rfl) h1 h2 h3 ?_
      refine lv_astore_n (pc := 12) (lv' := [(3, .ref _), (0, .ref _), (1, .int _), (2, .ref _)]) hx hb dL_renew_12 rfl hl (Nat.le_of_ble_eq_true rfl) rfl (fun ls hl => ?_)
      refine lv_iconst (pc := 13) hx hb dL_renew_13 kc_1 ?_
      exact xf_w (pc := 14) hx hb hr rfl hlocks h hR hK hS (Nat.le_of_ble_eq_true rfl) (Nat.le_of_ble_eq_true rfl) dL_renew_14
    have h := xneg z2 h
    by_cases z3 : e1 + 1 = 3
    · have h := xpos z3 h
      obtain rfl : e1 = 2 := by omega
      refine xz_iV (pc := 4) (As := [.int _]) (rest := [.int _, .ref _]) ⟨hx, hb, hml, hown, hts⟩ (mX7_renew hls hF _ _ k0 c1) (xcwV 1 hts fdX7_renew q_m_L_38 ⟨Nat.le_of_ble_eq_true rfl, Nat.le_of_ble_eq_true rfl⟩) (xRecv hK hR (ci := 11) rfl k0.1) hR hK hE hS rfl hl.1 rfl (Nat.le_of_ble_eq_true rfl) dL_renew_4 ⟨Nat.le_of_ble_eq_true rfl, Nat.le_of_ble_eq_true rfl⟩ (fun ce q9 H locs hR hS h1 h2 h3 => ?_)
      refine xCatch hT hown hE [⟨0, 9, 12, 32⟩] ⟨0, 9, 15, 17⟩ [] rfl 2 (by decide) (List.forall_mem_cons.mpr ⟨⟨by decide, 3, by decide, by decide, hts _ q_Lc_32⟩, (fun w hw => absurd hw List.not_mem_nil)⟩) (by decide) (by decide) (hts _ q_Lc_17) (List.mem_of_getElem? (i := 8) rfl) h1 h2 h3 ?_
      refine lv_astore_n (pc := 15) (lv' := [(3, .ref _), (0, .ref _), (1, .int _), (2, .ref _)]) hx hb dL_renew_15 rfl hl (Nat.le_of_ble_eq_true rfl) rfl (fun ls hl => ?_)
      refine lv_iconst (pc := 16) hx hb dL_renew_16 kc_2 ?_
      exact xf_w (pc := 17) hx hb hr rfl hlocks h hR hK hS (Nat.le_of_ble_eq_true rfl) (Nat.le_of_ble_eq_true rfl) dL_renew_17
    have h := xneg z3 h
    cases h
  refine xy_iV (pc := 4) (As := [.int _]) (rest := [.int _, .ref _]) ⟨hx, hb, hml, hown, hts⟩ (mX7_renew hls hF _ _ k0 c1) (xcwV 1 hts fdX7_renew q_m_L_38 ⟨Nat.le_of_ble_eq_true rfl, Nat.le_of_ble_eq_true rfl⟩) (xRecv hK hR (ci := 11) rfl k0.1) hR hK hE hS rfl hl.1 rfl (Nat.le_of_ble_eq_true rfl) dL_renew_4 ⟨Nat.le_of_ble_eq_true rfl, Nat.le_of_ble_eq_true rfl⟩ (fun H locs hR hS => ?_)
  refine lv_i2l (pc := 7) hx hb dL_renew_7 rfl ?_
  refine xr_lastk (pc := 8) 0 hx hb hK hR hF hS k2.1 k2.2 tn_0 (vl_0 (by decide)) dL_renew_8 (fun H locs hR hS => ?_)
  refine lv_goto (pc := 9) (tgt := 18) hx hb dL_renew_9 (by decide) ?_
  refine lv_iconst (pc := 18) hx hb dL_renew_18 kc_0 ?_
  exact xf_w (pc := 19) hx hb hr rfl hlocks h hR hK hS (Nat.le_of_ble_eq_true rfl) (Nat.le_of_ble_eq_true rfl) dL_renew_19
set_option maxHeartbeats 1000000 in
set_option maxRecDepth 20000 in
theorem mL_pledgeOf {l : Launch} (hls : l.stackTraces = false) {D : va_G} {ca : Nat → ClassId} {z : Nat} {G : xG} {X : va_W} {ad av : Nat → Nat} (hF : xFix z G X) (h0 : Nat) (p1 : Int32) (p2 : Int32) (h3 : Nat) (k0 : xI_Coat G h0) (k3 : xI_Longs 1 G h3) {μ μ1 : xM} {r : Int32} (h : fL_pledgeOf h0 p1 p2 h3 μ = some (r, μ1)) : xMw l yL_pledgeOf (xwh yL_pledgeOf cL_pledgeOf 5 (some .int) [(0, 10, 13, 32), (0, 10, 17, 15)]) 8 2 12 D ca z G X ad av [.ref h0, .int p1, .int p2, .ref h3] μ r μ1 := by
  refine xm_w (by decide) rfl (Nat.le_of_ble_eq_true rfl) [(0, .ref h0), (1, .int p1), (2, .int p2), (3, .ref h3)] rfl ?_
  intro p e s m args below meth c ls hx hb hr hml hlocks hT hts hown hK hE hR hS hl
  have hts : ∀ w ∈ xAll, w.before args s = true := fun w hw => hts w (List.mem_cons_of_mem _ hw)
  rw [fL_pledgeOf] at h
  refine lv_aload_n (pc := 0) hx hb dL_pledgeOf_0 rfl (lv_at hl 3 rfl) ?_
  refine lv_iconst (pc := 1) hx hb dL_pledgeOf_1 kc_0 ?_
  refine lv_aload_n (pc := 2) hx hb dL_pledgeOf_2 rfl (lv_at hl 0 rfl) ?_
  refine lv_iload_n (pc := 3) hx hb dL_pledgeOf_3 rfl (lv_at hl 1 rfl) ?_
  refine lv_iload_n (pc := 4) hx hb dL_pledgeOf_4 rfl (lv_at hl 2 rfl) ?_
  rcases xch_inv h with ⟨r1, m1, c1, h⟩ | ⟨e1, r1, m1, c1, h⟩
  rotate_left
  · by_cases z2 : e1 + 1 = 4
    · have h := xpos z2 h
      obtain rfl : e1 = 3 := by omega
      refine xz_iV (pc := 5) (As := [.int _, .int _]) (rest := [.int _, .ref _]) ⟨hx, hb, hml, hown, hts⟩ (mX7_pledgeOf hls hF _ _ _ k0 c1) (xcwV 2 hts fdX7_pledgeOf q_m_L_41 ⟨Nat.le_of_ble_eq_true rfl, Nat.le_of_ble_eq_true rfl⟩) (xRecv hK hR (ci := 11) rfl k0.1) hR hK hE hS rfl hl.1 rfl (Nat.le_of_ble_eq_true rfl) dL_pledgeOf_5 ⟨Nat.le_of_ble_eq_true rfl, Nat.le_of_ble_eq_true rfl⟩ (fun ce q9 H locs hR hS h1 h2 h3 => ?_)
      refine xCatch hT hown hE [] ⟨0, 10, 13, 32⟩ [⟨0, 10, 17, 15⟩] rfl 3 (by decide) (fun w hw => absurd hw List.not_mem_nil) (by decide) (by decide) (hts _ q_Lc_32) (List.mem_of_getElem? (i := 9) rfl) h1 h2 h3 ?_
      refine lv_astore (pc := 13) (lv' := [(4, .ref _), (0, .ref _), (1, .int _), (2, .int _), (3, .ref _)]) hx hb dL_pledgeOf_13 hl (Nat.le_of_ble_eq_true rfl) rfl (fun ls hl => ?_)
      refine lv_iconst (pc := 15) hx hb dL_pledgeOf_15 kc_1 ?_
      exact xf_w (pc := 16) hx hb hr rfl hlocks h hR hK hS (Nat.le_of_ble_eq_true rfl) (Nat.le_of_ble_eq_true rfl) dL_pledgeOf_16
    have h := xneg z2 h
    by_cases z3 : e1 + 1 = 2
    · have h := xpos z3 h
      obtain rfl : e1 = 1 := by omega
      refine xz_iV (pc := 5) (As := [.int _, .int _]) (rest := [.int _, .ref _]) ⟨hx, hb, hml, hown, hts⟩ (mX7_pledgeOf hls hF _ _ _ k0 c1) (xcwV 2 hts fdX7_pledgeOf q_m_L_41 ⟨Nat.le_of_ble_eq_true rfl, Nat.le_of_ble_eq_true rfl⟩) (xRecv hK hR (ci := 11) rfl k0.1) hR hK hE hS rfl hl.1 rfl (Nat.le_of_ble_eq_true rfl) dL_pledgeOf_5 ⟨Nat.le_of_ble_eq_true rfl, Nat.le_of_ble_eq_true rfl⟩ (fun ce q9 H locs hR hS h1 h2 h3 => ?_)
      refine xCatch hT hown hE [⟨0, 10, 13, 32⟩] ⟨0, 10, 17, 15⟩ [] rfl 1 (by decide) (List.forall_mem_cons.mpr ⟨⟨by decide, 3, by decide, by decide, hts _ q_Lc_32⟩, (fun w hw => absurd hw List.not_mem_nil)⟩) (by decide) (by decide) (hts _ q_Lc_15) (List.mem_of_getElem? (i := 7) rfl) h1 h2 h3 ?_
      refine lv_astore (pc := 17) (lv' := [(4, .ref _), (0, .ref _), (1, .int _), (2, .int _), (3, .ref _)]) hx hb dL_pledgeOf_17 hl (Nat.le_of_ble_eq_true rfl) rfl (fun ls hl => ?_)
      refine lv_iconst (pc := 19) hx hb dL_pledgeOf_19 kc_2 ?_
      exact xf_w (pc := 20) hx hb hr rfl hlocks h hR hK hS (Nat.le_of_ble_eq_true rfl) (Nat.le_of_ble_eq_true rfl) dL_pledgeOf_20
    have h := xneg z3 h
    cases h
  refine xy_iV (pc := 5) (As := [.int _, .int _]) (rest := [.int _, .ref _]) ⟨hx, hb, hml, hown, hts⟩ (mX7_pledgeOf hls hF _ _ _ k0 c1) (xcwV 2 hts fdX7_pledgeOf q_m_L_41 ⟨Nat.le_of_ble_eq_true rfl, Nat.le_of_ble_eq_true rfl⟩) (xRecv hK hR (ci := 11) rfl k0.1) hR hK hE hS rfl hl.1 rfl (Nat.le_of_ble_eq_true rfl) dL_pledgeOf_5 ⟨Nat.le_of_ble_eq_true rfl, Nat.le_of_ble_eq_true rfl⟩ (fun H locs hR hS => ?_)
  refine lv_i2l (pc := 8) hx hb dL_pledgeOf_8 rfl ?_
  refine xr_lastk (pc := 9) 0 hx hb hK hR hF hS k3.1 k3.2 tn_0 (vl_0 (by decide)) dL_pledgeOf_9 (fun H locs hR hS => ?_)
  refine lv_goto (pc := 10) (tgt := 21) hx hb dL_pledgeOf_10 (by decide) ?_
  refine lv_iconst (pc := 21) hx hb dL_pledgeOf_21 kc_0 ?_
  exact xf_w (pc := 22) hx hb hr rfl hlocks h hR hK hS (Nat.le_of_ble_eq_true rfl) (Nat.le_of_ble_eq_true rfl) dL_pledgeOf_22
set_option maxHeartbeats 1000000 in
set_option maxRecDepth 20000 in
theorem mL_sell {l : Launch} (hls : l.stackTraces = false) {D : va_G} {ca : Nat → ClassId} {z : Nat} {G : xG} {X : va_W} {ad av : Nat → Nat} (hF : xFix z G X) (h0 : Nat) (p1 : Int32) (p2 : Int32) (h3 : Nat) (k0 : xI_Coat G h0) (k3 : xI_Longs 1 G h3) {μ μ1 : xM} {r : Int32} (h : fL_sell h0 p1 p2 h3 μ = some (r, μ1)) : xMw l yL_sell (xwh yL_sell cL_sell 5 (some .int) [(0, 10, 13, 32), (0, 10, 17, 15), (0, 10, 21, 17)]) 9 1 6 D ca z G X ad av [.ref h0, .int p1, .int p2, .ref h3] μ r μ1 := by
  refine xm_w (by decide) rfl (Nat.le_of_ble_eq_true rfl) [(0, .ref h0), (1, .int p1), (2, .int p2), (3, .ref h3)] rfl ?_
  intro p e s m args below meth c ls hx hb hr hml hlocks hT hts hown hK hE hR hS hl
  have hts : ∀ w ∈ xAll, w.before args s = true := fun w hw => hts w (List.mem_cons_of_mem _ hw)
  rw [fL_sell] at h
  refine lv_aload_n (pc := 0) hx hb dL_sell_0 rfl (lv_at hl 3 rfl) ?_
  refine lv_iconst (pc := 1) hx hb dL_sell_1 kc_0 ?_
  refine lv_aload_n (pc := 2) hx hb dL_sell_2 rfl (lv_at hl 0 rfl) ?_
  refine lv_iload_n (pc := 3) hx hb dL_sell_3 rfl (lv_at hl 1 rfl) ?_
  refine lv_iload_n (pc := 4) hx hb dL_sell_4 rfl (lv_at hl 2 rfl) ?_
  rcases xch_inv h with ⟨r1, m1, c1, h⟩ | ⟨e1, r1, m1, c1, h⟩
  rotate_left
  · by_cases z2 : e1 + 1 = 4
    · have h := xpos z2 h
      obtain rfl : e1 = 3 := by omega
      refine xz_iV (pc := 5) (As := [.int _, .int _]) (rest := [.int _, .ref _]) ⟨hx, hb, hml, hown, hts⟩ (mX7_sell hls hF _ _ _ k0 c1) (xcwV 2 hts fdX7_sell q_m_L_44 ⟨Nat.le_of_ble_eq_true rfl, Nat.le_of_ble_eq_true rfl⟩) (xRecv hK hR (ci := 11) rfl k0.1) hR hK hE hS rfl hl.1 rfl (Nat.le_of_ble_eq_true rfl) dL_sell_5 ⟨Nat.le_of_ble_eq_true rfl, Nat.le_of_ble_eq_true rfl⟩ (fun ce q9 H locs hR hS h1 h2 h3 => ?_)
      refine xCatch hT hown hE [] ⟨0, 10, 13, 32⟩ [⟨0, 10, 17, 15⟩, ⟨0, 10, 21, 17⟩] rfl 3 (by decide) (fun w hw => absurd hw List.not_mem_nil) (by decide) (by decide) (hts _ q_Lc_32) (List.mem_of_getElem? (i := 9) rfl) h1 h2 h3 ?_
      refine lv_astore (pc := 13) (lv' := [(4, .ref _), (0, .ref _), (1, .int _), (2, .int _), (3, .ref _)]) hx hb dL_sell_13 hl (Nat.le_of_ble_eq_true rfl) rfl (fun ls hl => ?_)
      refine lv_iconst (pc := 15) hx hb dL_sell_15 kc_1 ?_
      exact xf_w (pc := 16) hx hb hr rfl hlocks h hR hK hS (Nat.le_of_ble_eq_true rfl) (Nat.le_of_ble_eq_true rfl) dL_sell_16
    have h := xneg z2 h
    by_cases z3 : e1 + 1 = 2
    · have h := xpos z3 h
      obtain rfl : e1 = 1 := by omega
      refine xz_iV (pc := 5) (As := [.int _, .int _]) (rest := [.int _, .ref _]) ⟨hx, hb, hml, hown, hts⟩ (mX7_sell hls hF _ _ _ k0 c1) (xcwV 2 hts fdX7_sell q_m_L_44 ⟨Nat.le_of_ble_eq_true rfl, Nat.le_of_ble_eq_true rfl⟩) (xRecv hK hR (ci := 11) rfl k0.1) hR hK hE hS rfl hl.1 rfl (Nat.le_of_ble_eq_true rfl) dL_sell_5 ⟨Nat.le_of_ble_eq_true rfl, Nat.le_of_ble_eq_true rfl⟩ (fun ce q9 H locs hR hS h1 h2 h3 => ?_)
      refine xCatch hT hown hE [⟨0, 10, 13, 32⟩] ⟨0, 10, 17, 15⟩ [⟨0, 10, 21, 17⟩] rfl 1 (by decide) (List.forall_mem_cons.mpr ⟨⟨by decide, 3, by decide, by decide, hts _ q_Lc_32⟩, (fun w hw => absurd hw List.not_mem_nil)⟩) (by decide) (by decide) (hts _ q_Lc_15) (List.mem_of_getElem? (i := 7) rfl) h1 h2 h3 ?_
      refine lv_astore (pc := 17) (lv' := [(4, .ref _), (0, .ref _), (1, .int _), (2, .int _), (3, .ref _)]) hx hb dL_sell_17 hl (Nat.le_of_ble_eq_true rfl) rfl (fun ls hl => ?_)
      refine lv_iconst (pc := 19) hx hb dL_sell_19 kc_2 ?_
      exact xf_w (pc := 20) hx hb hr rfl hlocks h hR hK hS (Nat.le_of_ble_eq_true rfl) (Nat.le_of_ble_eq_true rfl) dL_sell_20
    have h := xneg z3 h
    by_cases z4 : e1 + 1 = 3
    · have h := xpos z4 h
      obtain rfl : e1 = 2 := by omega
      refine xz_iV (pc := 5) (As := [.int _, .int _]) (rest := [.int _, .ref _]) ⟨hx, hb, hml, hown, hts⟩ (mX7_sell hls hF _ _ _ k0 c1) (xcwV 2 hts fdX7_sell q_m_L_44 ⟨Nat.le_of_ble_eq_true rfl, Nat.le_of_ble_eq_true rfl⟩) (xRecv hK hR (ci := 11) rfl k0.1) hR hK hE hS rfl hl.1 rfl (Nat.le_of_ble_eq_true rfl) dL_sell_5 ⟨Nat.le_of_ble_eq_true rfl, Nat.le_of_ble_eq_true rfl⟩ (fun ce q9 H locs hR hS h1 h2 h3 => ?_)
      refine xCatch hT hown hE [⟨0, 10, 13, 32⟩, ⟨0, 10, 17, 15⟩] ⟨0, 10, 21, 17⟩ [] rfl 2 (by decide) (List.forall_mem_cons.mpr ⟨⟨by decide, 3, by decide, by decide, hts _ q_Lc_32⟩, (List.forall_mem_cons.mpr ⟨⟨by decide, 1, by decide, by decide, hts _ q_Lc_15⟩, (fun w hw => absurd hw List.not_mem_nil)⟩)⟩) (by decide) (by decide) (hts _ q_Lc_17) (List.mem_of_getElem? (i := 8) rfl) h1 h2 h3 ?_
      refine lv_astore (pc := 21) (lv' := [(4, .ref _), (0, .ref _), (1, .int _), (2, .int _), (3, .ref _)]) hx hb dL_sell_21 hl (Nat.le_of_ble_eq_true rfl) rfl (fun ls hl => ?_)
      refine lv_iconst (pc := 23) hx hb dL_sell_23 kc_3 ?_
      exact xf_w (pc := 24) hx hb hr rfl hlocks h hR hK hS (Nat.le_of_ble_eq_true rfl) (Nat.le_of_ble_eq_true rfl) dL_sell_24
    have h := xneg z4 h
    cases h
  refine xy_iV (pc := 5) (As := [.int _, .int _]) (rest := [.int _, .ref _]) ⟨hx, hb, hml, hown, hts⟩ (mX7_sell hls hF _ _ _ k0 c1) (xcwV 2 hts fdX7_sell q_m_L_44 ⟨Nat.le_of_ble_eq_true rfl, Nat.le_of_ble_eq_true rfl⟩) (xRecv hK hR (ci := 11) rfl k0.1) hR hK hE hS rfl hl.1 rfl (Nat.le_of_ble_eq_true rfl) dL_sell_5 ⟨Nat.le_of_ble_eq_true rfl, Nat.le_of_ble_eq_true rfl⟩ (fun H locs hR hS => ?_)
  refine lv_i2l (pc := 8) hx hb dL_sell_8 rfl ?_
  refine xr_lastk (pc := 9) 0 hx hb hK hR hF hS k3.1 k3.2 tn_0 (vl_0 (by decide)) dL_sell_9 (fun H locs hR hS => ?_)
  refine lv_goto (pc := 10) (tgt := 25) hx hb dL_sell_10 (by decide) ?_
  refine lv_iconst (pc := 25) hx hb dL_sell_25 kc_0 ?_
  exact xf_w (pc := 26) hx hb hr rfl hlocks h hR hK hS (Nat.le_of_ble_eq_true rfl) (Nat.le_of_ble_eq_true rfl) dL_sell_26
set_option maxHeartbeats 1000000 in
set_option maxRecDepth 20000 in
theorem mL_claim {l : Launch} (hls : l.stackTraces = false) {D : va_G} {ca : Nat → ClassId} {z : Nat} {G : xG} {X : va_W} {ad av : Nat → Nat} (hF : xFix z G X) (h0 : Nat) (p1 : Int32) (h2 : Nat) (k0 : xI_Coat G h0) (k2 : xI_Longs 1 G h2) {μ μ1 : xM} {r : Int32} (h : fL_claim h0 p1 h2 μ = some (r, μ1)) : xMw l yL_claim (xwh yL_claim cL_claim 4 (some .int) [(0, 9, 12, 13), (0, 9, 15, 17)]) 9 1 6 D ca z G X ad av [.ref h0, .int p1, .ref h2] μ r μ1 := by
  refine xm_w (by decide) rfl (Nat.le_of_ble_eq_true rfl) [(0, .ref h0), (1, .int p1), (2, .ref h2)] rfl ?_
  intro p e s m args below meth c ls hx hb hr hml hlocks hT hts hown hK hE hR hS hl
  have hts : ∀ w ∈ xAll, w.before args s = true := fun w hw => hts w (List.mem_cons_of_mem _ hw)
  rw [fL_claim] at h
  refine lv_aload_n (pc := 0) hx hb dL_claim_0 rfl (lv_at hl 2 rfl) ?_
  refine lv_iconst (pc := 1) hx hb dL_claim_1 kc_0 ?_
  refine lv_aload_n (pc := 2) hx hb dL_claim_2 rfl (lv_at hl 0 rfl) ?_
  refine lv_iload_n (pc := 3) hx hb dL_claim_3 rfl (lv_at hl 1 rfl) ?_
  rcases xch_inv h with ⟨r1, m1, c1, h⟩ | ⟨e1, r1, m1, c1, h⟩
  rotate_left
  · by_cases z2 : e1 + 1 = 1
    · have h := xpos z2 h
      obtain rfl : e1 = 0 := by omega
      refine xz_iV (pc := 4) (As := [.int _]) (rest := [.int _, .ref _]) ⟨hx, hb, hml, hown, hts⟩ (mX7_claim hls hF _ _ k0 c1) (xcwV 1 hts fdX7_claim q_m_L_47 ⟨Nat.le_of_ble_eq_true rfl, Nat.le_of_ble_eq_true rfl⟩) (xRecv hK hR (ci := 11) rfl k0.1) hR hK hE hS rfl hl.1 rfl (Nat.le_of_ble_eq_true rfl) dL_claim_4 ⟨Nat.le_of_ble_eq_true rfl, Nat.le_of_ble_eq_true rfl⟩ (fun ce q9 H locs hR hS h1 h2 h3 => ?_)
      refine xCatch hT hown hE [] ⟨0, 9, 12, 13⟩ [⟨0, 9, 15, 17⟩] rfl 0 (by decide) (fun w hw => absurd hw List.not_mem_nil) (by decide) (by decide) (hts _ q_Lc_13) (List.mem_of_getElem? (i := 6) rfl) h1 h2 h3 ?_
      refine lv_astore_n (pc := 12) (lv' := [(3, .ref _), (0, .ref _), (1, .int _), (2, .ref _)]) hx hb dL_claim_12 rfl hl (Nat.le_of_ble_eq_true rfl) rfl (fun ls hl => ?_)
      refine lv_iconst (pc := 13) hx hb dL_claim_13 kc_1 ?_
      exact xf_w (pc := 14) hx hb hr rfl hlocks h hR hK hS (Nat.le_of_ble_eq_true rfl) (Nat.le_of_ble_eq_true rfl) dL_claim_14
    have h := xneg z2 h
    by_cases z3 : e1 + 1 = 3
    · have h := xpos z3 h
      obtain rfl : e1 = 2 := by omega
      refine xz_iV (pc := 4) (As := [.int _]) (rest := [.int _, .ref _]) ⟨hx, hb, hml, hown, hts⟩ (mX7_claim hls hF _ _ k0 c1) (xcwV 1 hts fdX7_claim q_m_L_47 ⟨Nat.le_of_ble_eq_true rfl, Nat.le_of_ble_eq_true rfl⟩) (xRecv hK hR (ci := 11) rfl k0.1) hR hK hE hS rfl hl.1 rfl (Nat.le_of_ble_eq_true rfl) dL_claim_4 ⟨Nat.le_of_ble_eq_true rfl, Nat.le_of_ble_eq_true rfl⟩ (fun ce q9 H locs hR hS h1 h2 h3 => ?_)
      refine xCatch hT hown hE [⟨0, 9, 12, 13⟩] ⟨0, 9, 15, 17⟩ [] rfl 2 (by decide) (List.forall_mem_cons.mpr ⟨⟨by decide, 0, by decide, by decide, hts _ q_Lc_13⟩, (fun w hw => absurd hw List.not_mem_nil)⟩) (by decide) (by decide) (hts _ q_Lc_17) (List.mem_of_getElem? (i := 8) rfl) h1 h2 h3 ?_
      refine lv_astore_n (pc := 15) (lv' := [(3, .ref _), (0, .ref _), (1, .int _), (2, .ref _)]) hx hb dL_claim_15 rfl hl (Nat.le_of_ble_eq_true rfl) rfl (fun ls hl => ?_)
      refine lv_iconst (pc := 16) hx hb dL_claim_16 kc_2 ?_
      exact xf_w (pc := 17) hx hb hr rfl hlocks h hR hK hS (Nat.le_of_ble_eq_true rfl) (Nat.le_of_ble_eq_true rfl) dL_claim_17
    have h := xneg z3 h
    cases h
  refine xy_iV (pc := 4) (As := [.int _]) (rest := [.int _, .ref _]) ⟨hx, hb, hml, hown, hts⟩ (mX7_claim hls hF _ _ k0 c1) (xcwV 1 hts fdX7_claim q_m_L_47 ⟨Nat.le_of_ble_eq_true rfl, Nat.le_of_ble_eq_true rfl⟩) (xRecv hK hR (ci := 11) rfl k0.1) hR hK hE hS rfl hl.1 rfl (Nat.le_of_ble_eq_true rfl) dL_claim_4 ⟨Nat.le_of_ble_eq_true rfl, Nat.le_of_ble_eq_true rfl⟩ (fun H locs hR hS => ?_)
  refine lv_i2l (pc := 7) hx hb dL_claim_7 rfl ?_
  refine xr_lastk (pc := 8) 0 hx hb hK hR hF hS k2.1 k2.2 tn_0 (vl_0 (by decide)) dL_claim_8 (fun H locs hR hS => ?_)
  refine lv_goto (pc := 9) (tgt := 18) hx hb dL_claim_9 (by decide) ?_
  refine lv_iconst (pc := 18) hx hb dL_claim_18 kc_0 ?_
  exact xf_w (pc := 19) hx hb hr rfl hlocks h hR hK hS (Nat.le_of_ble_eq_true rfl) (Nat.le_of_ble_eq_true rfl) dL_claim_19
set_option maxHeartbeats 1000000 in
set_option maxRecDepth 20000 in
theorem mL_lotAt {l : Launch} (hls : l.stackTraces = false) {D : va_G} {ca : Nat → ClassId} {z : Nat} {G : xG} {X : va_W} {ad av : Nat → Nat} (hF : xFix z G X) (h0 : Nat) (p1 : Int32) (h2 : Nat) (k0 : xI_Coat G h0) (k2 : xI_Longs 1 G h2) {μ μ1 : xM} {r : Int32} (h : fL_lotAt h0 p1 h2 μ = some (r, μ1)) : xMw l yL_lotAt (xwh yL_lotAt cL_lotAt 4 (some .int) [(0, 9, 12, 32)]) 8 1 6 D ca z G X ad av [.ref h0, .int p1, .ref h2] μ r μ1 := by
  refine xm_w (by decide) rfl (Nat.le_of_ble_eq_true rfl) [(0, .ref h0), (1, .int p1), (2, .ref h2)] rfl ?_
  intro p e s m args below meth c ls hx hb hr hml hlocks hT hts hown hK hE hR hS hl
  have hts : ∀ w ∈ xAll, w.before args s = true := fun w hw => hts w (List.mem_cons_of_mem _ hw)
  rw [fL_lotAt] at h
  refine lv_aload_n (pc := 0) hx hb dL_lotAt_0 rfl (lv_at hl 2 rfl) ?_
  refine lv_iconst (pc := 1) hx hb dL_lotAt_1 kc_0 ?_
  refine lv_aload_n (pc := 2) hx hb dL_lotAt_2 rfl (lv_at hl 0 rfl) ?_
  refine lv_iload_n (pc := 3) hx hb dL_lotAt_3 rfl (lv_at hl 1 rfl) ?_
  rcases xch_inv h with ⟨r1, m1, c1, h⟩ | ⟨e1, r1, m1, c1, h⟩
  rotate_left
  · by_cases z2 : e1 + 1 = 4
    · have h := xpos z2 h
      obtain rfl : e1 = 3 := by omega
      refine xz_iV (pc := 4) (As := [.int _]) (rest := [.int _, .ref _]) ⟨hx, hb, hml, hown, hts⟩ (mX7_lotAt hls hF _ _ k0 c1) (xcwV 1 hts fdX7_lotAt q_m_L_50 ⟨Nat.le_of_ble_eq_true rfl, Nat.le_of_ble_eq_true rfl⟩) (xRecv hK hR (ci := 11) rfl k0.1) hR hK hE hS rfl hl.1 rfl (Nat.le_of_ble_eq_true rfl) dL_lotAt_4 ⟨Nat.le_of_ble_eq_true rfl, Nat.le_of_ble_eq_true rfl⟩ (fun ce q9 H locs hR hS h1 h2 h3 => ?_)
      refine xCatch hT hown hE [] ⟨0, 9, 12, 32⟩ [] rfl 3 (by decide) (fun w hw => absurd hw List.not_mem_nil) (by decide) (by decide) (hts _ q_Lc_32) (List.mem_of_getElem? (i := 9) rfl) h1 h2 h3 ?_
      refine lv_astore_n (pc := 12) (lv' := [(3, .ref _), (0, .ref _), (1, .int _), (2, .ref _)]) hx hb dL_lotAt_12 rfl hl (Nat.le_of_ble_eq_true rfl) rfl (fun ls hl => ?_)
      refine lv_iconst (pc := 13) hx hb dL_lotAt_13 kc_1 ?_
      exact xf_w (pc := 14) hx hb hr rfl hlocks h hR hK hS (Nat.le_of_ble_eq_true rfl) (Nat.le_of_ble_eq_true rfl) dL_lotAt_14
    have h := xneg z2 h
    cases h
  refine xy_iV (pc := 4) (As := [.int _]) (rest := [.int _, .ref _]) ⟨hx, hb, hml, hown, hts⟩ (mX7_lotAt hls hF _ _ k0 c1) (xcwV 1 hts fdX7_lotAt q_m_L_50 ⟨Nat.le_of_ble_eq_true rfl, Nat.le_of_ble_eq_true rfl⟩) (xRecv hK hR (ci := 11) rfl k0.1) hR hK hE hS rfl hl.1 rfl (Nat.le_of_ble_eq_true rfl) dL_lotAt_4 ⟨Nat.le_of_ble_eq_true rfl, Nat.le_of_ble_eq_true rfl⟩ (fun H locs hR hS => ?_)
  refine lv_i2l (pc := 7) hx hb dL_lotAt_7 rfl ?_
  refine xr_lastk (pc := 8) 0 hx hb hK hR hF hS k2.1 k2.2 tn_0 (vl_0 (by decide)) dL_lotAt_8 (fun H locs hR hS => ?_)
  refine lv_goto (pc := 9) (tgt := 15) hx hb dL_lotAt_9 (by decide) ?_
  refine lv_iconst (pc := 15) hx hb dL_lotAt_15 kc_0 ?_
  exact xf_w (pc := 16) hx hb hr rfl hlocks h hR hK hS (Nat.le_of_ble_eq_true rfl) (Nat.le_of_ble_eq_true rfl) dL_lotAt_16
set_option maxHeartbeats 1000000 in
set_option maxRecDepth 20000 in
theorem mL_ranked {l : Launch} (hls : l.stackTraces = false) {D : va_G} {ca : Nat → ClassId} {z : Nat} {G : xG} {X : va_W} {ad av : Nat → Nat} (hF : xFix z G X) (h0 : Nat) (p1 : Int32) (h2 : Nat) (k0 : xI_Coat G h0) (k2 : xI_Longs 1 G h2) {μ μ1 : xM} {r : Int32} (h : fL_ranked h0 p1 h2 μ = some (r, μ1)) : xMw l yL_ranked (xwh yL_ranked cL_ranked 4 (some .int) [(0, 9, 12, 32)]) 8 1 6 D ca z G X ad av [.ref h0, .int p1, .ref h2] μ r μ1 := by
  refine xm_w (by decide) rfl (Nat.le_of_ble_eq_true rfl) [(0, .ref h0), (1, .int p1), (2, .ref h2)] rfl ?_
  intro p e s m args below meth c ls hx hb hr hml hlocks hT hts hown hK hE hR hS hl
  have hts : ∀ w ∈ xAll, w.before args s = true := fun w hw => hts w (List.mem_cons_of_mem _ hw)
  rw [fL_ranked] at h
  refine lv_aload_n (pc := 0) hx hb dL_ranked_0 rfl (lv_at hl 2 rfl) ?_
  refine lv_iconst (pc := 1) hx hb dL_ranked_1 kc_0 ?_
  refine lv_aload_n (pc := 2) hx hb dL_ranked_2 rfl (lv_at hl 0 rfl) ?_
  refine lv_iload_n (pc := 3) hx hb dL_ranked_3 rfl (lv_at hl 1 rfl) ?_
  rcases xch_inv h with ⟨r1, m1, c1, h⟩ | ⟨e1, r1, m1, c1, h⟩
  rotate_left
  · by_cases z2 : e1 + 1 = 4
    · have h := xpos z2 h
      obtain rfl : e1 = 3 := by omega
      refine xz_iV (pc := 4) (As := [.int _]) (rest := [.int _, .ref _]) ⟨hx, hb, hml, hown, hts⟩ (mX7_ranked hls hF _ _ k0 c1) (xcwV 1 hts fdX7_ranked q_m_L_53 ⟨Nat.le_of_ble_eq_true rfl, Nat.le_of_ble_eq_true rfl⟩) (xRecv hK hR (ci := 11) rfl k0.1) hR hK hE hS rfl hl.1 rfl (Nat.le_of_ble_eq_true rfl) dL_ranked_4 ⟨Nat.le_of_ble_eq_true rfl, Nat.le_of_ble_eq_true rfl⟩ (fun ce q9 H locs hR hS h1 h2 h3 => ?_)
      refine xCatch hT hown hE [] ⟨0, 9, 12, 32⟩ [] rfl 3 (by decide) (fun w hw => absurd hw List.not_mem_nil) (by decide) (by decide) (hts _ q_Lc_32) (List.mem_of_getElem? (i := 9) rfl) h1 h2 h3 ?_
      refine lv_astore_n (pc := 12) (lv' := [(3, .ref _), (0, .ref _), (1, .int _), (2, .ref _)]) hx hb dL_ranked_12 rfl hl (Nat.le_of_ble_eq_true rfl) rfl (fun ls hl => ?_)
      refine lv_iconst (pc := 13) hx hb dL_ranked_13 kc_1 ?_
      exact xf_w (pc := 14) hx hb hr rfl hlocks h hR hK hS (Nat.le_of_ble_eq_true rfl) (Nat.le_of_ble_eq_true rfl) dL_ranked_14
    have h := xneg z2 h
    cases h
  refine xy_iV (pc := 4) (As := [.int _]) (rest := [.int _, .ref _]) ⟨hx, hb, hml, hown, hts⟩ (mX7_ranked hls hF _ _ k0 c1) (xcwV 1 hts fdX7_ranked q_m_L_53 ⟨Nat.le_of_ble_eq_true rfl, Nat.le_of_ble_eq_true rfl⟩) (xRecv hK hR (ci := 11) rfl k0.1) hR hK hE hS rfl hl.1 rfl (Nat.le_of_ble_eq_true rfl) dL_ranked_4 ⟨Nat.le_of_ble_eq_true rfl, Nat.le_of_ble_eq_true rfl⟩ (fun H locs hR hS => ?_)
  refine lv_i2l (pc := 7) hx hb dL_ranked_7 rfl ?_
  refine xr_lastk (pc := 8) 0 hx hb hK hR hF hS k2.1 k2.2 tn_0 (vl_0 (by decide)) dL_ranked_8 (fun H locs hR hS => ?_)
  refine lv_goto (pc := 9) (tgt := 15) hx hb dL_ranked_9 (by decide) ?_
  refine lv_iconst (pc := 15) hx hb dL_ranked_15 kc_0 ?_
  exact xf_w (pc := 16) hx hb hr rfl hlocks h hR hK hS (Nat.le_of_ble_eq_true rfl) (Nat.le_of_ble_eq_true rfl) dL_ranked_16
set_option maxHeartbeats 1000000 in
set_option maxRecDepth 20000 in
theorem mL_quote {l : Launch} (hls : l.stackTraces = false) {D : va_G} {ca : Nat → ClassId} {z : Nat} {G : xG} {X : va_W} {ad av : Nat → Nat} (hF : xFix z G X) (h0 : Nat) (p1 : Int32) (p2 : Int32) (h3 : Nat) (k0 : xI_Coat G h0) (k3 : xI_Longs 1 G h3) {μ μ1 : xM} {r : Int32} (h : fL_quote h0 p1 p2 h3 μ = some (r, μ1)) : xMw l yL_quote (xwh yL_quote cL_quote 5 (some .int) [(0, 10, 13, 32), (0, 10, 17, 15), (0, 10, 21, 59)]) 8 3 18 D ca z G X ad av [.ref h0, .int p1, .int p2, .ref h3] μ r μ1 := by
  refine xm_w (by decide) rfl (Nat.le_of_ble_eq_true rfl) [(0, .ref h0), (1, .int p1), (2, .int p2), (3, .ref h3)] rfl ?_
  intro p e s m args below meth c ls hx hb hr hml hlocks hT hts hown hK hE hR hS hl
  have hts : ∀ w ∈ xAll, w.before args s = true := fun w hw => hts w (List.mem_cons_of_mem _ hw)
  rw [fL_quote] at h
  refine lv_aload_n (pc := 0) hx hb dL_quote_0 rfl (lv_at hl 3 rfl) ?_
  refine lv_iconst (pc := 1) hx hb dL_quote_1 kc_0 ?_
  refine lv_aload_n (pc := 2) hx hb dL_quote_2 rfl (lv_at hl 0 rfl) ?_
  refine lv_iload_n (pc := 3) hx hb dL_quote_3 rfl (lv_at hl 1 rfl) ?_
  refine lv_iload_n (pc := 4) hx hb dL_quote_4 rfl (lv_at hl 2 rfl) ?_
  rcases xch_inv h with ⟨r1, m1, c1, h⟩ | ⟨e1, r1, m1, c1, h⟩
  rotate_left
  · by_cases z2 : e1 + 1 = 4
    · have h := xpos z2 h
      obtain rfl : e1 = 3 := by omega
      refine xz_iV (pc := 5) (As := [.int _, .int _]) (rest := [.int _, .ref _]) ⟨hx, hb, hml, hown, hts⟩ (mX7_quote hls hF _ _ _ k0 c1) (xcwV 2 hts fdX7_quote q_m_L_56 ⟨Nat.le_of_ble_eq_true rfl, Nat.le_of_ble_eq_true rfl⟩) (xRecv hK hR (ci := 11) rfl k0.1) hR hK hE hS rfl hl.1 rfl (Nat.le_of_ble_eq_true rfl) dL_quote_5 ⟨Nat.le_of_ble_eq_true rfl, Nat.le_of_ble_eq_true rfl⟩ (fun ce q9 H locs hR hS h1 h2 h3 => ?_)
      refine xCatch hT hown hE [] ⟨0, 10, 13, 32⟩ [⟨0, 10, 17, 15⟩, ⟨0, 10, 21, 59⟩] rfl 3 (by decide) (fun w hw => absurd hw List.not_mem_nil) (by decide) (by decide) (hts _ q_Lc_32) (List.mem_of_getElem? (i := 9) rfl) h1 h2 h3 ?_
      refine lv_astore (pc := 13) (lv' := [(4, .ref _), (0, .ref _), (1, .int _), (2, .int _), (3, .ref _)]) hx hb dL_quote_13 hl (Nat.le_of_ble_eq_true rfl) rfl (fun ls hl => ?_)
      refine lv_iconst (pc := 15) hx hb dL_quote_15 kc_1 ?_
      exact xf_w (pc := 16) hx hb hr rfl hlocks h hR hK hS (Nat.le_of_ble_eq_true rfl) (Nat.le_of_ble_eq_true rfl) dL_quote_16
    have h := xneg z2 h
    by_cases z3 : e1 + 1 = 2
    · have h := xpos z3 h
      obtain rfl : e1 = 1 := by omega
      refine xz_iV (pc := 5) (As := [.int _, .int _]) (rest := [.int _, .ref _]) ⟨hx, hb, hml, hown, hts⟩ (mX7_quote hls hF _ _ _ k0 c1) (xcwV 2 hts fdX7_quote q_m_L_56 ⟨Nat.le_of_ble_eq_true rfl, Nat.le_of_ble_eq_true rfl⟩) (xRecv hK hR (ci := 11) rfl k0.1) hR hK hE hS rfl hl.1 rfl (Nat.le_of_ble_eq_true rfl) dL_quote_5 ⟨Nat.le_of_ble_eq_true rfl, Nat.le_of_ble_eq_true rfl⟩ (fun ce q9 H locs hR hS h1 h2 h3 => ?_)
      refine xCatch hT hown hE [⟨0, 10, 13, 32⟩] ⟨0, 10, 17, 15⟩ [⟨0, 10, 21, 59⟩] rfl 1 (by decide) (List.forall_mem_cons.mpr ⟨⟨by decide, 3, by decide, by decide, hts _ q_Lc_32⟩, (fun w hw => absurd hw List.not_mem_nil)⟩) (by decide) (by decide) (hts _ q_Lc_15) (List.mem_of_getElem? (i := 7) rfl) h1 h2 h3 ?_
      refine lv_astore (pc := 17) (lv' := [(4, .ref _), (0, .ref _), (1, .int _), (2, .int _), (3, .ref _)]) hx hb dL_quote_17 hl (Nat.le_of_ble_eq_true rfl) rfl (fun ls hl => ?_)
      refine lv_iconst (pc := 19) hx hb dL_quote_19 kc_2 ?_
      exact xf_w (pc := 20) hx hb hr rfl hlocks h hR hK hS (Nat.le_of_ble_eq_true rfl) (Nat.le_of_ble_eq_true rfl) dL_quote_20
    have h := xneg z3 h
    by_cases z4 : e1 + 1 = 5
    · have h := xpos z4 h
      obtain rfl : e1 = 4 := by omega
      refine xz_iV (pc := 5) (As := [.int _, .int _]) (rest := [.int _, .ref _]) ⟨hx, hb, hml, hown, hts⟩ (mX7_quote hls hF _ _ _ k0 c1) (xcwV 2 hts fdX7_quote q_m_L_56 ⟨Nat.le_of_ble_eq_true rfl, Nat.le_of_ble_eq_true rfl⟩) (xRecv hK hR (ci := 11) rfl k0.1) hR hK hE hS rfl hl.1 rfl (Nat.le_of_ble_eq_true rfl) dL_quote_5 ⟨Nat.le_of_ble_eq_true rfl, Nat.le_of_ble_eq_true rfl⟩ (fun ce q9 H locs hR hS h1 h2 h3 => ?_)
      refine xCatch hT hown hE [⟨0, 10, 13, 32⟩, ⟨0, 10, 17, 15⟩] ⟨0, 10, 21, 59⟩ [] rfl 4 (by decide) (List.forall_mem_cons.mpr ⟨⟨by decide, 3, by decide, by decide, hts _ q_Lc_32⟩, (List.forall_mem_cons.mpr ⟨⟨by decide, 1, by decide, by decide, hts _ q_Lc_15⟩, (fun w hw => absurd hw List.not_mem_nil)⟩)⟩) (by decide) (by decide) (hts _ q_Lc_59) (List.mem_of_getElem? (i := 10) rfl) h1 h2 h3 ?_
      refine lv_astore (pc := 21) (lv' := [(4, .ref _), (0, .ref _), (1, .int _), (2, .int _), (3, .ref _)]) hx hb dL_quote_21 hl (Nat.le_of_ble_eq_true rfl) rfl (fun ls hl => ?_)
      refine lv_iconst (pc := 23) hx hb dL_quote_23 kc_3 ?_
      exact xf_w (pc := 24) hx hb hr rfl hlocks h hR hK hS (Nat.le_of_ble_eq_true rfl) (Nat.le_of_ble_eq_true rfl) dL_quote_24
    have h := xneg z4 h
    cases h
  refine xy_iV (pc := 5) (As := [.int _, .int _]) (rest := [.int _, .ref _]) ⟨hx, hb, hml, hown, hts⟩ (mX7_quote hls hF _ _ _ k0 c1) (xcwV 2 hts fdX7_quote q_m_L_56 ⟨Nat.le_of_ble_eq_true rfl, Nat.le_of_ble_eq_true rfl⟩) (xRecv hK hR (ci := 11) rfl k0.1) hR hK hE hS rfl hl.1 rfl (Nat.le_of_ble_eq_true rfl) dL_quote_5 ⟨Nat.le_of_ble_eq_true rfl, Nat.le_of_ble_eq_true rfl⟩ (fun H locs hR hS => ?_)
  refine lv_i2l (pc := 8) hx hb dL_quote_8 rfl ?_
  refine xr_lastk (pc := 9) 0 hx hb hK hR hF hS k3.1 k3.2 tn_0 (vl_0 (by decide)) dL_quote_9 (fun H locs hR hS => ?_)
  refine lv_goto (pc := 10) (tgt := 25) hx hb dL_quote_10 (by decide) ?_
  refine lv_iconst (pc := 25) hx hb dL_quote_25 kc_0 ?_
  exact xf_w (pc := 26) hx hb hr rfl hlocks h hR hK hS (Nat.le_of_ble_eq_true rfl) (Nat.le_of_ble_eq_true rfl) dL_quote_26
set_option maxHeartbeats 1000000 in
set_option maxRecDepth 20000 in
theorem mL_quoteAgain {l : Launch} (hls : l.stackTraces = false) {D : va_G} {ca : Nat → ClassId} {z : Nat} {G : xG} {X : va_W} {ad av : Nat → Nat} (hF : xFix z G X) (h0 : Nat) (p1 : Int32) (p2 : Int32) (h3 : Nat) (k0 : xI_Coat G h0) (k3 : xI_Longs 1 G h3) {μ μ1 : xM} {r : Int32} (h : fL_quoteAgain h0 p1 p2 h3 μ = some (r, μ1)) : xMw l yL_quoteAgain (xwh yL_quoteAgain cL_quoteAgain 5 (some .int) [(0, 10, 13, 32), (0, 10, 17, 15), (0, 10, 21, 59)]) 8 3 18 D ca z G X ad av [.ref h0, .int p1, .int p2, .ref h3] μ r μ1 := by
  refine xm_w (by decide) rfl (Nat.le_of_ble_eq_true rfl) [(0, .ref h0), (1, .int p1), (2, .int p2), (3, .ref h3)] rfl ?_
  intro p e s m args below meth c ls hx hb hr hml hlocks hT hts hown hK hE hR hS hl
  have hts : ∀ w ∈ xAll, w.before args s = true := fun w hw => hts w (List.mem_cons_of_mem _ hw)
  rw [fL_quoteAgain] at h
  refine lv_aload_n (pc := 0) hx hb dL_quoteAgain_0 rfl (lv_at hl 3 rfl) ?_
  refine lv_iconst (pc := 1) hx hb dL_quoteAgain_1 kc_0 ?_
  refine lv_aload_n (pc := 2) hx hb dL_quoteAgain_2 rfl (lv_at hl 0 rfl) ?_
  refine lv_iload_n (pc := 3) hx hb dL_quoteAgain_3 rfl (lv_at hl 1 rfl) ?_
  refine lv_iload_n (pc := 4) hx hb dL_quoteAgain_4 rfl (lv_at hl 2 rfl) ?_
  rcases xch_inv h with ⟨r1, m1, c1, h⟩ | ⟨e1, r1, m1, c1, h⟩
  rotate_left
  · by_cases z2 : e1 + 1 = 4
    · have h := xpos z2 h
      obtain rfl : e1 = 3 := by omega
      refine xz_iV (pc := 5) (As := [.int _, .int _]) (rest := [.int _, .ref _]) ⟨hx, hb, hml, hown, hts⟩ (mX7_quoteAgain hls hF _ _ _ k0 c1) (xcwV 2 hts fdX7_quoteAgain q_m_L_61 ⟨Nat.le_of_ble_eq_true rfl, Nat.le_of_ble_eq_true rfl⟩) (xRecv hK hR (ci := 11) rfl k0.1) hR hK hE hS rfl hl.1 rfl (Nat.le_of_ble_eq_true rfl) dL_quoteAgain_5 ⟨Nat.le_of_ble_eq_true rfl, Nat.le_of_ble_eq_true rfl⟩ (fun ce q9 H locs hR hS h1 h2 h3 => ?_)
      refine xCatch hT hown hE [] ⟨0, 10, 13, 32⟩ [⟨0, 10, 17, 15⟩, ⟨0, 10, 21, 59⟩] rfl 3 (by decide) (fun w hw => absurd hw List.not_mem_nil) (by decide) (by decide) (hts _ q_Lc_32) (List.mem_of_getElem? (i := 9) rfl) h1 h2 h3 ?_
      refine lv_astore (pc := 13) (lv' := [(4, .ref _), (0, .ref _), (1, .int _), (2, .int _), (3, .ref _)]) hx hb dL_quoteAgain_13 hl (Nat.le_of_ble_eq_true rfl) rfl (fun ls hl => ?_)
      refine lv_iconst (pc := 15) hx hb dL_quoteAgain_15 kc_1 ?_
      exact xf_w (pc := 16) hx hb hr rfl hlocks h hR hK hS (Nat.le_of_ble_eq_true rfl) (Nat.le_of_ble_eq_true rfl) dL_quoteAgain_16
    have h := xneg z2 h
    by_cases z3 : e1 + 1 = 2
    · have h := xpos z3 h
      obtain rfl : e1 = 1 := by omega
      refine xz_iV (pc := 5) (As := [.int _, .int _]) (rest := [.int _, .ref _]) ⟨hx, hb, hml, hown, hts⟩ (mX7_quoteAgain hls hF _ _ _ k0 c1) (xcwV 2 hts fdX7_quoteAgain q_m_L_61 ⟨Nat.le_of_ble_eq_true rfl, Nat.le_of_ble_eq_true rfl⟩) (xRecv hK hR (ci := 11) rfl k0.1) hR hK hE hS rfl hl.1 rfl (Nat.le_of_ble_eq_true rfl) dL_quoteAgain_5 ⟨Nat.le_of_ble_eq_true rfl, Nat.le_of_ble_eq_true rfl⟩ (fun ce q9 H locs hR hS h1 h2 h3 => ?_)
      refine xCatch hT hown hE [⟨0, 10, 13, 32⟩] ⟨0, 10, 17, 15⟩ [⟨0, 10, 21, 59⟩] rfl 1 (by decide) (List.forall_mem_cons.mpr ⟨⟨by decide, 3, by decide, by decide, hts _ q_Lc_32⟩, (fun w hw => absurd hw List.not_mem_nil)⟩) (by decide) (by decide) (hts _ q_Lc_15) (List.mem_of_getElem? (i := 7) rfl) h1 h2 h3 ?_
      refine lv_astore (pc := 17) (lv' := [(4, .ref _), (0, .ref _), (1, .int _), (2, .int _), (3, .ref _)]) hx hb dL_quoteAgain_17 hl (Nat.le_of_ble_eq_true rfl) rfl (fun ls hl => ?_)
      refine lv_iconst (pc := 19) hx hb dL_quoteAgain_19 kc_2 ?_
      exact xf_w (pc := 20) hx hb hr rfl hlocks h hR hK hS (Nat.le_of_ble_eq_true rfl) (Nat.le_of_ble_eq_true rfl) dL_quoteAgain_20
    have h := xneg z3 h
    by_cases z4 : e1 + 1 = 5
    · have h := xpos z4 h
      obtain rfl : e1 = 4 := by omega
      refine xz_iV (pc := 5) (As := [.int _, .int _]) (rest := [.int _, .ref _]) ⟨hx, hb, hml, hown, hts⟩ (mX7_quoteAgain hls hF _ _ _ k0 c1) (xcwV 2 hts fdX7_quoteAgain q_m_L_61 ⟨Nat.le_of_ble_eq_true rfl, Nat.le_of_ble_eq_true rfl⟩) (xRecv hK hR (ci := 11) rfl k0.1) hR hK hE hS rfl hl.1 rfl (Nat.le_of_ble_eq_true rfl) dL_quoteAgain_5 ⟨Nat.le_of_ble_eq_true rfl, Nat.le_of_ble_eq_true rfl⟩ (fun ce q9 H locs hR hS h1 h2 h3 => ?_)
      refine xCatch hT hown hE [⟨0, 10, 13, 32⟩, ⟨0, 10, 17, 15⟩] ⟨0, 10, 21, 59⟩ [] rfl 4 (by decide) (List.forall_mem_cons.mpr ⟨⟨by decide, 3, by decide, by decide, hts _ q_Lc_32⟩, (List.forall_mem_cons.mpr ⟨⟨by decide, 1, by decide, by decide, hts _ q_Lc_15⟩, (fun w hw => absurd hw List.not_mem_nil)⟩)⟩) (by decide) (by decide) (hts _ q_Lc_59) (List.mem_of_getElem? (i := 10) rfl) h1 h2 h3 ?_
      refine lv_astore (pc := 21) (lv' := [(4, .ref _), (0, .ref _), (1, .int _), (2, .int _), (3, .ref _)]) hx hb dL_quoteAgain_21 hl (Nat.le_of_ble_eq_true rfl) rfl (fun ls hl => ?_)
      refine lv_iconst (pc := 23) hx hb dL_quoteAgain_23 kc_3 ?_
      exact xf_w (pc := 24) hx hb hr rfl hlocks h hR hK hS (Nat.le_of_ble_eq_true rfl) (Nat.le_of_ble_eq_true rfl) dL_quoteAgain_24
    have h := xneg z4 h
    cases h
  refine xy_iV (pc := 5) (As := [.int _, .int _]) (rest := [.int _, .ref _]) ⟨hx, hb, hml, hown, hts⟩ (mX7_quoteAgain hls hF _ _ _ k0 c1) (xcwV 2 hts fdX7_quoteAgain q_m_L_61 ⟨Nat.le_of_ble_eq_true rfl, Nat.le_of_ble_eq_true rfl⟩) (xRecv hK hR (ci := 11) rfl k0.1) hR hK hE hS rfl hl.1 rfl (Nat.le_of_ble_eq_true rfl) dL_quoteAgain_5 ⟨Nat.le_of_ble_eq_true rfl, Nat.le_of_ble_eq_true rfl⟩ (fun H locs hR hS => ?_)
  refine lv_i2l (pc := 8) hx hb dL_quoteAgain_8 rfl ?_
  refine xr_lastk (pc := 9) 0 hx hb hK hR hF hS k3.1 k3.2 tn_0 (vl_0 (by decide)) dL_quoteAgain_9 (fun H locs hR hS => ?_)
  refine lv_goto (pc := 10) (tgt := 25) hx hb dL_quoteAgain_10 (by decide) ?_
  refine lv_iconst (pc := 25) hx hb dL_quoteAgain_25 kc_0 ?_
  exact xf_w (pc := 26) hx hb hr rfl hlocks h hR hK hS (Nat.le_of_ble_eq_true rfl) (Nat.le_of_ble_eq_true rfl) dL_quoteAgain_26
set_option maxHeartbeats 1000000 in
set_option maxRecDepth 20000 in
theorem mL_willBeLots {l : Launch} (hls : l.stackTraces = false) {D : va_G} {ca : Nat → ClassId} {z : Nat} {G : xG} {X : va_W} {ad av : Nat → Nat} (hF : xFix z G X) (h0 : Nat) (p1 : Int32) (h2 : Nat) (k0 : xI_Coat G h0) (k2 : xI_Longs 1 G h2) {μ μ1 : xM} {r : Int32} (h : fL_willBeLots h0 p1 h2 μ = some (r, μ1)) : xMw l yL_willBeLots (xwh yL_willBeLots cL_willBeLots 4 (some .int) [(0, 9, 12, 15)]) 8 1 6 D ca z G X ad av [.ref h0, .int p1, .ref h2] μ r μ1 := by
  refine xm_w (by decide) rfl (Nat.le_of_ble_eq_true rfl) [(0, .ref h0), (1, .int p1), (2, .ref h2)] rfl ?_
  intro p e s m args below meth c ls hx hb hr hml hlocks hT hts hown hK hE hR hS hl
  have hts : ∀ w ∈ xAll, w.before args s = true := fun w hw => hts w (List.mem_cons_of_mem _ hw)
  rw [fL_willBeLots] at h
  refine lv_aload_n (pc := 0) hx hb dL_willBeLots_0 rfl (lv_at hl 2 rfl) ?_
  refine lv_iconst (pc := 1) hx hb dL_willBeLots_1 kc_0 ?_
  refine lv_aload_n (pc := 2) hx hb dL_willBeLots_2 rfl (lv_at hl 0 rfl) ?_
  refine lv_iload_n (pc := 3) hx hb dL_willBeLots_3 rfl (lv_at hl 1 rfl) ?_
  rcases xch_inv h with ⟨r1, m1, c1, h⟩ | ⟨e1, r1, m1, c1, h⟩
  rotate_left
  · by_cases z2 : e1 + 1 = 2
    · have h := xpos z2 h
      obtain rfl : e1 = 1 := by omega
      refine xz_iV (pc := 4) (As := [.int _]) (rest := [.int _, .ref _]) ⟨hx, hb, hml, hown, hts⟩ (mX7_willBeLots hls hF _ _ k0 c1) (xcwV 1 hts fdX7_willBeLots q_m_L_64 ⟨Nat.le_of_ble_eq_true rfl, Nat.le_of_ble_eq_true rfl⟩) (xRecv hK hR (ci := 11) rfl k0.1) hR hK hE hS rfl hl.1 rfl (Nat.le_of_ble_eq_true rfl) dL_willBeLots_4 ⟨Nat.le_of_ble_eq_true rfl, Nat.le_of_ble_eq_true rfl⟩ (fun ce q9 H locs hR hS h1 h2 h3 => ?_)
      refine xCatch hT hown hE [] ⟨0, 9, 12, 15⟩ [] rfl 1 (by decide) (fun w hw => absurd hw List.not_mem_nil) (by decide) (by decide) (hts _ q_Lc_15) (List.mem_of_getElem? (i := 7) rfl) h1 h2 h3 ?_
      refine lv_astore_n (pc := 12) (lv' := [(3, .ref _), (0, .ref _), (1, .int _), (2, .ref _)]) hx hb dL_willBeLots_12 rfl hl (Nat.le_of_ble_eq_true rfl) rfl (fun ls hl => ?_)
      refine lv_iconst (pc := 13) hx hb dL_willBeLots_13 kc_1 ?_
      exact xf_w (pc := 14) hx hb hr rfl hlocks h hR hK hS (Nat.le_of_ble_eq_true rfl) (Nat.le_of_ble_eq_true rfl) dL_willBeLots_14
    have h := xneg z2 h
    cases h
  refine xy_iV (pc := 4) (As := [.int _]) (rest := [.int _, .ref _]) ⟨hx, hb, hml, hown, hts⟩ (mX7_willBeLots hls hF _ _ k0 c1) (xcwV 1 hts fdX7_willBeLots q_m_L_64 ⟨Nat.le_of_ble_eq_true rfl, Nat.le_of_ble_eq_true rfl⟩) (xRecv hK hR (ci := 11) rfl k0.1) hR hK hE hS rfl hl.1 rfl (Nat.le_of_ble_eq_true rfl) dL_willBeLots_4 ⟨Nat.le_of_ble_eq_true rfl, Nat.le_of_ble_eq_true rfl⟩ (fun H locs hR hS => ?_)
  refine lv_i2l (pc := 7) hx hb dL_willBeLots_7 rfl ?_
  refine xr_lastk (pc := 8) 0 hx hb hK hR hF hS k2.1 k2.2 tn_0 (vl_0 (by decide)) dL_willBeLots_8 (fun H locs hR hS => ?_)
  refine lv_goto (pc := 9) (tgt := 15) hx hb dL_willBeLots_9 (by decide) ?_
  refine lv_iconst (pc := 15) hx hb dL_willBeLots_15 kc_0 ?_
  exact xf_w (pc := 16) hx hb hr rfl hlocks h hR hK hS (Nat.le_of_ble_eq_true rfl) (Nat.le_of_ble_eq_true rfl) dL_willBeLots_16
set_option maxHeartbeats 1000000 in
set_option maxRecDepth 20000 in
theorem mL_willBeLotsAgain {l : Launch} (hls : l.stackTraces = false) {D : va_G} {ca : Nat → ClassId} {z : Nat} {G : xG} {X : va_W} {ad av : Nat → Nat} (hF : xFix z G X) (h0 : Nat) (p1 : Int32) (h2 : Nat) (k0 : xI_Coat G h0) (k2 : xI_Longs 1 G h2) {μ μ1 : xM} {r : Int32} (h : fL_willBeLotsAgain h0 p1 h2 μ = some (r, μ1)) : xMw l yL_willBeLotsAgain (xwh yL_willBeLotsAgain cL_willBeLotsAgain 4 (some .int) [(0, 9, 12, 15)]) 8 1 6 D ca z G X ad av [.ref h0, .int p1, .ref h2] μ r μ1 := by
  refine xm_w (by decide) rfl (Nat.le_of_ble_eq_true rfl) [(0, .ref h0), (1, .int p1), (2, .ref h2)] rfl ?_
  intro p e s m args below meth c ls hx hb hr hml hlocks hT hts hown hK hE hR hS hl
  have hts : ∀ w ∈ xAll, w.before args s = true := fun w hw => hts w (List.mem_cons_of_mem _ hw)
  rw [fL_willBeLotsAgain] at h
  refine lv_aload_n (pc := 0) hx hb dL_willBeLotsAgain_0 rfl (lv_at hl 2 rfl) ?_
  refine lv_iconst (pc := 1) hx hb dL_willBeLotsAgain_1 kc_0 ?_
  refine lv_aload_n (pc := 2) hx hb dL_willBeLotsAgain_2 rfl (lv_at hl 0 rfl) ?_
  refine lv_iload_n (pc := 3) hx hb dL_willBeLotsAgain_3 rfl (lv_at hl 1 rfl) ?_
  rcases xch_inv h with ⟨r1, m1, c1, h⟩ | ⟨e1, r1, m1, c1, h⟩
  rotate_left
  · by_cases z2 : e1 + 1 = 2
    · have h := xpos z2 h
      obtain rfl : e1 = 1 := by omega
      refine xz_iV (pc := 4) (As := [.int _]) (rest := [.int _, .ref _]) ⟨hx, hb, hml, hown, hts⟩ (mX7_willBeLotsAgain hls hF _ _ k0 c1) (xcwV 1 hts fdX7_willBeLotsAgain q_m_L_67 ⟨Nat.le_of_ble_eq_true rfl, Nat.le_of_ble_eq_true rfl⟩) (xRecv hK hR (ci := 11) rfl k0.1) hR hK hE hS rfl hl.1 rfl (Nat.le_of_ble_eq_true rfl) dL_willBeLotsAgain_4 ⟨Nat.le_of_ble_eq_true rfl, Nat.le_of_ble_eq_true rfl⟩ (fun ce q9 H locs hR hS h1 h2 h3 => ?_)
      refine xCatch hT hown hE [] ⟨0, 9, 12, 15⟩ [] rfl 1 (by decide) (fun w hw => absurd hw List.not_mem_nil) (by decide) (by decide) (hts _ q_Lc_15) (List.mem_of_getElem? (i := 7) rfl) h1 h2 h3 ?_
      refine lv_astore_n (pc := 12) (lv' := [(3, .ref _), (0, .ref _), (1, .int _), (2, .ref _)]) hx hb dL_willBeLotsAgain_12 rfl hl (Nat.le_of_ble_eq_true rfl) rfl (fun ls hl => ?_)
      refine lv_iconst (pc := 13) hx hb dL_willBeLotsAgain_13 kc_1 ?_
      exact xf_w (pc := 14) hx hb hr rfl hlocks h hR hK hS (Nat.le_of_ble_eq_true rfl) (Nat.le_of_ble_eq_true rfl) dL_willBeLotsAgain_14
    have h := xneg z2 h
    cases h
  refine xy_iV (pc := 4) (As := [.int _]) (rest := [.int _, .ref _]) ⟨hx, hb, hml, hown, hts⟩ (mX7_willBeLotsAgain hls hF _ _ k0 c1) (xcwV 1 hts fdX7_willBeLotsAgain q_m_L_67 ⟨Nat.le_of_ble_eq_true rfl, Nat.le_of_ble_eq_true rfl⟩) (xRecv hK hR (ci := 11) rfl k0.1) hR hK hE hS rfl hl.1 rfl (Nat.le_of_ble_eq_true rfl) dL_willBeLotsAgain_4 ⟨Nat.le_of_ble_eq_true rfl, Nat.le_of_ble_eq_true rfl⟩ (fun H locs hR hS => ?_)
  refine lv_i2l (pc := 7) hx hb dL_willBeLotsAgain_7 rfl ?_
  refine xr_lastk (pc := 8) 0 hx hb hK hR hF hS k2.1 k2.2 tn_0 (vl_0 (by decide)) dL_willBeLotsAgain_8 (fun H locs hR hS => ?_)
  refine lv_goto (pc := 9) (tgt := 15) hx hb dL_willBeLotsAgain_9 (by decide) ?_
  refine lv_iconst (pc := 15) hx hb dL_willBeLotsAgain_15 kc_0 ?_
  exact xf_w (pc := 16) hx hb hr rfl hlocks h hR hK hS (Nat.le_of_ble_eq_true rfl) (Nat.le_of_ble_eq_true rfl) dL_willBeLotsAgain_16
set_option maxHeartbeats 1000000 in
set_option maxRecDepth 20000 in
theorem mL_willReserve {l : Launch} (hls : l.stackTraces = false) {D : va_G} {ca : Nat → ClassId} {z : Nat} {G : xG} {X : va_W} {ad av : Nat → Nat} (hF : xFix z G X) (h0 : Nat) (p1 : Int32) (p2 : Int32) (h3 : Nat) (k0 : xI_Coat G h0) (k3 : xI_Longs 1 G h3) {μ μ1 : xM} {r : Int32} (h : fL_willReserve h0 p1 p2 h3 μ = some (r, μ1)) : xMw l yL_willReserve (xwh yL_willReserve cL_willReserve 5 (some .int) [(0, 10, 13, 32), (0, 10, 17, 15), (0, 10, 21, 59)]) 8 3 18 D ca z G X ad av [.ref h0, .int p1, .int p2, .ref h3] μ r μ1 := by
  refine xm_w (by decide) rfl (Nat.le_of_ble_eq_true rfl) [(0, .ref h0), (1, .int p1), (2, .int p2), (3, .ref h3)] rfl ?_
  intro p e s m args below meth c ls hx hb hr hml hlocks hT hts hown hK hE hR hS hl
  have hts : ∀ w ∈ xAll, w.before args s = true := fun w hw => hts w (List.mem_cons_of_mem _ hw)
  rw [fL_willReserve] at h
  refine lv_aload_n (pc := 0) hx hb dL_willReserve_0 rfl (lv_at hl 3 rfl) ?_
  refine lv_iconst (pc := 1) hx hb dL_willReserve_1 kc_0 ?_
  refine lv_aload_n (pc := 2) hx hb dL_willReserve_2 rfl (lv_at hl 0 rfl) ?_
  refine lv_iload_n (pc := 3) hx hb dL_willReserve_3 rfl (lv_at hl 1 rfl) ?_
  refine lv_iload_n (pc := 4) hx hb dL_willReserve_4 rfl (lv_at hl 2 rfl) ?_
  rcases xch_inv h with ⟨r1, m1, c1, h⟩ | ⟨e1, r1, m1, c1, h⟩
  rotate_left
  · by_cases z2 : e1 + 1 = 4
    · have h := xpos z2 h
      obtain rfl : e1 = 3 := by omega
      refine xz_iV (pc := 5) (As := [.int _, .int _]) (rest := [.int _, .ref _]) ⟨hx, hb, hml, hown, hts⟩ (mX7_willReserve hls hF _ _ _ k0 c1) (xcwV 2 hts fdX7_willReserve q_m_L_70 ⟨Nat.le_of_ble_eq_true rfl, Nat.le_of_ble_eq_true rfl⟩) (xRecv hK hR (ci := 11) rfl k0.1) hR hK hE hS rfl hl.1 rfl (Nat.le_of_ble_eq_true rfl) dL_willReserve_5 ⟨Nat.le_of_ble_eq_true rfl, Nat.le_of_ble_eq_true rfl⟩ (fun ce q9 H locs hR hS h1 h2 h3 => ?_)
      refine xCatch hT hown hE [] ⟨0, 10, 13, 32⟩ [⟨0, 10, 17, 15⟩, ⟨0, 10, 21, 59⟩] rfl 3 (by decide) (fun w hw => absurd hw List.not_mem_nil) (by decide) (by decide) (hts _ q_Lc_32) (List.mem_of_getElem? (i := 9) rfl) h1 h2 h3 ?_
      refine lv_astore (pc := 13) (lv' := [(4, .ref _), (0, .ref _), (1, .int _), (2, .int _), (3, .ref _)]) hx hb dL_willReserve_13 hl (Nat.le_of_ble_eq_true rfl) rfl (fun ls hl => ?_)
      refine lv_iconst (pc := 15) hx hb dL_willReserve_15 kc_1 ?_
      exact xf_w (pc := 16) hx hb hr rfl hlocks h hR hK hS (Nat.le_of_ble_eq_true rfl) (Nat.le_of_ble_eq_true rfl) dL_willReserve_16
    have h := xneg z2 h
    by_cases z3 : e1 + 1 = 2
    · have h := xpos z3 h
      obtain rfl : e1 = 1 := by omega
      refine xz_iV (pc := 5) (As := [.int _, .int _]) (rest := [.int _, .ref _]) ⟨hx, hb, hml, hown, hts⟩ (mX7_willReserve hls hF _ _ _ k0 c1) (xcwV 2 hts fdX7_willReserve q_m_L_70 ⟨Nat.le_of_ble_eq_true rfl, Nat.le_of_ble_eq_true rfl⟩) (xRecv hK hR (ci := 11) rfl k0.1) hR hK hE hS rfl hl.1 rfl (Nat.le_of_ble_eq_true rfl) dL_willReserve_5 ⟨Nat.le_of_ble_eq_true rfl, Nat.le_of_ble_eq_true rfl⟩ (fun ce q9 H locs hR hS h1 h2 h3 => ?_)
      refine xCatch hT hown hE [⟨0, 10, 13, 32⟩] ⟨0, 10, 17, 15⟩ [⟨0, 10, 21, 59⟩] rfl 1 (by decide) (List.forall_mem_cons.mpr ⟨⟨by decide, 3, by decide, by decide, hts _ q_Lc_32⟩, (fun w hw => absurd hw List.not_mem_nil)⟩) (by decide) (by decide) (hts _ q_Lc_15) (List.mem_of_getElem? (i := 7) rfl) h1 h2 h3 ?_
      refine lv_astore (pc := 17) (lv' := [(4, .ref _), (0, .ref _), (1, .int _), (2, .int _), (3, .ref _)]) hx hb dL_willReserve_17 hl (Nat.le_of_ble_eq_true rfl) rfl (fun ls hl => ?_)
      refine lv_iconst (pc := 19) hx hb dL_willReserve_19 kc_2 ?_
      exact xf_w (pc := 20) hx hb hr rfl hlocks h hR hK hS (Nat.le_of_ble_eq_true rfl) (Nat.le_of_ble_eq_true rfl) dL_willReserve_20
    have h := xneg z3 h
    by_cases z4 : e1 + 1 = 5
    · have h := xpos z4 h
      obtain rfl : e1 = 4 := by omega
      refine xz_iV (pc := 5) (As := [.int _, .int _]) (rest := [.int _, .ref _]) ⟨hx, hb, hml, hown, hts⟩ (mX7_willReserve hls hF _ _ _ k0 c1) (xcwV 2 hts fdX7_willReserve q_m_L_70 ⟨Nat.le_of_ble_eq_true rfl, Nat.le_of_ble_eq_true rfl⟩) (xRecv hK hR (ci := 11) rfl k0.1) hR hK hE hS rfl hl.1 rfl (Nat.le_of_ble_eq_true rfl) dL_willReserve_5 ⟨Nat.le_of_ble_eq_true rfl, Nat.le_of_ble_eq_true rfl⟩ (fun ce q9 H locs hR hS h1 h2 h3 => ?_)
      refine xCatch hT hown hE [⟨0, 10, 13, 32⟩, ⟨0, 10, 17, 15⟩] ⟨0, 10, 21, 59⟩ [] rfl 4 (by decide) (List.forall_mem_cons.mpr ⟨⟨by decide, 3, by decide, by decide, hts _ q_Lc_32⟩, (List.forall_mem_cons.mpr ⟨⟨by decide, 1, by decide, by decide, hts _ q_Lc_15⟩, (fun w hw => absurd hw List.not_mem_nil)⟩)⟩) (by decide) (by decide) (hts _ q_Lc_59) (List.mem_of_getElem? (i := 10) rfl) h1 h2 h3 ?_
      refine lv_astore (pc := 21) (lv' := [(4, .ref _), (0, .ref _), (1, .int _), (2, .int _), (3, .ref _)]) hx hb dL_willReserve_21 hl (Nat.le_of_ble_eq_true rfl) rfl (fun ls hl => ?_)
      refine lv_iconst (pc := 23) hx hb dL_willReserve_23 kc_3 ?_
      exact xf_w (pc := 24) hx hb hr rfl hlocks h hR hK hS (Nat.le_of_ble_eq_true rfl) (Nat.le_of_ble_eq_true rfl) dL_willReserve_24
    have h := xneg z4 h
    cases h
  refine xy_iV (pc := 5) (As := [.int _, .int _]) (rest := [.int _, .ref _]) ⟨hx, hb, hml, hown, hts⟩ (mX7_willReserve hls hF _ _ _ k0 c1) (xcwV 2 hts fdX7_willReserve q_m_L_70 ⟨Nat.le_of_ble_eq_true rfl, Nat.le_of_ble_eq_true rfl⟩) (xRecv hK hR (ci := 11) rfl k0.1) hR hK hE hS rfl hl.1 rfl (Nat.le_of_ble_eq_true rfl) dL_willReserve_5 ⟨Nat.le_of_ble_eq_true rfl, Nat.le_of_ble_eq_true rfl⟩ (fun H locs hR hS => ?_)
  refine lv_i2l (pc := 8) hx hb dL_willReserve_8 rfl ?_
  refine xr_lastk (pc := 9) 0 hx hb hK hR hF hS k3.1 k3.2 tn_0 (vl_0 (by decide)) dL_willReserve_9 (fun H locs hR hS => ?_)
  refine lv_goto (pc := 10) (tgt := 25) hx hb dL_willReserve_10 (by decide) ?_
  refine lv_iconst (pc := 25) hx hb dL_willReserve_25 kc_0 ?_
  exact xf_w (pc := 26) hx hb hr rfl hlocks h hR hK hS (Nat.le_of_ble_eq_true rfl) (Nat.le_of_ble_eq_true rfl) dL_willReserve_26
set_option maxHeartbeats 1000000 in
set_option maxRecDepth 20000 in
theorem mL_ownerOf {l : Launch} (hls : l.stackTraces = false) {D : va_G} {ca : Nat → ClassId} {z : Nat} {G : xG} {X : va_W} {ad av : Nat → Nat} (hF : xFix z G X) (h0 : Nat) (p1 : Int32) (p2 : Int32) (h3 : Nat) (k0 : xI_Coat G h0) (k3 : xI_Longs 1 G h3) {μ μ1 : xM} {r : Int32} (h : fL_ownerOf h0 p1 p2 h3 μ = some (r, μ1)) : xMw l yL_ownerOf (xwh yL_ownerOf cL_ownerOf 5 (some .int) [(0, 10, 13, 13), (0, 10, 17, 15)]) 8 1 6 D ca z G X ad av [.ref h0, .int p1, .int p2, .ref h3] μ r μ1 := by
  refine xm_w (by decide) rfl (Nat.le_of_ble_eq_true rfl) [(0, .ref h0), (1, .int p1), (2, .int p2), (3, .ref h3)] rfl ?_
  intro p e s m args below meth c ls hx hb hr hml hlocks hT hts hown hK hE hR hS hl
  have hts : ∀ w ∈ xAll, w.before args s = true := fun w hw => hts w (List.mem_cons_of_mem _ hw)
  rw [fL_ownerOf] at h
  refine lv_aload_n (pc := 0) hx hb dL_ownerOf_0 rfl (lv_at hl 3 rfl) ?_
  refine lv_iconst (pc := 1) hx hb dL_ownerOf_1 kc_0 ?_
  refine lv_aload_n (pc := 2) hx hb dL_ownerOf_2 rfl (lv_at hl 0 rfl) ?_
  refine lv_iload_n (pc := 3) hx hb dL_ownerOf_3 rfl (lv_at hl 1 rfl) ?_
  refine lv_iload_n (pc := 4) hx hb dL_ownerOf_4 rfl (lv_at hl 2 rfl) ?_
  rcases xch_inv h with ⟨r1, m1, c1, h⟩ | ⟨e1, r1, m1, c1, h⟩
  rotate_left
  · by_cases z2 : e1 + 1 = 1
    · have h := xpos z2 h
      obtain rfl : e1 = 0 := by omega
      refine xz_iV (pc := 5) (As := [.int _, .int _]) (rest := [.int _, .ref _]) ⟨hx, hb, hml, hown, hts⟩ (mX7_ownerOf hls hF _ _ _ k0 c1) (xcwV 2 hts fdX7_ownerOf q_m_L_73 ⟨Nat.le_of_ble_eq_true rfl, Nat.le_of_ble_eq_true rfl⟩) (xRecv hK hR (ci := 11) rfl k0.1) hR hK hE hS rfl hl.1 rfl (Nat.le_of_ble_eq_true rfl) dL_ownerOf_5 ⟨Nat.le_of_ble_eq_true rfl, Nat.le_of_ble_eq_true rfl⟩ (fun ce q9 H locs hR hS h1 h2 h3 => ?_)
      refine xCatch hT hown hE [] ⟨0, 10, 13, 13⟩ [⟨0, 10, 17, 15⟩] rfl 0 (by decide) (fun w hw => absurd hw List.not_mem_nil) (by decide) (by decide) (hts _ q_Lc_13) (List.mem_of_getElem? (i := 6) rfl) h1 h2 h3 ?_
      refine lv_astore (pc := 13) (lv' := [(4, .ref _), (0, .ref _), (1, .int _), (2, .int _), (3, .ref _)]) hx hb dL_ownerOf_13 hl (Nat.le_of_ble_eq_true rfl) rfl (fun ls hl => ?_)
      refine lv_iconst (pc := 15) hx hb dL_ownerOf_15 kc_1 ?_
      exact xf_w (pc := 16) hx hb hr rfl hlocks h hR hK hS (Nat.le_of_ble_eq_true rfl) (Nat.le_of_ble_eq_true rfl) dL_ownerOf_16
    have h := xneg z2 h
    by_cases z3 : e1 + 1 = 2
    · have h := xpos z3 h
      obtain rfl : e1 = 1 := by omega
      refine xz_iV (pc := 5) (As := [.int _, .int _]) (rest := [.int _, .ref _]) ⟨hx, hb, hml, hown, hts⟩ (mX7_ownerOf hls hF _ _ _ k0 c1) (xcwV 2 hts fdX7_ownerOf q_m_L_73 ⟨Nat.le_of_ble_eq_true rfl, Nat.le_of_ble_eq_true rfl⟩) (xRecv hK hR (ci := 11) rfl k0.1) hR hK hE hS rfl hl.1 rfl (Nat.le_of_ble_eq_true rfl) dL_ownerOf_5 ⟨Nat.le_of_ble_eq_true rfl, Nat.le_of_ble_eq_true rfl⟩ (fun ce q9 H locs hR hS h1 h2 h3 => ?_)
      refine xCatch hT hown hE [⟨0, 10, 13, 13⟩] ⟨0, 10, 17, 15⟩ [] rfl 1 (by decide) (List.forall_mem_cons.mpr ⟨⟨by decide, 0, by decide, by decide, hts _ q_Lc_13⟩, (fun w hw => absurd hw List.not_mem_nil)⟩) (by decide) (by decide) (hts _ q_Lc_15) (List.mem_of_getElem? (i := 7) rfl) h1 h2 h3 ?_
      refine lv_astore (pc := 17) (lv' := [(4, .ref _), (0, .ref _), (1, .int _), (2, .int _), (3, .ref _)]) hx hb dL_ownerOf_17 hl (Nat.le_of_ble_eq_true rfl) rfl (fun ls hl => ?_)
      refine lv_iconst (pc := 19) hx hb dL_ownerOf_19 kc_2 ?_
      exact xf_w (pc := 20) hx hb hr rfl hlocks h hR hK hS (Nat.le_of_ble_eq_true rfl) (Nat.le_of_ble_eq_true rfl) dL_ownerOf_20
    have h := xneg z3 h
    cases h
  refine xy_iV (pc := 5) (As := [.int _, .int _]) (rest := [.int _, .ref _]) ⟨hx, hb, hml, hown, hts⟩ (mX7_ownerOf hls hF _ _ _ k0 c1) (xcwV 2 hts fdX7_ownerOf q_m_L_73 ⟨Nat.le_of_ble_eq_true rfl, Nat.le_of_ble_eq_true rfl⟩) (xRecv hK hR (ci := 11) rfl k0.1) hR hK hE hS rfl hl.1 rfl (Nat.le_of_ble_eq_true rfl) dL_ownerOf_5 ⟨Nat.le_of_ble_eq_true rfl, Nat.le_of_ble_eq_true rfl⟩ (fun H locs hR hS => ?_)
  refine lv_i2l (pc := 8) hx hb dL_ownerOf_8 rfl ?_
  refine xr_lastk (pc := 9) 0 hx hb hK hR hF hS k3.1 k3.2 tn_0 (vl_0 (by decide)) dL_ownerOf_9 (fun H locs hR hS => ?_)
  refine lv_goto (pc := 10) (tgt := 21) hx hb dL_ownerOf_10 (by decide) ?_
  refine lv_iconst (pc := 21) hx hb dL_ownerOf_21 kc_0 ?_
  exact xf_w (pc := 22) hx hb hr rfl hlocks h hR hK hS (Nat.le_of_ble_eq_true rfl) (Nat.le_of_ble_eq_true rfl) dL_ownerOf_22
set_option maxHeartbeats 1000000 in
set_option maxRecDepth 20000 in
theorem mL_append {l : Launch} (hls : l.stackTraces = false) {D : va_G} {ca : Nat → ClassId} {z : Nat} {G : xG} {X : va_W} {ad av : Nat → Nat} (hF : xFix z G X) (h0 : Nat) (p1 : Int32) (h2 : Nat) (k0 : xI_Coat G h0) (k2 : xI_Longs 1 G h2) {μ μ1 : xM} {r : Int32} (h : fL_append h0 p1 h2 μ = some (r, μ1)) : xMw l yL_append (xwh yL_append cL_append 4 (some .int) [(0, 9, 12, 59)]) 8 1 6 D ca z G X ad av [.ref h0, .int p1, .ref h2] μ r μ1 := by
  refine xm_w (by decide) rfl (Nat.le_of_ble_eq_true rfl) [(0, .ref h0), (1, .int p1), (2, .ref h2)] rfl ?_
  intro p e s m args below meth c ls hx hb hr hml hlocks hT hts hown hK hE hR hS hl
  have hts : ∀ w ∈ xAll, w.before args s = true := fun w hw => hts w (List.mem_cons_of_mem _ hw)
  rw [fL_append] at h
  refine lv_aload_n (pc := 0) hx hb dL_append_0 rfl (lv_at hl 2 rfl) ?_
  refine lv_iconst (pc := 1) hx hb dL_append_1 kc_0 ?_
  refine lv_aload_n (pc := 2) hx hb dL_append_2 rfl (lv_at hl 0 rfl) ?_
  refine lv_iload_n (pc := 3) hx hb dL_append_3 rfl (lv_at hl 1 rfl) ?_
  rcases xch_inv h with ⟨r1, m1, c1, h⟩ | ⟨e1, r1, m1, c1, h⟩
  rotate_left
  · by_cases z2 : e1 + 1 = 5
    · have h := xpos z2 h
      obtain rfl : e1 = 4 := by omega
      refine xz_iV (pc := 4) (As := [.int _]) (rest := [.int _, .ref _]) ⟨hx, hb, hml, hown, hts⟩ (mX7_append hls hF _ _ k0 c1) (xcwV 1 hts fdX7_append q_m_L_83 ⟨Nat.le_of_ble_eq_true rfl, Nat.le_of_ble_eq_true rfl⟩) (xRecv hK hR (ci := 11) rfl k0.1) hR hK hE hS rfl hl.1 rfl (Nat.le_of_ble_eq_true rfl) dL_append_4 ⟨Nat.le_of_ble_eq_true rfl, Nat.le_of_ble_eq_true rfl⟩ (fun ce q9 H locs hR hS h1 h2 h3 => ?_)
      refine xCatch hT hown hE [] ⟨0, 9, 12, 59⟩ [] rfl 4 (by decide) (fun w hw => absurd hw List.not_mem_nil) (by decide) (by decide) (hts _ q_Lc_59) (List.mem_of_getElem? (i := 10) rfl) h1 h2 h3 ?_
      refine lv_astore_n (pc := 12) (lv' := [(3, .ref _), (0, .ref _), (1, .int _), (2, .ref _)]) hx hb dL_append_12 rfl hl (Nat.le_of_ble_eq_true rfl) rfl (fun ls hl => ?_)
      refine lv_iconst (pc := 13) hx hb dL_append_13 kc_1 ?_
      exact xf_w (pc := 14) hx hb hr rfl hlocks h hR hK hS (Nat.le_of_ble_eq_true rfl) (Nat.le_of_ble_eq_true rfl) dL_append_14
    have h := xneg z2 h
    cases h
  refine xy_iV (pc := 4) (As := [.int _]) (rest := [.int _, .ref _]) ⟨hx, hb, hml, hown, hts⟩ (mX7_append hls hF _ _ k0 c1) (xcwV 1 hts fdX7_append q_m_L_83 ⟨Nat.le_of_ble_eq_true rfl, Nat.le_of_ble_eq_true rfl⟩) (xRecv hK hR (ci := 11) rfl k0.1) hR hK hE hS rfl hl.1 rfl (Nat.le_of_ble_eq_true rfl) dL_append_4 ⟨Nat.le_of_ble_eq_true rfl, Nat.le_of_ble_eq_true rfl⟩ (fun H locs hR hS => ?_)
  refine lv_i2l (pc := 7) hx hb dL_append_7 rfl ?_
  refine xr_lastk (pc := 8) 0 hx hb hK hR hF hS k2.1 k2.2 tn_0 (vl_0 (by decide)) dL_append_8 (fun H locs hR hS => ?_)
  refine lv_goto (pc := 9) (tgt := 15) hx hb dL_append_9 (by decide) ?_
  refine lv_iconst (pc := 15) hx hb dL_append_15 kc_0 ?_
  exact xf_w (pc := 16) hx hb hr rfl hlocks h hR hK hS (Nat.le_of_ble_eq_true rfl) (Nat.le_of_ble_eq_true rfl) dL_append_16
set_option maxHeartbeats 1000000 in
set_option maxRecDepth 20000 in
theorem mL_refusal {l : Launch} (hls : l.stackTraces = false) {D : va_G} {ca : Nat → ClassId} {z : Nat} {G : xG} {X : va_W} {ad av : Nat → Nat} (hF : xFix z G X) (h0 : Nat) (p1 : Int32) (p2 : Int32) (h3 : Nat) (k0 : xI_Coat G h0) (k3 : xI_Longs 1 G h3) {μ μ1 : xM} {r : Int32} (h : fL_refusal h0 p1 p2 h3 μ = some (r, μ1)) : xMw l yL_refusal (xwh yL_refusal cL_refusal 5 (some .int) [(0, 10, 13, 32)]) 7 1 6 D ca z G X ad av [.ref h0, .int p1, .int p2, .ref h3] μ r μ1 := by
  refine xm_w (by decide) rfl (Nat.le_of_ble_eq_true rfl) [(0, .ref h0), (1, .int p1), (2, .int p2), (3, .ref h3)] rfl ?_
  intro p e s m args below meth c ls hx hb hr hml hlocks hT hts hown hK hE hR hS hl
  have hts : ∀ w ∈ xAll, w.before args s = true := fun w hw => hts w (List.mem_cons_of_mem _ hw)
  rw [fL_refusal] at h
  refine lv_aload_n (pc := 0) hx hb dL_refusal_0 rfl (lv_at hl 3 rfl) ?_
  refine lv_iconst (pc := 1) hx hb dL_refusal_1 kc_0 ?_
  refine lv_aload_n (pc := 2) hx hb dL_refusal_2 rfl (lv_at hl 0 rfl) ?_
  refine lv_iload_n (pc := 3) hx hb dL_refusal_3 rfl (lv_at hl 1 rfl) ?_
  refine lv_iload_n (pc := 4) hx hb dL_refusal_4 rfl (lv_at hl 2 rfl) ?_
  rcases xch_inv h with ⟨r1, m1, c1, h⟩ | ⟨e1, r1, m1, c1, h⟩
  rotate_left
  · by_cases z2 : e1 + 1 = 4
    · have h := xpos z2 h
      obtain rfl : e1 = 3 := by omega
      refine xz_iV (pc := 5) (As := [.int _, .int _]) (rest := [.int _, .ref _]) ⟨hx, hb, hml, hown, hts⟩ (mX7_refusal hls hF _ _ _ k0 c1) (xcwV 2 hts fdX7_refusal q_m_L_91 ⟨Nat.le_of_ble_eq_true rfl, Nat.le_of_ble_eq_true rfl⟩) (xRecv hK hR (ci := 11) rfl k0.1) hR hK hE hS rfl hl.1 rfl (Nat.le_of_ble_eq_true rfl) dL_refusal_5 ⟨Nat.le_of_ble_eq_true rfl, Nat.le_of_ble_eq_true rfl⟩ (fun ce q9 H locs hR hS h1 h2 h3 => ?_)
      refine xCatch hT hown hE [] ⟨0, 10, 13, 32⟩ [] rfl 3 (by decide) (fun w hw => absurd hw List.not_mem_nil) (by decide) (by decide) (hts _ q_Lc_32) (List.mem_of_getElem? (i := 9) rfl) h1 h2 h3 ?_
      refine lv_astore (pc := 13) (lv' := [(4, .ref _), (0, .ref _), (1, .int _), (2, .int _), (3, .ref _)]) hx hb dL_refusal_13 hl (Nat.le_of_ble_eq_true rfl) rfl (fun ls hl => ?_)
      refine lv_iconst (pc := 15) hx hb dL_refusal_15 kc_1 ?_
      exact xf_w (pc := 16) hx hb hr rfl hlocks h hR hK hS (Nat.le_of_ble_eq_true rfl) (Nat.le_of_ble_eq_true rfl) dL_refusal_16
    have h := xneg z2 h
    cases h
  refine xy_iV (pc := 5) (As := [.int _, .int _]) (rest := [.int _, .ref _]) ⟨hx, hb, hml, hown, hts⟩ (mX7_refusal hls hF _ _ _ k0 c1) (xcwV 2 hts fdX7_refusal q_m_L_91 ⟨Nat.le_of_ble_eq_true rfl, Nat.le_of_ble_eq_true rfl⟩) (xRecv hK hR (ci := 11) rfl k0.1) hR hK hE hS rfl hl.1 rfl (Nat.le_of_ble_eq_true rfl) dL_refusal_5 ⟨Nat.le_of_ble_eq_true rfl, Nat.le_of_ble_eq_true rfl⟩ (fun H locs hR hS => ?_)
  refine lv_i2l (pc := 8) hx hb dL_refusal_8 rfl ?_
  refine xr_lastk (pc := 9) 0 hx hb hK hR hF hS k3.1 k3.2 tn_0 (vl_0 (by decide)) dL_refusal_9 (fun H locs hR hS => ?_)
  refine lv_goto (pc := 10) (tgt := 17) hx hb dL_refusal_10 (by decide) ?_
  refine lv_iconst (pc := 17) hx hb dL_refusal_17 kc_0 ?_
  exact xf_w (pc := 18) hx hb hr rfl hlocks h hR hK hS (Nat.le_of_ble_eq_true rfl) (Nat.le_of_ble_eq_true rfl) dL_refusal_18
set_option maxHeartbeats 1000000 in
set_option maxRecDepth 20000 in
theorem mL_account {l : Launch} (hls : l.stackTraces = false) {D : va_G} {ca : Nat → ClassId} {z : Nat} {G : xG} {X : va_W} {ad av : Nat → Nat} (hF : xFix z G X) (h0 : Nat) (p1 : Int32) (h2 : Nat) (k0 : xI_Coat G h0) (k2 : xI_Longs 1 G h2) {μ μ1 : xM} {r : Int32} (h : fL_account h0 p1 h2 μ = some (r, μ1)) : xMw l yL_account (xwh yL_account cL_account 4 (some .int) [(0, 9, 12, 15)]) 8 1 6 D ca z G X ad av [.ref h0, .int p1, .ref h2] μ r μ1 := by
  refine xm_w (by decide) rfl (Nat.le_of_ble_eq_true rfl) [(0, .ref h0), (1, .int p1), (2, .ref h2)] rfl ?_
  intro p e s m args below meth c ls hx hb hr hml hlocks hT hts hown hK hE hR hS hl
  have hts : ∀ w ∈ xAll, w.before args s = true := fun w hw => hts w (List.mem_cons_of_mem _ hw)
  rw [fL_account] at h
  refine lv_aload_n (pc := 0) hx hb dL_account_0 rfl (lv_at hl 2 rfl) ?_
  refine lv_iconst (pc := 1) hx hb dL_account_1 kc_0 ?_
  refine lv_aload_n (pc := 2) hx hb dL_account_2 rfl (lv_at hl 0 rfl) ?_
  refine lv_iload_n (pc := 3) hx hb dL_account_3 rfl (lv_at hl 1 rfl) ?_
  rcases xch_inv h with ⟨r1, m1, c1, h⟩ | ⟨e1, r1, m1, c1, h⟩
  rotate_left
  · by_cases z2 : e1 + 1 = 2
    · have h := xpos z2 h
      obtain rfl : e1 = 1 := by omega
      refine xz_iV (pc := 4) (As := [.int _]) (rest := [.int _, .ref _]) ⟨hx, hb, hml, hown, hts⟩ (mX7_account hls hF _ _ k0 c1) (xcwV 1 hts fdX7_account q_m_L_95 ⟨Nat.le_of_ble_eq_true rfl, Nat.le_of_ble_eq_true rfl⟩) (xRecv hK hR (ci := 11) rfl k0.1) hR hK hE hS rfl hl.1 rfl (Nat.le_of_ble_eq_true rfl) dL_account_4 ⟨Nat.le_of_ble_eq_true rfl, Nat.le_of_ble_eq_true rfl⟩ (fun ce q9 H locs hR hS h1 h2 h3 => ?_)
      refine xCatch hT hown hE [] ⟨0, 9, 12, 15⟩ [] rfl 1 (by decide) (fun w hw => absurd hw List.not_mem_nil) (by decide) (by decide) (hts _ q_Lc_15) (List.mem_of_getElem? (i := 7) rfl) h1 h2 h3 ?_
      refine lv_astore_n (pc := 12) (lv' := [(3, .ref _), (0, .ref _), (1, .int _), (2, .ref _)]) hx hb dL_account_12 rfl hl (Nat.le_of_ble_eq_true rfl) rfl (fun ls hl => ?_)
      refine lv_iconst (pc := 13) hx hb dL_account_13 kc_1 ?_
      exact xf_w (pc := 14) hx hb hr rfl hlocks h hR hK hS (Nat.le_of_ble_eq_true rfl) (Nat.le_of_ble_eq_true rfl) dL_account_14
    have h := xneg z2 h
    cases h
  refine xy_iV (pc := 4) (As := [.int _]) (rest := [.int _, .ref _]) ⟨hx, hb, hml, hown, hts⟩ (mX7_account hls hF _ _ k0 c1) (xcwV 1 hts fdX7_account q_m_L_95 ⟨Nat.le_of_ble_eq_true rfl, Nat.le_of_ble_eq_true rfl⟩) (xRecv hK hR (ci := 11) rfl k0.1) hR hK hE hS rfl hl.1 rfl (Nat.le_of_ble_eq_true rfl) dL_account_4 ⟨Nat.le_of_ble_eq_true rfl, Nat.le_of_ble_eq_true rfl⟩ (fun H locs hR hS => ?_)
  refine lv_i2l (pc := 7) hx hb dL_account_7 rfl ?_
  refine xr_lastk (pc := 8) 0 hx hb hK hR hF hS k2.1 k2.2 tn_0 (vl_0 (by decide)) dL_account_8 (fun H locs hR hS => ?_)
  refine lv_goto (pc := 9) (tgt := 15) hx hb dL_account_9 (by decide) ?_
  refine lv_iconst (pc := 15) hx hb dL_account_15 kc_0 ?_
  exact xf_w (pc := 16) hx hb hr rfl hlocks h hR hK hS (Nat.le_of_ble_eq_true rfl) (Nat.le_of_ble_eq_true rfl) dL_account_16
set_option maxHeartbeats 1000000 in
set_option maxRecDepth 20000 in
theorem mL_undo {l : Launch} (hls : l.stackTraces = false) {D : va_G} {ca : Nat → ClassId} {z : Nat} {G : xG} {X : va_W} {ad av : Nat → Nat} (hF : xFix z G X) (h0 : Nat) (h1 : Nat) (k0 : xI_Coat G h0) (k1 : xI_Longs 1 G h1) {μ μ1 : xM} {r : Int32} (h : fL_undo h0 h1 μ = some (r, μ1)) : xMw l yL_undo (xwh yL_undo cL_undo 3 (some .int) [(0, 8, 11, 59)]) 8 1 6 D ca z G X ad av [.ref h0, .ref h1] μ r μ1 := by
  refine xm_w (by decide) rfl (Nat.le_of_ble_eq_true rfl) [(0, .ref h0), (1, .ref h1)] rfl ?_
  intro p e s m args below meth c ls hx hb hr hml hlocks hT hts hown hK hE hR hS hl
  have hts : ∀ w ∈ xAll, w.before args s = true := fun w hw => hts w (List.mem_cons_of_mem _ hw)
  rw [fL_undo] at h
  refine lv_aload_n (pc := 0) hx hb dL_undo_0 rfl (lv_at hl 1 rfl) ?_
  refine lv_iconst (pc := 1) hx hb dL_undo_1 kc_0 ?_
  refine lv_aload_n (pc := 2) hx hb dL_undo_2 rfl (lv_at hl 0 rfl) ?_
  rcases xch_inv h with ⟨r1, m1, c1, h⟩ | ⟨e1, r1, m1, c1, h⟩
  rotate_left
  · by_cases z2 : e1 + 1 = 5
    · have h := xpos z2 h
      obtain rfl : e1 = 4 := by omega
      refine xz_iV (pc := 3) (As := []) (rest := [.int _, .ref _]) ⟨hx, hb, hml, hown, hts⟩ (mX7_undo hls hF _ k0 c1) (xcwV 0 hts fdX7_undo q_m_L_108 ⟨Nat.le_of_ble_eq_true rfl, Nat.le_of_ble_eq_true rfl⟩) (xRecv hK hR (ci := 11) rfl k0.1) hR hK hE hS rfl hl.1 rfl (Nat.le_of_ble_eq_true rfl) dL_undo_3 ⟨Nat.le_of_ble_eq_true rfl, Nat.le_of_ble_eq_true rfl⟩ (fun ce q9 H locs hR hS h1 h2 h3 => ?_)
      refine xCatch hT hown hE [] ⟨0, 8, 11, 59⟩ [] rfl 4 (by decide) (fun w hw => absurd hw List.not_mem_nil) (by decide) (by decide) (hts _ q_Lc_59) (List.mem_of_getElem? (i := 10) rfl) h1 h2 h3 ?_
      refine lv_astore_n (pc := 11) (lv' := [(2, .ref _), (0, .ref _), (1, .ref _)]) hx hb dL_undo_11 rfl hl (Nat.le_of_ble_eq_true rfl) rfl (fun ls hl => ?_)
      refine lv_iconst (pc := 12) hx hb dL_undo_12 kc_1 ?_
      exact xf_w (pc := 13) hx hb hr rfl hlocks h hR hK hS (Nat.le_of_ble_eq_true rfl) (Nat.le_of_ble_eq_true rfl) dL_undo_13
    have h := xneg z2 h
    cases h
  refine xy_iV (pc := 3) (As := []) (rest := [.int _, .ref _]) ⟨hx, hb, hml, hown, hts⟩ (mX7_undo hls hF _ k0 c1) (xcwV 0 hts fdX7_undo q_m_L_108 ⟨Nat.le_of_ble_eq_true rfl, Nat.le_of_ble_eq_true rfl⟩) (xRecv hK hR (ci := 11) rfl k0.1) hR hK hE hS rfl hl.1 rfl (Nat.le_of_ble_eq_true rfl) dL_undo_3 ⟨Nat.le_of_ble_eq_true rfl, Nat.le_of_ble_eq_true rfl⟩ (fun H locs hR hS => ?_)
  refine lv_i2l (pc := 6) hx hb dL_undo_6 rfl ?_
  refine xr_lastk (pc := 7) 0 hx hb hK hR hF hS k1.1 k1.2 tn_0 (vl_0 (by decide)) dL_undo_7 (fun H locs hR hS => ?_)
  refine lv_goto (pc := 8) (tgt := 14) hx hb dL_undo_8 (by decide) ?_
  refine lv_iconst (pc := 14) hx hb dL_undo_14 kc_0 ?_
  exact xf_w (pc := 15) hx hb hr rfl hlocks h hR hK hS (Nat.le_of_ble_eq_true rfl) (Nat.le_of_ble_eq_true rfl) dL_undo_15
set_option maxHeartbeats 1000000 in
set_option maxRecDepth 20000 in
theorem mL_restore {l : Launch} (hls : l.stackTraces = false) {D : va_G} {ca : Nat → ClassId} {z : Nat} {G : xG} {X : va_W} {ad av : Nat → Nat} (hF : xFix z G X) (h0 : Nat) (h1 : Nat) (k0 : xI_Coat G h0) (k1 : xI_Longs 1 G h1) {μ μ1 : xM} {r : Int32} (h : fL_restore h0 h1 μ = some (r, μ1)) : xMw l yL_restore (xwh yL_restore cL_restore 3 (some .int) [(0, 8, 11, 59)]) 8 1 6 D ca z G X ad av [.ref h0, .ref h1] μ r μ1 := by
  refine xm_w (by decide) rfl (Nat.le_of_ble_eq_true rfl) [(0, .ref h0), (1, .ref h1)] rfl ?_
  intro p e s m args below meth c ls hx hb hr hml hlocks hT hts hown hK hE hR hS hl
  have hts : ∀ w ∈ xAll, w.before args s = true := fun w hw => hts w (List.mem_cons_of_mem _ hw)
  rw [fL_restore] at h
  refine lv_aload_n (pc := 0) hx hb dL_restore_0 rfl (lv_at hl 1 rfl) ?_
  refine lv_iconst (pc := 1) hx hb dL_restore_1 kc_0 ?_
  refine lv_aload_n (pc := 2) hx hb dL_restore_2 rfl (lv_at hl 0 rfl) ?_
  rcases xch_inv h with ⟨r1, m1, c1, h⟩ | ⟨e1, r1, m1, c1, h⟩
  rotate_left
  · by_cases z2 : e1 + 1 = 5
    · have h := xpos z2 h
      obtain rfl : e1 = 4 := by omega
      refine xz_iV (pc := 3) (As := []) (rest := [.int _, .ref _]) ⟨hx, hb, hml, hown, hts⟩ (mX7_restore hls hF _ k0 c1) (xcwV 0 hts fdX7_restore q_m_L_111 ⟨Nat.le_of_ble_eq_true rfl, Nat.le_of_ble_eq_true rfl⟩) (xRecv hK hR (ci := 11) rfl k0.1) hR hK hE hS rfl hl.1 rfl (Nat.le_of_ble_eq_true rfl) dL_restore_3 ⟨Nat.le_of_ble_eq_true rfl, Nat.le_of_ble_eq_true rfl⟩ (fun ce q9 H locs hR hS h1 h2 h3 => ?_)
      refine xCatch hT hown hE [] ⟨0, 8, 11, 59⟩ [] rfl 4 (by decide) (fun w hw => absurd hw List.not_mem_nil) (by decide) (by decide) (hts _ q_Lc_59) (List.mem_of_getElem? (i := 10) rfl) h1 h2 h3 ?_
      refine lv_astore_n (pc := 11) (lv' := [(2, .ref _), (0, .ref _), (1, .ref _)]) hx hb dL_restore_11 rfl hl (Nat.le_of_ble_eq_true rfl) rfl (fun ls hl => ?_)
      refine lv_iconst (pc := 12) hx hb dL_restore_12 kc_1 ?_
      exact xf_w (pc := 13) hx hb hr rfl hlocks h hR hK hS (Nat.le_of_ble_eq_true rfl) (Nat.le_of_ble_eq_true rfl) dL_restore_13
    have h := xneg z2 h
    cases h
  refine xy_iV (pc := 3) (As := []) (rest := [.int _, .ref _]) ⟨hx, hb, hml, hown, hts⟩ (mX7_restore hls hF _ k0 c1) (xcwV 0 hts fdX7_restore q_m_L_111 ⟨Nat.le_of_ble_eq_true rfl, Nat.le_of_ble_eq_true rfl⟩) (xRecv hK hR (ci := 11) rfl k0.1) hR hK hE hS rfl hl.1 rfl (Nat.le_of_ble_eq_true rfl) dL_restore_3 ⟨Nat.le_of_ble_eq_true rfl, Nat.le_of_ble_eq_true rfl⟩ (fun H locs hR hS => ?_)
  refine lv_i2l (pc := 6) hx hb dL_restore_6 rfl ?_
  refine xr_lastk (pc := 7) 0 hx hb hK hR hF hS k1.1 k1.2 tn_0 (vl_0 (by decide)) dL_restore_7 (fun H locs hR hS => ?_)
  refine lv_goto (pc := 8) (tgt := 14) hx hb dL_restore_8 (by decide) ?_
  refine lv_iconst (pc := 14) hx hb dL_restore_14 kc_0 ?_
  exact xf_w (pc := 15) hx hb hr rfl hlocks h hR hK hS (Nat.le_of_ble_eq_true rfl) (Nat.le_of_ble_eq_true rfl) dL_restore_15
