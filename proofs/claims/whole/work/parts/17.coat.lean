set_option maxHeartbeats 1000000 in
set_option maxRecDepth 20000 in
theorem mX7_demandFine {l : Launch} (hls : l.stackTraces = false) {D : va_G} {ca : Nat → ClassId} {z : Nat} {G : xG} {X : va_W} {ad av : Nat → Nat} (hF : xFix z G X) (h0 : Nat) (p1 : Int32) (k0 : xI_Coat G h0) {μ μ1 : xM} {o : xO} (h : fX7_demandFine h0 p1 μ = some (o, μ1)) : xMy l yX7_demandFine (xws yX7_demandFine cX7_demandFine 2 none) 6 1 6 D ca z G X ad av [.ref h0, .int p1] μ o μ1 := by
  refine xm_y (by decide) rfl (Nat.le_of_ble_eq_true rfl) [(0, .ref h0), (1, .int p1)] rfl ?_
  intro p e s m args below meth c ls hx hb hr hml hlocks hex hts hown hK hE hR hS hl
  have hts : ∀ w ∈ xAll, w.before args s = true := fun w hw => hts w (List.mem_cons_of_mem _ hw)
  rw [fX7_demandFine] at h
  refine lv_iload_n (pc := 0) hx hb dX7_demandFine_0 rfl (lv_at hl 1 rfl) ?_
  refine lv_iconst (pc := 1) hx hb dX7_demandFine_1 kc_m1 ?_
  refine lv_icmp_ne (pc := 2) (tgt := 15) hx hb dX7_demandFine_2 (by decide) (fun c1 => ?_) (fun c1 => ?_)
  · have h := xneg c1 h
    refine lv_iload_n (pc := 15) hx hb dX7_demandFine_15 rfl (lv_at hl 1 rfl) ?_
    refine lv_bipush (pc := 16) hx hb dX7_demandFine_16 kb_m3 ?_
    refine lv_icmp_ne (pc := 18) (tgt := 32) hx hb dX7_demandFine_18 (by decide) (fun c2 => ?_) (fun c2 => ?_)
    · have h := xneg c2 h
      refine lv_iload_n (pc := 32) hx hb dX7_demandFine_32 rfl (lv_at hl 1 rfl) ?_
      refine lv_bipush (pc := 33) hx hb dX7_demandFine_33 kb_m2 ?_
      refine lv_icmp_ne (pc := 35) (tgt := 49) hx hb dX7_demandFine_35 (by decide) (fun c3 => ?_) (fun c3 => ?_)
      · have h := xneg c3 h
        refine lv_iload_n (pc := 49) hx hb dX7_demandFine_49 rfl (lv_at hl 1 rfl) ?_
        refine lv_if_eq (pc := 50) (tgt := 79) hx hb dX7_demandFine_50 (by decide) (fun c4 => ?_) (fun c4 => ?_)
        · have h := xpos c4 h
          exact xe_y (pc := 79) hx hb hr hlocks h hR hK hS (Nat.le_of_ble_eq_true rfl) (Nat.le_of_ble_eq_true rfl) dX7_demandFine_79
        · have h := xneg c4 h
          refine lv_aload_n (pc := 53) hx hb dX7_demandFine_53 rfl (lv_at hl 0 rfl) ?_
          refine xr_getR (pc := 54) (ci := 11) hx hb hts inX7 hown hK hR rfl k0.1 8 (Nat.le_of_ble_eq_true rfl) rfl k0.2.2.2.2.2.2.2.2.1.1 (hts _ q_f_X7_57) (fun _ h9 => h9) dX7_demandFine_54 ?_
          refine lv_iload_n (pc := 57) hx hb dX7_demandFine_57 rfl (lv_at hl 1 rfl) ?_
          refine lv_aload_n (pc := 58) hx hb dX7_demandFine_58 rfl (lv_at hl 0 rfl) ?_
          refine xr_getR (pc := 59) (ci := 11) hx hb hts inX7 hown hK hR rfl k0.1 5 (Nat.le_of_ble_eq_true rfl) rfl k0.2.2.2.2.2.1.1 (hts _ q_f_X7_36) (fun _ h9 => h9) dX7_demandFine_59 ?_
          refine xr_getI (pc := 62) (ci := 5) hx hb hts inX1 hown hK hR rfl k0.2.2.2.2.2.1.2 0 (Nat.le_of_ble_eq_true rfl) rfl (hts _ q_f_X7_307) (fun _ h9 => h9) dX7_demandFine_62 ?_
          obtain ⟨m5, c5, h⟩ := xbv_inv h
          refine xc_vV (pc := 65) (As := [.int _, .int _]) (rest := []) ⟨hx, hb, hml, hown, hts⟩ (mX6_keep hF _ _ _ k0.2.2.2.2.2.2.2.2.1.2 c5) (xcwV 2 hts fdX6_keep q_m_X7_308 ⟨Nat.le_of_ble_eq_true rfl, Nat.le_of_ble_eq_true rfl⟩) (xRecv hK hR (ci := 10) rfl k0.2.2.2.2.2.2.2.2.1.2) hR hK hE hS rfl hl.1 rfl (Nat.le_of_ble_eq_true rfl) dX7_demandFine_65 ⟨Nat.le_of_ble_eq_true rfl, Nat.le_of_ble_eq_true rfl⟩ (fun H locs hR hS => ?_)
          exact xt_SW (pc := 68) (k := 2) (i := 9) hx hb hls hlocks hts hown hK hE hF th_3 (by decide) (by decide +kernel) rfl h hR hS (hl.1.trans hml.symm) hex dX7_demandFine_68 dX7_demandFine_71 dX7_demandFine_72 dX7_demandFine_75 dX7_demandFine_78 (Nat.le_of_ble_eq_true rfl) (Nat.le_of_ble_eq_true rfl) (Nat.le_of_ble_eq_true rfl) (Nat.le_of_ble_eq_true rfl) (Nat.le_of_ble_eq_true rfl) (Nat.le_of_ble_eq_true rfl)
      · have h := xpos c3 h
        exact xt_SW (pc := 38) (k := 1) (i := 8) hx hb hls hlocks hts hown hK hE hF th_2 (by decide) (by decide +kernel) rfl h hR hS (hl.1.trans hml.symm) hex dX7_demandFine_38 dX7_demandFine_41 dX7_demandFine_42 dX7_demandFine_45 dX7_demandFine_48 (Nat.le_of_ble_eq_true rfl) (Nat.le_of_ble_eq_true rfl) (Nat.le_of_ble_eq_true rfl) (Nat.le_of_ble_eq_true rfl) (Nat.le_of_ble_eq_true rfl) (Nat.le_of_ble_eq_true rfl)
    · have h := xpos c2 h
      exact xt_N (pc := 21) (i := 7) (w := 3) (Or.inr ⟨rfl, dX7_demandFine_25⟩) hx hb hls hlocks hts hown hK hE hF th_4 (by decide) (by decide +kernel) rfl h hR hS (hl.1.trans hml.symm) hex dX7_demandFine_21 dX7_demandFine_24 dX7_demandFine_28 dX7_demandFine_31 (Nat.le_of_ble_eq_true rfl) (Nat.le_of_ble_eq_true rfl) (Nat.le_of_ble_eq_true rfl) (Nat.le_of_ble_eq_true rfl) (Nat.le_of_ble_eq_true rfl) (Nat.le_of_ble_eq_true rfl)
  · have h := xpos c1 h
    exact xt_S (pc := 5) (k := 0) (i := 0) hx hb hls hlocks hts hown hK hE hF th_1 (by decide) (by decide +kernel) rfl h hR hS (hl.1.trans hml.symm) hex dX7_demandFine_5 dX7_demandFine_8 dX7_demandFine_9 dX7_demandFine_11 dX7_demandFine_14 (Nat.le_of_ble_eq_true rfl) (Nat.le_of_ble_eq_true rfl) (Nat.le_of_ble_eq_true rfl) (Nat.le_of_ble_eq_true rfl) (Nat.le_of_ble_eq_true rfl) (Nat.le_of_ble_eq_true rfl)
set_option maxHeartbeats 1000000 in
set_option maxRecDepth 20000 in
theorem mX7_demandFound {l : Launch} (hls : l.stackTraces = false) {D : va_G} {ca : Nat → ClassId} {z : Nat} {G : xG} {X : va_W} {ad av : Nat → Nat} (hF : xFix z G X) (p0 : Int32)  {μ μ1 : xM} {o : xO} (h : fX7_demandFound p0 μ = some (o, μ1)) : xMx l yX7_demandFound (xws yX7_demandFound cX7_demandFound 1 (some .int)) 6 1 6 D ca z G X ad av [.int p0] μ o μ1 := by
  refine xm_x (by decide) rfl (Nat.le_of_ble_eq_true rfl) [(0, .int p0)] rfl ?_
  intro p e s m args below meth c ls hx hb hr hml hlocks hex hts hown hK hE hR hS hl
  have hts : ∀ w ∈ xAll, w.before args s = true := fun w hw => hts w (List.mem_cons_of_mem _ hw)
  rw [fX7_demandFound] at h
  refine lv_iload_n (pc := 0) hx hb dX7_demandFound_0 rfl (lv_at hl 0 rfl) ?_
  refine lv_iconst (pc := 1) hx hb dX7_demandFound_1 kc_m1 ?_
  refine lv_icmp_ne (pc := 2) (tgt := 16) hx hb dX7_demandFound_2 (by decide) (fun c1 => ?_) (fun c1 => ?_)
  · have h := xneg c1 h
    refine lv_iload_n (pc := 16) hx hb dX7_demandFound_16 rfl (lv_at hl 0 rfl) ?_
    exact xe_x (pc := 17) hx hb hr rfl hlocks h hR hK hS (Nat.le_of_ble_eq_true rfl) (Nat.le_of_ble_eq_true rfl) dX7_demandFound_17
  · have h := xpos c1 h
    exact xt_N (pc := 5) (i := 11) (w := 3) (Or.inr ⟨rfl, dX7_demandFound_9⟩) hx hb hls hlocks hts hown hK hE hF th_4 (by decide) (by decide +kernel) rfl h hR hS (hl.1.trans hml.symm) hex dX7_demandFound_5 dX7_demandFound_8 dX7_demandFound_12 dX7_demandFound_15 (Nat.le_of_ble_eq_true rfl) (Nat.le_of_ble_eq_true rfl) (Nat.le_of_ble_eq_true rfl) (Nat.le_of_ble_eq_true rfl) (Nat.le_of_ble_eq_true rfl) (Nat.le_of_ble_eq_true rfl)
set_option maxHeartbeats 1000000 in
set_option maxRecDepth 20000 in
theorem mX7_demandRange {l : Launch} (hls : l.stackTraces = false) {D : va_G} {ca : Nat → ClassId} {z : Nat} {G : xG} {X : va_W} {ad av : Nat → Nat} (hF : xFix z G X) (p0 : Int32) (p1 : Int32) (p2 : Int32)  {μ μ1 : xM} {o : xO} (h : fX7_demandRange p0 p1 p2 μ = some (o, μ1)) : xMy l yX7_demandRange (xws yX7_demandRange cX7_demandRange 3 none) 6 1 6 D ca z G X ad av [.int p0, .int p1, .int p2] μ o μ1 := by
  refine xm_y (by decide) rfl (Nat.le_of_ble_eq_true rfl) [(0, .int p0), (1, .int p1), (2, .int p2)] rfl ?_
  intro p e s m args below meth c ls hx hb hr hml hlocks hex hts hown hK hE hR hS hl
  have hts : ∀ w ∈ xAll, w.before args s = true := fun w hw => hts w (List.mem_cons_of_mem _ hw)
  rw [fX7_demandRange] at h
  refine lv_iload_n (pc := 0) hx hb dX7_demandRange_0 rfl (lv_at hl 0 rfl) ?_
  refine lv_iload_n (pc := 1) hx hb dX7_demandRange_1 rfl (lv_at hl 1 rfl) ?_
  refine lv_icmp_lt (pc := 2) (tgt := 10) hx hb dX7_demandRange_2 (by decide) (fun c1 => ?_) (fun c1 => ?_)
  · have h := xpos c1 h
    exact xt_SW (pc := 10) (k := 1) (i := 8) hx hb hls hlocks hts hown hK hE hF th_2 (by decide) (by decide +kernel) rfl h hR hS (hl.1.trans hml.symm) hex dX7_demandRange_10 dX7_demandRange_13 dX7_demandRange_14 dX7_demandRange_17 dX7_demandRange_20 (Nat.le_of_ble_eq_true rfl) (Nat.le_of_ble_eq_true rfl) (Nat.le_of_ble_eq_true rfl) (Nat.le_of_ble_eq_true rfl) (Nat.le_of_ble_eq_true rfl) (Nat.le_of_ble_eq_true rfl)
  · have h := xneg c1 h
    refine lv_iload_n (pc := 5) hx hb dX7_demandRange_5 rfl (lv_at hl 0 rfl) ?_
    refine lv_iload_n (pc := 6) hx hb dX7_demandRange_6 rfl (lv_at hl 2 rfl) ?_
    refine lv_icmp_le (pc := 7) (tgt := 21) hx hb dX7_demandRange_7 (by decide) (fun c2 => ?_) (fun c2 => ?_)
    · have h := xpos c2 h
      exact xe_y (pc := 21) hx hb hr hlocks h hR hK hS (Nat.le_of_ble_eq_true rfl) (Nat.le_of_ble_eq_true rfl) dX7_demandRange_21
    · have h := xneg c2 h
      exact xt_SW (pc := 10) (k := 1) (i := 8) hx hb hls hlocks hts hown hK hE hF th_2 (by decide) (by decide +kernel) rfl h hR hS (hl.1.trans hml.symm) hex dX7_demandRange_10 dX7_demandRange_13 dX7_demandRange_14 dX7_demandRange_17 dX7_demandRange_20 (Nat.le_of_ble_eq_true rfl) (Nat.le_of_ble_eq_true rfl) (Nat.le_of_ble_eq_true rfl) (Nat.le_of_ble_eq_true rfl) (Nat.le_of_ble_eq_true rfl) (Nat.le_of_ble_eq_true rfl)
set_option maxHeartbeats 1000000 in
set_option maxRecDepth 20000 in
theorem mX7_demandState {l : Launch} (hls : l.stackTraces = false) {D : va_G} {ca : Nat → ClassId} {z : Nat} {G : xG} {X : va_W} {ad av : Nat → Nat} (hF : xFix z G X) (p0 : Int32)  {μ μ1 : xM} {o : xO} (h : fX7_demandState p0 μ = some (o, μ1)) : xMy l yX7_demandState (xws yX7_demandState cX7_demandState 1 none) 6 1 6 D ca z G X ad av [.int p0] μ o μ1 := by
  refine xm_y (by decide) rfl (Nat.le_of_ble_eq_true rfl) [(0, .int p0)] rfl ?_
  intro p e s m args below meth c ls hx hb hr hml hlocks hex hts hown hK hE hR hS hl
  have hts : ∀ w ∈ xAll, w.before args s = true := fun w hw => hts w (List.mem_cons_of_mem _ hw)
  rw [fX7_demandState] at h
  refine lv_iload_n (pc := 0) hx hb dX7_demandState_0 rfl (lv_at hl 0 rfl) ?_
  refine lv_if_ne (pc := 1) (tgt := 15) hx hb dX7_demandState_1 (by decide) (fun c1 => ?_) (fun c1 => ?_)
  · have h := xneg c1 h
    exact xe_y (pc := 15) hx hb hr hlocks h hR hK hS (Nat.le_of_ble_eq_true rfl) (Nat.le_of_ble_eq_true rfl) dX7_demandState_15
  · have h := xpos c1 h
    exact xt_SW (pc := 4) (k := 4) (i := 10) hx hb hls hlocks hts hown hK hE hF th_5 (by decide) (by decide +kernel) rfl h hR hS (hl.1.trans hml.symm) hex dX7_demandState_4 dX7_demandState_7 dX7_demandState_8 dX7_demandState_11 dX7_demandState_14 (Nat.le_of_ble_eq_true rfl) (Nat.le_of_ble_eq_true rfl) (Nat.le_of_ble_eq_true rfl) (Nat.le_of_ble_eq_true rfl) (Nat.le_of_ble_eq_true rfl) (Nat.le_of_ble_eq_true rfl)
set_option maxHeartbeats 1000000 in
set_option maxRecDepth 20000 in
theorem mX7_demandTicket {l : Launch} (hls : l.stackTraces = false) {D : va_G} {ca : Nat → ClassId} {z : Nat} {G : xG} {X : va_W} {ad av : Nat → Nat} (hF : xFix z G X) (h0 : Nat) (p1 : Int32) (k0 : xI_Coat G h0) {μ μ1 : xM} {o : xO} (h : fX7_demandTicket h0 p1 μ = some (o, μ1)) : xMy l yX7_demandTicket (xws yX7_demandTicket cX7_demandTicket 2 none) 6 1 6 D ca z G X ad av [.ref h0, .int p1] μ o μ1 := by
  refine xm_y (by decide) rfl (Nat.le_of_ble_eq_true rfl) [(0, .ref h0), (1, .int p1)] rfl ?_
  intro p e s m args below meth c ls hx hb hr hml hlocks hex hts hown hK hE hR hS hl
  have hts : ∀ w ∈ xAll, w.before args s = true := fun w hw => hts w (List.mem_cons_of_mem _ hw)
  rw [fX7_demandTicket] at h
  refine lv_aload_n (pc := 0) hx hb dX7_demandTicket_0 rfl (lv_at hl 0 rfl) ?_
  refine xr_getR (pc := 1) (ci := 11) hx hb hts inX7 hown hK hR rfl k0.1 0 (Nat.le_of_ble_eq_true rfl) rfl k0.2.1.1 (hts _ q_f_X7_10) (fun _ h9 => h9) dX7_demandTicket_1 ?_
  refine lv_iload_n (pc := 4) hx hb dX7_demandTicket_4 rfl (lv_at hl 1 rfl) ?_
  obtain ⟨r1, m1, c1, h⟩ := xb_inv h
  refine xc_iV (pc := 5) (As := [.int _]) (rest := []) ⟨hx, hb, hml, hown, hts⟩ (mX0_hasTicket hF _ _ k0.2.1.2 c1) (xcwV 1 hts fdX0_hasTicket q_m_X7_320 ⟨Nat.le_of_ble_eq_true rfl, Nat.le_of_ble_eq_true rfl⟩) (xRecv hK hR (ci := 4) rfl k0.2.1.2.1) hR hK hE hS rfl hl.1 rfl (Nat.le_of_ble_eq_true rfl) dX7_demandTicket_5 ⟨Nat.le_of_ble_eq_true rfl, Nat.le_of_ble_eq_true rfl⟩ (fun H locs hR hS => ?_)
  refine lv_if_ne (pc := 8) (tgt := 22) hx hb dX7_demandTicket_8 (by decide) (fun c2 => ?_) (fun c2 => ?_)
  · have h := xneg c2 h
    exact xe_y (pc := 22) hx hb hr hlocks h hR hK hS (Nat.le_of_ble_eq_true rfl) (Nat.le_of_ble_eq_true rfl) dX7_demandTicket_22
  · have h := xpos c2 h
    exact xt_N (pc := 11) (i := 7) (w := 3) (Or.inr ⟨rfl, dX7_demandTicket_15⟩) hx hb hls hlocks hts hown hK hE hF th_4 (by decide) (by decide +kernel) rfl h hR hS (hl.1.trans hml.symm) hex dX7_demandTicket_11 dX7_demandTicket_14 dX7_demandTicket_18 dX7_demandTicket_21 (Nat.le_of_ble_eq_true rfl) (Nat.le_of_ble_eq_true rfl) (Nat.le_of_ble_eq_true rfl) (Nat.le_of_ble_eq_true rfl) (Nat.le_of_ble_eq_true rfl) (Nat.le_of_ble_eq_true rfl)
set_option maxHeartbeats 1000000 in
set_option maxRecDepth 20000 in
theorem mX7_change {l : Launch} (hls : l.stackTraces = false) {D : va_G} {ca : Nat → ClassId} {z : Nat} {G : xG} {X : va_W} {ad av : Nat → Nat} (hF : xFix z G X) (h0 : Nat) (p1 : Int32) (p2 : Int32) (p3 : Int32) (p4 : Int32) (k0 : xI_Coat G h0) {μ μ1 : xM} {o : xO} (h : fX7_change h0 p1 p2 p3 p4 μ = some (o, μ1)) : xMx l yX7_change (xws yX7_change cX7_change 5 (some .int)) 7 1 6 D ca z G X ad av [.ref h0, .int p1, .int p2, .int p3, .int p4] μ o μ1 := by
  refine xm_x (by decide) rfl (Nat.le_of_ble_eq_true rfl) [(0, .ref h0), (1, .int p1), (2, .int p2), (3, .int p3), (4, .int p4)] rfl ?_
  intro p e s m args below meth c ls hx hb hr hml hlocks hex hts hown hK hE hR hS hl
  have hts : ∀ w ∈ xAll, w.before args s = true := fun w hw => hts w (List.mem_cons_of_mem _ hw)
  rw [fX7_change] at h
  refine lv_aload_n (pc := 0) hx hb dX7_change_0 rfl (lv_at hl 0 rfl) ?_
  refine xr_getR (pc := 1) (ci := 11) hx hb hts inX7 hown hK hR rfl k0.1 6 (Nat.le_of_ble_eq_true rfl) rfl k0.2.2.2.2.2.2.1.1 (hts _ q_f_X7_43) (fun _ h9 => h9) dX7_change_1 ?_
  refine lv_iload_n (pc := 4) hx hb dX7_change_4 rfl (lv_at hl 1 rfl) ?_
  obtain ⟨m1, c1, h⟩ := xbv_inv h
  refine xc_vV (pc := 5) (As := [.int _]) (rest := []) ⟨hx, hb, hml, hown, hts⟩ (mX4_begin hF _ _ k0.2.2.2.2.2.2.1.2 c1) (xcwV 1 hts fdX4_begin q_m_X7_285 ⟨Nat.le_of_ble_eq_true rfl, Nat.le_of_ble_eq_true rfl⟩) (xRecv hK hR (ci := 8) rfl k0.2.2.2.2.2.2.1.2) hR hK hE hS rfl hl.1 rfl (Nat.le_of_ble_eq_true rfl) dX7_change_5 ⟨Nat.le_of_ble_eq_true rfl, Nat.le_of_ble_eq_true rfl⟩ (fun H locs hR hS => ?_)
  refine lv_aload_n (pc := 8) hx hb dX7_change_8 rfl (lv_at hl 0 rfl) ?_
  refine xr_getR (pc := 9) (ci := 11) hx hb hts inX7 hown hK hR rfl k0.1 6 (Nat.le_of_ble_eq_true rfl) rfl k0.2.2.2.2.2.2.1.1 (hts _ q_f_X7_43) (fun _ h9 => h9) dX7_change_9 ?_
  refine lv_iload_n (pc := 12) hx hb dX7_change_12 rfl (lv_at hl 2 rfl) ?_
  obtain ⟨m2, c2, h⟩ := xbv_inv h
  refine xc_vV (pc := 13) (As := [.int _]) (rest := []) ⟨hx, hb, hml, hown, hts⟩ (mX4_add hF _ _ k0.2.2.2.2.2.2.1.2 c2) (xcwV 1 hts fdX4_add q_m_X7_289 ⟨Nat.le_of_ble_eq_true rfl, Nat.le_of_ble_eq_true rfl⟩) (xRecv hK hR (ci := 8) rfl k0.2.2.2.2.2.2.1.2) hR hK hE hS rfl hl.1 rfl (Nat.le_of_ble_eq_true rfl) dX7_change_13 ⟨Nat.le_of_ble_eq_true rfl, Nat.le_of_ble_eq_true rfl⟩ (fun H locs hR hS => ?_)
  refine lv_aload_n (pc := 16) hx hb dX7_change_16 rfl (lv_at hl 0 rfl) ?_
  refine xr_getR (pc := 17) (ci := 11) hx hb hts inX7 hown hK hR rfl k0.1 6 (Nat.le_of_ble_eq_true rfl) rfl k0.2.2.2.2.2.2.1.1 (hts _ q_f_X7_43) (fun _ h9 => h9) dX7_change_17 ?_
  refine lv_iload_n (pc := 20) hx hb dX7_change_20 rfl (lv_at hl 3 rfl) ?_
  obtain ⟨m3, c3, h⟩ := xbv_inv h
  refine xc_vV (pc := 21) (As := [.int _]) (rest := []) ⟨hx, hb, hml, hown, hts⟩ (mX4_add hF _ _ k0.2.2.2.2.2.2.1.2 c3) (xcwV 1 hts fdX4_add q_m_X7_289 ⟨Nat.le_of_ble_eq_true rfl, Nat.le_of_ble_eq_true rfl⟩) (xRecv hK hR (ci := 8) rfl k0.2.2.2.2.2.2.1.2) hR hK hE hS rfl hl.1 rfl (Nat.le_of_ble_eq_true rfl) dX7_change_21 ⟨Nat.le_of_ble_eq_true rfl, Nat.le_of_ble_eq_true rfl⟩ (fun H locs hR hS => ?_)
  refine lv_aload_n (pc := 24) hx hb dX7_change_24 rfl (lv_at hl 0 rfl) ?_
  refine xr_getR (pc := 25) (ci := 11) hx hb hts inX7 hown hK hR rfl k0.1 6 (Nat.le_of_ble_eq_true rfl) rfl k0.2.2.2.2.2.2.1.1 (hts _ q_f_X7_43) (fun _ h9 => h9) dX7_change_25 ?_
  refine lv_iload (pc := 28) hx hb dX7_change_28 (lv_at hl 4 rfl) ?_
  obtain ⟨m4, c4, h⟩ := xbv_inv h
  refine xc_vV (pc := 30) (As := [.int _]) (rest := []) ⟨hx, hb, hml, hown, hts⟩ (mX4_add hF _ _ k0.2.2.2.2.2.2.1.2 c4) (xcwV 1 hts fdX4_add q_m_X7_289 ⟨Nat.le_of_ble_eq_true rfl, Nat.le_of_ble_eq_true rfl⟩) (xRecv hK hR (ci := 8) rfl k0.2.2.2.2.2.2.1.2) hR hK hE hS rfl hl.1 rfl (Nat.le_of_ble_eq_true rfl) dX7_change_30 ⟨Nat.le_of_ble_eq_true rfl, Nat.le_of_ble_eq_true rfl⟩ (fun H locs hR hS => ?_)
  refine lv_aload_n (pc := 33) hx hb dX7_change_33 rfl (lv_at hl 0 rfl) ?_
  refine lv_aload_n (pc := 34) hx hb dX7_change_34 rfl (lv_at hl 0 rfl) ?_
  refine xr_getR (pc := 35) (ci := 11) hx hb hts inX7 hown hK hR rfl k0.1 5 (Nat.le_of_ble_eq_true rfl) rfl k0.2.2.2.2.2.1.1 (hts _ q_f_X7_36) (fun _ h9 => h9) dX7_change_35 ?_
  refine lv_aload_n (pc := 38) hx hb dX7_change_38 rfl (lv_at hl 0 rfl) ?_
  refine xr_getR (pc := 39) (ci := 11) hx hb hts inX7 hown hK hR rfl k0.1 0 (Nat.le_of_ble_eq_true rfl) rfl k0.2.1.1 (hts _ q_f_X7_10) (fun _ h9 => h9) dX7_change_39 ?_
  refine lv_aload_n (pc := 42) hx hb dX7_change_42 rfl (lv_at hl 0 rfl) ?_
  refine xr_getR (pc := 43) (ci := 11) hx hb hts inX7 hown hK hR rfl k0.1 6 (Nat.le_of_ble_eq_true rfl) rfl k0.2.2.2.2.2.2.1.1 (hts _ q_f_X7_43) (fun _ h9 => h9) dX7_change_43 ?_
  obtain ⟨r5, m5, c5, h⟩ := xb_inv h
  refine xc_iV (pc := 46) (As := [.ref _, .ref _]) (rest := [.ref _]) ⟨hx, hb, hml, hown, hts⟩ (mX1_examine hF _ _ _ k0.2.2.2.2.2.1.2 k0.2.1.2 k0.2.2.2.2.2.2.1.2 c5) (xcwV 2 hts fdX1_examine q_m_X7_292 ⟨Nat.le_of_ble_eq_true rfl, Nat.le_of_ble_eq_true rfl⟩) (xRecv hK hR (ci := 5) rfl k0.2.2.2.2.2.1.2) hR hK hE hS rfl hl.1 rfl (Nat.le_of_ble_eq_true rfl) dX7_change_46 ⟨Nat.le_of_ble_eq_true rfl, Nat.le_of_ble_eq_true rfl⟩ (fun H locs hR hS => ?_)
  rcases xcb_inv h with ⟨r6, m6, c6, h⟩ | ⟨e6, r6, m6, c6, h⟩
  rotate_left
  · exact xz_vV (pc := 49) (As := [.int _]) (rest := []) ⟨hx, hb, hml, hown, hts⟩ (mX7_demandFine hls hF _ _ k0 c6) (xcwV 1 hts fdX7_demandFine q_m_X7_296 ⟨Nat.le_of_ble_eq_true rfl, Nat.le_of_ble_eq_true rfl⟩) (xRecv hK hR (ci := 11) rfl k0.1) hR hK hE hS rfl hl.1 rfl (Nat.le_of_ble_eq_true rfl) dX7_change_49 ⟨Nat.le_of_ble_eq_true rfl, Nat.le_of_ble_eq_true rfl⟩ (fun ce q9 H locs hR hS h1 h2 h3 => xo_ut hlocks hex (congrArg some h.symm) hK hR hS h1 h2 h3 (Nat.le_of_ble_eq_true rfl) (Nat.le_of_ble_eq_true rfl))
  refine xy_vV (pc := 49) (As := [.int _]) (rest := []) ⟨hx, hb, hml, hown, hts⟩ (mX7_demandFine hls hF _ _ k0 c6) (xcwV 1 hts fdX7_demandFine q_m_X7_296 ⟨Nat.le_of_ble_eq_true rfl, Nat.le_of_ble_eq_true rfl⟩) (xRecv hK hR (ci := 11) rfl k0.1) hR hK hE hS rfl hl.1 rfl (Nat.le_of_ble_eq_true rfl) dX7_change_49 ⟨Nat.le_of_ble_eq_true rfl, Nat.le_of_ble_eq_true rfl⟩ (fun H locs hR hS => ?_)
  refine lv_aload_n (pc := 52) hx hb dX7_change_52 rfl (lv_at hl 0 rfl) ?_
  refine xr_getR (pc := 53) (ci := 11) hx hb hts inX7 hown hK hR rfl k0.1 4 (Nat.le_of_ble_eq_true rfl) rfl k0.2.2.2.2.1.1 (hts _ q_f_X7_29) (fun _ h9 => h9) dX7_change_53 ?_
  refine lv_aload_n (pc := 56) hx hb dX7_change_56 rfl (lv_at hl 0 rfl) ?_
  refine xr_getR (pc := 57) (ci := 11) hx hb hts inX7 hown hK hR rfl k0.1 0 (Nat.le_of_ble_eq_true rfl) rfl k0.2.1.1 (hts _ q_f_X7_10) (fun _ h9 => h9) dX7_change_57 ?_
  obtain ⟨m7, c7, h⟩ := xbv_inv h
  refine xc_vV (pc := 60) (As := [.ref _]) (rest := []) ⟨hx, hb, hml, hown, hts⟩ (mX2_keep hF _ _ k0.2.2.2.2.1.2 k0.2.1.2 c7) (xcwV 1 hts fdX2_keep q_m_X7_212 ⟨Nat.le_of_ble_eq_true rfl, Nat.le_of_ble_eq_true rfl⟩) (xRecv hK hR (ci := 6) rfl k0.2.2.2.2.1.2.1) hR hK hE hS rfl hl.1 rfl (Nat.le_of_ble_eq_true rfl) dX7_change_60 ⟨Nat.le_of_ble_eq_true rfl, Nat.le_of_ble_eq_true rfl⟩ (fun H locs hR hS => ?_)
  refine lv_aload_n (pc := 63) hx hb dX7_change_63 rfl (lv_at hl 0 rfl) ?_
  refine xr_getR (pc := 64) (ci := 11) hx hb hts inX7 hown hK hR rfl k0.1 0 (Nat.le_of_ble_eq_true rfl) rfl k0.2.1.1 (hts _ q_f_X7_10) (fun _ h9 => h9) dX7_change_64 ?_
  refine lv_aload_n (pc := 67) hx hb dX7_change_67 rfl (lv_at hl 0 rfl) ?_
  refine xr_getR (pc := 68) (ci := 11) hx hb hts inX7 hown hK hR rfl k0.1 6 (Nat.le_of_ble_eq_true rfl) rfl k0.2.2.2.2.2.2.1.1 (hts _ q_f_X7_43) (fun _ h9 => h9) dX7_change_68 ?_
  obtain ⟨r8, m8, c8, h⟩ := xb_inv h
  refine xc_iV (pc := 71) (As := [.ref _]) (rest := []) ⟨hx, hb, hml, hown, hts⟩ (mX0_carryOut hF _ _ k0.2.1.2 k0.2.2.2.2.2.2.1.2 c8) (xcwV 1 hts fdX0_carryOut q_m_X7_299 ⟨Nat.le_of_ble_eq_true rfl, Nat.le_of_ble_eq_true rfl⟩) (xRecv hK hR (ci := 4) rfl k0.2.1.2.1) hR hK hE hS rfl hl.1 rfl (Nat.le_of_ble_eq_true rfl) dX7_change_71 ⟨Nat.le_of_ble_eq_true rfl, Nat.le_of_ble_eq_true rfl⟩ (fun H locs hR hS => ?_)
  exact xe_x (pc := 74) hx hb hr rfl hlocks h hR hK hS (Nat.le_of_ble_eq_true rfl) (Nat.le_of_ble_eq_true rfl) dX7_change_74
set_option maxHeartbeats 1000000 in
set_option maxRecDepth 20000 in
theorem mX7_pledge {l : Launch} (hls : l.stackTraces = false) {D : va_G} {ca : Nat → ClassId} {z : Nat} {G : xG} {X : va_W} {ad av : Nat → Nat} (hF : xFix z G X) (h0 : Nat) (p1 : Int32) (p2 : Int32) (p3 : Int32) (k0 : xI_Coat G h0) {μ μ1 : xM} {o : xO} (h : fX7_pledge h0 p1 p2 p3 μ = some (o, μ1)) : xMx l yX7_pledge (xws yX7_pledge cX7_pledge 4 (some .int)) 8 1 6 D ca z G X ad av [.ref h0, .int p1, .int p2, .int p3] μ o μ1 := by
  refine xm_x (by decide) rfl (Nat.le_of_ble_eq_true rfl) [(0, .ref h0), (1, .int p1), (2, .int p2), (3, .int p3)] rfl ?_
  intro p e s m args below meth c ls hx hb hr hml hlocks hex hts hown hK hE hR hS hl
  have hts : ∀ w ∈ xAll, w.before args s = true := fun w hw => hts w (List.mem_cons_of_mem _ hw)
  rw [fX7_pledge] at h
  refine lv_aload_n (pc := 0) hx hb dX7_pledge_0 rfl (lv_at hl 0 rfl) ?_
  refine lv_bipush (pc := 1) hx hb dX7_pledge_1 kb_112 ?_
  refine lv_iload_n (pc := 3) hx hb dX7_pledge_3 rfl (lv_at hl 1 rfl) ?_
  refine lv_iload_n (pc := 4) hx hb dX7_pledge_4 rfl (lv_at hl 2 rfl) ?_
  refine lv_iload_n (pc := 5) hx hb dX7_pledge_5 rfl (lv_at hl 3 rfl) ?_
  rcases xcb_inv h with ⟨r1, m1, c1, h⟩ | ⟨e1, r1, m1, c1, h⟩
  rotate_left
  · exact xz_iV (pc := 6) (As := [.int _, .int _, .int _, .int _]) (rest := []) ⟨hx, hb, hml, hown, hts⟩ (mX7_change hls hF _ _ _ _ _ k0 c1) (xcwV 4 hts fdX7_change q_m_X7_72 ⟨Nat.le_of_ble_eq_true rfl, Nat.le_of_ble_eq_true rfl⟩) (xRecv hK hR (ci := 11) rfl k0.1) hR hK hE hS rfl hl.1 rfl (Nat.le_of_ble_eq_true rfl) dX7_pledge_6 ⟨Nat.le_of_ble_eq_true rfl, Nat.le_of_ble_eq_true rfl⟩ (fun ce q9 H locs hR hS h1 h2 h3 => xo_ut hlocks hex (congrArg some h.symm) hK hR hS h1 h2 h3 (Nat.le_of_ble_eq_true rfl) (Nat.le_of_ble_eq_true rfl))
  refine xy_iV (pc := 6) (As := [.int _, .int _, .int _, .int _]) (rest := []) ⟨hx, hb, hml, hown, hts⟩ (mX7_change hls hF _ _ _ _ _ k0 c1) (xcwV 4 hts fdX7_change q_m_X7_72 ⟨Nat.le_of_ble_eq_true rfl, Nat.le_of_ble_eq_true rfl⟩) (xRecv hK hR (ci := 11) rfl k0.1) hR hK hE hS rfl hl.1 rfl (Nat.le_of_ble_eq_true rfl) dX7_pledge_6 ⟨Nat.le_of_ble_eq_true rfl, Nat.le_of_ble_eq_true rfl⟩ (fun H locs hR hS => ?_)
  exact xe_x (pc := 9) hx hb hr rfl hlocks h hR hK hS (Nat.le_of_ble_eq_true rfl) (Nat.le_of_ble_eq_true rfl) dX7_pledge_9
set_option maxHeartbeats 1000000 in
set_option maxRecDepth 20000 in
theorem mX7_rate {l : Launch} (hls : l.stackTraces = false) {D : va_G} {ca : Nat → ClassId} {z : Nat} {G : xG} {X : va_W} {ad av : Nat → Nat} (hF : xFix z G X) (h0 : Nat) (p1 : Int32) (k0 : xI_Coat G h0) {μ μ1 : xM} {o : xO} (h : fX7_rate h0 p1 μ = some (o, μ1)) : xMx l yX7_rate (xws yX7_rate cX7_rate 2 (some .int)) 8 1 6 D ca z G X ad av [.ref h0, .int p1] μ o μ1 := by
  refine xm_x (by decide) rfl (Nat.le_of_ble_eq_true rfl) [(0, .ref h0), (1, .int p1)] rfl ?_
  intro p e s m args below meth c ls hx hb hr hml hlocks hex hts hown hK hE hR hS hl
  have hts : ∀ w ∈ xAll, w.before args s = true := fun w hw => hts w (List.mem_cons_of_mem _ hw)
  rw [fX7_rate] at h
  refine lv_aload_n (pc := 0) hx hb dX7_rate_0 rfl (lv_at hl 0 rfl) ?_
  refine lv_bipush (pc := 1) hx hb dX7_rate_1 kb_37 ?_
  refine lv_iload_n (pc := 3) hx hb dX7_rate_3 rfl (lv_at hl 1 rfl) ?_
  refine lv_iconst (pc := 4) hx hb dX7_rate_4 kc_0 ?_
  refine lv_iconst (pc := 5) hx hb dX7_rate_5 kc_0 ?_
  rcases xcb_inv h with ⟨r1, m1, c1, h⟩ | ⟨e1, r1, m1, c1, h⟩
  rotate_left
  · exact xz_iV (pc := 6) (As := [.int _, .int _, .int _, .int _]) (rest := []) ⟨hx, hb, hml, hown, hts⟩ (mX7_change hls hF _ _ _ _ _ k0 c1) (xcwV 4 hts fdX7_change q_m_X7_72 ⟨Nat.le_of_ble_eq_true rfl, Nat.le_of_ble_eq_true rfl⟩) (xRecv hK hR (ci := 11) rfl k0.1) hR hK hE hS rfl hl.1 rfl (Nat.le_of_ble_eq_true rfl) dX7_rate_6 ⟨Nat.le_of_ble_eq_true rfl, Nat.le_of_ble_eq_true rfl⟩ (fun ce q9 H locs hR hS h1 h2 h3 => xo_ut hlocks hex (congrArg some h.symm) hK hR hS h1 h2 h3 (Nat.le_of_ble_eq_true rfl) (Nat.le_of_ble_eq_true rfl))
  refine xy_iV (pc := 6) (As := [.int _, .int _, .int _, .int _]) (rest := []) ⟨hx, hb, hml, hown, hts⟩ (mX7_change hls hF _ _ _ _ _ k0 c1) (xcwV 4 hts fdX7_change q_m_X7_72 ⟨Nat.le_of_ble_eq_true rfl, Nat.le_of_ble_eq_true rfl⟩) (xRecv hK hR (ci := 11) rfl k0.1) hR hK hE hS rfl hl.1 rfl (Nat.le_of_ble_eq_true rfl) dX7_rate_6 ⟨Nat.le_of_ble_eq_true rfl, Nat.le_of_ble_eq_true rfl⟩ (fun H locs hR hS => ?_)
  exact xe_x (pc := 9) hx hb hr rfl hlocks h hR hK hS (Nat.le_of_ble_eq_true rfl) (Nat.le_of_ble_eq_true rfl) dX7_rate_9
set_option maxHeartbeats 1000000 in
set_option maxRecDepth 20000 in
theorem mX7_fee {l : Launch} (hls : l.stackTraces = false) {D : va_G} {ca : Nat → ClassId} {z : Nat} {G : xG} {X : va_W} {ad av : Nat → Nat} (hF : xFix z G X) (h0 : Nat) (p1 : Int32) (k0 : xI_Coat G h0) {μ μ1 : xM} {o : xO} (h : fX7_fee h0 p1 μ = some (o, μ1)) : xMx l yX7_fee (xws yX7_fee cX7_fee 2 (some .int)) 8 1 6 D ca z G X ad av [.ref h0, .int p1] μ o μ1 := by
  refine xm_x (by decide) rfl (Nat.le_of_ble_eq_true rfl) [(0, .ref h0), (1, .int p1)] rfl ?_
  intro p e s m args below meth c ls hx hb hr hml hlocks hex hts hown hK hE hR hS hl
  have hts : ∀ w ∈ xAll, w.before args s = true := fun w hw => hts w (List.mem_cons_of_mem _ hw)
  rw [fX7_fee] at h
  refine lv_aload_n (pc := 0) hx hb dX7_fee_0 rfl (lv_at hl 0 rfl) ?_
  refine lv_bipush (pc := 1) hx hb dX7_fee_1 kb_102 ?_
  refine lv_iload_n (pc := 3) hx hb dX7_fee_3 rfl (lv_at hl 1 rfl) ?_
  refine lv_iconst (pc := 4) hx hb dX7_fee_4 kc_0 ?_
  refine lv_iconst (pc := 5) hx hb dX7_fee_5 kc_0 ?_
  rcases xcb_inv h with ⟨r1, m1, c1, h⟩ | ⟨e1, r1, m1, c1, h⟩
  rotate_left
  · exact xz_iV (pc := 6) (As := [.int _, .int _, .int _, .int _]) (rest := []) ⟨hx, hb, hml, hown, hts⟩ (mX7_change hls hF _ _ _ _ _ k0 c1) (xcwV 4 hts fdX7_change q_m_X7_72 ⟨Nat.le_of_ble_eq_true rfl, Nat.le_of_ble_eq_true rfl⟩) (xRecv hK hR (ci := 11) rfl k0.1) hR hK hE hS rfl hl.1 rfl (Nat.le_of_ble_eq_true rfl) dX7_fee_6 ⟨Nat.le_of_ble_eq_true rfl, Nat.le_of_ble_eq_true rfl⟩ (fun ce q9 H locs hR hS h1 h2 h3 => xo_ut hlocks hex (congrArg some h.symm) hK hR hS h1 h2 h3 (Nat.le_of_ble_eq_true rfl) (Nat.le_of_ble_eq_true rfl))
  refine xy_iV (pc := 6) (As := [.int _, .int _, .int _, .int _]) (rest := []) ⟨hx, hb, hml, hown, hts⟩ (mX7_change hls hF _ _ _ _ _ k0 c1) (xcwV 4 hts fdX7_change q_m_X7_72 ⟨Nat.le_of_ble_eq_true rfl, Nat.le_of_ble_eq_true rfl⟩) (xRecv hK hR (ci := 11) rfl k0.1) hR hK hE hS rfl hl.1 rfl (Nat.le_of_ble_eq_true rfl) dX7_fee_6 ⟨Nat.le_of_ble_eq_true rfl, Nat.le_of_ble_eq_true rfl⟩ (fun H locs hR hS => ?_)
  exact xe_x (pc := 9) hx hb hr rfl hlocks h hR hK hS (Nat.le_of_ble_eq_true rfl) (Nat.le_of_ble_eq_true rfl) dX7_fee_9
set_option maxHeartbeats 1000000 in
set_option maxRecDepth 20000 in
theorem mX7_pass {l : Launch} (hls : l.stackTraces = false) {D : va_G} {ca : Nat → ClassId} {z : Nat} {G : xG} {X : va_W} {ad av : Nat → Nat} (hF : xFix z G X) (h0 : Nat) (p1 : Int32) (k0 : xI_Coat G h0) {μ μ1 : xM} {o : xO} (h : fX7_pass h0 p1 μ = some (o, μ1)) : xMx l yX7_pass (xws yX7_pass cX7_pass 2 (some .int)) 8 1 6 D ca z G X ad av [.ref h0, .int p1] μ o μ1 := by
  refine xm_x (by decide) rfl (Nat.le_of_ble_eq_true rfl) [(0, .ref h0), (1, .int p1)] rfl ?_
  intro p e s m args below meth c ls hx hb hr hml hlocks hex hts hown hK hE hR hS hl
  have hts : ∀ w ∈ xAll, w.before args s = true := fun w hw => hts w (List.mem_cons_of_mem _ hw)
  rw [fX7_pass] at h
  refine lv_aload_n (pc := 0) hx hb dX7_pass_0 rfl (lv_at hl 0 rfl) ?_
  refine lv_bipush (pc := 1) hx hb dX7_pass_1 kb_119 ?_
  refine lv_iload_n (pc := 3) hx hb dX7_pass_3 rfl (lv_at hl 1 rfl) ?_
  refine lv_iconst (pc := 4) hx hb dX7_pass_4 kc_0 ?_
  refine lv_iconst (pc := 5) hx hb dX7_pass_5 kc_0 ?_
  rcases xcb_inv h with ⟨r1, m1, c1, h⟩ | ⟨e1, r1, m1, c1, h⟩
  rotate_left
  · exact xz_iV (pc := 6) (As := [.int _, .int _, .int _, .int _]) (rest := []) ⟨hx, hb, hml, hown, hts⟩ (mX7_change hls hF _ _ _ _ _ k0 c1) (xcwV 4 hts fdX7_change q_m_X7_72 ⟨Nat.le_of_ble_eq_true rfl, Nat.le_of_ble_eq_true rfl⟩) (xRecv hK hR (ci := 11) rfl k0.1) hR hK hE hS rfl hl.1 rfl (Nat.le_of_ble_eq_true rfl) dX7_pass_6 ⟨Nat.le_of_ble_eq_true rfl, Nat.le_of_ble_eq_true rfl⟩ (fun ce q9 H locs hR hS h1 h2 h3 => xo_ut hlocks hex (congrArg some h.symm) hK hR hS h1 h2 h3 (Nat.le_of_ble_eq_true rfl) (Nat.le_of_ble_eq_true rfl))
  refine xy_iV (pc := 6) (As := [.int _, .int _, .int _, .int _]) (rest := []) ⟨hx, hb, hml, hown, hts⟩ (mX7_change hls hF _ _ _ _ _ k0 c1) (xcwV 4 hts fdX7_change q_m_X7_72 ⟨Nat.le_of_ble_eq_true rfl, Nat.le_of_ble_eq_true rfl⟩) (xRecv hK hR (ci := 11) rfl k0.1) hR hK hE hS rfl hl.1 rfl (Nat.le_of_ble_eq_true rfl) dX7_pass_6 ⟨Nat.le_of_ble_eq_true rfl, Nat.le_of_ble_eq_true rfl⟩ (fun H locs hR hS => ?_)
  exact xe_x (pc := 9) hx hb hr rfl hlocks h hR hK hS (Nat.le_of_ble_eq_true rfl) (Nat.le_of_ble_eq_true rfl) dX7_pass_9
set_option maxHeartbeats 1000000 in
set_option maxRecDepth 20000 in
theorem mX7_redeem {l : Launch} (hls : l.stackTraces = false) {D : va_G} {ca : Nat → ClassId} {z : Nat} {G : xG} {X : va_W} {ad av : Nat → Nat} (hF : xFix z G X) (h0 : Nat) (p1 : Int32) (k0 : xI_Coat G h0) {μ μ1 : xM} {o : xO} (h : fX7_redeem h0 p1 μ = some (o, μ1)) : xMx l yX7_redeem (xws yX7_redeem cX7_redeem 2 (some .int)) 8 1 6 D ca z G X ad av [.ref h0, .int p1] μ o μ1 := by
  refine xm_x (by decide) rfl (Nat.le_of_ble_eq_true rfl) [(0, .ref h0), (1, .int p1)] rfl ?_
  intro p e s m args below meth c ls hx hb hr hml hlocks hex hts hown hK hE hR hS hl
  have hts : ∀ w ∈ xAll, w.before args s = true := fun w hw => hts w (List.mem_cons_of_mem _ hw)
  rw [fX7_redeem] at h
  refine lv_aload_n (pc := 0) hx hb dX7_redeem_0 rfl (lv_at hl 0 rfl) ?_
  refine lv_bipush (pc := 1) hx hb dX7_redeem_1 kb_114 ?_
  refine lv_iload_n (pc := 3) hx hb dX7_redeem_3 rfl (lv_at hl 1 rfl) ?_
  refine lv_iconst (pc := 4) hx hb dX7_redeem_4 kc_0 ?_
  refine lv_iconst (pc := 5) hx hb dX7_redeem_5 kc_0 ?_
  rcases xcb_inv h with ⟨r1, m1, c1, h⟩ | ⟨e1, r1, m1, c1, h⟩
  rotate_left
  · exact xz_iV (pc := 6) (As := [.int _, .int _, .int _, .int _]) (rest := []) ⟨hx, hb, hml, hown, hts⟩ (mX7_change hls hF _ _ _ _ _ k0 c1) (xcwV 4 hts fdX7_change q_m_X7_72 ⟨Nat.le_of_ble_eq_true rfl, Nat.le_of_ble_eq_true rfl⟩) (xRecv hK hR (ci := 11) rfl k0.1) hR hK hE hS rfl hl.1 rfl (Nat.le_of_ble_eq_true rfl) dX7_redeem_6 ⟨Nat.le_of_ble_eq_true rfl, Nat.le_of_ble_eq_true rfl⟩ (fun ce q9 H locs hR hS h1 h2 h3 => xo_ut hlocks hex (congrArg some h.symm) hK hR hS h1 h2 h3 (Nat.le_of_ble_eq_true rfl) (Nat.le_of_ble_eq_true rfl))
  refine xy_iV (pc := 6) (As := [.int _, .int _, .int _, .int _]) (rest := []) ⟨hx, hb, hml, hown, hts⟩ (mX7_change hls hF _ _ _ _ _ k0 c1) (xcwV 4 hts fdX7_change q_m_X7_72 ⟨Nat.le_of_ble_eq_true rfl, Nat.le_of_ble_eq_true rfl⟩) (xRecv hK hR (ci := 11) rfl k0.1) hR hK hE hS rfl hl.1 rfl (Nat.le_of_ble_eq_true rfl) dX7_redeem_6 ⟨Nat.le_of_ble_eq_true rfl, Nat.le_of_ble_eq_true rfl⟩ (fun H locs hR hS => ?_)
  exact xe_x (pc := 9) hx hb hr rfl hlocks h hR hK hS (Nat.le_of_ble_eq_true rfl) (Nat.le_of_ble_eq_true rfl) dX7_redeem_9
set_option maxHeartbeats 1000000 in
set_option maxRecDepth 20000 in
theorem mX7_pay {l : Launch} (hls : l.stackTraces = false) {D : va_G} {ca : Nat → ClassId} {z : Nat} {G : xG} {X : va_W} {ad av : Nat → Nat} (hF : xFix z G X) (h0 : Nat) (p1 : Int32) (p2 : Int32) (k0 : xI_Coat G h0) {μ μ1 : xM} {o : xO} (h : fX7_pay h0 p1 p2 μ = some (o, μ1)) : xMx l yX7_pay (xws yX7_pay cX7_pay 3 (some .int)) 8 1 6 D ca z G X ad av [.ref h0, .int p1, .int p2] μ o μ1 := by
  refine xm_x (by decide) rfl (Nat.le_of_ble_eq_true rfl) [(0, .ref h0), (1, .int p1), (2, .int p2)] rfl ?_
  intro p e s m args below meth c ls hx hb hr hml hlocks hex hts hown hK hE hR hS hl
  have hts : ∀ w ∈ xAll, w.before args s = true := fun w hw => hts w (List.mem_cons_of_mem _ hw)
  rw [fX7_pay] at h
  refine lv_aload_n (pc := 0) hx hb dX7_pay_0 rfl (lv_at hl 0 rfl) ?_
  refine lv_bipush (pc := 1) hx hb dX7_pay_1 kb_121 ?_
  refine lv_iload_n (pc := 3) hx hb dX7_pay_3 rfl (lv_at hl 1 rfl) ?_
  refine lv_iload_n (pc := 4) hx hb dX7_pay_4 rfl (lv_at hl 2 rfl) ?_
  refine lv_iconst (pc := 5) hx hb dX7_pay_5 kc_0 ?_
  rcases xcb_inv h with ⟨r1, m1, c1, h⟩ | ⟨e1, r1, m1, c1, h⟩
  rotate_left
  · exact xz_iV (pc := 6) (As := [.int _, .int _, .int _, .int _]) (rest := []) ⟨hx, hb, hml, hown, hts⟩ (mX7_change hls hF _ _ _ _ _ k0 c1) (xcwV 4 hts fdX7_change q_m_X7_72 ⟨Nat.le_of_ble_eq_true rfl, Nat.le_of_ble_eq_true rfl⟩) (xRecv hK hR (ci := 11) rfl k0.1) hR hK hE hS rfl hl.1 rfl (Nat.le_of_ble_eq_true rfl) dX7_pay_6 ⟨Nat.le_of_ble_eq_true rfl, Nat.le_of_ble_eq_true rfl⟩ (fun ce q9 H locs hR hS h1 h2 h3 => xo_ut hlocks hex (congrArg some h.symm) hK hR hS h1 h2 h3 (Nat.le_of_ble_eq_true rfl) (Nat.le_of_ble_eq_true rfl))
  refine xy_iV (pc := 6) (As := [.int _, .int _, .int _, .int _]) (rest := []) ⟨hx, hb, hml, hown, hts⟩ (mX7_change hls hF _ _ _ _ _ k0 c1) (xcwV 4 hts fdX7_change q_m_X7_72 ⟨Nat.le_of_ble_eq_true rfl, Nat.le_of_ble_eq_true rfl⟩) (xRecv hK hR (ci := 11) rfl k0.1) hR hK hE hS rfl hl.1 rfl (Nat.le_of_ble_eq_true rfl) dX7_pay_6 ⟨Nat.le_of_ble_eq_true rfl, Nat.le_of_ble_eq_true rfl⟩ (fun H locs hR hS => ?_)
  exact xe_x (pc := 9) hx hb hr rfl hlocks h hR hK hS (Nat.le_of_ble_eq_true rfl) (Nat.le_of_ble_eq_true rfl) dX7_pay_9
set_option maxHeartbeats 1000000 in
set_option maxRecDepth 20000 in
theorem mX7_renew {l : Launch} (hls : l.stackTraces = false) {D : va_G} {ca : Nat → ClassId} {z : Nat} {G : xG} {X : va_W} {ad av : Nat → Nat} (hF : xFix z G X) (h0 : Nat) (p1 : Int32) (k0 : xI_Coat G h0) {μ μ1 : xM} {o : xO} (h : fX7_renew h0 p1 μ = some (o, μ1)) : xMx l yX7_renew (xws yX7_renew cX7_renew 2 (some .int)) 8 1 6 D ca z G X ad av [.ref h0, .int p1] μ o μ1 := by
  refine xm_x (by decide) rfl (Nat.le_of_ble_eq_true rfl) [(0, .ref h0), (1, .int p1)] rfl ?_
  intro p e s m args below meth c ls hx hb hr hml hlocks hex hts hown hK hE hR hS hl
  have hts : ∀ w ∈ xAll, w.before args s = true := fun w hw => hts w (List.mem_cons_of_mem _ hw)
  rw [fX7_renew] at h
  refine lv_aload_n (pc := 0) hx hb dX7_renew_0 rfl (lv_at hl 0 rfl) ?_
  refine lv_bipush (pc := 1) hx hb dX7_renew_1 kb_110 ?_
  refine lv_iload_n (pc := 3) hx hb dX7_renew_3 rfl (lv_at hl 1 rfl) ?_
  refine lv_iconst (pc := 4) hx hb dX7_renew_4 kc_0 ?_
  refine lv_iconst (pc := 5) hx hb dX7_renew_5 kc_0 ?_
  rcases xcb_inv h with ⟨r1, m1, c1, h⟩ | ⟨e1, r1, m1, c1, h⟩
  rotate_left
  · exact xz_iV (pc := 6) (As := [.int _, .int _, .int _, .int _]) (rest := []) ⟨hx, hb, hml, hown, hts⟩ (mX7_change hls hF _ _ _ _ _ k0 c1) (xcwV 4 hts fdX7_change q_m_X7_72 ⟨Nat.le_of_ble_eq_true rfl, Nat.le_of_ble_eq_true rfl⟩) (xRecv hK hR (ci := 11) rfl k0.1) hR hK hE hS rfl hl.1 rfl (Nat.le_of_ble_eq_true rfl) dX7_renew_6 ⟨Nat.le_of_ble_eq_true rfl, Nat.le_of_ble_eq_true rfl⟩ (fun ce q9 H locs hR hS h1 h2 h3 => xo_ut hlocks hex (congrArg some h.symm) hK hR hS h1 h2 h3 (Nat.le_of_ble_eq_true rfl) (Nat.le_of_ble_eq_true rfl))
  refine xy_iV (pc := 6) (As := [.int _, .int _, .int _, .int _]) (rest := []) ⟨hx, hb, hml, hown, hts⟩ (mX7_change hls hF _ _ _ _ _ k0 c1) (xcwV 4 hts fdX7_change q_m_X7_72 ⟨Nat.le_of_ble_eq_true rfl, Nat.le_of_ble_eq_true rfl⟩) (xRecv hK hR (ci := 11) rfl k0.1) hR hK hE hS rfl hl.1 rfl (Nat.le_of_ble_eq_true rfl) dX7_renew_6 ⟨Nat.le_of_ble_eq_true rfl, Nat.le_of_ble_eq_true rfl⟩ (fun H locs hR hS => ?_)
  exact xe_x (pc := 9) hx hb hr rfl hlocks h hR hK hS (Nat.le_of_ble_eq_true rfl) (Nat.le_of_ble_eq_true rfl) dX7_renew_9
set_option maxHeartbeats 1000000 in
set_option maxRecDepth 20000 in
theorem mX7_pledgeOf {l : Launch} (hls : l.stackTraces = false) {D : va_G} {ca : Nat → ClassId} {z : Nat} {G : xG} {X : va_W} {ad av : Nat → Nat} (hF : xFix z G X) (h0 : Nat) (p1 : Int32) (p2 : Int32) (k0 : xI_Coat G h0) {μ μ1 : xM} {o : xO} (h : fX7_pledgeOf h0 p1 p2 μ = some (o, μ1)) : xMx l yX7_pledgeOf (xws yX7_pledgeOf cX7_pledgeOf 3 (some .int)) 7 2 12 D ca z G X ad av [.ref h0, .int p1, .int p2] μ o μ1 := by
  refine xm_x (by decide) rfl (Nat.le_of_ble_eq_true rfl) [(0, .ref h0), (1, .int p1), (2, .int p2)] rfl ?_
  intro p e s m args below meth c ls hx hb hr hml hlocks hex hts hown hK hE hR hS hl
  have hts : ∀ w ∈ xAll, w.before args s = true := fun w hw => hts w (List.mem_cons_of_mem _ hw)
  rw [fX7_pledgeOf] at h
  refine lv_aload_n (pc := 0) hx hb dX7_pledgeOf_0 rfl (lv_at hl 0 rfl) ?_
  refine lv_iload_n (pc := 1) hx hb dX7_pledgeOf_1 rfl (lv_at hl 1 rfl) ?_
  rcases xcb_inv h with ⟨r1, m1, c1, h⟩ | ⟨e1, r1, m1, c1, h⟩
  rotate_left
  · exact xz_vV (pc := 2) (As := [.int _]) (rest := []) ⟨hx, hb, hml, hown, hts⟩ (mX7_demandTicket hls hF _ _ k0 c1) (xcwV 1 hts fdX7_demandTicket q_m_X7_76 ⟨Nat.le_of_ble_eq_true rfl, Nat.le_of_ble_eq_true rfl⟩) (xRecv hK hR (ci := 11) rfl k0.1) hR hK hE hS rfl hl.1 rfl (Nat.le_of_ble_eq_true rfl) dX7_pledgeOf_2 ⟨Nat.le_of_ble_eq_true rfl, Nat.le_of_ble_eq_true rfl⟩ (fun ce q9 H locs hR hS h1 h2 h3 => xo_ut hlocks hex (congrArg some h.symm) hK hR hS h1 h2 h3 (Nat.le_of_ble_eq_true rfl) (Nat.le_of_ble_eq_true rfl))
  refine xy_vV (pc := 2) (As := [.int _]) (rest := []) ⟨hx, hb, hml, hown, hts⟩ (mX7_demandTicket hls hF _ _ k0 c1) (xcwV 1 hts fdX7_demandTicket q_m_X7_76 ⟨Nat.le_of_ble_eq_true rfl, Nat.le_of_ble_eq_true rfl⟩) (xRecv hK hR (ci := 11) rfl k0.1) hR hK hE hS rfl hl.1 rfl (Nat.le_of_ble_eq_true rfl) dX7_pledgeOf_2 ⟨Nat.le_of_ble_eq_true rfl, Nat.le_of_ble_eq_true rfl⟩ (fun H locs hR hS => ?_)
  refine lv_iload_n (pc := 5) hx hb dX7_pledgeOf_5 rfl (lv_at hl 2 rfl) ?_
  refine lv_iconst (pc := 6) hx hb dX7_pledgeOf_6 kc_0 ?_
  refine lv_bipush (pc := 7) hx hb dX7_pledgeOf_7 kb_8 ?_
  rcases xcb_inv h with ⟨r2, m2, c2, h⟩ | ⟨e2, r2, m2, c2, h⟩
  rotate_left
  · exact xz_vS (pc := 9) (As := [.int _, .int _, .int _]) (rest := []) ⟨hx, hb, hml, hown, hts⟩ (mX7_demandRange hls hF _ _ _  c2) (xcwS 3 hts fdX7_demandRange q_m_X7_80 ⟨Nat.le_of_ble_eq_true rfl, Nat.le_of_ble_eq_true rfl⟩) hR hK hE hS rfl hl.1 rfl (Nat.le_of_ble_eq_true rfl) dX7_pledgeOf_9 ⟨Nat.le_of_ble_eq_true rfl, Nat.le_of_ble_eq_true rfl⟩ (fun ce q9 H locs hR hS h1 h2 h3 => xo_ut hlocks hex (congrArg some h.symm) hK hR hS h1 h2 h3 (Nat.le_of_ble_eq_true rfl) (Nat.le_of_ble_eq_true rfl))
  refine xy_vS (pc := 9) (As := [.int _, .int _, .int _]) (rest := []) ⟨hx, hb, hml, hown, hts⟩ (mX7_demandRange hls hF _ _ _  c2) (xcwS 3 hts fdX7_demandRange q_m_X7_80 ⟨Nat.le_of_ble_eq_true rfl, Nat.le_of_ble_eq_true rfl⟩) hR hK hE hS rfl hl.1 rfl (Nat.le_of_ble_eq_true rfl) dX7_pledgeOf_9 ⟨Nat.le_of_ble_eq_true rfl, Nat.le_of_ble_eq_true rfl⟩ (fun H locs hR hS => ?_)
  refine lv_aload_n (pc := 12) hx hb dX7_pledgeOf_12 rfl (lv_at hl 0 rfl) ?_
  refine xr_getR (pc := 13) (ci := 11) hx hb hts inX7 hown hK hR rfl k0.1 0 (Nat.le_of_ble_eq_true rfl) rfl k0.2.1.1 (hts _ q_f_X7_10) (fun _ h9 => h9) dX7_pledgeOf_13 ?_
  refine xr_getR (pc := 16) (ci := 4) hx hb hts inX0 hown hK hR rfl k0.2.1.2.1 0 (Nat.le_of_ble_eq_true rfl) rfl k0.2.1.2.2.1.1 (hts _ q_f_X7_84) (fun _ h9 => h9) dX7_pledgeOf_16 ?_
  refine lv_iload_n (pc := 19) hx hb dX7_pledgeOf_19 rfl (lv_at hl 1 rfl) ?_
  obtain ⟨c3, h⟩ := xk_inv h
  refine xr_aald (pc := 20) hx hb hK hR 2 (by decide) k0.2.1.2.2.1.2.1 rfl k0.2.1.2.2.1.2.2.1 c3 (k0.2.1.2.2.1.2.2.2 _ (xlt c3)).1 dX7_pledgeOf_20 ?_
  refine lv_iload_n (pc := 21) hx hb dX7_pledgeOf_21 rfl (lv_at hl 2 rfl) ?_
  obtain ⟨r4, m4, c4, h⟩ := xb_inv h
  refine xc_iV (pc := 22) (As := [.int _]) (rest := []) ⟨hx, hb, hml, hown, hts⟩ (mX5_number hF _ _ ((k0.2.1.2.2.1.2.2.2 _ (xlt c3)).2) c4) (xcwV 1 hts fdX5_number q_m_X7_88 ⟨Nat.le_of_ble_eq_true rfl, Nat.le_of_ble_eq_true rfl⟩) (xRecv hK hR (ci := 9) rfl ((k0.2.1.2.2.1.2.2.2 _ (xlt c3)).2)) hR hK hE hS rfl hl.1 rfl (Nat.le_of_ble_eq_true rfl) dX7_pledgeOf_22 ⟨Nat.le_of_ble_eq_true rfl, Nat.le_of_ble_eq_true rfl⟩ (fun H locs hR hS => ?_)
  exact xe_x (pc := 25) hx hb hr rfl hlocks h hR hK hS (Nat.le_of_ble_eq_true rfl) (Nat.le_of_ble_eq_true rfl) dX7_pledgeOf_25
set_option maxHeartbeats 1000000 in
set_option maxRecDepth 20000 in
theorem mX7_sell {l : Launch} (hls : l.stackTraces = false) {D : va_G} {ca : Nat → ClassId} {z : Nat} {G : xG} {X : va_W} {ad av : Nat → Nat} (hF : xFix z G X) (h0 : Nat) (p1 : Int32) (p2 : Int32) (k0 : xI_Coat G h0) {μ μ1 : xM} {o : xO} (h : fX7_sell h0 p1 p2 μ = some (o, μ1)) : xMx l yX7_sell (xws yX7_sell cX7_sell 3 (some .int)) 8 1 6 D ca z G X ad av [.ref h0, .int p1, .int p2] μ o μ1 := by
  refine xm_x (by decide) rfl (Nat.le_of_ble_eq_true rfl) [(0, .ref h0), (1, .int p1), (2, .int p2)] rfl ?_
  intro p e s m args below meth c ls hx hb hr hml hlocks hex hts hown hK hE hR hS hl
  have hts : ∀ w ∈ xAll, w.before args s = true := fun w hw => hts w (List.mem_cons_of_mem _ hw)
  rw [fX7_sell] at h
  refine lv_aload_n (pc := 0) hx hb dX7_sell_0 rfl (lv_at hl 0 rfl) ?_
  refine lv_bipush (pc := 1) hx hb dX7_sell_1 kb_115 ?_
  refine lv_iload_n (pc := 3) hx hb dX7_sell_3 rfl (lv_at hl 1 rfl) ?_
  refine lv_iload_n (pc := 4) hx hb dX7_sell_4 rfl (lv_at hl 2 rfl) ?_
  refine lv_iconst (pc := 5) hx hb dX7_sell_5 kc_0 ?_
  rcases xcb_inv h with ⟨r1, m1, c1, h⟩ | ⟨e1, r1, m1, c1, h⟩
  rotate_left
  · exact xz_iV (pc := 6) (As := [.int _, .int _, .int _, .int _]) (rest := []) ⟨hx, hb, hml, hown, hts⟩ (mX7_change hls hF _ _ _ _ _ k0 c1) (xcwV 4 hts fdX7_change q_m_X7_72 ⟨Nat.le_of_ble_eq_true rfl, Nat.le_of_ble_eq_true rfl⟩) (xRecv hK hR (ci := 11) rfl k0.1) hR hK hE hS rfl hl.1 rfl (Nat.le_of_ble_eq_true rfl) dX7_sell_6 ⟨Nat.le_of_ble_eq_true rfl, Nat.le_of_ble_eq_true rfl⟩ (fun ce q9 H locs hR hS h1 h2 h3 => xo_ut hlocks hex (congrArg some h.symm) hK hR hS h1 h2 h3 (Nat.le_of_ble_eq_true rfl) (Nat.le_of_ble_eq_true rfl))
  refine xy_iV (pc := 6) (As := [.int _, .int _, .int _, .int _]) (rest := []) ⟨hx, hb, hml, hown, hts⟩ (mX7_change hls hF _ _ _ _ _ k0 c1) (xcwV 4 hts fdX7_change q_m_X7_72 ⟨Nat.le_of_ble_eq_true rfl, Nat.le_of_ble_eq_true rfl⟩) (xRecv hK hR (ci := 11) rfl k0.1) hR hK hE hS rfl hl.1 rfl (Nat.le_of_ble_eq_true rfl) dX7_sell_6 ⟨Nat.le_of_ble_eq_true rfl, Nat.le_of_ble_eq_true rfl⟩ (fun H locs hR hS => ?_)
  exact xe_x (pc := 9) hx hb hr rfl hlocks h hR hK hS (Nat.le_of_ble_eq_true rfl) (Nat.le_of_ble_eq_true rfl) dX7_sell_9
set_option maxHeartbeats 1000000 in
set_option maxRecDepth 20000 in
theorem mX7_claim {l : Launch} (hls : l.stackTraces = false) {D : va_G} {ca : Nat → ClassId} {z : Nat} {G : xG} {X : va_W} {ad av : Nat → Nat} (hF : xFix z G X) (h0 : Nat) (p1 : Int32) (k0 : xI_Coat G h0) {μ μ1 : xM} {o : xO} (h : fX7_claim h0 p1 μ = some (o, μ1)) : xMx l yX7_claim (xws yX7_claim cX7_claim 2 (some .int)) 8 1 6 D ca z G X ad av [.ref h0, .int p1] μ o μ1 := by
  refine xm_x (by decide) rfl (Nat.le_of_ble_eq_true rfl) [(0, .ref h0), (1, .int p1)] rfl ?_
  intro p e s m args below meth c ls hx hb hr hml hlocks hex hts hown hK hE hR hS hl
  have hts : ∀ w ∈ xAll, w.before args s = true := fun w hw => hts w (List.mem_cons_of_mem _ hw)
  rw [fX7_claim] at h
  refine lv_aload_n (pc := 0) hx hb dX7_claim_0 rfl (lv_at hl 0 rfl) ?_
  refine lv_bipush (pc := 1) hx hb dX7_claim_1 kb_99 ?_
  refine lv_iload_n (pc := 3) hx hb dX7_claim_3 rfl (lv_at hl 1 rfl) ?_
  refine lv_iconst (pc := 4) hx hb dX7_claim_4 kc_0 ?_
  refine lv_iconst (pc := 5) hx hb dX7_claim_5 kc_0 ?_
  rcases xcb_inv h with ⟨r1, m1, c1, h⟩ | ⟨e1, r1, m1, c1, h⟩
  rotate_left
  · exact xz_iV (pc := 6) (As := [.int _, .int _, .int _, .int _]) (rest := []) ⟨hx, hb, hml, hown, hts⟩ (mX7_change hls hF _ _ _ _ _ k0 c1) (xcwV 4 hts fdX7_change q_m_X7_72 ⟨Nat.le_of_ble_eq_true rfl, Nat.le_of_ble_eq_true rfl⟩) (xRecv hK hR (ci := 11) rfl k0.1) hR hK hE hS rfl hl.1 rfl (Nat.le_of_ble_eq_true rfl) dX7_claim_6 ⟨Nat.le_of_ble_eq_true rfl, Nat.le_of_ble_eq_true rfl⟩ (fun ce q9 H locs hR hS h1 h2 h3 => xo_ut hlocks hex (congrArg some h.symm) hK hR hS h1 h2 h3 (Nat.le_of_ble_eq_true rfl) (Nat.le_of_ble_eq_true rfl))
  refine xy_iV (pc := 6) (As := [.int _, .int _, .int _, .int _]) (rest := []) ⟨hx, hb, hml, hown, hts⟩ (mX7_change hls hF _ _ _ _ _ k0 c1) (xcwV 4 hts fdX7_change q_m_X7_72 ⟨Nat.le_of_ble_eq_true rfl, Nat.le_of_ble_eq_true rfl⟩) (xRecv hK hR (ci := 11) rfl k0.1) hR hK hE hS rfl hl.1 rfl (Nat.le_of_ble_eq_true rfl) dX7_claim_6 ⟨Nat.le_of_ble_eq_true rfl, Nat.le_of_ble_eq_true rfl⟩ (fun H locs hR hS => ?_)
  exact xe_x (pc := 9) hx hb hr rfl hlocks h hR hK hS (Nat.le_of_ble_eq_true rfl) (Nat.le_of_ble_eq_true rfl) dX7_claim_9
set_option maxHeartbeats 1000000 in
set_option maxRecDepth 20000 in
theorem mX7_lotAt {l : Launch} (hls : l.stackTraces = false) {D : va_G} {ca : Nat → ClassId} {z : Nat} {G : xG} {X : va_W} {ad av : Nat → Nat} (hF : xFix z G X) (h0 : Nat) (p1 : Int32) (k0 : xI_Coat G h0) {μ μ1 : xM} {o : xO} (h : fX7_lotAt h0 p1 μ = some (o, μ1)) : xMx l yX7_lotAt (xws yX7_lotAt cX7_lotAt 2 (some .int)) 7 1 6 D ca z G X ad av [.ref h0, .int p1] μ o μ1 := by
  refine xm_x (by decide) rfl (Nat.le_of_ble_eq_true rfl) [(0, .ref h0), (1, .int p1)] rfl ?_
  intro p e s m args below meth c ls hx hb hr hml hlocks hex hts hown hK hE hR hS hl
  have hts : ∀ w ∈ xAll, w.before args s = true := fun w hw => hts w (List.mem_cons_of_mem _ hw)
  rw [fX7_lotAt] at h
  refine lv_aload_n (pc := 0) hx hb dX7_lotAt_0 rfl (lv_at hl 0 rfl) ?_
  refine xr_getR (pc := 1) (ci := 11) hx hb hts inX7 hown hK hR rfl k0.1 0 (Nat.le_of_ble_eq_true rfl) rfl k0.2.1.1 (hts _ q_f_X7_10) (fun _ h9 => h9) dX7_lotAt_1 ?_
  refine lv_iload_n (pc := 4) hx hb dX7_lotAt_4 rfl (lv_at hl 1 rfl) ?_
  refine lv_iconst (pc := 5) hx hb dX7_lotAt_5 kc_0 ?_
  obtain ⟨r1, m1, c1, h⟩ := xb_inv h
  refine xc_iV (pc := 6) (As := [.int _, .int _]) (rest := []) ⟨hx, hb, hml, hown, hts⟩ (mX0_lotInPlace hF _ _ _ k0.2.1.2 c1) (xcwV 2 hts fdX0_lotInPlace q_m_X7_94 ⟨Nat.le_of_ble_eq_true rfl, Nat.le_of_ble_eq_true rfl⟩) (xRecv hK hR (ci := 4) rfl k0.2.1.2.1) hR hK hE hS rfl hl.1 rfl (Nat.le_of_ble_eq_true rfl) dX7_lotAt_6 ⟨Nat.le_of_ble_eq_true rfl, Nat.le_of_ble_eq_true rfl⟩ (fun H locs hR hS => ?_)
  rcases xcb_inv h with ⟨r2, m2, c2, h⟩ | ⟨e2, r2, m2, c2, h⟩
  rotate_left
  · exact xz_iS (pc := 9) (As := [.int _]) (rest := []) ⟨hx, hb, hml, hown, hts⟩ (mX7_demandFound hls hF _  c2) (xcwS 1 hts fdX7_demandFound q_m_X7_98 ⟨Nat.le_of_ble_eq_true rfl, Nat.le_of_ble_eq_true rfl⟩) hR hK hE hS rfl hl.1 rfl (Nat.le_of_ble_eq_true rfl) dX7_lotAt_9 ⟨Nat.le_of_ble_eq_true rfl, Nat.le_of_ble_eq_true rfl⟩ (fun ce q9 H locs hR hS h1 h2 h3 => xo_ut hlocks hex (congrArg some h.symm) hK hR hS h1 h2 h3 (Nat.le_of_ble_eq_true rfl) (Nat.le_of_ble_eq_true rfl))
  refine xy_iS (pc := 9) (As := [.int _]) (rest := []) ⟨hx, hb, hml, hown, hts⟩ (mX7_demandFound hls hF _  c2) (xcwS 1 hts fdX7_demandFound q_m_X7_98 ⟨Nat.le_of_ble_eq_true rfl, Nat.le_of_ble_eq_true rfl⟩) hR hK hE hS rfl hl.1 rfl (Nat.le_of_ble_eq_true rfl) dX7_lotAt_9 ⟨Nat.le_of_ble_eq_true rfl, Nat.le_of_ble_eq_true rfl⟩ (fun H locs hR hS => ?_)
  exact xe_x (pc := 12) hx hb hr rfl hlocks h hR hK hS (Nat.le_of_ble_eq_true rfl) (Nat.le_of_ble_eq_true rfl) dX7_lotAt_12
set_option maxHeartbeats 1000000 in
set_option maxRecDepth 20000 in
theorem mX7_ranked {l : Launch} (hls : l.stackTraces = false) {D : va_G} {ca : Nat → ClassId} {z : Nat} {G : xG} {X : va_W} {ad av : Nat → Nat} (hF : xFix z G X) (h0 : Nat) (p1 : Int32) (k0 : xI_Coat G h0) {μ μ1 : xM} {o : xO} (h : fX7_ranked h0 p1 μ = some (o, μ1)) : xMx l yX7_ranked (xws yX7_ranked cX7_ranked 2 (some .int)) 7 1 6 D ca z G X ad av [.ref h0, .int p1] μ o μ1 := by
  refine xm_x (by decide) rfl (Nat.le_of_ble_eq_true rfl) [(0, .ref h0), (1, .int p1)] rfl ?_
  intro p e s m args below meth c ls hx hb hr hml hlocks hex hts hown hK hE hR hS hl
  have hts : ∀ w ∈ xAll, w.before args s = true := fun w hw => hts w (List.mem_cons_of_mem _ hw)
  rw [fX7_ranked] at h
  refine lv_aload_n (pc := 0) hx hb dX7_ranked_0 rfl (lv_at hl 0 rfl) ?_
  refine xr_getR (pc := 1) (ci := 11) hx hb hts inX7 hown hK hR rfl k0.1 0 (Nat.le_of_ble_eq_true rfl) rfl k0.2.1.1 (hts _ q_f_X7_10) (fun _ h9 => h9) dX7_ranked_1 ?_
  refine lv_iload_n (pc := 4) hx hb dX7_ranked_4 rfl (lv_at hl 1 rfl) ?_
  refine lv_iconst (pc := 5) hx hb dX7_ranked_5 kc_1 ?_
  obtain ⟨r1, m1, c1, h⟩ := xb_inv h
  refine xc_iV (pc := 6) (As := [.int _, .int _]) (rest := []) ⟨hx, hb, hml, hown, hts⟩ (mX0_lotInPlace hF _ _ _ k0.2.1.2 c1) (xcwV 2 hts fdX0_lotInPlace q_m_X7_94 ⟨Nat.le_of_ble_eq_true rfl, Nat.le_of_ble_eq_true rfl⟩) (xRecv hK hR (ci := 4) rfl k0.2.1.2.1) hR hK hE hS rfl hl.1 rfl (Nat.le_of_ble_eq_true rfl) dX7_ranked_6 ⟨Nat.le_of_ble_eq_true rfl, Nat.le_of_ble_eq_true rfl⟩ (fun H locs hR hS => ?_)
  rcases xcb_inv h with ⟨r2, m2, c2, h⟩ | ⟨e2, r2, m2, c2, h⟩
  rotate_left
  · exact xz_iS (pc := 9) (As := [.int _]) (rest := []) ⟨hx, hb, hml, hown, hts⟩ (mX7_demandFound hls hF _  c2) (xcwS 1 hts fdX7_demandFound q_m_X7_98 ⟨Nat.le_of_ble_eq_true rfl, Nat.le_of_ble_eq_true rfl⟩) hR hK hE hS rfl hl.1 rfl (Nat.le_of_ble_eq_true rfl) dX7_ranked_9 ⟨Nat.le_of_ble_eq_true rfl, Nat.le_of_ble_eq_true rfl⟩ (fun ce q9 H locs hR hS h1 h2 h3 => xo_ut hlocks hex (congrArg some h.symm) hK hR hS h1 h2 h3 (Nat.le_of_ble_eq_true rfl) (Nat.le_of_ble_eq_true rfl))
  refine xy_iS (pc := 9) (As := [.int _]) (rest := []) ⟨hx, hb, hml, hown, hts⟩ (mX7_demandFound hls hF _  c2) (xcwS 1 hts fdX7_demandFound q_m_X7_98 ⟨Nat.le_of_ble_eq_true rfl, Nat.le_of_ble_eq_true rfl⟩) hR hK hE hS rfl hl.1 rfl (Nat.le_of_ble_eq_true rfl) dX7_ranked_9 ⟨Nat.le_of_ble_eq_true rfl, Nat.le_of_ble_eq_true rfl⟩ (fun H locs hR hS => ?_)
  exact xe_x (pc := 12) hx hb hr rfl hlocks h hR hK hS (Nat.le_of_ble_eq_true rfl) (Nat.le_of_ble_eq_true rfl) dX7_ranked_12
set_option maxHeartbeats 1000000 in
set_option maxRecDepth 20000 in
theorem mX7_quote {l : Launch} (hls : l.stackTraces = false) {D : va_G} {ca : Nat → ClassId} {z : Nat} {G : xG} {X : va_W} {ad av : Nat → Nat} (hF : xFix z G X) (h0 : Nat) (p1 : Int32) (p2 : Int32) (k0 : xI_Coat G h0) {μ μ1 : xM} {o : xO} (h : fX7_quote h0 p1 p2 μ = some (o, μ1)) : xMx l yX7_quote (xws yX7_quote cX7_quote 3 (some .int)) 7 3 18 D ca z G X ad av [.ref h0, .int p1, .int p2] μ o μ1 := by
  refine xm_x (by decide) rfl (Nat.le_of_ble_eq_true rfl) [(0, .ref h0), (1, .int p1), (2, .int p2)] rfl ?_
  intro p e s m args below meth c ls hx hb hr hml hlocks hex hts hown hK hE hR hS hl
  have hts : ∀ w ∈ xAll, w.before args s = true := fun w hw => hts w (List.mem_cons_of_mem _ hw)
  rw [fX7_quote] at h
  refine lv_aload_n (pc := 0) hx hb dX7_quote_0 rfl (lv_at hl 0 rfl) ?_
  refine lv_iload_n (pc := 1) hx hb dX7_quote_1 rfl (lv_at hl 1 rfl) ?_
  rcases xcb_inv h with ⟨r1, m1, c1, h⟩ | ⟨e1, r1, m1, c1, h⟩
  rotate_left
  · exact xz_vV (pc := 2) (As := [.int _]) (rest := []) ⟨hx, hb, hml, hown, hts⟩ (mX7_demandTicket hls hF _ _ k0 c1) (xcwV 1 hts fdX7_demandTicket q_m_X7_76 ⟨Nat.le_of_ble_eq_true rfl, Nat.le_of_ble_eq_true rfl⟩) (xRecv hK hR (ci := 11) rfl k0.1) hR hK hE hS rfl hl.1 rfl (Nat.le_of_ble_eq_true rfl) dX7_quote_2 ⟨Nat.le_of_ble_eq_true rfl, Nat.le_of_ble_eq_true rfl⟩ (fun ce q9 H locs hR hS h1 h2 h3 => xo_ut hlocks hex (congrArg some h.symm) hK hR hS h1 h2 h3 (Nat.le_of_ble_eq_true rfl) (Nat.le_of_ble_eq_true rfl))
  refine xy_vV (pc := 2) (As := [.int _]) (rest := []) ⟨hx, hb, hml, hown, hts⟩ (mX7_demandTicket hls hF _ _ k0 c1) (xcwV 1 hts fdX7_demandTicket q_m_X7_76 ⟨Nat.le_of_ble_eq_true rfl, Nat.le_of_ble_eq_true rfl⟩) (xRecv hK hR (ci := 11) rfl k0.1) hR hK hE hS rfl hl.1 rfl (Nat.le_of_ble_eq_true rfl) dX7_quote_2 ⟨Nat.le_of_ble_eq_true rfl, Nat.le_of_ble_eq_true rfl⟩ (fun H locs hR hS => ?_)
  refine lv_iload_n (pc := 5) hx hb dX7_quote_5 rfl (lv_at hl 2 rfl) ?_
  refine lv_iconst (pc := 6) hx hb dX7_quote_6 kc_0 ?_
  refine lv_bipush (pc := 7) hx hb dX7_quote_7 kb_20 ?_
  rcases xcb_inv h with ⟨r2, m2, c2, h⟩ | ⟨e2, r2, m2, c2, h⟩
  rotate_left
  · exact xz_vS (pc := 9) (As := [.int _, .int _, .int _]) (rest := []) ⟨hx, hb, hml, hown, hts⟩ (mX7_demandRange hls hF _ _ _  c2) (xcwS 3 hts fdX7_demandRange q_m_X7_80 ⟨Nat.le_of_ble_eq_true rfl, Nat.le_of_ble_eq_true rfl⟩) hR hK hE hS rfl hl.1 rfl (Nat.le_of_ble_eq_true rfl) dX7_quote_9 ⟨Nat.le_of_ble_eq_true rfl, Nat.le_of_ble_eq_true rfl⟩ (fun ce q9 H locs hR hS h1 h2 h3 => xo_ut hlocks hex (congrArg some h.symm) hK hR hS h1 h2 h3 (Nat.le_of_ble_eq_true rfl) (Nat.le_of_ble_eq_true rfl))
  refine xy_vS (pc := 9) (As := [.int _, .int _, .int _]) (rest := []) ⟨hx, hb, hml, hown, hts⟩ (mX7_demandRange hls hF _ _ _  c2) (xcwS 3 hts fdX7_demandRange q_m_X7_80 ⟨Nat.le_of_ble_eq_true rfl, Nat.le_of_ble_eq_true rfl⟩) hR hK hE hS rfl hl.1 rfl (Nat.le_of_ble_eq_true rfl) dX7_quote_9 ⟨Nat.le_of_ble_eq_true rfl, Nat.le_of_ble_eq_true rfl⟩ (fun H locs hR hS => ?_)
  refine lv_aload_n (pc := 12) hx hb dX7_quote_12 rfl (lv_at hl 0 rfl) ?_
  refine xr_getR (pc := 13) (ci := 11) hx hb hts inX7 hown hK hR rfl k0.1 0 (Nat.le_of_ble_eq_true rfl) rfl k0.2.1.1 (hts _ q_f_X7_10) (fun _ h9 => h9) dX7_quote_13 ?_
  refine xr_getR (pc := 16) (ci := 4) hx hb hts inX0 hown hK hR rfl k0.2.1.2.1 0 (Nat.le_of_ble_eq_true rfl) rfl k0.2.1.2.2.1.1 (hts _ q_f_X7_84) (fun _ h9 => h9) dX7_quote_16 ?_
  refine lv_iload_n (pc := 19) hx hb dX7_quote_19 rfl (lv_at hl 1 rfl) ?_
  obtain ⟨c3, h⟩ := xk_inv h
  refine xr_aald (pc := 20) hx hb hK hR 2 (by decide) k0.2.1.2.2.1.2.1 rfl k0.2.1.2.2.1.2.2.1 c3 (k0.2.1.2.2.1.2.2.2 _ (xlt c3)).1 dX7_quote_20 ?_
  refine lv_aload_n (pc := 21) hx hb dX7_quote_21 rfl (lv_at hl 0 rfl) ?_
  refine xr_getR (pc := 22) (ci := 11) hx hb hts inX7 hown hK hR rfl k0.1 0 (Nat.le_of_ble_eq_true rfl) rfl k0.2.1.1 (hts _ q_f_X7_10) (fun _ h9 => h9) dX7_quote_22 ?_
  refine xr_getI (pc := 25) (ci := 4) hx hb hts inX0 hown hK hR rfl k0.2.1.2.1 4 (Nat.le_of_ble_eq_true rfl) rfl (hts _ q_f_X7_101) (fun _ h9 => h9) dX7_quote_25 ?_
  refine lv_iload_n (pc := 28) hx hb dX7_quote_28 rfl (lv_at hl 2 rfl) ?_
  refine lv_iadd (pc := 29) hx hb dX7_quote_29 ?_
  obtain ⟨r4, m4, c4, h⟩ := xb_inv h
  refine xc_iV (pc := 30) (As := [.int _]) (rest := []) ⟨hx, hb, hml, hown, hts⟩ (mX5_isRunningIn hF _ _ ((k0.2.1.2.2.1.2.2.2 _ (xlt c3)).2) c4) (xcwV 1 hts fdX5_isRunningIn q_m_X7_104 ⟨Nat.le_of_ble_eq_true rfl, Nat.le_of_ble_eq_true rfl⟩) (xRecv hK hR (ci := 9) rfl ((k0.2.1.2.2.1.2.2.2 _ (xlt c3)).2)) hR hK hE hS rfl hl.1 rfl (Nat.le_of_ble_eq_true rfl) dX7_quote_30 ⟨Nat.le_of_ble_eq_true rfl, Nat.le_of_ble_eq_true rfl⟩ (fun H locs hR hS => ?_)
  rcases xcb_inv h with ⟨r5, m5, c5, h⟩ | ⟨e5, r5, m5, c5, h⟩
  rotate_left
  · exact xz_vS (pc := 33) (As := [.int _]) (rest := []) ⟨hx, hb, hml, hown, hts⟩ (mX7_demandState hls hF _  c5) (xcwS 1 hts fdX7_demandState q_m_X7_108 ⟨Nat.le_of_ble_eq_true rfl, Nat.le_of_ble_eq_true rfl⟩) hR hK hE hS rfl hl.1 rfl (Nat.le_of_ble_eq_true rfl) dX7_quote_33 ⟨Nat.le_of_ble_eq_true rfl, Nat.le_of_ble_eq_true rfl⟩ (fun ce q9 H locs hR hS h1 h2 h3 => xo_ut hlocks hex (congrArg some h.symm) hK hR hS h1 h2 h3 (Nat.le_of_ble_eq_true rfl) (Nat.le_of_ble_eq_true rfl))
  refine xy_vS (pc := 33) (As := [.int _]) (rest := []) ⟨hx, hb, hml, hown, hts⟩ (mX7_demandState hls hF _  c5) (xcwS 1 hts fdX7_demandState q_m_X7_108 ⟨Nat.le_of_ble_eq_true rfl, Nat.le_of_ble_eq_true rfl⟩) hR hK hE hS rfl hl.1 rfl (Nat.le_of_ble_eq_true rfl) dX7_quote_33 ⟨Nat.le_of_ble_eq_true rfl, Nat.le_of_ble_eq_true rfl⟩ (fun H locs hR hS => ?_)
  refine lv_aload_n (pc := 36) hx hb dX7_quote_36 rfl (lv_at hl 0 rfl) ?_
  refine xr_getR (pc := 37) (ci := 11) hx hb hts inX7 hown hK hR rfl k0.1 0 (Nat.le_of_ble_eq_true rfl) rfl k0.2.1.1 (hts _ q_f_X7_10) (fun _ h9 => h9) dX7_quote_37 ?_
  refine xr_getR (pc := 40) (ci := 4) hx hb hts inX0 hown hK hR rfl k0.2.1.2.1 0 (Nat.le_of_ble_eq_true rfl) rfl k0.2.1.2.2.1.1 (hts _ q_f_X7_84) (fun _ h9 => h9) dX7_quote_40 ?_
  refine lv_iload_n (pc := 43) hx hb dX7_quote_43 rfl (lv_at hl 1 rfl) ?_
  obtain ⟨c6, h⟩ := xk_inv h
  refine xr_aald (pc := 44) hx hb hK hR 2 (by decide) k0.2.1.2.2.1.2.1 rfl k0.2.1.2.2.1.2.2.1 c6 (k0.2.1.2.2.1.2.2.2 _ (xlt c6)).1 dX7_quote_44 ?_
  refine lv_iload_n (pc := 45) hx hb dX7_quote_45 rfl (lv_at hl 2 rfl) ?_
  obtain ⟨r7, m7, c7, h⟩ := xb_inv h
  refine xc_iV (pc := 46) (As := [.int _]) (rest := []) ⟨hx, hb, hml, hown, hts⟩ (mX5_costBehind hF _ _ ((k0.2.1.2.2.1.2.2.2 _ (xlt c6)).2) c7) (xcwV 1 hts fdX5_costBehind q_m_X7_112 ⟨Nat.le_of_ble_eq_true rfl, Nat.le_of_ble_eq_true rfl⟩) (xRecv hK hR (ci := 9) rfl ((k0.2.1.2.2.1.2.2.2 _ (xlt c6)).2)) hR hK hE hS rfl hl.1 rfl (Nat.le_of_ble_eq_true rfl) dX7_quote_46 ⟨Nat.le_of_ble_eq_true rfl, Nat.le_of_ble_eq_true rfl⟩ (fun H locs hR hS => ?_)
  exact xe_x (pc := 49) hx hb hr rfl hlocks h hR hK hS (Nat.le_of_ble_eq_true rfl) (Nat.le_of_ble_eq_true rfl) dX7_quote_49
set_option maxHeartbeats 1000000 in
set_option maxRecDepth 20000 in
theorem mX7_quoteAgain {l : Launch} (hls : l.stackTraces = false) {D : va_G} {ca : Nat → ClassId} {z : Nat} {G : xG} {X : va_W} {ad av : Nat → Nat} (hF : xFix z G X) (h0 : Nat) (p1 : Int32) (p2 : Int32) (k0 : xI_Coat G h0) {μ μ1 : xM} {o : xO} (h : fX7_quoteAgain h0 p1 p2 μ = some (o, μ1)) : xMx l yX7_quoteAgain (xws yX7_quoteAgain cX7_quoteAgain 4 (some .int)) 7 3 18 D ca z G X ad av [.ref h0, .int p1, .int p2] μ o μ1 := by
  refine xm_x (by decide) rfl (Nat.le_of_ble_eq_true rfl) [(0, .ref h0), (1, .int p1), (2, .int p2)] rfl ?_
  intro p e s m args below meth c ls hx hb hr hml hlocks hex hts hown hK hE hR hS hl
  have hts : ∀ w ∈ xAll, w.before args s = true := fun w hw => hts w (List.mem_cons_of_mem _ hw)
  rw [fX7_quoteAgain] at h
  refine lv_aload_n (pc := 0) hx hb dX7_quoteAgain_0 rfl (lv_at hl 0 rfl) ?_
  refine lv_iload_n (pc := 1) hx hb dX7_quoteAgain_1 rfl (lv_at hl 1 rfl) ?_
  rcases xcb_inv h with ⟨r1, m1, c1, h⟩ | ⟨e1, r1, m1, c1, h⟩
  rotate_left
  · exact xz_vV (pc := 2) (As := [.int _]) (rest := []) ⟨hx, hb, hml, hown, hts⟩ (mX7_demandTicket hls hF _ _ k0 c1) (xcwV 1 hts fdX7_demandTicket q_m_X7_76 ⟨Nat.le_of_ble_eq_true rfl, Nat.le_of_ble_eq_true rfl⟩) (xRecv hK hR (ci := 11) rfl k0.1) hR hK hE hS rfl hl.1 rfl (Nat.le_of_ble_eq_true rfl) dX7_quoteAgain_2 ⟨Nat.le_of_ble_eq_true rfl, Nat.le_of_ble_eq_true rfl⟩ (fun ce q9 H locs hR hS h1 h2 h3 => xo_ut hlocks hex (congrArg some h.symm) hK hR hS h1 h2 h3 (Nat.le_of_ble_eq_true rfl) (Nat.le_of_ble_eq_true rfl))
  refine xy_vV (pc := 2) (As := [.int _]) (rest := []) ⟨hx, hb, hml, hown, hts⟩ (mX7_demandTicket hls hF _ _ k0 c1) (xcwV 1 hts fdX7_demandTicket q_m_X7_76 ⟨Nat.le_of_ble_eq_true rfl, Nat.le_of_ble_eq_true rfl⟩) (xRecv hK hR (ci := 11) rfl k0.1) hR hK hE hS rfl hl.1 rfl (Nat.le_of_ble_eq_true rfl) dX7_quoteAgain_2 ⟨Nat.le_of_ble_eq_true rfl, Nat.le_of_ble_eq_true rfl⟩ (fun H locs hR hS => ?_)
  refine lv_iload_n (pc := 5) hx hb dX7_quoteAgain_5 rfl (lv_at hl 2 rfl) ?_
  refine lv_iconst (pc := 6) hx hb dX7_quoteAgain_6 kc_0 ?_
  refine lv_bipush (pc := 7) hx hb dX7_quoteAgain_7 kb_20 ?_
  rcases xcb_inv h with ⟨r2, m2, c2, h⟩ | ⟨e2, r2, m2, c2, h⟩
  rotate_left
  · exact xz_vS (pc := 9) (As := [.int _, .int _, .int _]) (rest := []) ⟨hx, hb, hml, hown, hts⟩ (mX7_demandRange hls hF _ _ _  c2) (xcwS 3 hts fdX7_demandRange q_m_X7_80 ⟨Nat.le_of_ble_eq_true rfl, Nat.le_of_ble_eq_true rfl⟩) hR hK hE hS rfl hl.1 rfl (Nat.le_of_ble_eq_true rfl) dX7_quoteAgain_9 ⟨Nat.le_of_ble_eq_true rfl, Nat.le_of_ble_eq_true rfl⟩ (fun ce q9 H locs hR hS h1 h2 h3 => xo_ut hlocks hex (congrArg some h.symm) hK hR hS h1 h2 h3 (Nat.le_of_ble_eq_true rfl) (Nat.le_of_ble_eq_true rfl))
  refine xy_vS (pc := 9) (As := [.int _, .int _, .int _]) (rest := []) ⟨hx, hb, hml, hown, hts⟩ (mX7_demandRange hls hF _ _ _  c2) (xcwS 3 hts fdX7_demandRange q_m_X7_80 ⟨Nat.le_of_ble_eq_true rfl, Nat.le_of_ble_eq_true rfl⟩) hR hK hE hS rfl hl.1 rfl (Nat.le_of_ble_eq_true rfl) dX7_quoteAgain_9 ⟨Nat.le_of_ble_eq_true rfl, Nat.le_of_ble_eq_true rfl⟩ (fun H locs hR hS => ?_)
  refine lv_aload_n (pc := 12) hx hb dX7_quoteAgain_12 rfl (lv_at hl 0 rfl) ?_
  refine xr_getR (pc := 13) (ci := 11) hx hb hts inX7 hown hK hR rfl k0.1 0 (Nat.le_of_ble_eq_true rfl) rfl k0.2.1.1 (hts _ q_f_X7_10) (fun _ h9 => h9) dX7_quoteAgain_13 ?_
  refine xr_getR (pc := 16) (ci := 4) hx hb hts inX0 hown hK hR rfl k0.2.1.2.1 0 (Nat.le_of_ble_eq_true rfl) rfl k0.2.1.2.2.1.1 (hts _ q_f_X7_84) (fun _ h9 => h9) dX7_quoteAgain_16 ?_
  refine lv_iload_n (pc := 19) hx hb dX7_quoteAgain_19 rfl (lv_at hl 1 rfl) ?_
  obtain ⟨c3, h⟩ := xk_inv h
  refine xr_aald (pc := 20) hx hb hK hR 2 (by decide) k0.2.1.2.2.1.2.1 rfl k0.2.1.2.2.1.2.2.1 c3 (k0.2.1.2.2.1.2.2.2 _ (xlt c3)).1 dX7_quoteAgain_20 ?_
  refine lv_aload_n (pc := 21) hx hb dX7_quoteAgain_21 rfl (lv_at hl 0 rfl) ?_
  refine xr_getR (pc := 22) (ci := 11) hx hb hts inX7 hown hK hR rfl k0.1 0 (Nat.le_of_ble_eq_true rfl) rfl k0.2.1.1 (hts _ q_f_X7_10) (fun _ h9 => h9) dX7_quoteAgain_22 ?_
  refine xr_getI (pc := 25) (ci := 4) hx hb hts inX0 hown hK hR rfl k0.2.1.2.1 4 (Nat.le_of_ble_eq_true rfl) rfl (hts _ q_f_X7_101) (fun _ h9 => h9) dX7_quoteAgain_25 ?_
  refine lv_iload_n (pc := 28) hx hb dX7_quoteAgain_28 rfl (lv_at hl 2 rfl) ?_
  obtain ⟨r4, m4, c4, h⟩ := xb_inv h
  refine xc_iV (pc := 29) (As := [.int _, .int _]) (rest := []) ⟨hx, hb, hml, hown, hts⟩ (mX5_costWeekByWeek hF _ _ _ ((k0.2.1.2.2.1.2.2.2 _ (xlt c3)).2) c4) (xcwV 2 hts fdX5_costWeekByWeek q_m_X7_115 ⟨Nat.le_of_ble_eq_true rfl, Nat.le_of_ble_eq_true rfl⟩) (xRecv hK hR (ci := 9) rfl ((k0.2.1.2.2.1.2.2.2 _ (xlt c3)).2)) hR hK hE hS rfl hl.1 rfl (Nat.le_of_ble_eq_true rfl) dX7_quoteAgain_29 ⟨Nat.le_of_ble_eq_true rfl, Nat.le_of_ble_eq_true rfl⟩ (fun H locs hR hS => ?_)
  refine lv_istore_n (pc := 32) (lv' := [(3, .int _), (0, .ref _), (1, .int _), (2, .int _)]) hx hb dX7_quoteAgain_32 rfl hl (Nat.le_of_ble_eq_true rfl) rfl (fun ls hl => ?_)
  refine lv_iload_n (pc := 33) hx hb dX7_quoteAgain_33 rfl (lv_at hl 0 rfl) ?_
  refine lv_iconst (pc := 34) hx hb dX7_quoteAgain_34 kc_m1 ?_
  refine lv_icmp_eq (pc := 35) (tgt := 42) hx hb dX7_quoteAgain_35 (by decide) (fun c5 => ?_) (fun c5 => ?_)
  · have h := xpos c5 h
    refine lv_iconst (pc := 42) hx hb dX7_quoteAgain_42 kc_0 ?_
    rcases xcb_inv h with ⟨r6, m6, c6, h⟩ | ⟨e6, r6, m6, c6, h⟩
    rotate_left
    · exact xz_vS (pc := 43) (As := [.int _]) (rest := []) ⟨hx, hb, hml, hown, hts⟩ (mX7_demandState hls hF _  c6) (xcwS 1 hts fdX7_demandState q_m_X7_108 ⟨Nat.le_of_ble_eq_true rfl, Nat.le_of_ble_eq_true rfl⟩) hR hK hE hS rfl hl.1 rfl (Nat.le_of_ble_eq_true rfl) dX7_quoteAgain_43 ⟨Nat.le_of_ble_eq_true rfl, Nat.le_of_ble_eq_true rfl⟩ (fun ce q9 H locs hR hS h1 h2 h3 => xo_ut hlocks hex (congrArg some h.symm) hK hR hS h1 h2 h3 (Nat.le_of_ble_eq_true rfl) (Nat.le_of_ble_eq_true rfl))
    refine xy_vS (pc := 43) (As := [.int _]) (rest := []) ⟨hx, hb, hml, hown, hts⟩ (mX7_demandState hls hF _  c6) (xcwS 1 hts fdX7_demandState q_m_X7_108 ⟨Nat.le_of_ble_eq_true rfl, Nat.le_of_ble_eq_true rfl⟩) hR hK hE hS rfl hl.1 rfl (Nat.le_of_ble_eq_true rfl) dX7_quoteAgain_43 ⟨Nat.le_of_ble_eq_true rfl, Nat.le_of_ble_eq_true rfl⟩ (fun H locs hR hS => ?_)
    refine lv_iload_n (pc := 46) hx hb dX7_quoteAgain_46 rfl (lv_at hl 0 rfl) ?_
    exact xe_x (pc := 47) hx hb hr rfl hlocks h hR hK hS (Nat.le_of_ble_eq_true rfl) (Nat.le_of_ble_eq_true rfl) dX7_quoteAgain_47
  · have h := xneg c5 h
    refine lv_iconst (pc := 38) hx hb dX7_quoteAgain_38 kc_1 ?_
    refine lv_goto (pc := 39) (tgt := 43) hx hb dX7_quoteAgain_39 (by decide) ?_
    rcases xcb_inv h with ⟨r7, m7, c7, h⟩ | ⟨e7, r7, m7, c7, h⟩
    rotate_left
    · exact xz_vS (pc := 43) (As := [.int _]) (rest := []) ⟨hx, hb, hml, hown, hts⟩ (mX7_demandState hls hF _  c7) (xcwS 1 hts fdX7_demandState q_m_X7_108 ⟨Nat.le_of_ble_eq_true rfl, Nat.le_of_ble_eq_true rfl⟩) hR hK hE hS rfl hl.1 rfl (Nat.le_of_ble_eq_true rfl) dX7_quoteAgain_43 ⟨Nat.le_of_ble_eq_true rfl, Nat.le_of_ble_eq_true rfl⟩ (fun ce q9 H locs hR hS h1 h2 h3 => xo_ut hlocks hex (congrArg some h.symm) hK hR hS h1 h2 h3 (Nat.le_of_ble_eq_true rfl) (Nat.le_of_ble_eq_true rfl))
    refine xy_vS (pc := 43) (As := [.int _]) (rest := []) ⟨hx, hb, hml, hown, hts⟩ (mX7_demandState hls hF _  c7) (xcwS 1 hts fdX7_demandState q_m_X7_108 ⟨Nat.le_of_ble_eq_true rfl, Nat.le_of_ble_eq_true rfl⟩) hR hK hE hS rfl hl.1 rfl (Nat.le_of_ble_eq_true rfl) dX7_quoteAgain_43 ⟨Nat.le_of_ble_eq_true rfl, Nat.le_of_ble_eq_true rfl⟩ (fun H locs hR hS => ?_)
    refine lv_iload_n (pc := 46) hx hb dX7_quoteAgain_46 rfl (lv_at hl 0 rfl) ?_
    exact xe_x (pc := 47) hx hb hr rfl hlocks h hR hK hS (Nat.le_of_ble_eq_true rfl) (Nat.le_of_ble_eq_true rfl) dX7_quoteAgain_47
set_option maxHeartbeats 1000000 in
set_option maxRecDepth 20000 in
theorem mX7_willBeLots {l : Launch} (hls : l.stackTraces = false) {D : va_G} {ca : Nat → ClassId} {z : Nat} {G : xG} {X : va_W} {ad av : Nat → Nat} (hF : xFix z G X) (h0 : Nat) (p1 : Int32) (k0 : xI_Coat G h0) {μ μ1 : xM} {o : xO} (h : fX7_willBeLots h0 p1 μ = some (o, μ1)) : xMx l yX7_willBeLots (xws yX7_willBeLots cX7_willBeLots 2 (some .int)) 7 1 6 D ca z G X ad av [.ref h0, .int p1] μ o μ1 := by
  refine xm_x (by decide) rfl (Nat.le_of_ble_eq_true rfl) [(0, .ref h0), (1, .int p1)] rfl ?_
  intro p e s m args below meth c ls hx hb hr hml hlocks hex hts hown hK hE hR hS hl
  have hts : ∀ w ∈ xAll, w.before args s = true := fun w hw => hts w (List.mem_cons_of_mem _ hw)
  rw [fX7_willBeLots] at h
  refine lv_iload_n (pc := 0) hx hb dX7_willBeLots_0 rfl (lv_at hl 1 rfl) ?_
  refine lv_iconst (pc := 1) hx hb dX7_willBeLots_1 kc_0 ?_
  refine lv_bipush (pc := 2) hx hb dX7_willBeLots_2 kb_20 ?_
  rcases xcb_inv h with ⟨r1, m1, c1, h⟩ | ⟨e1, r1, m1, c1, h⟩
  rotate_left
  · exact xz_vS (pc := 4) (As := [.int _, .int _, .int _]) (rest := []) ⟨hx, hb, hml, hown, hts⟩ (mX7_demandRange hls hF _ _ _  c1) (xcwS 3 hts fdX7_demandRange q_m_X7_80 ⟨Nat.le_of_ble_eq_true rfl, Nat.le_of_ble_eq_true rfl⟩) hR hK hE hS rfl hl.1 rfl (Nat.le_of_ble_eq_true rfl) dX7_willBeLots_4 ⟨Nat.le_of_ble_eq_true rfl, Nat.le_of_ble_eq_true rfl⟩ (fun ce q9 H locs hR hS h1 h2 h3 => xo_ut hlocks hex (congrArg some h.symm) hK hR hS h1 h2 h3 (Nat.le_of_ble_eq_true rfl) (Nat.le_of_ble_eq_true rfl))
  refine xy_vS (pc := 4) (As := [.int _, .int _, .int _]) (rest := []) ⟨hx, hb, hml, hown, hts⟩ (mX7_demandRange hls hF _ _ _  c1) (xcwS 3 hts fdX7_demandRange q_m_X7_80 ⟨Nat.le_of_ble_eq_true rfl, Nat.le_of_ble_eq_true rfl⟩) hR hK hE hS rfl hl.1 rfl (Nat.le_of_ble_eq_true rfl) dX7_willBeLots_4 ⟨Nat.le_of_ble_eq_true rfl, Nat.le_of_ble_eq_true rfl⟩ (fun H locs hR hS => ?_)
  refine lv_aload_n (pc := 7) hx hb dX7_willBeLots_7 rfl (lv_at hl 0 rfl) ?_
  refine xr_getR (pc := 8) (ci := 11) hx hb hts inX7 hown hK hR rfl k0.1 0 (Nat.le_of_ble_eq_true rfl) rfl k0.2.1.1 (hts _ q_f_X7_10) (fun _ h9 => h9) dX7_willBeLots_8 ?_
  refine lv_iload_n (pc := 11) hx hb dX7_willBeLots_11 rfl (lv_at hl 1 rfl) ?_
  obtain ⟨r2, m2, c2, h⟩ := xb_inv h
  refine xc_iV (pc := 12) (As := [.int _]) (rest := []) ⟨hx, hb, hml, hown, hts⟩ (mX0_lotsByTerms hF _ _ k0.2.1.2 c2) (xcwV 1 hts fdX0_lotsByTerms q_m_X7_119 ⟨Nat.le_of_ble_eq_true rfl, Nat.le_of_ble_eq_true rfl⟩) (xRecv hK hR (ci := 4) rfl k0.2.1.2.1) hR hK hE hS rfl hl.1 rfl (Nat.le_of_ble_eq_true rfl) dX7_willBeLots_12 ⟨Nat.le_of_ble_eq_true rfl, Nat.le_of_ble_eq_true rfl⟩ (fun H locs hR hS => ?_)
  exact xe_x (pc := 15) hx hb hr rfl hlocks h hR hK hS (Nat.le_of_ble_eq_true rfl) (Nat.le_of_ble_eq_true rfl) dX7_willBeLots_15
set_option maxHeartbeats 1000000 in
set_option maxRecDepth 20000 in
theorem mX7_willBeLotsAgain {l : Launch} (hls : l.stackTraces = false) {D : va_G} {ca : Nat → ClassId} {z : Nat} {G : xG} {X : va_W} {ad av : Nat → Nat} (hF : xFix z G X) (h0 : Nat) (p1 : Int32) (k0 : xI_Coat G h0) {μ μ1 : xM} {o : xO} (h : fX7_willBeLotsAgain h0 p1 μ = some (o, μ1)) : xMx l yX7_willBeLotsAgain (xws yX7_willBeLotsAgain cX7_willBeLotsAgain 2 (some .int)) 7 1 6 D ca z G X ad av [.ref h0, .int p1] μ o μ1 := by
  refine xm_x (by decide) rfl (Nat.le_of_ble_eq_true rfl) [(0, .ref h0), (1, .int p1)] rfl ?_
  intro p e s m args below meth c ls hx hb hr hml hlocks hex hts hown hK hE hR hS hl
  have hts : ∀ w ∈ xAll, w.before args s = true := fun w hw => hts w (List.mem_cons_of_mem _ hw)
  rw [fX7_willBeLotsAgain] at h
  refine lv_iload_n (pc := 0) hx hb dX7_willBeLotsAgain_0 rfl (lv_at hl 1 rfl) ?_
  refine lv_iconst (pc := 1) hx hb dX7_willBeLotsAgain_1 kc_0 ?_
  refine lv_bipush (pc := 2) hx hb dX7_willBeLotsAgain_2 kb_20 ?_
  rcases xcb_inv h with ⟨r1, m1, c1, h⟩ | ⟨e1, r1, m1, c1, h⟩
  rotate_left
  · exact xz_vS (pc := 4) (As := [.int _, .int _, .int _]) (rest := []) ⟨hx, hb, hml, hown, hts⟩ (mX7_demandRange hls hF _ _ _  c1) (xcwS 3 hts fdX7_demandRange q_m_X7_80 ⟨Nat.le_of_ble_eq_true rfl, Nat.le_of_ble_eq_true rfl⟩) hR hK hE hS rfl hl.1 rfl (Nat.le_of_ble_eq_true rfl) dX7_willBeLotsAgain_4 ⟨Nat.le_of_ble_eq_true rfl, Nat.le_of_ble_eq_true rfl⟩ (fun ce q9 H locs hR hS h1 h2 h3 => xo_ut hlocks hex (congrArg some h.symm) hK hR hS h1 h2 h3 (Nat.le_of_ble_eq_true rfl) (Nat.le_of_ble_eq_true rfl))
  refine xy_vS (pc := 4) (As := [.int _, .int _, .int _]) (rest := []) ⟨hx, hb, hml, hown, hts⟩ (mX7_demandRange hls hF _ _ _  c1) (xcwS 3 hts fdX7_demandRange q_m_X7_80 ⟨Nat.le_of_ble_eq_true rfl, Nat.le_of_ble_eq_true rfl⟩) hR hK hE hS rfl hl.1 rfl (Nat.le_of_ble_eq_true rfl) dX7_willBeLotsAgain_4 ⟨Nat.le_of_ble_eq_true rfl, Nat.le_of_ble_eq_true rfl⟩ (fun H locs hR hS => ?_)
  refine lv_aload_n (pc := 7) hx hb dX7_willBeLotsAgain_7 rfl (lv_at hl 0 rfl) ?_
  refine xr_getR (pc := 8) (ci := 11) hx hb hts inX7 hown hK hR rfl k0.1 0 (Nat.le_of_ble_eq_true rfl) rfl k0.2.1.1 (hts _ q_f_X7_10) (fun _ h9 => h9) dX7_willBeLotsAgain_8 ?_
  refine lv_iload_n (pc := 11) hx hb dX7_willBeLotsAgain_11 rfl (lv_at hl 1 rfl) ?_
  obtain ⟨r2, m2, c2, h⟩ := xb_inv h
  refine xc_iV (pc := 12) (As := [.int _]) (rest := []) ⟨hx, hb, hml, hown, hts⟩ (mX0_lotsWeekByWeek hF _ _ k0.2.1.2 c2) (xcwV 1 hts fdX0_lotsWeekByWeek q_m_X7_122 ⟨Nat.le_of_ble_eq_true rfl, Nat.le_of_ble_eq_true rfl⟩) (xRecv hK hR (ci := 4) rfl k0.2.1.2.1) hR hK hE hS rfl hl.1 rfl (Nat.le_of_ble_eq_true rfl) dX7_willBeLotsAgain_12 ⟨Nat.le_of_ble_eq_true rfl, Nat.le_of_ble_eq_true rfl⟩ (fun H locs hR hS => ?_)
  exact xe_x (pc := 15) hx hb hr rfl hlocks h hR hK hS (Nat.le_of_ble_eq_true rfl) (Nat.le_of_ble_eq_true rfl) dX7_willBeLotsAgain_15
set_option maxHeartbeats 1000000 in
set_option maxRecDepth 20000 in
theorem mX7_willReserve {l : Launch} (hls : l.stackTraces = false) {D : va_G} {ca : Nat → ClassId} {z : Nat} {G : xG} {X : va_W} {ad av : Nat → Nat} (hF : xFix z G X) (h0 : Nat) (p1 : Int32) (p2 : Int32) (k0 : xI_Coat G h0) {μ μ1 : xM} {o : xO} (h : fX7_willReserve h0 p1 p2 μ = some (o, μ1)) : xMx l yX7_willReserve (xws yX7_willReserve cX7_willReserve 3 (some .int)) 7 3 18 D ca z G X ad av [.ref h0, .int p1, .int p2] μ o μ1 := by
  refine xm_x (by decide) rfl (Nat.le_of_ble_eq_true rfl) [(0, .ref h0), (1, .int p1), (2, .int p2)] rfl ?_
  intro p e s m args below meth c ls hx hb hr hml hlocks hex hts hown hK hE hR hS hl
  have hts : ∀ w ∈ xAll, w.before args s = true := fun w hw => hts w (List.mem_cons_of_mem _ hw)
  rw [fX7_willReserve] at h
  refine lv_aload_n (pc := 0) hx hb dX7_willReserve_0 rfl (lv_at hl 0 rfl) ?_
  refine lv_iload_n (pc := 1) hx hb dX7_willReserve_1 rfl (lv_at hl 1 rfl) ?_
  rcases xcb_inv h with ⟨r1, m1, c1, h⟩ | ⟨e1, r1, m1, c1, h⟩
  rotate_left
  · exact xz_vV (pc := 2) (As := [.int _]) (rest := []) ⟨hx, hb, hml, hown, hts⟩ (mX7_demandTicket hls hF _ _ k0 c1) (xcwV 1 hts fdX7_demandTicket q_m_X7_76 ⟨Nat.le_of_ble_eq_true rfl, Nat.le_of_ble_eq_true rfl⟩) (xRecv hK hR (ci := 11) rfl k0.1) hR hK hE hS rfl hl.1 rfl (Nat.le_of_ble_eq_true rfl) dX7_willReserve_2 ⟨Nat.le_of_ble_eq_true rfl, Nat.le_of_ble_eq_true rfl⟩ (fun ce q9 H locs hR hS h1 h2 h3 => xo_ut hlocks hex (congrArg some h.symm) hK hR hS h1 h2 h3 (Nat.le_of_ble_eq_true rfl) (Nat.le_of_ble_eq_true rfl))
  refine xy_vV (pc := 2) (As := [.int _]) (rest := []) ⟨hx, hb, hml, hown, hts⟩ (mX7_demandTicket hls hF _ _ k0 c1) (xcwV 1 hts fdX7_demandTicket q_m_X7_76 ⟨Nat.le_of_ble_eq_true rfl, Nat.le_of_ble_eq_true rfl⟩) (xRecv hK hR (ci := 11) rfl k0.1) hR hK hE hS rfl hl.1 rfl (Nat.le_of_ble_eq_true rfl) dX7_willReserve_2 ⟨Nat.le_of_ble_eq_true rfl, Nat.le_of_ble_eq_true rfl⟩ (fun H locs hR hS => ?_)
  refine lv_iload_n (pc := 5) hx hb dX7_willReserve_5 rfl (lv_at hl 2 rfl) ?_
  refine lv_iconst (pc := 6) hx hb dX7_willReserve_6 kc_0 ?_
  refine lv_bipush (pc := 7) hx hb dX7_willReserve_7 kb_20 ?_
  rcases xcb_inv h with ⟨r2, m2, c2, h⟩ | ⟨e2, r2, m2, c2, h⟩
  rotate_left
  · exact xz_vS (pc := 9) (As := [.int _, .int _, .int _]) (rest := []) ⟨hx, hb, hml, hown, hts⟩ (mX7_demandRange hls hF _ _ _  c2) (xcwS 3 hts fdX7_demandRange q_m_X7_80 ⟨Nat.le_of_ble_eq_true rfl, Nat.le_of_ble_eq_true rfl⟩) hR hK hE hS rfl hl.1 rfl (Nat.le_of_ble_eq_true rfl) dX7_willReserve_9 ⟨Nat.le_of_ble_eq_true rfl, Nat.le_of_ble_eq_true rfl⟩ (fun ce q9 H locs hR hS h1 h2 h3 => xo_ut hlocks hex (congrArg some h.symm) hK hR hS h1 h2 h3 (Nat.le_of_ble_eq_true rfl) (Nat.le_of_ble_eq_true rfl))
  refine xy_vS (pc := 9) (As := [.int _, .int _, .int _]) (rest := []) ⟨hx, hb, hml, hown, hts⟩ (mX7_demandRange hls hF _ _ _  c2) (xcwS 3 hts fdX7_demandRange q_m_X7_80 ⟨Nat.le_of_ble_eq_true rfl, Nat.le_of_ble_eq_true rfl⟩) hR hK hE hS rfl hl.1 rfl (Nat.le_of_ble_eq_true rfl) dX7_willReserve_9 ⟨Nat.le_of_ble_eq_true rfl, Nat.le_of_ble_eq_true rfl⟩ (fun H locs hR hS => ?_)
  refine lv_aload_n (pc := 12) hx hb dX7_willReserve_12 rfl (lv_at hl 0 rfl) ?_
  refine xr_getR (pc := 13) (ci := 11) hx hb hts inX7 hown hK hR rfl k0.1 0 (Nat.le_of_ble_eq_true rfl) rfl k0.2.1.1 (hts _ q_f_X7_10) (fun _ h9 => h9) dX7_willReserve_13 ?_
  refine xr_getR (pc := 16) (ci := 4) hx hb hts inX0 hown hK hR rfl k0.2.1.2.1 0 (Nat.le_of_ble_eq_true rfl) rfl k0.2.1.2.2.1.1 (hts _ q_f_X7_84) (fun _ h9 => h9) dX7_willReserve_16 ?_
  refine lv_iload_n (pc := 19) hx hb dX7_willReserve_19 rfl (lv_at hl 1 rfl) ?_
  obtain ⟨c3, h⟩ := xk_inv h
  refine xr_aald (pc := 20) hx hb hK hR 2 (by decide) k0.2.1.2.2.1.2.1 rfl k0.2.1.2.2.1.2.2.1 c3 (k0.2.1.2.2.1.2.2.2 _ (xlt c3)).1 dX7_willReserve_20 ?_
  refine xr_getI (pc := 21) (ci := 9) hx hb hts inX5 hown hK hR rfl ((k0.2.1.2.2.1.2.2.2 _ (xlt c3)).2) 5 (Nat.le_of_ble_eq_true rfl) rfl (hts _ q_f_X7_125) (fun _ h9 => h9) dX7_willReserve_21 ?_
  refine lv_iconst (pc := 24) hx hb dX7_willReserve_24 kc_1 ?_
  refine lv_icmp_ne (pc := 25) (tgt := 32) hx hb dX7_willReserve_25 (by decide) (fun c4 => ?_) (fun c4 => ?_)
  · have h := xneg c4 h
    refine lv_iconst (pc := 32) hx hb dX7_willReserve_32 kc_0 ?_
    rcases xcb_inv h with ⟨r5, m5, c5, h⟩ | ⟨e5, r5, m5, c5, h⟩
    rotate_left
    · exact xz_vS (pc := 33) (As := [.int _]) (rest := []) ⟨hx, hb, hml, hown, hts⟩ (mX7_demandState hls hF _  c5) (xcwS 1 hts fdX7_demandState q_m_X7_108 ⟨Nat.le_of_ble_eq_true rfl, Nat.le_of_ble_eq_true rfl⟩) hR hK hE hS rfl hl.1 rfl (Nat.le_of_ble_eq_true rfl) dX7_willReserve_33 ⟨Nat.le_of_ble_eq_true rfl, Nat.le_of_ble_eq_true rfl⟩ (fun ce q9 H locs hR hS h1 h2 h3 => xo_ut hlocks hex (congrArg some h.symm) hK hR hS h1 h2 h3 (Nat.le_of_ble_eq_true rfl) (Nat.le_of_ble_eq_true rfl))
    refine xy_vS (pc := 33) (As := [.int _]) (rest := []) ⟨hx, hb, hml, hown, hts⟩ (mX7_demandState hls hF _  c5) (xcwS 1 hts fdX7_demandState q_m_X7_108 ⟨Nat.le_of_ble_eq_true rfl, Nat.le_of_ble_eq_true rfl⟩) hR hK hE hS rfl hl.1 rfl (Nat.le_of_ble_eq_true rfl) dX7_willReserve_33 ⟨Nat.le_of_ble_eq_true rfl, Nat.le_of_ble_eq_true rfl⟩ (fun H locs hR hS => ?_)
    refine lv_aload_n (pc := 36) hx hb dX7_willReserve_36 rfl (lv_at hl 0 rfl) ?_
    refine xr_getR (pc := 37) (ci := 11) hx hb hts inX7 hown hK hR rfl k0.1 0 (Nat.le_of_ble_eq_true rfl) rfl k0.2.1.1 (hts _ q_f_X7_10) (fun _ h9 => h9) dX7_willReserve_37 ?_
    refine xr_getR (pc := 40) (ci := 4) hx hb hts inX0 hown hK hR rfl k0.2.1.2.1 0 (Nat.le_of_ble_eq_true rfl) rfl k0.2.1.2.2.1.1 (hts _ q_f_X7_84) (fun _ h9 => h9) dX7_willReserve_40 ?_
    refine lv_iload_n (pc := 43) hx hb dX7_willReserve_43 rfl (lv_at hl 1 rfl) ?_
    obtain ⟨c6, h⟩ := xk_inv h
    refine xr_aald (pc := 44) hx hb hK hR 2 (by decide) k0.2.1.2.2.1.2.1 rfl k0.2.1.2.2.1.2.2.1 c6 (k0.2.1.2.2.1.2.2.2 _ (xlt c6)).1 dX7_willReserve_44 ?_
    refine lv_iload_n (pc := 45) hx hb dX7_willReserve_45 rfl (lv_at hl 2 rfl) ?_
    obtain ⟨r7, m7, c7, h⟩ := xb_inv h
    refine xc_iV (pc := 46) (As := [.int _]) (rest := []) ⟨hx, hb, hml, hown, hts⟩ (mX5_reserveBehind hF _ _ ((k0.2.1.2.2.1.2.2.2 _ (xlt c6)).2) c7) (xcwV 1 hts fdX5_reserveBehind q_m_X7_128 ⟨Nat.le_of_ble_eq_true rfl, Nat.le_of_ble_eq_true rfl⟩) (xRecv hK hR (ci := 9) rfl ((k0.2.1.2.2.1.2.2.2 _ (xlt c6)).2)) hR hK hE hS rfl hl.1 rfl (Nat.le_of_ble_eq_true rfl) dX7_willReserve_46 ⟨Nat.le_of_ble_eq_true rfl, Nat.le_of_ble_eq_true rfl⟩ (fun H locs hR hS => ?_)
    exact xe_x (pc := 49) hx hb hr rfl hlocks h hR hK hS (Nat.le_of_ble_eq_true rfl) (Nat.le_of_ble_eq_true rfl) dX7_willReserve_49
  · have h := xpos c4 h
    refine lv_iconst (pc := 28) hx hb dX7_willReserve_28 kc_1 ?_
    refine lv_goto (pc := 29) (tgt := 33) hx hb dX7_willReserve_29 (by decide) ?_
    rcases xcb_inv h with ⟨r8, m8, c8, h⟩ | ⟨e8, r8, m8, c8, h⟩
    rotate_left
    · exact xz_vS (pc := 33) (As := [.int _]) (rest := []) ⟨hx, hb, hml, hown, hts⟩ (mX7_demandState hls hF _  c8) (xcwS 1 hts fdX7_demandState q_m_X7_108 ⟨Nat.le_of_ble_eq_true rfl, Nat.le_of_ble_eq_true rfl⟩) hR hK hE hS rfl hl.1 rfl (Nat.le_of_ble_eq_true rfl) dX7_willReserve_33 ⟨Nat.le_of_ble_eq_true rfl, Nat.le_of_ble_eq_true rfl⟩ (fun ce q9 H locs hR hS h1 h2 h3 => xo_ut hlocks hex (congrArg some h.symm) hK hR hS h1 h2 h3 (Nat.le_of_ble_eq_true rfl) (Nat.le_of_ble_eq_true rfl))
    refine xy_vS (pc := 33) (As := [.int _]) (rest := []) ⟨hx, hb, hml, hown, hts⟩ (mX7_demandState hls hF _  c8) (xcwS 1 hts fdX7_demandState q_m_X7_108 ⟨Nat.le_of_ble_eq_true rfl, Nat.le_of_ble_eq_true rfl⟩) hR hK hE hS rfl hl.1 rfl (Nat.le_of_ble_eq_true rfl) dX7_willReserve_33 ⟨Nat.le_of_ble_eq_true rfl, Nat.le_of_ble_eq_true rfl⟩ (fun H locs hR hS => ?_)
    refine lv_aload_n (pc := 36) hx hb dX7_willReserve_36 rfl (lv_at hl 0 rfl) ?_
    refine xr_getR (pc := 37) (ci := 11) hx hb hts inX7 hown hK hR rfl k0.1 0 (Nat.le_of_ble_eq_true rfl) rfl k0.2.1.1 (hts _ q_f_X7_10) (fun _ h9 => h9) dX7_willReserve_37 ?_
    refine xr_getR (pc := 40) (ci := 4) hx hb hts inX0 hown hK hR rfl k0.2.1.2.1 0 (Nat.le_of_ble_eq_true rfl) rfl k0.2.1.2.2.1.1 (hts _ q_f_X7_84) (fun _ h9 => h9) dX7_willReserve_40 ?_
    refine lv_iload_n (pc := 43) hx hb dX7_willReserve_43 rfl (lv_at hl 1 rfl) ?_
    obtain ⟨c9, h⟩ := xk_inv h
    refine xr_aald (pc := 44) hx hb hK hR 2 (by decide) k0.2.1.2.2.1.2.1 rfl k0.2.1.2.2.1.2.2.1 c9 (k0.2.1.2.2.1.2.2.2 _ (xlt c9)).1 dX7_willReserve_44 ?_
    refine lv_iload_n (pc := 45) hx hb dX7_willReserve_45 rfl (lv_at hl 2 rfl) ?_
    obtain ⟨r10, m10, c10, h⟩ := xb_inv h
    refine xc_iV (pc := 46) (As := [.int _]) (rest := []) ⟨hx, hb, hml, hown, hts⟩ (mX5_reserveBehind hF _ _ ((k0.2.1.2.2.1.2.2.2 _ (xlt c9)).2) c10) (xcwV 1 hts fdX5_reserveBehind q_m_X7_128 ⟨Nat.le_of_ble_eq_true rfl, Nat.le_of_ble_eq_true rfl⟩) (xRecv hK hR (ci := 9) rfl ((k0.2.1.2.2.1.2.2.2 _ (xlt c9)).2)) hR hK hE hS rfl hl.1 rfl (Nat.le_of_ble_eq_true rfl) dX7_willReserve_46 ⟨Nat.le_of_ble_eq_true rfl, Nat.le_of_ble_eq_true rfl⟩ (fun H locs hR hS => ?_)
    exact xe_x (pc := 49) hx hb hr rfl hlocks h hR hK hS (Nat.le_of_ble_eq_true rfl) (Nat.le_of_ble_eq_true rfl) dX7_willReserve_49
set_option maxHeartbeats 1000000 in
set_option maxRecDepth 20000 in
theorem mX7_ownerOf {l : Launch} (hls : l.stackTraces = false) {D : va_G} {ca : Nat → ClassId} {z : Nat} {G : xG} {X : va_W} {ad av : Nat → Nat} (hF : xFix z G X) (h0 : Nat) (p1 : Int32) (p2 : Int32) (k0 : xI_Coat G h0) {μ μ1 : xM} {o : xO} (h : fX7_ownerOf h0 p1 p2 μ = some (o, μ1)) : xMx l yX7_ownerOf (xws yX7_ownerOf cX7_ownerOf 3 (some .int)) 7 1 6 D ca z G X ad av [.ref h0, .int p1, .int p2] μ o μ1 := by
  refine xm_x (by decide) rfl (Nat.le_of_ble_eq_true rfl) [(0, .ref h0), (1, .int p1), (2, .int p2)] rfl ?_
  intro p e s m args below meth c ls hx hb hr hml hlocks hex hts hown hK hE hR hS hl
  have hts : ∀ w ∈ xAll, w.before args s = true := fun w hw => hts w (List.mem_cons_of_mem _ hw)
  rw [fX7_ownerOf] at h
  refine lv_iload_n (pc := 0) hx hb dX7_ownerOf_0 rfl (lv_at hl 1 rfl) ?_
  obtain ⟨r1, m1, c1, h⟩ := xb_inv h
  refine xc_iS (pc := 1) (As := [.int _]) (rest := []) ⟨hx, hb, hml, hown, hts⟩ (mX7_isOwner hF _  c1) (xcwS 1 hts fdX7_isOwner q_m_X7_131 ⟨Nat.le_of_ble_eq_true rfl, Nat.le_of_ble_eq_true rfl⟩) hR hK hE hS rfl hl.1 rfl (Nat.le_of_ble_eq_true rfl) dX7_ownerOf_1 ⟨Nat.le_of_ble_eq_true rfl, Nat.le_of_ble_eq_true rfl⟩ (fun H locs hR hS => ?_)
  refine lv_if_ne (pc := 4) (tgt := 17) hx hb dX7_ownerOf_4 (by decide) (fun c2 => ?_) (fun c2 => ?_)
  · have h := xneg c2 h
    refine lv_iload_n (pc := 17) hx hb dX7_ownerOf_17 rfl (lv_at hl 2 rfl) ?_
    refine lv_iconst (pc := 18) hx hb dX7_ownerOf_18 kc_0 ?_
    refine lv_bipush (pc := 19) hx hb dX7_ownerOf_19 kb_6 ?_
    rcases xcb_inv h with ⟨r3, m3, c3, h⟩ | ⟨e3, r3, m3, c3, h⟩
    rotate_left
    · exact xz_vS (pc := 21) (As := [.int _, .int _, .int _]) (rest := []) ⟨hx, hb, hml, hown, hts⟩ (mX7_demandRange hls hF _ _ _  c3) (xcwS 3 hts fdX7_demandRange q_m_X7_80 ⟨Nat.le_of_ble_eq_true rfl, Nat.le_of_ble_eq_true rfl⟩) hR hK hE hS rfl hl.1 rfl (Nat.le_of_ble_eq_true rfl) dX7_ownerOf_21 ⟨Nat.le_of_ble_eq_true rfl, Nat.le_of_ble_eq_true rfl⟩ (fun ce q9 H locs hR hS h1 h2 h3 => xo_ut hlocks hex (congrArg some h.symm) hK hR hS h1 h2 h3 (Nat.le_of_ble_eq_true rfl) (Nat.le_of_ble_eq_true rfl))
    refine xy_vS (pc := 21) (As := [.int _, .int _, .int _]) (rest := []) ⟨hx, hb, hml, hown, hts⟩ (mX7_demandRange hls hF _ _ _  c3) (xcwS 3 hts fdX7_demandRange q_m_X7_80 ⟨Nat.le_of_ble_eq_true rfl, Nat.le_of_ble_eq_true rfl⟩) hR hK hE hS rfl hl.1 rfl (Nat.le_of_ble_eq_true rfl) dX7_ownerOf_21 ⟨Nat.le_of_ble_eq_true rfl, Nat.le_of_ble_eq_true rfl⟩ (fun H locs hR hS => ?_)
    refine lv_iload_n (pc := 24) hx hb dX7_ownerOf_24 rfl (lv_at hl 2 rfl) ?_
    by_cases c4 : p2 = (0 : Int32)
    · have h := xpos c4 h
      refine lv_tableIn (pc := 25) (tgt := 64) hx hb dX7_ownerOf_25 (by rw [c4]; decide) (by rw [c4]; decide) (by rw [c4]; rfl) (by decide) ?_
      refine lv_aload_n (pc := 64) hx hb dX7_ownerOf_64 rfl (lv_at hl 0 rfl) ?_
      refine xr_getR (pc := 65) (ci := 11) hx hb hts inX7 hown hK hR rfl k0.1 0 (Nat.le_of_ble_eq_true rfl) rfl k0.2.1.1 (hts _ q_f_X7_10) (fun _ h9 => h9) dX7_ownerOf_65 ?_
      refine lv_iload_n (pc := 68) hx hb dX7_ownerOf_68 rfl (lv_at hl 1 rfl) ?_
      refine lv_iconst (pc := 69) hx hb dX7_ownerOf_69 kc_0 ?_
      obtain ⟨r5, m5, c5, h⟩ := xb_inv h
      refine xc_iV (pc := 70) (As := [.int _, .int _]) (rest := []) ⟨hx, hb, hml, hown, hts⟩ (mX0_countOf hF _ _ _ k0.2.1.2 c5) (xcwV 2 hts fdX0_countOf q_m_X7_141 ⟨Nat.le_of_ble_eq_true rfl, Nat.le_of_ble_eq_true rfl⟩) (xRecv hK hR (ci := 4) rfl k0.2.1.2.1) hR hK hE hS rfl hl.1 rfl (Nat.le_of_ble_eq_true rfl) dX7_ownerOf_70 ⟨Nat.le_of_ble_eq_true rfl, Nat.le_of_ble_eq_true rfl⟩ (fun H locs hR hS => ?_)
      exact xe_x (pc := 73) hx hb hr rfl hlocks h hR hK hS (Nat.le_of_ble_eq_true rfl) (Nat.le_of_ble_eq_true rfl) dX7_ownerOf_73
    have h := xneg c4 h
    by_cases c6 : p2 = (1 : Int32)
    · have h := xpos c6 h
      refine lv_tableIn (pc := 25) (tgt := 74) hx hb dX7_ownerOf_25 (by rw [c6]; decide) (by rw [c6]; decide) (by rw [c6]; rfl) (by decide) ?_
      refine lv_aload_n (pc := 74) hx hb dX7_ownerOf_74 rfl (lv_at hl 0 rfl) ?_
      refine xr_getR (pc := 75) (ci := 11) hx hb hts inX7 hown hK hR rfl k0.1 0 (Nat.le_of_ble_eq_true rfl) rfl k0.2.1.1 (hts _ q_f_X7_10) (fun _ h9 => h9) dX7_ownerOf_75 ?_
      refine lv_iload_n (pc := 78) hx hb dX7_ownerOf_78 rfl (lv_at hl 1 rfl) ?_
      obtain ⟨r7, m7, c7, h⟩ := xb_inv h
      refine xc_iV (pc := 79) (As := [.int _]) (rest := []) ⟨hx, hb, hml, hown, hts⟩ (mX0_owedBy hF _ _ k0.2.1.2 c7) (xcwV 1 hts fdX0_owedBy q_m_X7_144 ⟨Nat.le_of_ble_eq_true rfl, Nat.le_of_ble_eq_true rfl⟩) (xRecv hK hR (ci := 4) rfl k0.2.1.2.1) hR hK hE hS rfl hl.1 rfl (Nat.le_of_ble_eq_true rfl) dX7_ownerOf_79 ⟨Nat.le_of_ble_eq_true rfl, Nat.le_of_ble_eq_true rfl⟩ (fun H locs hR hS => ?_)
      exact xe_x (pc := 82) hx hb hr rfl hlocks h hR hK hS (Nat.le_of_ble_eq_true rfl) (Nat.le_of_ble_eq_true rfl) dX7_ownerOf_82
    have h := xneg c6 h
    by_cases c8 : p2 = (2 : Int32)
    · have h := xpos c8 h
      refine lv_tableIn (pc := 25) (tgt := 83) hx hb dX7_ownerOf_25 (by rw [c8]; decide) (by rw [c8]; decide) (by rw [c8]; rfl) (by decide) ?_
      refine lv_aload_n (pc := 83) hx hb dX7_ownerOf_83 rfl (lv_at hl 0 rfl) ?_
      refine xr_getR (pc := 84) (ci := 11) hx hb hts inX7 hown hK hR rfl k0.1 0 (Nat.le_of_ble_eq_true rfl) rfl k0.2.1.1 (hts _ q_f_X7_10) (fun _ h9 => h9) dX7_ownerOf_84 ?_
      refine lv_iload_n (pc := 87) hx hb dX7_ownerOf_87 rfl (lv_at hl 1 rfl) ?_
      refine lv_iconst (pc := 88) hx hb dX7_ownerOf_88 kc_1 ?_
      obtain ⟨r9, m9, c9, h⟩ := xb_inv h
      refine xc_iV (pc := 89) (As := [.int _, .int _]) (rest := []) ⟨hx, hb, hml, hown, hts⟩ (mX0_countOf hF _ _ _ k0.2.1.2 c9) (xcwV 2 hts fdX0_countOf q_m_X7_141 ⟨Nat.le_of_ble_eq_true rfl, Nat.le_of_ble_eq_true rfl⟩) (xRecv hK hR (ci := 4) rfl k0.2.1.2.1) hR hK hE hS rfl hl.1 rfl (Nat.le_of_ble_eq_true rfl) dX7_ownerOf_89 ⟨Nat.le_of_ble_eq_true rfl, Nat.le_of_ble_eq_true rfl⟩ (fun H locs hR hS => ?_)
      exact xe_x (pc := 92) hx hb hr rfl hlocks h hR hK hS (Nat.le_of_ble_eq_true rfl) (Nat.le_of_ble_eq_true rfl) dX7_ownerOf_92
    have h := xneg c8 h
    by_cases c10 : p2 = (3 : Int32)
    · have h := xpos c10 h
      refine lv_tableIn (pc := 25) (tgt := 93) hx hb dX7_ownerOf_25 (by rw [c10]; decide) (by rw [c10]; decide) (by rw [c10]; rfl) (by decide) ?_
      refine lv_aload_n (pc := 93) hx hb dX7_ownerOf_93 rfl (lv_at hl 0 rfl) ?_
      refine xr_getR (pc := 94) (ci := 11) hx hb hts inX7 hown hK hR rfl k0.1 0 (Nat.le_of_ble_eq_true rfl) rfl k0.2.1.1 (hts _ q_f_X7_10) (fun _ h9 => h9) dX7_ownerOf_94 ?_
      refine lv_iload_n (pc := 97) hx hb dX7_ownerOf_97 rfl (lv_at hl 1 rfl) ?_
      refine lv_iconst (pc := 98) hx hb dX7_ownerOf_98 kc_2 ?_
      obtain ⟨r11, m11, c11, h⟩ := xb_inv h
      refine xc_iV (pc := 99) (As := [.int _, .int _]) (rest := []) ⟨hx, hb, hml, hown, hts⟩ (mX0_countOf hF _ _ _ k0.2.1.2 c11) (xcwV 2 hts fdX0_countOf q_m_X7_141 ⟨Nat.le_of_ble_eq_true rfl, Nat.le_of_ble_eq_true rfl⟩) (xRecv hK hR (ci := 4) rfl k0.2.1.2.1) hR hK hE hS rfl hl.1 rfl (Nat.le_of_ble_eq_true rfl) dX7_ownerOf_99 ⟨Nat.le_of_ble_eq_true rfl, Nat.le_of_ble_eq_true rfl⟩ (fun H locs hR hS => ?_)
      exact xe_x (pc := 102) hx hb hr rfl hlocks h hR hK hS (Nat.le_of_ble_eq_true rfl) (Nat.le_of_ble_eq_true rfl) dX7_ownerOf_102
    have h := xneg c10 h
    by_cases c12 : p2 = (4 : Int32)
    · have h := xpos c12 h
      refine lv_tableIn (pc := 25) (tgt := 103) hx hb dX7_ownerOf_25 (by rw [c12]; decide) (by rw [c12]; decide) (by rw [c12]; rfl) (by decide) ?_
      refine lv_aload_n (pc := 103) hx hb dX7_ownerOf_103 rfl (lv_at hl 0 rfl) ?_
      refine xr_getR (pc := 104) (ci := 11) hx hb hts inX7 hown hK hR rfl k0.1 0 (Nat.le_of_ble_eq_true rfl) rfl k0.2.1.1 (hts _ q_f_X7_10) (fun _ h9 => h9) dX7_ownerOf_104 ?_
      refine lv_iload_n (pc := 107) hx hb dX7_ownerOf_107 rfl (lv_at hl 1 rfl) ?_
      refine lv_iconst (pc := 108) hx hb dX7_ownerOf_108 kc_3 ?_
      obtain ⟨r13, m13, c13, h⟩ := xb_inv h
      refine xc_iV (pc := 109) (As := [.int _, .int _]) (rest := []) ⟨hx, hb, hml, hown, hts⟩ (mX0_countOf hF _ _ _ k0.2.1.2 c13) (xcwV 2 hts fdX0_countOf q_m_X7_141 ⟨Nat.le_of_ble_eq_true rfl, Nat.le_of_ble_eq_true rfl⟩) (xRecv hK hR (ci := 4) rfl k0.2.1.2.1) hR hK hE hS rfl hl.1 rfl (Nat.le_of_ble_eq_true rfl) dX7_ownerOf_109 ⟨Nat.le_of_ble_eq_true rfl, Nat.le_of_ble_eq_true rfl⟩ (fun H locs hR hS => ?_)
      exact xe_x (pc := 112) hx hb hr rfl hlocks h hR hK hS (Nat.le_of_ble_eq_true rfl) (Nat.le_of_ble_eq_true rfl) dX7_ownerOf_112
    have h := xneg c12 h
    by_cases c14 : p2 = (5 : Int32)
    · have h := xpos c14 h
      refine lv_tableIn (pc := 25) (tgt := 113) hx hb dX7_ownerOf_25 (by rw [c14]; decide) (by rw [c14]; decide) (by rw [c14]; rfl) (by decide) ?_
      refine lv_aload_n (pc := 113) hx hb dX7_ownerOf_113 rfl (lv_at hl 0 rfl) ?_
      refine xr_getR (pc := 114) (ci := 11) hx hb hts inX7 hown hK hR rfl k0.1 0 (Nat.le_of_ble_eq_true rfl) rfl k0.2.1.1 (hts _ q_f_X7_10) (fun _ h9 => h9) dX7_ownerOf_114 ?_
      refine xr_getR (pc := 117) (ci := 4) hx hb hts inX0 hown hK hR rfl k0.2.1.2.1 1 (Nat.le_of_ble_eq_true rfl) rfl k0.2.1.2.2.2.1.1 (hts _ q_f_X7_147) (fun _ h9 => h9) dX7_ownerOf_117 ?_
      refine lv_iload_n (pc := 120) hx hb dX7_ownerOf_120 rfl (lv_at hl 1 rfl) ?_
      obtain ⟨c15, h⟩ := xk_inv h
      refine xr_ialdk (pc := 121) (Int32.toNatClampNeg p1) hx hb hK hR k0.2.1.2.2.2.1.2.1 k0.2.1.2.2.2.1.2.2 rfl c15 dX7_ownerOf_121 ?_
      exact xe_x (pc := 122) hx hb hr rfl hlocks h hR hK hS (Nat.le_of_ble_eq_true rfl) (Nat.le_of_ble_eq_true rfl) dX7_ownerOf_122
    have h := xneg c14 h
    refine lv_tableOut (pc := 25) (tgt := 123) hx hb dX7_ownerOf_25 (by have z4 := xnek ti_0 c4; have z6 := xnek ti_1 c6; have z8 := xnek ti_2 c8; have z10 := xnek ti_3 c10; have z12 := xnek ti_4 c12; have z14 := xnek ti_5 c14; omega) (by decide) ?_
    refine lv_aload_n (pc := 123) hx hb dX7_ownerOf_123 rfl (lv_at hl 0 rfl) ?_
    refine xr_getR (pc := 124) (ci := 11) hx hb hts inX7 hown hK hR rfl k0.1 0 (Nat.le_of_ble_eq_true rfl) rfl k0.2.1.1 (hts _ q_f_X7_10) (fun _ h9 => h9) dX7_ownerOf_124 ?_
    refine xr_getR (pc := 127) (ci := 4) hx hb hts inX0 hown hK hR rfl k0.2.1.2.1 2 (Nat.le_of_ble_eq_true rfl) rfl k0.2.1.2.2.2.2.1 (hts _ q_f_X7_151) (fun _ h9 => h9) dX7_ownerOf_127 ?_
    refine lv_iload_n (pc := 130) hx hb dX7_ownerOf_130 rfl (lv_at hl 1 rfl) ?_
    obtain ⟨c16, h⟩ := xk_inv h
    refine xr_ialdk (pc := 131) (Int32.toNatClampNeg p1) hx hb hK hR k0.2.1.2.2.2.2.2.1 k0.2.1.2.2.2.2.2.2 rfl c16 dX7_ownerOf_131 ?_
    exact xe_x (pc := 132) hx hb hr rfl hlocks h hR hK hS (Nat.le_of_ble_eq_true rfl) (Nat.le_of_ble_eq_true rfl) dX7_ownerOf_132
  · have h := xpos c2 h
    exact xt_S (pc := 7) (k := 0) (i := 0) hx hb hls hlocks hts hown hK hE hF th_1 (by decide) (by decide +kernel) rfl h hR hS (hl.1.trans hml.symm) hex dX7_ownerOf_7 dX7_ownerOf_10 dX7_ownerOf_11 dX7_ownerOf_13 dX7_ownerOf_16 (Nat.le_of_ble_eq_true rfl) (Nat.le_of_ble_eq_true rfl) (Nat.le_of_ble_eq_true rfl) (Nat.le_of_ble_eq_true rfl) (Nat.le_of_ble_eq_true rfl) (Nat.le_of_ble_eq_true rfl)
set_option maxHeartbeats 1000000 in
set_option maxRecDepth 20000 in
theorem mX7_cash {l : Launch} {D : va_G} {ca : Nat → ClassId} {z : Nat} {G : xG} {X : va_W} {ad av : Nat → Nat} (hF : xFix z G X) (h0 : Nat) (p1 : Int32) (k0 : xI_Coat G h0) {μ μ1 : xM} {r : Int32} (h : fX7_cash h0 p1 μ = some (r, μ1)) : xMi l yX7_cash (xws yX7_cash cX7_cash 2 (some .int)) 2 D ca z G X ad av [.ref h0, .int p1] μ r μ1 := by
  refine xm_i (by decide) rfl (Nat.le_of_ble_eq_true rfl) [(0, .ref h0), (1, .int p1)] rfl ?_
  intro p e s m args below meth c ls hx hb hr hml hlocks hts hown hK hE hR hS hl
  have hts : ∀ w ∈ xAll, w.before args s = true := fun w hw => hts w (List.mem_cons_of_mem _ hw)
  rw [fX7_cash] at h
  refine lv_iload_n (pc := 0) hx hb dX7_cash_0 rfl (lv_at hl 1 rfl) ?_
  refine lv_if_eq (pc := 1) (tgt := 14) hx hb dX7_cash_1 (by decide) (fun c1 => ?_) (fun c1 => ?_)
  · have h := xpos c1 h
    refine lv_aload_n (pc := 14) hx hb dX7_cash_14 rfl (lv_at hl 0 rfl) ?_
    refine xr_getR (pc := 15) (ci := 11) hx hb hts inX7 hown hK hR rfl k0.1 0 (Nat.le_of_ble_eq_true rfl) rfl k0.2.1.1 (hts _ q_f_X7_10) (fun _ h9 => h9) dX7_cash_15 ?_
    refine xr_getI (pc := 18) (ci := 4) hx hb hts inX0 hown hK hR rfl k0.2.1.2.1 7 (Nat.le_of_ble_eq_true rfl) rfl (hts _ q_f_X7_158) (fun _ h9 => h9) dX7_cash_18 ?_
    exact xf_i (pc := 21) hx hb hr rfl hlocks h hR hK hS dX7_cash_21
  · have h := xneg c1 h
    refine lv_aload_n (pc := 4) hx hb dX7_cash_4 rfl (lv_at hl 0 rfl) ?_
    refine xr_getR (pc := 5) (ci := 11) hx hb hts inX7 hown hK hR rfl k0.1 0 (Nat.le_of_ble_eq_true rfl) rfl k0.2.1.1 (hts _ q_f_X7_10) (fun _ h9 => h9) dX7_cash_5 ?_
    obtain ⟨r2, m2, c2, h⟩ := xb_inv h
    refine xc_iV (pc := 8) (As := []) (rest := []) ⟨hx, hb, hml, hown, hts⟩ (mX0_cashFromAccounts hF _ k0.2.1.2 c2) (xcwV 0 hts fdX0_cashFromAccounts q_m_X7_154 ⟨Nat.le_of_ble_eq_true rfl, Nat.le_of_ble_eq_true rfl⟩) (xRecv hK hR (ci := 4) rfl k0.2.1.2.1) hR hK hE hS rfl hl.1 rfl (Nat.le_of_ble_eq_true rfl) dX7_cash_8 ⟨Nat.zero_le _, Nat.zero_le _⟩ (fun H locs hR hS => ?_)
    refine lv_goto (pc := 11) (tgt := 21) hx hb dX7_cash_11 (by decide) ?_
    exact xf_i (pc := 21) hx hb hr rfl hlocks h hR hK hS dX7_cash_21
set_option maxHeartbeats 1000000 in
set_option maxRecDepth 20000 in
theorem mX7_isWell {l : Launch} {D : va_G} {ca : Nat → ClassId} {z : Nat} {G : xG} {X : va_W} {ad av : Nat → Nat} (hF : xFix z G X) (h0 : Nat) (k0 : xI_Coat G h0) {μ μ1 : xM} {r : Int32} (h : fX7_isWell h0 μ = some (r, μ1)) : xMi l yX7_isWell (xws yX7_isWell cX7_isWell 1 (some .boolean)) 3 D ca z G X ad av [.ref h0] μ r μ1 := by
  refine xm_i (by decide) rfl (Nat.le_of_ble_eq_true rfl) [(0, .ref h0)] rfl ?_
  intro p e s m args below meth c ls hx hb hr hml hlocks hts hown hK hE hR hS hl
  have hts : ∀ w ∈ xAll, w.before args s = true := fun w hw => hts w (List.mem_cons_of_mem _ hw)
  rw [fX7_isWell] at h
  refine lv_aload_n (pc := 0) hx hb dX7_isWell_0 rfl (lv_at hl 0 rfl) ?_
  refine xr_getR (pc := 1) (ci := 11) hx hb hts inX7 hown hK hR rfl k0.1 0 (Nat.le_of_ble_eq_true rfl) rfl k0.2.1.1 (hts _ q_f_X7_10) (fun _ h9 => h9) dX7_isWell_1 ?_
  refine xr_getI (pc := 4) (ci := 4) hx hb hts inX0 hown hK hR rfl k0.2.1.2.1 7 (Nat.le_of_ble_eq_true rfl) rfl (hts _ q_f_X7_158) (fun _ h9 => h9) dX7_isWell_4 ?_
  refine lv_aload_n (pc := 7) hx hb dX7_isWell_7 rfl (lv_at hl 0 rfl) ?_
  refine xr_getR (pc := 8) (ci := 11) hx hb hts inX7 hown hK hR rfl k0.1 0 (Nat.le_of_ble_eq_true rfl) rfl k0.2.1.1 (hts _ q_f_X7_10) (fun _ h9 => h9) dX7_isWell_8 ?_
  obtain ⟨r1, m1, c1, h⟩ := xb_inv h
  refine xc_iV (pc := 11) (As := []) (rest := [.int _]) ⟨hx, hb, hml, hown, hts⟩ (mX0_cashFromAccounts hF _ k0.2.1.2 c1) (xcwV 0 hts fdX0_cashFromAccounts q_m_X7_154 ⟨Nat.le_of_ble_eq_true rfl, Nat.le_of_ble_eq_true rfl⟩) (xRecv hK hR (ci := 4) rfl k0.2.1.2.1) hR hK hE hS rfl hl.1 rfl (Nat.le_of_ble_eq_true rfl) dX7_isWell_11 ⟨Nat.zero_le _, Nat.zero_le _⟩ (fun H locs hR hS => ?_)
  refine lv_icmp_ne (pc := 14) (tgt := 53) hx hb dX7_isWell_14 (by decide) (fun c2 => ?_) (fun c2 => ?_)
  · have h := xneg c2 h
    refine lv_iconst (pc := 53) hx hb dX7_isWell_53 kc_0 ?_
    exact xf_i (pc := 54) hx hb hr rfl hlocks h hR hK hS dX7_isWell_54
  · have h := xpos c2 h
    refine lv_aload_n (pc := 17) hx hb dX7_isWell_17 rfl (lv_at hl 0 rfl) ?_
    refine xr_getR (pc := 18) (ci := 11) hx hb hts inX7 hown hK hR rfl k0.1 0 (Nat.le_of_ble_eq_true rfl) rfl k0.2.1.1 (hts _ q_f_X7_10) (fun _ h9 => h9) dX7_isWell_18 ?_
    refine lv_iconst (pc := 21) hx hb dX7_isWell_21 kc_2 ?_
    obtain ⟨r3, m3, c3, h⟩ := xb_inv h
    refine xc_iV (pc := 22) (As := [.int _]) (rest := []) ⟨hx, hb, hml, hown, hts⟩ (mX0_isCostTheSame hF _ _ k0.2.1.2 c3) (xcwV 1 hts fdX0_isCostTheSame q_m_X7_161 ⟨Nat.le_of_ble_eq_true rfl, Nat.le_of_ble_eq_true rfl⟩) (xRecv hK hR (ci := 4) rfl k0.2.1.2.1) hR hK hE hS rfl hl.1 rfl (Nat.le_of_ble_eq_true rfl) dX7_isWell_22 ⟨Nat.zero_le _, Nat.zero_le _⟩ (fun H locs hR hS => ?_)
    refine lv_if_eq (pc := 25) (tgt := 53) hx hb dX7_isWell_25 (by decide) (fun c4 => ?_) (fun c4 => ?_)
    · have h := xpos c4 h
      refine lv_iconst (pc := 53) hx hb dX7_isWell_53 kc_0 ?_
      exact xf_i (pc := 54) hx hb hr rfl hlocks h hR hK hS dX7_isWell_54
    · have h := xneg c4 h
      refine lv_aload_n (pc := 28) hx hb dX7_isWell_28 rfl (lv_at hl 0 rfl) ?_
      refine xr_getR (pc := 29) (ci := 11) hx hb hts inX7 hown hK hR rfl k0.1 0 (Nat.le_of_ble_eq_true rfl) rfl k0.2.1.1 (hts _ q_f_X7_10) (fun _ h9 => h9) dX7_isWell_29 ?_
      refine lv_bipush (pc := 32) hx hb dX7_isWell_32 kb_20 ?_
      obtain ⟨r5, m5, c5, h⟩ := xb_inv h
      refine xc_iV (pc := 34) (As := [.int _]) (rest := []) ⟨hx, hb, hml, hown, hts⟩ (mX0_lotsByTerms hF _ _ k0.2.1.2 c5) (xcwV 1 hts fdX0_lotsByTerms q_m_X7_119 ⟨Nat.le_of_ble_eq_true rfl, Nat.le_of_ble_eq_true rfl⟩) (xRecv hK hR (ci := 4) rfl k0.2.1.2.1) hR hK hE hS rfl hl.1 rfl (Nat.le_of_ble_eq_true rfl) dX7_isWell_34 ⟨Nat.zero_le _, Nat.zero_le _⟩ (fun H locs hR hS => ?_)
      refine lv_aload_n (pc := 37) hx hb dX7_isWell_37 rfl (lv_at hl 0 rfl) ?_
      refine xr_getR (pc := 38) (ci := 11) hx hb hts inX7 hown hK hR rfl k0.1 0 (Nat.le_of_ble_eq_true rfl) rfl k0.2.1.1 (hts _ q_f_X7_10) (fun _ h9 => h9) dX7_isWell_38 ?_
      refine lv_bipush (pc := 41) hx hb dX7_isWell_41 kb_20 ?_
      obtain ⟨r6, m6, c6, h⟩ := xb_inv h
      refine xc_iV (pc := 43) (As := [.int _]) (rest := [.int _]) ⟨hx, hb, hml, hown, hts⟩ (mX0_lotsWeekByWeek hF _ _ k0.2.1.2 c6) (xcwV 1 hts fdX0_lotsWeekByWeek q_m_X7_122 ⟨Nat.le_of_ble_eq_true rfl, Nat.le_of_ble_eq_true rfl⟩) (xRecv hK hR (ci := 4) rfl k0.2.1.2.1) hR hK hE hS rfl hl.1 rfl (Nat.le_of_ble_eq_true rfl) dX7_isWell_43 ⟨Nat.zero_le _, Nat.zero_le _⟩ (fun H locs hR hS => ?_)
      refine lv_icmp_ne (pc := 46) (tgt := 53) hx hb dX7_isWell_46 (by decide) (fun c7 => ?_) (fun c7 => ?_)
      · have h := xneg c7 h
        refine lv_iconst (pc := 53) hx hb dX7_isWell_53 kc_0 ?_
        exact xf_i (pc := 54) hx hb hr rfl hlocks h hR hK hS dX7_isWell_54
      · have h := xpos c7 h
        refine lv_iconst (pc := 49) hx hb dX7_isWell_49 kc_1 ?_
        refine lv_goto (pc := 50) (tgt := 54) hx hb dX7_isWell_50 (by decide) ?_
        exact xf_i (pc := 54) hx hb hr rfl hlocks h hR hK hS dX7_isWell_54
set_option maxHeartbeats 1000000 in
set_option maxRecDepth 20000 in
theorem mX7_append {l : Launch} (hls : l.stackTraces = false) {D : va_G} {ca : Nat → ClassId} {z : Nat} {G : xG} {X : va_W} {ad av : Nat → Nat} (hF : xFix z G X) (h0 : Nat) (p1 : Int32) (k0 : xI_Coat G h0) {μ μ1 : xM} {o : xO} (h : fX7_append h0 p1 μ = some (o, μ1)) : xMx l yX7_append (xws yX7_append cX7_append 2 (some .int)) 7 1 6 D ca z G X ad av [.ref h0, .int p1] μ o μ1 := by
  refine xm_x (by decide) rfl (Nat.le_of_ble_eq_true rfl) [(0, .ref h0), (1, .int p1)] rfl ?_
  intro p e s m args below meth c ls hx hb hr hml hlocks hex hts hown hK hE hR hS hl
  have hts : ∀ w ∈ xAll, w.before args s = true := fun w hw => hts w (List.mem_cons_of_mem _ hw)
  rw [fX7_append] at h
  refine lv_aload_n (pc := 0) hx hb dX7_append_0 rfl (lv_at hl 0 rfl) ?_
  refine xr_getR (pc := 1) (ci := 11) hx hb hts inX7 hown hK hR rfl k0.1 7 (Nat.le_of_ble_eq_true rfl) rfl k0.2.2.2.2.2.2.2.1.1 (hts _ q_f_X7_50) (fun _ h9 => h9) dX7_append_1 ?_
  refine lv_iload_n (pc := 4) hx hb dX7_append_4 rfl (lv_at hl 1 rfl) ?_
  obtain ⟨r1, m1, c1, h⟩ := xb_inv h
  refine xc_iV (pc := 5) (As := [.int _]) (rest := []) ⟨hx, hb, hml, hown, hts⟩ (mX3_take hF _ _ k0.2.2.2.2.2.2.2.1.2 c1) (xcwV 1 hts fdX3_take q_m_X7_187 ⟨Nat.le_of_ble_eq_true rfl, Nat.le_of_ble_eq_true rfl⟩) (xRecv hK hR (ci := 7) rfl k0.2.2.2.2.2.2.2.1.2.1) hR hK hE hS rfl hl.1 rfl (Nat.le_of_ble_eq_true rfl) dX7_append_5 ⟨Nat.le_of_ble_eq_true rfl, Nat.le_of_ble_eq_true rfl⟩ (fun H locs hR hS => ?_)
  rcases xcb_inv h with ⟨r2, m2, c2, h⟩ | ⟨e2, r2, m2, c2, h⟩
  rotate_left
  · exact xz_vS (pc := 8) (As := [.int _]) (rest := []) ⟨hx, hb, hml, hown, hts⟩ (mX7_demandState hls hF _  c2) (xcwS 1 hts fdX7_demandState q_m_X7_108 ⟨Nat.le_of_ble_eq_true rfl, Nat.le_of_ble_eq_true rfl⟩) hR hK hE hS rfl hl.1 rfl (Nat.le_of_ble_eq_true rfl) dX7_append_8 ⟨Nat.le_of_ble_eq_true rfl, Nat.le_of_ble_eq_true rfl⟩ (fun ce q9 H locs hR hS h1 h2 h3 => xo_ut hlocks hex (congrArg some h.symm) hK hR hS h1 h2 h3 (Nat.le_of_ble_eq_true rfl) (Nat.le_of_ble_eq_true rfl))
  refine xy_vS (pc := 8) (As := [.int _]) (rest := []) ⟨hx, hb, hml, hown, hts⟩ (mX7_demandState hls hF _  c2) (xcwS 1 hts fdX7_demandState q_m_X7_108 ⟨Nat.le_of_ble_eq_true rfl, Nat.le_of_ble_eq_true rfl⟩) hR hK hE hS rfl hl.1 rfl (Nat.le_of_ble_eq_true rfl) dX7_append_8 ⟨Nat.le_of_ble_eq_true rfl, Nat.le_of_ble_eq_true rfl⟩ (fun H locs hR hS => ?_)
  refine lv_aload_n (pc := 11) hx hb dX7_append_11 rfl (lv_at hl 0 rfl) ?_
  refine xr_getR (pc := 12) (ci := 11) hx hb hts inX7 hown hK hR rfl k0.1 7 (Nat.le_of_ble_eq_true rfl) rfl k0.2.2.2.2.2.2.2.1.1 (hts _ q_f_X7_50) (fun _ h9 => h9) dX7_append_12 ?_
  refine xr_getI (pc := 15) (ci := 7) hx hb hts inX3 hown hK hR rfl k0.2.2.2.2.2.2.2.1.2.1 2 (Nat.le_of_ble_eq_true rfl) rfl (hts _ q_f_X7_191) (fun _ h9 => h9) dX7_append_15 ?_
  exact xe_x (pc := 18) hx hb hr rfl hlocks h hR hK hS (Nat.le_of_ble_eq_true rfl) (Nat.le_of_ble_eq_true rfl) dX7_append_18
set_option maxHeartbeats 1000000 in
set_option maxRecDepth 20000 in
theorem mX7_errorPosition {l : Launch} {D : va_G} {ca : Nat → ClassId} {z : Nat} {G : xG} {X : va_W} {ad av : Nat → Nat} (hF : xFix z G X) (h0 : Nat) (k0 : xI_Coat G h0) {μ μ1 : xM} {r : Int32} (h : fX7_errorPosition h0 μ = some (r, μ1)) : xMi l yX7_errorPosition (xws yX7_errorPosition cX7_errorPosition 1 (some .int)) 0 D ca z G X ad av [.ref h0] μ r μ1 := by
  refine xm_i (by decide) rfl (Nat.le_of_ble_eq_true rfl) [(0, .ref h0)] rfl ?_
  intro p e s m args below meth c ls hx hb hr hml hlocks hts hown hK hE hR hS hl
  have hts : ∀ w ∈ xAll, w.before args s = true := fun w hw => hts w (List.mem_cons_of_mem _ hw)
  rw [fX7_errorPosition] at h
  refine lv_aload_n (pc := 0) hx hb dX7_errorPosition_0 rfl (lv_at hl 0 rfl) ?_
  refine xr_getI (pc := 1) (ci := 11) hx hb hts inX7 hown hK hR rfl k0.1 10 (Nat.le_of_ble_eq_true rfl) rfl (hts _ q_f_X7_68) (fun _ h9 => h9) dX7_errorPosition_1 ?_
  exact xf_i (pc := 4) hx hb hr rfl hlocks h hR hK hS dX7_errorPosition_4
set_option maxHeartbeats 1000000 in
set_option maxRecDepth 20000 in
theorem mX7_refusal {l : Launch} (hls : l.stackTraces = false) {D : va_G} {ca : Nat → ClassId} {z : Nat} {G : xG} {X : va_W} {ad av : Nat → Nat} (hF : xFix z G X) (h0 : Nat) (p1 : Int32) (p2 : Int32) (k0 : xI_Coat G h0) {μ μ1 : xM} {o : xO} (h : fX7_refusal h0 p1 p2 μ = some (o, μ1)) : xMx l yX7_refusal (xws yX7_refusal cX7_refusal 3 (some .int)) 6 1 6 D ca z G X ad av [.ref h0, .int p1, .int p2] μ o μ1 := by
  refine xm_x (by decide) rfl (Nat.le_of_ble_eq_true rfl) [(0, .ref h0), (1, .int p1), (2, .int p2)] rfl ?_
  intro p e s m args below meth c ls hx hb hr hml hlocks hex hts hown hK hE hR hS hl
  have hts : ∀ w ∈ xAll, w.before args s = true := fun w hw => hts w (List.mem_cons_of_mem _ hw)
  rw [fX7_refusal] at h
  refine lv_aload_n (pc := 0) hx hb dX7_refusal_0 rfl (lv_at hl 0 rfl) ?_
  refine xr_getR (pc := 1) (ci := 11) hx hb hts inX7 hown hK hR rfl k0.1 8 (Nat.le_of_ble_eq_true rfl) rfl k0.2.2.2.2.2.2.2.2.1.1 (hts _ q_f_X7_57) (fun _ h9 => h9) dX7_refusal_1 ?_
  refine xr_getI (pc := 4) (ci := 10) hx hb hts inX6 hown hK hR rfl k0.2.2.2.2.2.2.2.2.1.2 0 (Nat.le_of_ble_eq_true rfl) rfl (hts _ q_f_X7_222) (fun _ h9 => h9) dX7_refusal_4 ?_
  refine lv_if_eq (pc := 7) (tgt := 26) hx hb dX7_refusal_7 (by decide) (fun c1 => ?_) (fun c1 => ?_)
  · have h := xpos c1 h
    exact xt_N (pc := 26) (i := 4) (w := 2) (Or.inl ⟨rfl, dX7_refusal_30⟩) hx hb hls hlocks hts hown hK hE hF th_4 (by decide) (by decide +kernel) rfl h hR hS (hl.1.trans hml.symm) hex dX7_refusal_26 dX7_refusal_29 dX7_refusal_32 dX7_refusal_35 (Nat.le_of_ble_eq_true rfl) (Nat.le_of_ble_eq_true rfl) (Nat.le_of_ble_eq_true rfl) (Nat.le_of_ble_eq_true rfl) (Nat.le_of_ble_eq_true rfl) (Nat.le_of_ble_eq_true rfl)
  · have h := xneg c1 h
    refine lv_iload_n (pc := 10) hx hb dX7_refusal_10 rfl (lv_at hl 1 rfl) ?_
    refine lv_if_eq (pc := 11) (tgt := 36) hx hb dX7_refusal_11 (by decide) (fun c2 => ?_) (fun c2 => ?_)
    · have h := xpos c2 h
      refine lv_iload_n (pc := 36) hx hb dX7_refusal_36 rfl (lv_at hl 1 rfl) ?_
      refine lv_if_eq (pc := 37) (tgt := 62) hx hb dX7_refusal_37 (by decide) (fun c3 => ?_) (fun c3 => ?_)
      · have h := xpos c3 h
        refine lv_iload_n (pc := 62) hx hb dX7_refusal_62 rfl (lv_at hl 2 rfl) ?_
        refine lv_if_eq (pc := 63) (tgt := 76) hx hb dX7_refusal_63 (by decide) (fun c4 => ?_) (fun c4 => ?_)
        · have h := xpos c4 h
          refine lv_aload_n (pc := 76) hx hb dX7_refusal_76 rfl (lv_at hl 0 rfl) ?_
          refine xr_getR (pc := 77) (ci := 11) hx hb hts inX7 hown hK hR rfl k0.1 8 (Nat.le_of_ble_eq_true rfl) rfl k0.2.2.2.2.2.2.2.2.1.1 (hts _ q_f_X7_57) (fun _ h9 => h9) dX7_refusal_77 ?_
          refine xr_getI (pc := 80) (ci := 10) hx hb hts inX6 hown hK hR rfl k0.2.2.2.2.2.2.2.2.1.2 0 (Nat.le_of_ble_eq_true rfl) rfl (hts _ q_f_X7_222) (fun _ h9 => h9) dX7_refusal_80 ?_
          exact xe_x (pc := 83) hx hb hr rfl hlocks h hR hK hS (Nat.le_of_ble_eq_true rfl) (Nat.le_of_ble_eq_true rfl) dX7_refusal_83
        · have h := xneg c4 h
          refine lv_aload_n (pc := 66) hx hb dX7_refusal_66 rfl (lv_at hl 0 rfl) ?_
          refine xr_getR (pc := 67) (ci := 11) hx hb hts inX7 hown hK hR rfl k0.1 8 (Nat.le_of_ble_eq_true rfl) rfl k0.2.2.2.2.2.2.2.2.1.1 (hts _ q_f_X7_57) (fun _ h9 => h9) dX7_refusal_67 ?_
          refine xr_getI (pc := 70) (ci := 10) hx hb hts inX6 hown hK hR rfl k0.2.2.2.2.2.2.2.2.1.2 1 (Nat.le_of_ble_eq_true rfl) rfl (hts _ q_f_X7_236) (fun _ h9 => h9) dX7_refusal_70 ?_
          refine lv_goto (pc := 73) (tgt := 83) hx hb dX7_refusal_73 (by decide) ?_
          exact xe_x (pc := 83) hx hb hr rfl hlocks h hR hK hS (Nat.le_of_ble_eq_true rfl) (Nat.le_of_ble_eq_true rfl) dX7_refusal_83
      · have h := xneg c3 h
        refine lv_iload_n (pc := 40) hx hb dX7_refusal_40 rfl (lv_at hl 2 rfl) ?_
        refine lv_if_eq (pc := 41) (tgt := 54) hx hb dX7_refusal_41 (by decide) (fun c5 => ?_) (fun c5 => ?_)
        · have h := xpos c5 h
          refine lv_aload_n (pc := 54) hx hb dX7_refusal_54 rfl (lv_at hl 0 rfl) ?_
          refine xr_getR (pc := 55) (ci := 11) hx hb hts inX7 hown hK hR rfl k0.1 8 (Nat.le_of_ble_eq_true rfl) rfl k0.2.2.2.2.2.2.2.2.1.1 (hts _ q_f_X7_57) (fun _ h9 => h9) dX7_refusal_55 ?_
          refine xr_getI (pc := 58) (ci := 10) hx hb hts inX6 hown hK hR rfl k0.2.2.2.2.2.2.2.2.1.2 2 (Nat.le_of_ble_eq_true rfl) rfl (hts _ q_f_X7_233) (fun _ h9 => h9) dX7_refusal_58 ?_
          exact xe_x (pc := 61) hx hb hr rfl hlocks h hR hK hS (Nat.le_of_ble_eq_true rfl) (Nat.le_of_ble_eq_true rfl) dX7_refusal_61
        · have h := xneg c5 h
          refine lv_aload_n (pc := 44) hx hb dX7_refusal_44 rfl (lv_at hl 0 rfl) ?_
          refine xr_getR (pc := 45) (ci := 11) hx hb hts inX7 hown hK hR rfl k0.1 8 (Nat.le_of_ble_eq_true rfl) rfl k0.2.2.2.2.2.2.2.2.1.1 (hts _ q_f_X7_57) (fun _ h9 => h9) dX7_refusal_45 ?_
          refine xr_getI (pc := 48) (ci := 10) hx hb hts inX6 hown hK hR rfl k0.2.2.2.2.2.2.2.2.1.2 3 (Nat.le_of_ble_eq_true rfl) rfl (hts _ q_f_X7_230) (fun _ h9 => h9) dX7_refusal_48 ?_
          refine lv_goto (pc := 51) (tgt := 61) hx hb dX7_refusal_51 (by decide) ?_
          exact xe_x (pc := 61) hx hb hr rfl hlocks h hR hK hS (Nat.le_of_ble_eq_true rfl) (Nat.le_of_ble_eq_true rfl) dX7_refusal_61
    · have h := xneg c2 h
      refine lv_aload_n (pc := 14) hx hb dX7_refusal_14 rfl (lv_at hl 0 rfl) ?_
      refine xr_getR (pc := 15) (ci := 11) hx hb hts inX7 hown hK hR rfl k0.1 8 (Nat.le_of_ble_eq_true rfl) rfl k0.2.2.2.2.2.2.2.2.1.1 (hts _ q_f_X7_57) (fun _ h9 => h9) dX7_refusal_15 ?_
      refine xr_getI (pc := 18) (ci := 10) hx hb hts inX6 hown hK hR rfl k0.2.2.2.2.2.2.2.2.1.2 0 (Nat.le_of_ble_eq_true rfl) rfl (hts _ q_f_X7_222) (fun _ h9 => h9) dX7_refusal_18 ?_
      refine lv_bipush (pc := 21) hx hb dX7_refusal_21 kb_11 ?_
      refine lv_icmp_eq (pc := 23) (tgt := 36) hx hb dX7_refusal_23 (by decide) (fun c6 => ?_) (fun c6 => ?_)
      · have h := xpos c6 h
        refine lv_iload_n (pc := 36) hx hb dX7_refusal_36 rfl (lv_at hl 1 rfl) ?_
        refine lv_if_eq (pc := 37) (tgt := 62) hx hb dX7_refusal_37 (by decide) (fun c7 => ?_) (fun c7 => ?_)
        · have h := xpos c7 h
          refine lv_iload_n (pc := 62) hx hb dX7_refusal_62 rfl (lv_at hl 2 rfl) ?_
          refine lv_if_eq (pc := 63) (tgt := 76) hx hb dX7_refusal_63 (by decide) (fun c8 => ?_) (fun c8 => ?_)
          · have h := xpos c8 h
            refine lv_aload_n (pc := 76) hx hb dX7_refusal_76 rfl (lv_at hl 0 rfl) ?_
            refine xr_getR (pc := 77) (ci := 11) hx hb hts inX7 hown hK hR rfl k0.1 8 (Nat.le_of_ble_eq_true rfl) rfl k0.2.2.2.2.2.2.2.2.1.1 (hts _ q_f_X7_57) (fun _ h9 => h9) dX7_refusal_77 ?_
            refine xr_getI (pc := 80) (ci := 10) hx hb hts inX6 hown hK hR rfl k0.2.2.2.2.2.2.2.2.1.2 0 (Nat.le_of_ble_eq_true rfl) rfl (hts _ q_f_X7_222) (fun _ h9 => h9) dX7_refusal_80 ?_
            exact xe_x (pc := 83) hx hb hr rfl hlocks h hR hK hS (Nat.le_of_ble_eq_true rfl) (Nat.le_of_ble_eq_true rfl) dX7_refusal_83
          · have h := xneg c8 h
            refine lv_aload_n (pc := 66) hx hb dX7_refusal_66 rfl (lv_at hl 0 rfl) ?_
            refine xr_getR (pc := 67) (ci := 11) hx hb hts inX7 hown hK hR rfl k0.1 8 (Nat.le_of_ble_eq_true rfl) rfl k0.2.2.2.2.2.2.2.2.1.1 (hts _ q_f_X7_57) (fun _ h9 => h9) dX7_refusal_67 ?_
            refine xr_getI (pc := 70) (ci := 10) hx hb hts inX6 hown hK hR rfl k0.2.2.2.2.2.2.2.2.1.2 1 (Nat.le_of_ble_eq_true rfl) rfl (hts _ q_f_X7_236) (fun _ h9 => h9) dX7_refusal_70 ?_
            refine lv_goto (pc := 73) (tgt := 83) hx hb dX7_refusal_73 (by decide) ?_
            exact xe_x (pc := 83) hx hb hr rfl hlocks h hR hK hS (Nat.le_of_ble_eq_true rfl) (Nat.le_of_ble_eq_true rfl) dX7_refusal_83
        · have h := xneg c7 h
          refine lv_iload_n (pc := 40) hx hb dX7_refusal_40 rfl (lv_at hl 2 rfl) ?_
          refine lv_if_eq (pc := 41) (tgt := 54) hx hb dX7_refusal_41 (by decide) (fun c9 => ?_) (fun c9 => ?_)
          · have h := xpos c9 h
            refine lv_aload_n (pc := 54) hx hb dX7_refusal_54 rfl (lv_at hl 0 rfl) ?_
            refine xr_getR (pc := 55) (ci := 11) hx hb hts inX7 hown hK hR rfl k0.1 8 (Nat.le_of_ble_eq_true rfl) rfl k0.2.2.2.2.2.2.2.2.1.1 (hts _ q_f_X7_57) (fun _ h9 => h9) dX7_refusal_55 ?_
            refine xr_getI (pc := 58) (ci := 10) hx hb hts inX6 hown hK hR rfl k0.2.2.2.2.2.2.2.2.1.2 2 (Nat.le_of_ble_eq_true rfl) rfl (hts _ q_f_X7_233) (fun _ h9 => h9) dX7_refusal_58 ?_
            exact xe_x (pc := 61) hx hb hr rfl hlocks h hR hK hS (Nat.le_of_ble_eq_true rfl) (Nat.le_of_ble_eq_true rfl) dX7_refusal_61
          · have h := xneg c9 h
            refine lv_aload_n (pc := 44) hx hb dX7_refusal_44 rfl (lv_at hl 0 rfl) ?_
            refine xr_getR (pc := 45) (ci := 11) hx hb hts inX7 hown hK hR rfl k0.1 8 (Nat.le_of_ble_eq_true rfl) rfl k0.2.2.2.2.2.2.2.2.1.1 (hts _ q_f_X7_57) (fun _ h9 => h9) dX7_refusal_45 ?_
            refine xr_getI (pc := 48) (ci := 10) hx hb hts inX6 hown hK hR rfl k0.2.2.2.2.2.2.2.2.1.2 3 (Nat.le_of_ble_eq_true rfl) rfl (hts _ q_f_X7_230) (fun _ h9 => h9) dX7_refusal_48 ?_
            refine lv_goto (pc := 51) (tgt := 61) hx hb dX7_refusal_51 (by decide) ?_
            exact xe_x (pc := 61) hx hb hr rfl hlocks h hR hK hS (Nat.le_of_ble_eq_true rfl) (Nat.le_of_ble_eq_true rfl) dX7_refusal_61
      · have h := xneg c6 h
        exact xt_N (pc := 26) (i := 4) (w := 2) (Or.inl ⟨rfl, dX7_refusal_30⟩) hx hb hls hlocks hts hown hK hE hF th_4 (by decide) (by decide +kernel) rfl h hR hS (hl.1.trans hml.symm) hex dX7_refusal_26 dX7_refusal_29 dX7_refusal_32 dX7_refusal_35 (Nat.le_of_ble_eq_true rfl) (Nat.le_of_ble_eq_true rfl) (Nat.le_of_ble_eq_true rfl) (Nat.le_of_ble_eq_true rfl) (Nat.le_of_ble_eq_true rfl) (Nat.le_of_ble_eq_true rfl)
set_option maxHeartbeats 1000000 in
set_option maxRecDepth 20000 in
theorem mX7_account {l : Launch} (hls : l.stackTraces = false) {D : va_G} {ca : Nat → ClassId} {z : Nat} {G : xG} {X : va_W} {ad av : Nat → Nat} (hF : xFix z G X) (h0 : Nat) (p1 : Int32) (k0 : xI_Coat G h0) {μ μ1 : xM} {o : xO} (h : fX7_account h0 p1 μ = some (o, μ1)) : xMx l yX7_account (xws yX7_account cX7_account 2 (some .int)) 7 1 6 D ca z G X ad av [.ref h0, .int p1] μ o μ1 := by
  refine xm_x (by decide) rfl (Nat.le_of_ble_eq_true rfl) [(0, .ref h0), (1, .int p1)] rfl ?_
  intro p e s m args below meth c ls hx hb hr hml hlocks hex hts hown hK hE hR hS hl
  have hts : ∀ w ∈ xAll, w.before args s = true := fun w hw => hts w (List.mem_cons_of_mem _ hw)
  rw [fX7_account] at h
  refine lv_iload_n (pc := 0) hx hb dX7_account_0 rfl (lv_at hl 1 rfl) ?_
  refine lv_iconst (pc := 1) hx hb dX7_account_1 kc_0 ?_
  refine lv_bipush (pc := 2) hx hb dX7_account_2 kb_15 ?_
  rcases xcb_inv h with ⟨r1, m1, c1, h⟩ | ⟨e1, r1, m1, c1, h⟩
  rotate_left
  · exact xz_vS (pc := 4) (As := [.int _, .int _, .int _]) (rest := []) ⟨hx, hb, hml, hown, hts⟩ (mX7_demandRange hls hF _ _ _  c1) (xcwS 3 hts fdX7_demandRange q_m_X7_80 ⟨Nat.le_of_ble_eq_true rfl, Nat.le_of_ble_eq_true rfl⟩) hR hK hE hS rfl hl.1 rfl (Nat.le_of_ble_eq_true rfl) dX7_account_4 ⟨Nat.le_of_ble_eq_true rfl, Nat.le_of_ble_eq_true rfl⟩ (fun ce q9 H locs hR hS h1 h2 h3 => xo_ut hlocks hex (congrArg some h.symm) hK hR hS h1 h2 h3 (Nat.le_of_ble_eq_true rfl) (Nat.le_of_ble_eq_true rfl))
  refine xy_vS (pc := 4) (As := [.int _, .int _, .int _]) (rest := []) ⟨hx, hb, hml, hown, hts⟩ (mX7_demandRange hls hF _ _ _  c1) (xcwS 3 hts fdX7_demandRange q_m_X7_80 ⟨Nat.le_of_ble_eq_true rfl, Nat.le_of_ble_eq_true rfl⟩) hR hK hE hS rfl hl.1 rfl (Nat.le_of_ble_eq_true rfl) dX7_account_4 ⟨Nat.le_of_ble_eq_true rfl, Nat.le_of_ble_eq_true rfl⟩ (fun H locs hR hS => ?_)
  refine lv_iload_n (pc := 7) hx hb dX7_account_7 rfl (lv_at hl 1 rfl) ?_
  by_cases c2 : p1 = (0 : Int32)
  · have h := xpos c2 h
    refine lv_tableIn (pc := 8) (tgt := 84) hx hb dX7_account_8 (by rw [c2]; decide) (by rw [c2]; decide) (by rw [c2]; rfl) (by decide) ?_
    refine lv_aload_n (pc := 84) hx hb dX7_account_84 rfl (lv_at hl 0 rfl) ?_
    refine xr_getR (pc := 85) (ci := 11) hx hb hts inX7 hown hK hR rfl k0.1 0 (Nat.le_of_ble_eq_true rfl) rfl k0.2.1.1 (hts _ q_f_X7_10) (fun _ h9 => h9) dX7_account_85 ?_
    refine xr_getI (pc := 88) (ci := 4) hx hb hts inX0 hown hK hR rfl k0.2.1.2.1 4 (Nat.le_of_ble_eq_true rfl) rfl (hts _ q_f_X7_101) (fun _ h9 => h9) dX7_account_88 ?_
    exact xe_x (pc := 91) hx hb hr rfl hlocks h hR hK hS (Nat.le_of_ble_eq_true rfl) (Nat.le_of_ble_eq_true rfl) dX7_account_91
  have h := xneg c2 h
  by_cases c3 : p1 = (1 : Int32)
  · have h := xpos c3 h
    refine lv_tableIn (pc := 8) (tgt := 92) hx hb dX7_account_8 (by rw [c3]; decide) (by rw [c3]; decide) (by rw [c3]; rfl) (by decide) ?_
    refine lv_aload_n (pc := 92) hx hb dX7_account_92 rfl (lv_at hl 0 rfl) ?_
    refine xr_getR (pc := 93) (ci := 11) hx hb hts inX7 hown hK hR rfl k0.1 0 (Nat.le_of_ble_eq_true rfl) rfl k0.2.1.1 (hts _ q_f_X7_10) (fun _ h9 => h9) dX7_account_93 ?_
    refine xr_getI (pc := 96) (ci := 4) hx hb hts inX0 hown hK hR rfl k0.2.1.2.1 3 (Nat.le_of_ble_eq_true rfl) rfl (hts _ q_f_X7_239) (fun _ h9 => h9) dX7_account_96 ?_
    exact xe_x (pc := 99) hx hb hr rfl hlocks h hR hK hS (Nat.le_of_ble_eq_true rfl) (Nat.le_of_ble_eq_true rfl) dX7_account_99
  have h := xneg c3 h
  by_cases c4 : p1 = (2 : Int32)
  · have h := xpos c4 h
    refine lv_tableIn (pc := 8) (tgt := 100) hx hb dX7_account_8 (by rw [c4]; decide) (by rw [c4]; decide) (by rw [c4]; rfl) (by decide) ?_
    refine lv_aload_n (pc := 100) hx hb dX7_account_100 rfl (lv_at hl 0 rfl) ?_
    refine xr_getR (pc := 101) (ci := 11) hx hb hts inX7 hown hK hR rfl k0.1 0 (Nat.le_of_ble_eq_true rfl) rfl k0.2.1.1 (hts _ q_f_X7_10) (fun _ h9 => h9) dX7_account_101 ?_
    refine lv_iconst (pc := 104) hx hb dX7_account_104 kc_m1 ?_
    refine lv_iconst (pc := 105) hx hb dX7_account_105 kc_0 ?_
    obtain ⟨r5, m5, c5, h⟩ := xb_inv h
    refine xc_iV (pc := 106) (As := [.int _, .int _]) (rest := []) ⟨hx, hb, hml, hown, hts⟩ (mX0_countOf hF _ _ _ k0.2.1.2 c5) (xcwV 2 hts fdX0_countOf q_m_X7_141 ⟨Nat.le_of_ble_eq_true rfl, Nat.le_of_ble_eq_true rfl⟩) (xRecv hK hR (ci := 4) rfl k0.2.1.2.1) hR hK hE hS rfl hl.1 rfl (Nat.le_of_ble_eq_true rfl) dX7_account_106 ⟨Nat.le_of_ble_eq_true rfl, Nat.le_of_ble_eq_true rfl⟩ (fun H locs hR hS => ?_)
    exact xe_x (pc := 109) hx hb hr rfl hlocks h hR hK hS (Nat.le_of_ble_eq_true rfl) (Nat.le_of_ble_eq_true rfl) dX7_account_109
  have h := xneg c4 h
  by_cases c6 : p1 = (3 : Int32)
  · have h := xpos c6 h
    refine lv_tableIn (pc := 8) (tgt := 110) hx hb dX7_account_8 (by rw [c6]; decide) (by rw [c6]; decide) (by rw [c6]; rfl) (by decide) ?_
    refine lv_aload_n (pc := 110) hx hb dX7_account_110 rfl (lv_at hl 0 rfl) ?_
    refine xr_getR (pc := 111) (ci := 11) hx hb hts inX7 hown hK hR rfl k0.1 0 (Nat.le_of_ble_eq_true rfl) rfl k0.2.1.1 (hts _ q_f_X7_10) (fun _ h9 => h9) dX7_account_111 ?_
    refine lv_iconst (pc := 114) hx hb dX7_account_114 kc_m1 ?_
    refine lv_iconst (pc := 115) hx hb dX7_account_115 kc_1 ?_
    obtain ⟨r7, m7, c7, h⟩ := xb_inv h
    refine xc_iV (pc := 116) (As := [.int _, .int _]) (rest := []) ⟨hx, hb, hml, hown, hts⟩ (mX0_countOf hF _ _ _ k0.2.1.2 c7) (xcwV 2 hts fdX0_countOf q_m_X7_141 ⟨Nat.le_of_ble_eq_true rfl, Nat.le_of_ble_eq_true rfl⟩) (xRecv hK hR (ci := 4) rfl k0.2.1.2.1) hR hK hE hS rfl hl.1 rfl (Nat.le_of_ble_eq_true rfl) dX7_account_116 ⟨Nat.le_of_ble_eq_true rfl, Nat.le_of_ble_eq_true rfl⟩ (fun H locs hR hS => ?_)
    exact xe_x (pc := 119) hx hb hr rfl hlocks h hR hK hS (Nat.le_of_ble_eq_true rfl) (Nat.le_of_ble_eq_true rfl) dX7_account_119
  have h := xneg c6 h
  by_cases c8 : p1 = (4 : Int32)
  · have h := xpos c8 h
    refine lv_tableIn (pc := 8) (tgt := 120) hx hb dX7_account_8 (by rw [c8]; decide) (by rw [c8]; decide) (by rw [c8]; rfl) (by decide) ?_
    refine lv_aload_n (pc := 120) hx hb dX7_account_120 rfl (lv_at hl 0 rfl) ?_
    refine xr_getR (pc := 121) (ci := 11) hx hb hts inX7 hown hK hR rfl k0.1 0 (Nat.le_of_ble_eq_true rfl) rfl k0.2.1.1 (hts _ q_f_X7_10) (fun _ h9 => h9) dX7_account_121 ?_
    refine lv_iconst (pc := 124) hx hb dX7_account_124 kc_m1 ?_
    refine lv_iconst (pc := 125) hx hb dX7_account_125 kc_2 ?_
    obtain ⟨r9, m9, c9, h⟩ := xb_inv h
    refine xc_iV (pc := 126) (As := [.int _, .int _]) (rest := []) ⟨hx, hb, hml, hown, hts⟩ (mX0_countOf hF _ _ _ k0.2.1.2 c9) (xcwV 2 hts fdX0_countOf q_m_X7_141 ⟨Nat.le_of_ble_eq_true rfl, Nat.le_of_ble_eq_true rfl⟩) (xRecv hK hR (ci := 4) rfl k0.2.1.2.1) hR hK hE hS rfl hl.1 rfl (Nat.le_of_ble_eq_true rfl) dX7_account_126 ⟨Nat.le_of_ble_eq_true rfl, Nat.le_of_ble_eq_true rfl⟩ (fun H locs hR hS => ?_)
    exact xe_x (pc := 129) hx hb hr rfl hlocks h hR hK hS (Nat.le_of_ble_eq_true rfl) (Nat.le_of_ble_eq_true rfl) dX7_account_129
  have h := xneg c8 h
  by_cases c10 : p1 = (5 : Int32)
  · have h := xpos c10 h
    refine lv_tableIn (pc := 8) (tgt := 130) hx hb dX7_account_8 (by rw [c10]; decide) (by rw [c10]; decide) (by rw [c10]; rfl) (by decide) ?_
    refine lv_aload_n (pc := 130) hx hb dX7_account_130 rfl (lv_at hl 0 rfl) ?_
    refine xr_getR (pc := 131) (ci := 11) hx hb hts inX7 hown hK hR rfl k0.1 0 (Nat.le_of_ble_eq_true rfl) rfl k0.2.1.1 (hts _ q_f_X7_10) (fun _ h9 => h9) dX7_account_131 ?_
    refine lv_iconst (pc := 134) hx hb dX7_account_134 kc_m1 ?_
    refine lv_iconst (pc := 135) hx hb dX7_account_135 kc_3 ?_
    obtain ⟨r11, m11, c11, h⟩ := xb_inv h
    refine xc_iV (pc := 136) (As := [.int _, .int _]) (rest := []) ⟨hx, hb, hml, hown, hts⟩ (mX0_countOf hF _ _ _ k0.2.1.2 c11) (xcwV 2 hts fdX0_countOf q_m_X7_141 ⟨Nat.le_of_ble_eq_true rfl, Nat.le_of_ble_eq_true rfl⟩) (xRecv hK hR (ci := 4) rfl k0.2.1.2.1) hR hK hE hS rfl hl.1 rfl (Nat.le_of_ble_eq_true rfl) dX7_account_136 ⟨Nat.le_of_ble_eq_true rfl, Nat.le_of_ble_eq_true rfl⟩ (fun H locs hR hS => ?_)
    exact xe_x (pc := 139) hx hb hr rfl hlocks h hR hK hS (Nat.le_of_ble_eq_true rfl) (Nat.le_of_ble_eq_true rfl) dX7_account_139
  have h := xneg c10 h
  by_cases c12 : p1 = (6 : Int32)
  · have h := xpos c12 h
    refine lv_tableIn (pc := 8) (tgt := 140) hx hb dX7_account_8 (by rw [c12]; decide) (by rw [c12]; decide) (by rw [c12]; rfl) (by decide) ?_
    refine lv_aload_n (pc := 140) hx hb dX7_account_140 rfl (lv_at hl 0 rfl) ?_
    refine xr_getR (pc := 141) (ci := 11) hx hb hts inX7 hown hK hR rfl k0.1 0 (Nat.le_of_ble_eq_true rfl) rfl k0.2.1.1 (hts _ q_f_X7_10) (fun _ h9 => h9) dX7_account_141 ?_
    obtain ⟨r13, m13, c13, h⟩ := xb_inv h
    refine xc_iV (pc := 144) (As := []) (rest := []) ⟨hx, hb, hml, hown, hts⟩ (mX0_sumOfLent hF _ k0.2.1.2 c13) (xcwV 0 hts fdX0_sumOfLent q_m_X7_242 ⟨Nat.le_of_ble_eq_true rfl, Nat.le_of_ble_eq_true rfl⟩) (xRecv hK hR (ci := 4) rfl k0.2.1.2.1) hR hK hE hS rfl hl.1 rfl (Nat.le_of_ble_eq_true rfl) dX7_account_144 ⟨Nat.le_of_ble_eq_true rfl, Nat.le_of_ble_eq_true rfl⟩ (fun H locs hR hS => ?_)
    exact xe_x (pc := 147) hx hb hr rfl hlocks h hR hK hS (Nat.le_of_ble_eq_true rfl) (Nat.le_of_ble_eq_true rfl) dX7_account_147
  have h := xneg c12 h
  by_cases c14 : p1 = (7 : Int32)
  · have h := xpos c14 h
    refine lv_tableIn (pc := 8) (tgt := 148) hx hb dX7_account_8 (by rw [c14]; decide) (by rw [c14]; decide) (by rw [c14]; rfl) (by decide) ?_
    refine lv_aload_n (pc := 148) hx hb dX7_account_148 rfl (lv_at hl 0 rfl) ?_
    refine xr_getR (pc := 149) (ci := 11) hx hb hts inX7 hown hK hR rfl k0.1 0 (Nat.le_of_ble_eq_true rfl) rfl k0.2.1.1 (hts _ q_f_X7_10) (fun _ h9 => h9) dX7_account_149 ?_
    obtain ⟨r15, m15, c15, h⟩ := xb_inv h
    refine xc_iV (pc := 152) (As := []) (rest := []) ⟨hx, hb, hml, hown, hts⟩ (mX0_sumOfPaid hF _ k0.2.1.2 c15) (xcwV 0 hts fdX0_sumOfPaid q_m_X7_245 ⟨Nat.le_of_ble_eq_true rfl, Nat.le_of_ble_eq_true rfl⟩) (xRecv hK hR (ci := 4) rfl k0.2.1.2.1) hR hK hE hS rfl hl.1 rfl (Nat.le_of_ble_eq_true rfl) dX7_account_152 ⟨Nat.le_of_ble_eq_true rfl, Nat.le_of_ble_eq_true rfl⟩ (fun H locs hR hS => ?_)
    exact xe_x (pc := 155) hx hb hr rfl hlocks h hR hK hS (Nat.le_of_ble_eq_true rfl) (Nat.le_of_ble_eq_true rfl) dX7_account_155
  have h := xneg c14 h
  by_cases c16 : p1 = (8 : Int32)
  · have h := xpos c16 h
    refine lv_tableIn (pc := 8) (tgt := 156) hx hb dX7_account_8 (by rw [c16]; decide) (by rw [c16]; decide) (by rw [c16]; rfl) (by decide) ?_
    refine lv_aload_n (pc := 156) hx hb dX7_account_156 rfl (lv_at hl 0 rfl) ?_
    refine xr_getR (pc := 157) (ci := 11) hx hb hts inX7 hown hK hR rfl k0.1 0 (Nat.le_of_ble_eq_true rfl) rfl k0.2.1.1 (hts _ q_f_X7_10) (fun _ h9 => h9) dX7_account_157 ?_
    obtain ⟨r17, m17, c17, h⟩ := xb_inv h
    refine xc_iV (pc := 160) (As := []) (rest := []) ⟨hx, hb, hml, hown, hts⟩ (mX0_sumOfPrices hF _ k0.2.1.2 c17) (xcwV 0 hts fdX0_sumOfPrices q_m_X7_248 ⟨Nat.le_of_ble_eq_true rfl, Nat.le_of_ble_eq_true rfl⟩) (xRecv hK hR (ci := 4) rfl k0.2.1.2.1) hR hK hE hS rfl hl.1 rfl (Nat.le_of_ble_eq_true rfl) dX7_account_160 ⟨Nat.le_of_ble_eq_true rfl, Nat.le_of_ble_eq_true rfl⟩ (fun H locs hR hS => ?_)
    exact xe_x (pc := 163) hx hb hr rfl hlocks h hR hK hS (Nat.le_of_ble_eq_true rfl) (Nat.le_of_ble_eq_true rfl) dX7_account_163
  have h := xneg c16 h
  by_cases c18 : p1 = (9 : Int32)
  · have h := xpos c18 h
    refine lv_tableIn (pc := 8) (tgt := 164) hx hb dX7_account_8 (by rw [c18]; decide) (by rw [c18]; decide) (by rw [c18]; rfl) (by decide) ?_
    refine lv_aload_n (pc := 164) hx hb dX7_account_164 rfl (lv_at hl 0 rfl) ?_
    refine xr_getR (pc := 165) (ci := 11) hx hb hts inX7 hown hK hR rfl k0.1 0 (Nat.le_of_ble_eq_true rfl) rfl k0.2.1.1 (hts _ q_f_X7_10) (fun _ h9 => h9) dX7_account_165 ?_
    obtain ⟨r19, m19, c19, h⟩ := xb_inv h
    refine xc_iV (pc := 168) (As := []) (rest := []) ⟨hx, hb, hml, hown, hts⟩ (mX0_sumOfClaimed hF _ k0.2.1.2 c19) (xcwV 0 hts fdX0_sumOfClaimed q_m_X7_251 ⟨Nat.le_of_ble_eq_true rfl, Nat.le_of_ble_eq_true rfl⟩) (xRecv hK hR (ci := 4) rfl k0.2.1.2.1) hR hK hE hS rfl hl.1 rfl (Nat.le_of_ble_eq_true rfl) dX7_account_168 ⟨Nat.le_of_ble_eq_true rfl, Nat.le_of_ble_eq_true rfl⟩ (fun H locs hR hS => ?_)
    exact xe_x (pc := 171) hx hb hr rfl hlocks h hR hK hS (Nat.le_of_ble_eq_true rfl) (Nat.le_of_ble_eq_true rfl) dX7_account_171
  have h := xneg c18 h
  by_cases c20 : p1 = (10 : Int32)
  · have h := xpos c20 h
    refine lv_tableIn (pc := 8) (tgt := 172) hx hb dX7_account_8 (by rw [c20]; decide) (by rw [c20]; decide) (by rw [c20]; rfl) (by decide) ?_
    refine lv_aload_n (pc := 172) hx hb dX7_account_172 rfl (lv_at hl 0 rfl) ?_
    refine xr_getR (pc := 173) (ci := 11) hx hb hts inX7 hown hK hR rfl k0.1 0 (Nat.le_of_ble_eq_true rfl) rfl k0.2.1.1 (hts _ q_f_X7_10) (fun _ h9 => h9) dX7_account_173 ?_
    obtain ⟨r21, m21, c21, h⟩ := xb_inv h
    refine xc_iV (pc := 176) (As := []) (rest := []) ⟨hx, hb, hml, hown, hts⟩ (mX0_sumOfLeft hF _ k0.2.1.2 c21) (xcwV 0 hts fdX0_sumOfLeft q_m_X7_254 ⟨Nat.le_of_ble_eq_true rfl, Nat.le_of_ble_eq_true rfl⟩) (xRecv hK hR (ci := 4) rfl k0.2.1.2.1) hR hK hE hS rfl hl.1 rfl (Nat.le_of_ble_eq_true rfl) dX7_account_176 ⟨Nat.le_of_ble_eq_true rfl, Nat.le_of_ble_eq_true rfl⟩ (fun H locs hR hS => ?_)
    exact xe_x (pc := 179) hx hb hr rfl hlocks h hR hK hS (Nat.le_of_ble_eq_true rfl) (Nat.le_of_ble_eq_true rfl) dX7_account_179
  have h := xneg c20 h
  by_cases c22 : p1 = (11 : Int32)
  · have h := xpos c22 h
    refine lv_tableIn (pc := 8) (tgt := 180) hx hb dX7_account_8 (by rw [c22]; decide) (by rw [c22]; decide) (by rw [c22]; rfl) (by decide) ?_
    refine lv_aload_n (pc := 180) hx hb dX7_account_180 rfl (lv_at hl 0 rfl) ?_
    refine xr_getR (pc := 181) (ci := 11) hx hb hts inX7 hown hK hR rfl k0.1 0 (Nat.le_of_ble_eq_true rfl) rfl k0.2.1.1 (hts _ q_f_X7_10) (fun _ h9 => h9) dX7_account_181 ?_
    obtain ⟨r23, m23, c23, h⟩ := xb_inv h
    refine xc_iV (pc := 184) (As := []) (rest := []) ⟨hx, hb, hml, hown, hts⟩ (mX0_sumOfLosses hF _ k0.2.1.2 c23) (xcwV 0 hts fdX0_sumOfLosses q_m_X7_257 ⟨Nat.le_of_ble_eq_true rfl, Nat.le_of_ble_eq_true rfl⟩) (xRecv hK hR (ci := 4) rfl k0.2.1.2.1) hR hK hE hS rfl hl.1 rfl (Nat.le_of_ble_eq_true rfl) dX7_account_184 ⟨Nat.le_of_ble_eq_true rfl, Nat.le_of_ble_eq_true rfl⟩ (fun H locs hR hS => ?_)
    exact xe_x (pc := 187) hx hb hr rfl hlocks h hR hK hS (Nat.le_of_ble_eq_true rfl) (Nat.le_of_ble_eq_true rfl) dX7_account_187
  have h := xneg c22 h
  by_cases c24 : p1 = (12 : Int32)
  · have h := xpos c24 h
    refine lv_tableIn (pc := 8) (tgt := 188) hx hb dX7_account_8 (by rw [c24]; decide) (by rw [c24]; decide) (by rw [c24]; rfl) (by decide) ?_
    refine lv_aload_n (pc := 188) hx hb dX7_account_188 rfl (lv_at hl 0 rfl) ?_
    refine xr_getR (pc := 189) (ci := 11) hx hb hts inX7 hown hK hR rfl k0.1 0 (Nat.le_of_ble_eq_true rfl) rfl k0.2.1.1 (hts _ q_f_X7_10) (fun _ h9 => h9) dX7_account_189 ?_
    refine xr_getI (pc := 192) (ci := 4) hx hb hts inX0 hown hK hR rfl k0.2.1.2.1 5 (Nat.le_of_ble_eq_true rfl) rfl (hts _ q_f_X7_260) (fun _ h9 => h9) dX7_account_192 ?_
    exact xe_x (pc := 195) hx hb hr rfl hlocks h hR hK hS (Nat.le_of_ble_eq_true rfl) (Nat.le_of_ble_eq_true rfl) dX7_account_195
  have h := xneg c24 h
  by_cases c25 : p1 = (13 : Int32)
  · have h := xpos c25 h
    refine lv_tableIn (pc := 8) (tgt := 196) hx hb dX7_account_8 (by rw [c25]; decide) (by rw [c25]; decide) (by rw [c25]; rfl) (by decide) ?_
    refine lv_aload_n (pc := 196) hx hb dX7_account_196 rfl (lv_at hl 0 rfl) ?_
    refine xr_getR (pc := 197) (ci := 11) hx hb hts inX7 hown hK hR rfl k0.1 0 (Nat.le_of_ble_eq_true rfl) rfl k0.2.1.1 (hts _ q_f_X7_10) (fun _ h9 => h9) dX7_account_197 ?_
    refine xr_getI (pc := 200) (ci := 4) hx hb hts inX0 hown hK hR rfl k0.2.1.2.1 6 (Nat.le_of_ble_eq_true rfl) rfl (hts _ q_f_X7_263) (fun _ h9 => h9) dX7_account_200 ?_
    exact xe_x (pc := 203) hx hb hr rfl hlocks h hR hK hS (Nat.le_of_ble_eq_true rfl) (Nat.le_of_ble_eq_true rfl) dX7_account_203
  have h := xneg c25 h
  by_cases c26 : p1 = (14 : Int32)
  · have h := xpos c26 h
    refine lv_tableIn (pc := 8) (tgt := 204) hx hb dX7_account_8 (by rw [c26]; decide) (by rw [c26]; decide) (by rw [c26]; rfl) (by decide) ?_
    refine lv_aload_n (pc := 204) hx hb dX7_account_204 rfl (lv_at hl 0 rfl) ?_
    refine xr_getR (pc := 205) (ci := 11) hx hb hts inX7 hown hK hR rfl k0.1 7 (Nat.le_of_ble_eq_true rfl) rfl k0.2.2.2.2.2.2.2.1.1 (hts _ q_f_X7_50) (fun _ h9 => h9) dX7_account_205 ?_
    refine xr_getI (pc := 208) (ci := 7) hx hb hts inX3 hown hK hR rfl k0.2.2.2.2.2.2.2.1.2.1 2 (Nat.le_of_ble_eq_true rfl) rfl (hts _ q_f_X7_191) (fun _ h9 => h9) dX7_account_208 ?_
    exact xe_x (pc := 211) hx hb hr rfl hlocks h hR hK hS (Nat.le_of_ble_eq_true rfl) (Nat.le_of_ble_eq_true rfl) dX7_account_211
  have h := xneg c26 h
  refine lv_tableOut (pc := 8) (tgt := 212) hx hb dX7_account_8 (by have z2 := xnek ti_0 c2; have z3 := xnek ti_1 c3; have z4 := xnek ti_2 c4; have z6 := xnek ti_3 c6; have z8 := xnek ti_4 c8; have z10 := xnek ti_5 c10; have z12 := xnek ti_6 c12; have z14 := xnek ti_7 c14; have z16 := xnek ti_8 c16; have z18 := xnek ti_9 c18; have z20 := xnek ti_10 c20; have z22 := xnek ti_11 c22; have z24 := xnek ti_12 c24; have z25 := xnek ti_13 c25; have z26 := xnek ti_14 c26; omega) (by decide) ?_
  refine lv_aload_n (pc := 212) hx hb dX7_account_212 rfl (lv_at hl 0 rfl) ?_
  refine xr_getR (pc := 213) (ci := 11) hx hb hts inX7 hown hK hR rfl k0.1 4 (Nat.le_of_ble_eq_true rfl) rfl k0.2.2.2.2.1.1 (hts _ q_f_X7_29) (fun _ h9 => h9) dX7_account_213 ?_
  refine xr_getI (pc := 216) (ci := 6) hx hb hts inX2 hown hK hR rfl k0.2.2.2.2.1.2.1 2 (Nat.le_of_ble_eq_true rfl) rfl (hts _ q_f_X7_266) (fun _ h9 => h9) dX7_account_216 ?_
  exact xe_x (pc := 219) hx hb hr rfl hlocks h hR hK hS (Nat.le_of_ble_eq_true rfl) (Nat.le_of_ble_eq_true rfl) dX7_account_219
set_option maxHeartbeats 1000000 in
set_option maxRecDepth 20000 in
theorem mX7_undo {l : Launch} (hls : l.stackTraces = false) {D : va_G} {ca : Nat → ClassId} {z : Nat} {G : xG} {X : va_W} {ad av : Nat → Nat} (hF : xFix z G X) (h0 : Nat) (k0 : xI_Coat G h0) {μ μ1 : xM} {o : xO} (h : fX7_undo h0 μ = some (o, μ1)) : xMx l yX7_undo (xws yX7_undo cX7_undo 1 (some .int)) 7 1 6 D ca z G X ad av [.ref h0] μ o μ1 := by
  refine xm_x (by decide) rfl (Nat.le_of_ble_eq_true rfl) [(0, .ref h0)] rfl ?_
  intro p e s m args below meth c ls hx hb hr hml hlocks hex hts hown hK hE hR hS hl
  have hts : ∀ w ∈ xAll, w.before args s = true := fun w hw => hts w (List.mem_cons_of_mem _ hw)
  rw [fX7_undo] at h
  refine lv_aload_n (pc := 0) hx hb dX7_undo_0 rfl (lv_at hl 0 rfl) ?_
  refine xr_getR (pc := 1) (ci := 11) hx hb hts inX7 hown hK hR rfl k0.1 4 (Nat.le_of_ble_eq_true rfl) rfl k0.2.2.2.2.1.1 (hts _ q_f_X7_29) (fun _ h9 => h9) dX7_undo_1 ?_
  refine xr_getI (pc := 4) (ci := 6) hx hb hts inX2 hown hK hR rfl k0.2.2.2.2.1.2.1 2 (Nat.le_of_ble_eq_true rfl) rfl (hts _ q_f_X7_266) (fun _ h9 => h9) dX7_undo_4 ?_
  refine lv_if_le (pc := 7) (tgt := 14) hx hb dX7_undo_7 (by decide) (fun c1 => ?_) (fun c1 => ?_)
  · have h := xpos c1 h
    refine lv_iconst (pc := 14) hx hb dX7_undo_14 kc_0 ?_
    rcases xcb_inv h with ⟨r2, m2, c2, h⟩ | ⟨e2, r2, m2, c2, h⟩
    rotate_left
    · exact xz_vS (pc := 15) (As := [.int _]) (rest := []) ⟨hx, hb, hml, hown, hts⟩ (mX7_demandState hls hF _  c2) (xcwS 1 hts fdX7_demandState q_m_X7_108 ⟨Nat.le_of_ble_eq_true rfl, Nat.le_of_ble_eq_true rfl⟩) hR hK hE hS rfl hl.1 rfl (Nat.le_of_ble_eq_true rfl) dX7_undo_15 ⟨Nat.le_of_ble_eq_true rfl, Nat.le_of_ble_eq_true rfl⟩ (fun ce q9 H locs hR hS h1 h2 h3 => xo_ut hlocks hex (congrArg some h.symm) hK hR hS h1 h2 h3 (Nat.le_of_ble_eq_true rfl) (Nat.le_of_ble_eq_true rfl))
    refine xy_vS (pc := 15) (As := [.int _]) (rest := []) ⟨hx, hb, hml, hown, hts⟩ (mX7_demandState hls hF _  c2) (xcwS 1 hts fdX7_demandState q_m_X7_108 ⟨Nat.le_of_ble_eq_true rfl, Nat.le_of_ble_eq_true rfl⟩) hR hK hE hS rfl hl.1 rfl (Nat.le_of_ble_eq_true rfl) dX7_undo_15 ⟨Nat.le_of_ble_eq_true rfl, Nat.le_of_ble_eq_true rfl⟩ (fun H locs hR hS => ?_)
    refine lv_aload_n (pc := 18) hx hb dX7_undo_18 rfl (lv_at hl 0 rfl) ?_
    refine xr_getR (pc := 19) (ci := 11) hx hb hts inX7 hown hK hR rfl k0.1 4 (Nat.le_of_ble_eq_true rfl) rfl k0.2.2.2.2.1.1 (hts _ q_f_X7_29) (fun _ h9 => h9) dX7_undo_19 ?_
    refine lv_aload_n (pc := 22) hx hb dX7_undo_22 rfl (lv_at hl 0 rfl) ?_
    refine xr_getR (pc := 23) (ci := 11) hx hb hts inX7 hown hK hR rfl k0.1 0 (Nat.le_of_ble_eq_true rfl) rfl k0.2.1.1 (hts _ q_f_X7_10) (fun _ h9 => h9) dX7_undo_23 ?_
    obtain ⟨m3, c3, h⟩ := xbv_inv h
    refine xc_vV (pc := 26) (As := [.ref _]) (rest := []) ⟨hx, hb, hml, hown, hts⟩ (mX2_takeBack hF _ _ k0.2.2.2.2.1.2 k0.2.1.2 c3) (xcwV 1 hts fdX2_takeBack q_m_X7_279 ⟨Nat.le_of_ble_eq_true rfl, Nat.le_of_ble_eq_true rfl⟩) (xRecv hK hR (ci := 6) rfl k0.2.2.2.2.1.2.1) hR hK hE hS rfl hl.1 rfl (Nat.le_of_ble_eq_true rfl) dX7_undo_26 ⟨Nat.le_of_ble_eq_true rfl, Nat.le_of_ble_eq_true rfl⟩ (fun H locs hR hS => ?_)
    refine lv_aload_n (pc := 29) hx hb dX7_undo_29 rfl (lv_at hl 0 rfl) ?_
    refine xr_getR (pc := 30) (ci := 11) hx hb hts inX7 hown hK hR rfl k0.1 4 (Nat.le_of_ble_eq_true rfl) rfl k0.2.2.2.2.1.1 (hts _ q_f_X7_29) (fun _ h9 => h9) dX7_undo_30 ?_
    refine xr_getI (pc := 33) (ci := 6) hx hb hts inX2 hown hK hR rfl k0.2.2.2.2.1.2.1 2 (Nat.le_of_ble_eq_true rfl) rfl (hts _ q_f_X7_266) (fun _ h9 => h9) dX7_undo_33 ?_
    exact xe_x (pc := 36) hx hb hr rfl hlocks h hR hK hS (Nat.le_of_ble_eq_true rfl) (Nat.le_of_ble_eq_true rfl) dX7_undo_36
  · have h := xneg c1 h
    refine lv_iconst (pc := 10) hx hb dX7_undo_10 kc_1 ?_
    refine lv_goto (pc := 11) (tgt := 15) hx hb dX7_undo_11 (by decide) ?_
    rcases xcb_inv h with ⟨r4, m4, c4, h⟩ | ⟨e4, r4, m4, c4, h⟩
    rotate_left
    · exact xz_vS (pc := 15) (As := [.int _]) (rest := []) ⟨hx, hb, hml, hown, hts⟩ (mX7_demandState hls hF _  c4) (xcwS 1 hts fdX7_demandState q_m_X7_108 ⟨Nat.le_of_ble_eq_true rfl, Nat.le_of_ble_eq_true rfl⟩) hR hK hE hS rfl hl.1 rfl (Nat.le_of_ble_eq_true rfl) dX7_undo_15 ⟨Nat.le_of_ble_eq_true rfl, Nat.le_of_ble_eq_true rfl⟩ (fun ce q9 H locs hR hS h1 h2 h3 => xo_ut hlocks hex (congrArg some h.symm) hK hR hS h1 h2 h3 (Nat.le_of_ble_eq_true rfl) (Nat.le_of_ble_eq_true rfl))
    refine xy_vS (pc := 15) (As := [.int _]) (rest := []) ⟨hx, hb, hml, hown, hts⟩ (mX7_demandState hls hF _  c4) (xcwS 1 hts fdX7_demandState q_m_X7_108 ⟨Nat.le_of_ble_eq_true rfl, Nat.le_of_ble_eq_true rfl⟩) hR hK hE hS rfl hl.1 rfl (Nat.le_of_ble_eq_true rfl) dX7_undo_15 ⟨Nat.le_of_ble_eq_true rfl, Nat.le_of_ble_eq_true rfl⟩ (fun H locs hR hS => ?_)
    refine lv_aload_n (pc := 18) hx hb dX7_undo_18 rfl (lv_at hl 0 rfl) ?_
    refine xr_getR (pc := 19) (ci := 11) hx hb hts inX7 hown hK hR rfl k0.1 4 (Nat.le_of_ble_eq_true rfl) rfl k0.2.2.2.2.1.1 (hts _ q_f_X7_29) (fun _ h9 => h9) dX7_undo_19 ?_
    refine lv_aload_n (pc := 22) hx hb dX7_undo_22 rfl (lv_at hl 0 rfl) ?_
    refine xr_getR (pc := 23) (ci := 11) hx hb hts inX7 hown hK hR rfl k0.1 0 (Nat.le_of_ble_eq_true rfl) rfl k0.2.1.1 (hts _ q_f_X7_10) (fun _ h9 => h9) dX7_undo_23 ?_
    obtain ⟨m5, c5, h⟩ := xbv_inv h
    refine xc_vV (pc := 26) (As := [.ref _]) (rest := []) ⟨hx, hb, hml, hown, hts⟩ (mX2_takeBack hF _ _ k0.2.2.2.2.1.2 k0.2.1.2 c5) (xcwV 1 hts fdX2_takeBack q_m_X7_279 ⟨Nat.le_of_ble_eq_true rfl, Nat.le_of_ble_eq_true rfl⟩) (xRecv hK hR (ci := 6) rfl k0.2.2.2.2.1.2.1) hR hK hE hS rfl hl.1 rfl (Nat.le_of_ble_eq_true rfl) dX7_undo_26 ⟨Nat.le_of_ble_eq_true rfl, Nat.le_of_ble_eq_true rfl⟩ (fun H locs hR hS => ?_)
    refine lv_aload_n (pc := 29) hx hb dX7_undo_29 rfl (lv_at hl 0 rfl) ?_
    refine xr_getR (pc := 30) (ci := 11) hx hb hts inX7 hown hK hR rfl k0.1 4 (Nat.le_of_ble_eq_true rfl) rfl k0.2.2.2.2.1.1 (hts _ q_f_X7_29) (fun _ h9 => h9) dX7_undo_30 ?_
    refine xr_getI (pc := 33) (ci := 6) hx hb hts inX2 hown hK hR rfl k0.2.2.2.2.1.2.1 2 (Nat.le_of_ble_eq_true rfl) rfl (hts _ q_f_X7_266) (fun _ h9 => h9) dX7_undo_33 ?_
    exact xe_x (pc := 36) hx hb hr rfl hlocks h hR hK hS (Nat.le_of_ble_eq_true rfl) (Nat.le_of_ble_eq_true rfl) dX7_undo_36
set_option maxHeartbeats 1000000 in
set_option maxRecDepth 20000 in
theorem mX7_save {l : Launch} {D : va_G} {ca : Nat → ClassId} {z : Nat} {G : xG} {X : va_W} {ad av : Nat → Nat} (hF : xFix z G X) (h0 : Nat) (k0 : xI_Coat G h0) {μ μ1 : xM} {r : Int32} (h : fX7_save h0 μ = some (r, μ1)) : xMi l yX7_save (xws yX7_save cX7_save 1 (some .int)) 2 D ca z G X ad av [.ref h0] μ r μ1 := by
  refine xm_i (by decide) rfl (Nat.le_of_ble_eq_true rfl) [(0, .ref h0)] rfl ?_
  intro p e s m args below meth c ls hx hb hr hml hlocks hts hown hK hE hR hS hl
  have hts : ∀ w ∈ xAll, w.before args s = true := fun w hw => hts w (List.mem_cons_of_mem _ hw)
  rw [fX7_save] at h
  refine lv_aload_n (pc := 0) hx hb dX7_save_0 rfl (lv_at hl 0 rfl) ?_
  refine xr_getR (pc := 1) (ci := 11) hx hb hts inX7 hown hK hR rfl k0.1 1 (Nat.le_of_ble_eq_true rfl) rfl k0.2.2.1.1 (hts _ q_f_X7_16) (fun _ h9 => h9) dX7_save_1 ?_
  refine lv_aload_n (pc := 4) hx hb dX7_save_4 rfl (lv_at hl 0 rfl) ?_
  refine xr_getR (pc := 5) (ci := 11) hx hb hts inX7 hown hK hR rfl k0.1 0 (Nat.le_of_ble_eq_true rfl) rfl k0.2.1.1 (hts _ q_f_X7_10) (fun _ h9 => h9) dX7_save_5 ?_
  obtain ⟨m1, c1, h⟩ := xbv_inv h
  refine xc_vV (pc := 8) (As := [.ref _]) (rest := []) ⟨hx, hb, hml, hown, hts⟩ (mX0_copyFrom hF _ _ k0.2.2.1.2 k0.2.1.2 c1) (xcwV 1 hts fdX0_copyFrom q_m_X7_216 ⟨Nat.le_of_ble_eq_true rfl, Nat.le_of_ble_eq_true rfl⟩) (xRecv hK hR (ci := 4) rfl k0.2.2.1.2.1) hR hK hE hS rfl hl.1 rfl (Nat.le_of_ble_eq_true rfl) dX7_save_8 ⟨Nat.zero_le _, Nat.zero_le _⟩ (fun H locs hR hS => ?_)
  refine lv_aload_n (pc := 11) hx hb dX7_save_11 rfl (lv_at hl 0 rfl) ?_
  refine lv_iconst (pc := 12) hx hb dX7_save_12 kc_1 ?_
  refine xr_putI (pc := 13) (ci := 11) (ty := .boolean) hx hb hts inX7 tyX7 tyX7_ok nmX7 hown hK hR hF hS rfl k0.1 3 (Nat.le_of_ble_eq_true rfl) rfl (hts _ q_f_X7_22) (fun _ h9 => h9) rfl rfl rfl rfl dX7_save_13 (fun H locs hR hS => ?_)
  refine lv_aload_n (pc := 16) hx hb dX7_save_16 rfl (lv_at hl 0 rfl) ?_
  refine xr_getR (pc := 17) (ci := 11) hx hb hts inX7 hown hK hR rfl k0.1 0 (Nat.le_of_ble_eq_true rfl) rfl k0.2.1.1 (hts _ q_f_X7_10) (fun _ h9 => h9) dX7_save_17 ?_
  refine xr_getI (pc := 20) (ci := 4) hx hb hts inX0 hown hK hR rfl k0.2.1.2.1 4 (Nat.le_of_ble_eq_true rfl) rfl (hts _ q_f_X7_101) (fun _ h9 => h9) dX7_save_20 ?_
  exact xf_i (pc := 23) hx hb hr rfl hlocks h hR hK hS dX7_save_23
set_option maxHeartbeats 1000000 in
set_option maxRecDepth 20000 in
theorem mX7_restore {l : Launch} (hls : l.stackTraces = false) {D : va_G} {ca : Nat → ClassId} {z : Nat} {G : xG} {X : va_W} {ad av : Nat → Nat} (hF : xFix z G X) (h0 : Nat) (k0 : xI_Coat G h0) {μ μ1 : xM} {o : xO} (h : fX7_restore h0 μ = some (o, μ1)) : xMx l yX7_restore (xws yX7_restore cX7_restore 1 (some .int)) 7 1 6 D ca z G X ad av [.ref h0] μ o μ1 := by
  refine xm_x (by decide) rfl (Nat.le_of_ble_eq_true rfl) [(0, .ref h0)] rfl ?_
  intro p e s m args below meth c ls hx hb hr hml hlocks hex hts hown hK hE hR hS hl
  have hts : ∀ w ∈ xAll, w.before args s = true := fun w hw => hts w (List.mem_cons_of_mem _ hw)
  rw [fX7_restore] at h
  refine lv_aload_n (pc := 0) hx hb dX7_restore_0 rfl (lv_at hl 0 rfl) ?_
  refine xr_getI (pc := 1) (ci := 11) hx hb hts inX7 hown hK hR rfl k0.1 3 (Nat.le_of_ble_eq_true rfl) rfl (hts _ q_f_X7_22) (fun _ h9 => h9) dX7_restore_1 ?_
  rcases xcb_inv h with ⟨r1, m1, c1, h⟩ | ⟨e1, r1, m1, c1, h⟩
  rotate_left
  · exact xz_vS (pc := 4) (As := [.int _]) (rest := []) ⟨hx, hb, hml, hown, hts⟩ (mX7_demandState hls hF _  c1) (xcwS 1 hts fdX7_demandState q_m_X7_108 ⟨Nat.le_of_ble_eq_true rfl, Nat.le_of_ble_eq_true rfl⟩) hR hK hE hS rfl hl.1 rfl (Nat.le_of_ble_eq_true rfl) dX7_restore_4 ⟨Nat.le_of_ble_eq_true rfl, Nat.le_of_ble_eq_true rfl⟩ (fun ce q9 H locs hR hS h1 h2 h3 => xo_ut hlocks hex (congrArg some h.symm) hK hR hS h1 h2 h3 (Nat.le_of_ble_eq_true rfl) (Nat.le_of_ble_eq_true rfl))
  refine xy_vS (pc := 4) (As := [.int _]) (rest := []) ⟨hx, hb, hml, hown, hts⟩ (mX7_demandState hls hF _  c1) (xcwS 1 hts fdX7_demandState q_m_X7_108 ⟨Nat.le_of_ble_eq_true rfl, Nat.le_of_ble_eq_true rfl⟩) hR hK hE hS rfl hl.1 rfl (Nat.le_of_ble_eq_true rfl) dX7_restore_4 ⟨Nat.le_of_ble_eq_true rfl, Nat.le_of_ble_eq_true rfl⟩ (fun H locs hR hS => ?_)
  refine lv_aload_n (pc := 7) hx hb dX7_restore_7 rfl (lv_at hl 0 rfl) ?_
  refine xr_getR (pc := 8) (ci := 11) hx hb hts inX7 hown hK hR rfl k0.1 0 (Nat.le_of_ble_eq_true rfl) rfl k0.2.1.1 (hts _ q_f_X7_10) (fun _ h9 => h9) dX7_restore_8 ?_
  refine lv_aload_n (pc := 11) hx hb dX7_restore_11 rfl (lv_at hl 0 rfl) ?_
  refine xr_getR (pc := 12) (ci := 11) hx hb hts inX7 hown hK hR rfl k0.1 1 (Nat.le_of_ble_eq_true rfl) rfl k0.2.2.1.1 (hts _ q_f_X7_16) (fun _ h9 => h9) dX7_restore_12 ?_
  obtain ⟨m2, c2, h⟩ := xbv_inv h
  refine xc_vV (pc := 15) (As := [.ref _]) (rest := []) ⟨hx, hb, hml, hown, hts⟩ (mX0_copyFrom hF _ _ k0.2.1.2 k0.2.2.1.2 c2) (xcwV 1 hts fdX0_copyFrom q_m_X7_216 ⟨Nat.le_of_ble_eq_true rfl, Nat.le_of_ble_eq_true rfl⟩) (xRecv hK hR (ci := 4) rfl k0.2.1.2.1) hR hK hE hS rfl hl.1 rfl (Nat.le_of_ble_eq_true rfl) dX7_restore_15 ⟨Nat.le_of_ble_eq_true rfl, Nat.le_of_ble_eq_true rfl⟩ (fun H locs hR hS => ?_)
  refine lv_aload_n (pc := 18) hx hb dX7_restore_18 rfl (lv_at hl 0 rfl) ?_
  refine xr_getR (pc := 19) (ci := 11) hx hb hts inX7 hown hK hR rfl k0.1 4 (Nat.le_of_ble_eq_true rfl) rfl k0.2.2.2.2.1.1 (hts _ q_f_X7_29) (fun _ h9 => h9) dX7_restore_19 ?_
  obtain ⟨m3, c3, h⟩ := xbv_inv h
  refine xc_vV (pc := 22) (As := []) (rest := []) ⟨hx, hb, hml, hown, hts⟩ (mX2_forget hF _ k0.2.2.2.2.1.2 c3) (xcwV 0 hts fdX2_forget q_m_X7_282 ⟨Nat.le_of_ble_eq_true rfl, Nat.le_of_ble_eq_true rfl⟩) (xRecv hK hR (ci := 6) rfl k0.2.2.2.2.1.2.1) hR hK hE hS rfl hl.1 rfl (Nat.le_of_ble_eq_true rfl) dX7_restore_22 ⟨Nat.le_of_ble_eq_true rfl, Nat.le_of_ble_eq_true rfl⟩ (fun H locs hR hS => ?_)
  refine lv_aload_n (pc := 25) hx hb dX7_restore_25 rfl (lv_at hl 0 rfl) ?_
  refine xr_getR (pc := 26) (ci := 11) hx hb hts inX7 hown hK hR rfl k0.1 0 (Nat.le_of_ble_eq_true rfl) rfl k0.2.1.1 (hts _ q_f_X7_10) (fun _ h9 => h9) dX7_restore_26 ?_
  refine xr_getI (pc := 29) (ci := 4) hx hb hts inX0 hown hK hR rfl k0.2.1.2.1 4 (Nat.le_of_ble_eq_true rfl) rfl (hts _ q_f_X7_101) (fun _ h9 => h9) dX7_restore_29 ?_
  exact xe_x (pc := 32) hx hb hr rfl hlocks h hR hK hS (Nat.le_of_ble_eq_true rfl) (Nat.le_of_ble_eq_true rfl) dX7_restore_32
