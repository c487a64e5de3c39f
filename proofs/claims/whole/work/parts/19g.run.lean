set_option maxHeartbeats 1000000 in
set_option maxRecDepth 20000 in
theorem mX7_run {l : Launch} (hls : l.stackTraces = false) {D : va_G} {ca : Nat → ClassId} {z : Nat} {G : xG} {X : va_W} {ad av : Nat → Nat} (hF : xFix z G X) (h0 : Nat) (k0 : xI_Coat G h0) {μ μ1 : xM} {o : xO} (h : fX7_run h0 μ = some (o, μ1)) : xMx l yX7_run (xws yX7_run cX7_run 2 (some .int)) 6 1 6 D ca z G X ad av [.ref h0] μ o μ1 := by
  refine xm_x (by decide) rfl (Nat.le_of_ble_eq_true rfl) [(0, .ref h0)] rfl ?_
  intro p e s m args below meth c ls hx hb hr hml hlocks hex hts hown hK hE hR hS hl
  have hts : ∀ w ∈ xAll, w.before args s = true := fun w hw => hts w (List.mem_cons_of_mem _ hw)
  rw [fX7_run] at h
  refine lv_aload_n (pc := 0) hx hb dX7_run_0 rfl (lv_at hl 0 rfl) ?_
  refine lv_aload_n (pc := 1) hx hb dX7_run_1 rfl (lv_at hl 0 rfl) ?_
  refine xr_getR (pc := 2) (ci := 11) hx hb hts inX7 hown hK hR rfl k0.1 7 (Nat.le_of_ble_eq_true rfl) rfl k0.2.2.2.2.2.2.2.1.1 (hts _ q_f_X7_50) (fun _ h9 => h9) dX7_run_2 ?_
  obtain ⟨r1, m1, c1, h⟩ := xb_inv h
  refine xc_iV (pc := 5) (As := []) (rest := [.ref _]) ⟨hx, hb, hml, hown, hts⟩ (mX3_readOrders hF _ k0.2.2.2.2.2.2.2.1.2 c1) (xcwV 0 hts fdX3_readOrders q_m_X7_193 ⟨Nat.le_of_ble_eq_true rfl, Nat.le_of_ble_eq_true rfl⟩) (xRecv hK hR (ci := 7) rfl k0.2.2.2.2.2.2.2.1.2.1) hR hK hE hS rfl hl.1 rfl (Nat.le_of_ble_eq_true rfl) dX7_run_5 ⟨Nat.le_of_ble_eq_true rfl, Nat.le_of_ble_eq_true rfl⟩ (fun H locs hR hS => ?_)
  refine xr_putI (pc := 8) (ci := 11) (ty := .int) hx hb hts inX7 tyX7 tyX7_ok nmX7 hown hK hR hF hS rfl k0.1 10 (Nat.le_of_ble_eq_true rfl) rfl (hts _ q_f_X7_68) (fun _ h9 => h9) rfl rfl rfl rfl dX7_run_8 (fun H locs hR hS => ?_)
  refine lv_aload_n (pc := 11) hx hb dX7_run_11 rfl (lv_at hl 0 rfl) ?_
  refine xr_getR (pc := 12) (ci := 11) hx hb hts inX7 hown hK hR rfl k0.1 7 (Nat.le_of_ble_eq_true rfl) rfl k0.2.2.2.2.2.2.2.1.1 (hts _ q_f_X7_50) (fun _ h9 => h9) dX7_run_12 ?_
  obtain ⟨m2, c2, h⟩ := xbv_inv h
  refine xc_vV (pc := 15) (As := []) (rest := []) ⟨hx, hb, hml, hown, hts⟩ (mX3_empty hF _ k0.2.2.2.2.2.2.2.1.2 c2) (xcwV 0 hts fdX3_empty q_m_X7_196 ⟨Nat.le_of_ble_eq_true rfl, Nat.le_of_ble_eq_true rfl⟩) (xRecv hK hR (ci := 7) rfl k0.2.2.2.2.2.2.2.1.2.1) hR hK hE hS rfl hl.1 rfl (Nat.le_of_ble_eq_true rfl) dX7_run_15 ⟨Nat.le_of_ble_eq_true rfl, Nat.le_of_ble_eq_true rfl⟩ (fun H locs hR hS => ?_)
  refine lv_aload_n (pc := 18) hx hb dX7_run_18 rfl (lv_at hl 0 rfl) ?_
  refine xr_getI (pc := 19) (ci := 11) hx hb hts inX7 hown hK hR rfl k0.1 10 (Nat.le_of_ble_eq_true rfl) rfl (hts _ q_f_X7_68) (fun _ h9 => h9) dX7_run_19 ?_
  refine lv_iconst (pc := 22) hx hb dX7_run_22 kc_m1 ?_
  refine lv_icmp_eq (pc := 23) (tgt := 36) hx hb dX7_run_23 (by decide) (fun c3 => ?_) (fun c3 => ?_)
  · have h := xpos c3 h
    refine lv_aload_n (pc := 36) hx hb dX7_run_36 rfl (lv_at hl 0 rfl) ?_
    obtain ⟨r4, m4, c4, h⟩ := xb_inv h
    refine xc_iV (pc := 37) (As := []) (rest := []) ⟨hx, hb, hml, hown, hts⟩ (mX7_tryOrders hF _ k0 c4) (xcwV 0 hts fdX7_tryOrders q_m_X7_204 ⟨Nat.le_of_ble_eq_true rfl, Nat.le_of_ble_eq_true rfl⟩) (xRecv hK hR (ci := 11) rfl k0.1) hR hK hE hS rfl hl.1 rfl (Nat.le_of_ble_eq_true rfl) dX7_run_37 ⟨Nat.le_of_ble_eq_true rfl, Nat.le_of_ble_eq_true rfl⟩ (fun H locs hR hS => ?_)
    refine lv_istore_n (pc := 40) (lv' := [(1, .int _), (0, .ref _)]) hx hb dX7_run_40 rfl hl (Nat.le_of_ble_eq_true rfl) rfl (fun ls hl => ?_)
    refine lv_iload_n (pc := 41) hx hb dX7_run_41 rfl (lv_at hl 0 rfl) ?_
    refine lv_iconst (pc := 42) hx hb dX7_run_42 kc_m1 ?_
    refine lv_icmp_eq (pc := 43) (tgt := 56) hx hb dX7_run_43 (by decide) (fun c5 => ?_) (fun c5 => ?_)
    · have h := xpos c5 h
      refine lv_aload_n (pc := 56) hx hb dX7_run_56 rfl (lv_at hl 1 rfl) ?_
      refine xr_getR (pc := 57) (ci := 11) hx hb hts inX7 hown hK hR rfl k0.1 4 (Nat.le_of_ble_eq_true rfl) rfl k0.2.2.2.2.1.1 (hts _ q_f_X7_29) (fun _ h9 => h9) dX7_run_57 ?_
      refine lv_aload_n (pc := 60) hx hb dX7_run_60 rfl (lv_at hl 1 rfl) ?_
      refine xr_getR (pc := 61) (ci := 11) hx hb hts inX7 hown hK hR rfl k0.1 0 (Nat.le_of_ble_eq_true rfl) rfl k0.2.1.1 (hts _ q_f_X7_10) (fun _ h9 => h9) dX7_run_61 ?_
      obtain ⟨m6, c6, h⟩ := xbv_inv h
      refine xc_vV (pc := 64) (As := [.ref _]) (rest := []) ⟨hx, hb, hml, hown, hts⟩ (mX2_keep hF _ _ k0.2.2.2.2.1.2 k0.2.1.2 c6) (xcwV 1 hts fdX2_keep q_m_X7_212 ⟨Nat.le_of_ble_eq_true rfl, Nat.le_of_ble_eq_true rfl⟩) (xRecv hK hR (ci := 6) rfl k0.2.2.2.2.1.2.1) hR hK hE hS rfl hl.1 rfl (Nat.le_of_ble_eq_true rfl) dX7_run_64 ⟨Nat.le_of_ble_eq_true rfl, Nat.le_of_ble_eq_true rfl⟩ (fun H locs hR hS => ?_)
      refine lv_aload_n (pc := 67) hx hb dX7_run_67 rfl (lv_at hl 1 rfl) ?_
      refine xr_getR (pc := 68) (ci := 11) hx hb hts inX7 hown hK hR rfl k0.1 0 (Nat.le_of_ble_eq_true rfl) rfl k0.2.1.1 (hts _ q_f_X7_10) (fun _ h9 => h9) dX7_run_68 ?_
      refine lv_aload_n (pc := 71) hx hb dX7_run_71 rfl (lv_at hl 1 rfl) ?_
      refine xr_getR (pc := 72) (ci := 11) hx hb hts inX7 hown hK hR rfl k0.1 2 (Nat.le_of_ble_eq_true rfl) rfl k0.2.2.2.1.1 (hts _ q_f_X7_19) (fun _ h9 => h9) dX7_run_72 ?_
      obtain ⟨m7, c7, h⟩ := xbv_inv h
      refine xc_vV (pc := 75) (As := [.ref _]) (rest := []) ⟨hx, hb, hml, hown, hts⟩ (mX0_copyFrom hF _ _ k0.2.1.2 k0.2.2.2.1.2 c7) (xcwV 1 hts fdX0_copyFrom q_m_X7_216 ⟨Nat.le_of_ble_eq_true rfl, Nat.le_of_ble_eq_true rfl⟩) (xRecv hK hR (ci := 4) rfl k0.2.1.2.1) hR hK hE hS rfl hl.1 rfl (Nat.le_of_ble_eq_true rfl) dX7_run_75 ⟨Nat.le_of_ble_eq_true rfl, Nat.le_of_ble_eq_true rfl⟩ (fun H locs hR hS => ?_)
      refine lv_aload_n (pc := 78) hx hb dX7_run_78 rfl (lv_at hl 1 rfl) ?_
      refine xr_getR (pc := 79) (ci := 11) hx hb hts inX7 hown hK hR rfl k0.1 7 (Nat.le_of_ble_eq_true rfl) rfl k0.2.2.2.2.2.2.2.1.1 (hts _ q_f_X7_50) (fun _ h9 => h9) dX7_run_79 ?_
      refine xr_getI (pc := 82) (ci := 7) hx hb hts inX3 hown hK hR rfl k0.2.2.2.2.2.2.2.1.2.1 3 (Nat.le_of_ble_eq_true rfl) rfl (hts _ q_f_X7_219) (fun _ h9 => h9) dX7_run_82 ?_
      exact xe_x (pc := 85) hx hb hr rfl hlocks h hR hK hS (Nat.le_of_ble_eq_true rfl) (Nat.le_of_ble_eq_true rfl) dX7_run_85
    · have h := xneg c5 h
      exact xt_S (pc := 46) (k := 2) (i := 3) hx hb hls hlocks hts hown hK hE hF th_3 (by decide) (by decide +kernel) rfl h hR hS (hl.1.trans hml.symm) hex dX7_run_46 dX7_run_49 dX7_run_50 dX7_run_52 dX7_run_55 (Nat.le_of_ble_eq_true rfl) (Nat.le_of_ble_eq_true rfl) (Nat.le_of_ble_eq_true rfl) (Nat.le_of_ble_eq_true rfl) (Nat.le_of_ble_eq_true rfl) (Nat.le_of_ble_eq_true rfl)
  · have h := xneg c3 h
    exact xt_S (pc := 26) (k := 1) (i := 2) hx hb hls hlocks hts hown hK hE hF th_2 (by decide) (by decide +kernel) rfl h hR hS (hl.1.trans hml.symm) hex dX7_run_26 dX7_run_29 dX7_run_30 dX7_run_32 dX7_run_35 (Nat.le_of_ble_eq_true rfl) (Nat.le_of_ble_eq_true rfl) (Nat.le_of_ble_eq_true rfl) (Nat.le_of_ble_eq_true rfl) (Nat.le_of_ble_eq_true rfl) (Nat.le_of_ble_eq_true rfl)
set_option maxHeartbeats 1000000 in
set_option maxRecDepth 20000 in
theorem mL_run {l : Launch} (hls : l.stackTraces = false) {D : va_G} {ca : Nat → ClassId} {z : Nat} {G : xG} {X : va_W} {ad av : Nat → Nat} (hF : xFix z G X) (h0 : Nat) (h1 : Nat) (k0 : xI_Coat G h0) (k1 : xI_Longs 1 G h1) {μ μ1 : xM} {r : Int32} (h : fL_run h0 h1 μ = some (r, μ1)) : xMw l yL_run (xwh yL_run cL_run 3 (some .int) [(0, 8, 11, 15), (0, 8, 14, 17)]) 7 1 6 D ca z G X ad av [.ref h0, .ref h1] μ r μ1 := by
  refine xm_w (by decide) rfl (Nat.le_of_ble_eq_true rfl) [(0, .ref h0), (1, .ref h1)] rfl ?_
  intro p e s m args below meth c ls hx hb hr hml hlocks hT hts hown hK hE hR hS hl
  have hts : ∀ w ∈ xAll, w.before args s = true := fun w hw => hts w (List.mem_cons_of_mem _ hw)
  rw [fL_run] at h
  refine lv_aload_n (pc := 0) hx hb dL_run_0 rfl (lv_at hl 1 rfl) ?_
  refine lv_iconst (pc := 1) hx hb dL_run_1 kc_0 ?_
  refine lv_aload_n (pc := 2) hx hb dL_run_2 rfl (lv_at hl 0 rfl) ?_
  rcases xch_inv h with ⟨r1, m1, c1, h⟩ | ⟨e1, r1, m1, c1, h⟩
  rotate_left
  · by_cases z2 : e1 + 1 = 2
    · have h := xpos z2 h
      obtain rfl : e1 = 1 := by omega
      refine xz_iV (pc := 3) (As := []) (rest := [.int _, .ref _]) ⟨hx, hb, hml, hown, hts⟩ (mX7_run hls hF _ k0 c1) (xcwV 0 hts fdX7_run q_m_L_87 ⟨Nat.le_of_ble_eq_true rfl, Nat.le_of_ble_eq_true rfl⟩) (xRecv hK hR (ci := 11) rfl k0.1) hR hK hE hS rfl hl.1 rfl (Nat.le_of_ble_eq_true rfl) dL_run_3 ⟨Nat.le_of_ble_eq_true rfl, Nat.le_of_ble_eq_true rfl⟩ (fun ce q9 H locs hR hS h1 h2 h3 => ?_)
      refine xCatch hT hown hE [] ⟨0, 8, 11, 15⟩ [⟨0, 8, 14, 17⟩] rfl 1 (by decide) (fun w hw => absurd hw List.not_mem_nil) (by decide) (by decide) (hts _ q_Lc_15) (List.mem_of_getElem? (i := 7) rfl) h1 h2 h3 ?_
      refine lv_astore_n (pc := 11) (lv' := [(2, .ref _), (0, .ref _), (1, .ref _)]) hx hb dL_run_11 rfl hl (Nat.le_of_ble_eq_true rfl) rfl (fun ls hl => ?_)
      refine lv_iconst (pc := 12) hx hb dL_run_12 kc_1 ?_
      exact xf_w (pc := 13) hx hb hr rfl hlocks h hR hK hS (Nat.le_of_ble_eq_true rfl) (Nat.le_of_ble_eq_true rfl) dL_run_13
    have h := xneg z2 h
    by_cases z3 : e1 + 1 = 3
    · have h := xpos z3 h
      obtain rfl : e1 = 2 := by omega
      refine xz_iV (pc := 3) (As := []) (rest := [.int _, .ref _]) ⟨hx, hb, hml, hown, hts⟩ (mX7_run hls hF _ k0 c1) (xcwV 0 hts fdX7_run q_m_L_87 ⟨Nat.le_of_ble_eq_true rfl, Nat.le_of_ble_eq_true rfl⟩) (xRecv hK hR (ci := 11) rfl k0.1) hR hK hE hS rfl hl.1 rfl (Nat.le_of_ble_eq_true rfl) dL_run_3 ⟨Nat.le_of_ble_eq_true rfl, Nat.le_of_ble_eq_true rfl⟩ (fun ce q9 H locs hR hS h1 h2 h3 => ?_)
      refine xCatch hT hown hE [⟨0, 8, 11, 15⟩] ⟨0, 8, 14, 17⟩ [] rfl 2 (by decide) (List.forall_mem_cons.mpr ⟨⟨by decide, 1, by decide, by decide, hts _ q_Lc_15⟩, (fun w hw => absurd hw List.not_mem_nil)⟩) (by decide) (by decide) (hts _ q_Lc_17) (List.mem_of_getElem? (i := 8) rfl) h1 h2 h3 ?_
      refine lv_astore_n (pc := 14) (lv' := [(2, .ref _), (0, .ref _), (1, .ref _)]) hx hb dL_run_14 rfl hl (Nat.le_of_ble_eq_true rfl) rfl (fun ls hl => ?_)
      refine lv_iconst (pc := 15) hx hb dL_run_15 kc_2 ?_
      exact xf_w (pc := 16) hx hb hr rfl hlocks h hR hK hS (Nat.le_of_ble_eq_true rfl) (Nat.le_of_ble_eq_true rfl) dL_run_16
    have h := xneg z3 h
    cases h
  refine xy_iV (pc := 3) (As := []) (rest := [.int _, .ref _]) ⟨hx, hb, hml, hown, hts⟩ (mX7_run hls hF _ k0 c1) (xcwV 0 hts fdX7_run q_m_L_87 ⟨Nat.le_of_ble_eq_true rfl, Nat.le_of_ble_eq_true rfl⟩) (xRecv hK hR (ci := 11) rfl k0.1) hR hK hE hS rfl hl.1 rfl (Nat.le_of_ble_eq_true rfl) dL_run_3 ⟨Nat.le_of_ble_eq_true rfl, Nat.le_of_ble_eq_true rfl⟩ (fun H locs hR hS => ?_)
  refine lv_i2l (pc := 6) hx hb dL_run_6 rfl ?_
  refine xr_lastk (pc := 7) 0 hx hb hK hR hF hS k1.1 k1.2 tn_0 (vl_0 (by decide)) dL_run_7 (fun H locs hR hS => ?_)
  refine lv_goto (pc := 8) (tgt := 17) hx hb dL_run_8 (by decide) ?_
  refine lv_iconst (pc := 17) hx hb dL_run_17 kc_0 ?_
  exact xf_w (pc := 18) hx hb hr rfl hlocks h hR hK hS (Nat.le_of_ble_eq_true rfl) (Nat.le_of_ble_eq_true rfl) dL_run_18
set_option maxHeartbeats 1000000 in
set_option maxRecDepth 20000 in
theorem wL_23 {p : Program} {l : Launch} (hls : l.stackTraces = false) {e : Env} {s : State} {m : MethodId} {args : Array Value} {below : List Frame} {meth : Method} {c : Code} {D : va_G} {ca : Nat → ClassId} {z : Nat} {G : xG} {X : va_W} {ad av : Nat → Nat} {b L : Nat} {xs : Nat → Int32} {Q : State → Prop} {H0 : Heap} (hF : xFix z G X) (hx : p.tables.exec = Jvm.exec) (hb : c.code = cL_law) (hml : c.maxLocals = 9) (hts : ∀ w ∈ xAll, w.before args s = true) (hown : s.vm.findClass RL = some m.cls) (hK : va_K D vwCl (xT ca) s) (hE : xEv z ad av s s.heap) (hX : va_X b L xs s s.heap) (hbl : b < s.heap.size) (hbA : ¬ z ≤ b) {x md out od : Nat} (kx : xI_Coat G x) (km : xI_Model G md) (ko : xI_Longs 1 G out) {j : Nat} (hj : j + 4 ≤ L) (hL : L ≤ 2048) {cells slots : Nat} (hc : cells + 20 ≤ 603072) (hs : slots + 2000 ≤ 7211114) {μ μ1 : xM} (h : gL_23 x md out (xs (j + 1)) (xs (j + 2)) (xs (j + 3)) μ = some μ1) {H : Heap} {locs : List Loc} {ls : Array Slot} (hR : xRep D ca G X μ H) (hS : va_S (fun q => z ≤ q) s.heap H locs) (hl : lv_has ls 9 [(0, .ref b), (1, .ref x), (2, .ref md), (3, .ref out), (4, .ref od), (5, .int (nI j))])
    (kk : ∀ (H : Heap) (locs : List Loc) (ls : Array Slot), xRep D ca G X μ1 H → va_S (fun q => z ≤ q) s.heap H locs → lv_has ls 9 [(0, .ref b), (1, .ref x), (2, .ref md), (3, .ref out), (4, .ref od), (5, .int (nI j))] → W p l e room_1 s m args below meth c H locs (cells + 20) (slots + 2000) Q (F0 m 1973 ls [])) : W p l e room_1 s m args below meth c H locs cells slots Q (F0 m 1528 ls []) := by
  rw [gL_23] at h
  refine lv_aload_n (pc := 1528) hx hb dL_law_1528 rfl (lv_at hl 1 rfl) ?_
  refine lv_aload_n (pc := 1529) hx hb dL_law_1529 rfl (lv_at hl 3 rfl) ?_
  obtain ⟨r1, m1, c1, h⟩ := xb_inv h
  refine xl_call (pc := 1530) (As := [.ref _, .ref _]) (rest := []) ⟨hx, hb, hml, hown, hts⟩ (mL_run hls hF _ _ kx ko c1) fhL_run q_m_L_200 ⟨Nat.le_of_ble_eq_true rfl, Nat.le_of_ble_eq_true rfl⟩ hR hK hE hS rfl hl.1 rfl (Nat.le_of_ble_eq_true rfl) dL_law_1530 ⟨by omega, by omega⟩ (fun H locs hR hS => ?_)
  refine lv_istore (pc := 1533) (lv' := [(6, .int _), (0, .ref _), (1, .ref _), (2, .ref _), (3, .ref _), (4, .ref _), (5, .int _)]) hx hb dL_law_1533 hl (Nat.le_of_ble_eq_true rfl) rfl (fun ls hl => ?_)
  refine lv_aload_n (pc := 1535) hx hb dL_law_1535 rfl (lv_at hl 3 rfl) ?_
  obtain ⟨r2, m2, c2, h⟩ := xb_inv h
  refine xl_iV (pc := 1536) (As := []) (rest := []) ⟨hx, hb, hml, hown, hts⟩ (mX8_run hF _ km c2) fdX8_run q_m_L_203 ⟨Nat.le_of_ble_eq_true rfl, Nat.le_of_ble_eq_true rfl⟩ (xRecv hK hR (ci := 12) rfl km.1) hR hK hE hS rfl hl.1 rfl (Nat.le_of_ble_eq_true rfl) dL_law_1536 ⟨by omega, by omega⟩ (fun H locs hR hS => ?_)
  refine lv_istore (pc := 1539) (lv' := [(7, .int _), (6, .int _), (0, .ref _), (1, .ref _), (2, .ref _), (3, .ref _), (4, .ref _), (5, .int _)]) hx hb dL_law_1539 hl (Nat.le_of_ble_eq_true rfl) rfl (fun ls hl => ?_)
  refine lv_aload_n (pc := 1541) hx hb dL_law_1541 rfl (lv_at hl 4 rfl) ?_
  obtain ⟨r3, m3, c3, h⟩ := xb_inv h
  refine xl_iV (pc := 1542) (As := []) (rest := []) ⟨hx, hb, hml, hown, hts⟩ (mX8_thrown hF _ km c3) fdX8_thrown q_m_L_124 ⟨Nat.le_of_ble_eq_true rfl, Nat.le_of_ble_eq_true rfl⟩ (xRecv hK hR (ci := 12) rfl km.1) hR hK hE hS rfl hl.1 rfl (Nat.le_of_ble_eq_true rfl) dL_law_1542 ⟨by omega, by omega⟩ (fun H locs hR hS => ?_)
  refine lv_iload (pc := 1545) hx hb dL_law_1545 (lv_at hl 1 rfl) ?_
  refine lv_icmp_eq (pc := 1547) (tgt := 1552) hx hb dL_law_1547 (by decide) (fun c4 => ?_) (fun c4 => ?_)
  · have h := xpos c4 h
    refine lv_iload (pc := 1552) hx hb dL_law_1552 (lv_at hl 1 rfl) ?_
    refine lv_if_ne (pc := 1554) (tgt := 1569) hx hb dL_law_1554 (by decide) (fun c5 => ?_) (fun c5 => ?_)
    · have h := xneg c5 h
      refine lv_goto (pc := 1569) (tgt := 1973) hx hb dL_law_1569 (by decide) ?_
      cases h
      refine W.widen (k := cells + 20) (n := slots + 2000) (by omega) (by omega) ?_
      exact kk H locs ls hR hS (lv_sub hl [2, 3, 4, 5, 6, 7] rfl)
    · have h := xpos c5 h
      refine lv_aload_n (pc := 1557) hx hb dL_law_1557 rfl (lv_at hl 5 rfl) ?_
      refine lv_iconst (pc := 1558) hx hb dL_law_1558 kc_0 ?_
      refine xr_laldk (pc := 1559) 0 hx hb hK hR ko.1 ko.2 tn_0 (vl_0 (by decide)) dL_law_1559 ?_
      refine lv_iload (pc := 1560) hx hb dL_law_1560 (lv_at hl 0 rfl) ?_
      refine lv_i2l (pc := 1562) hx hb dL_law_1562 rfl ?_
      refine W.lcmp (pc := 1563) hx hb dL_law_1563 ?_
      refine lv_if_eq (pc := 1564) (tgt := 1569) hx hb dL_law_1564 (by decide) (fun c6 => ?_) (fun c6 => ?_)
      · have h := xpos c6 h
        refine lv_goto (pc := 1569) (tgt := 1973) hx hb dL_law_1569 (by decide) ?_
        cases h
        refine W.widen (k := cells + 20) (n := slots + 2000) (by omega) (by omega) ?_
        exact kk H locs ls hR hS (lv_sub hl [2, 3, 4, 5, 6, 7] rfl)
      · have h := xneg c6 h
        refine lv_iconst (pc := 1567) hx hb dL_law_1567 kc_0 ?_
        cases h
  · have h := xneg c4 h
    refine lv_iconst (pc := 1550) hx hb dL_law_1550 kc_0 ?_
    cases h
