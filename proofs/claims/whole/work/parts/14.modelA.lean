set_option maxHeartbeats 1000000 in
set_option maxRecDepth 20000 in
theorem mX8_thrown {l : Launch} {D : va_G} {ca : Nat → ClassId} {z : Nat} {G : xG} {X : va_W} {ad av : Nat → Nat} (hF : xFix z G X) (h0 : Nat) (k0 : xI_Model G h0) {μ μ1 : xM} {r : Int32} (h : fX8_thrown h0 μ = some (r, μ1)) : xMi l yX8_thrown (xws yX8_thrown cX8_thrown 1 (some .int)) 0 D ca z G X ad av [.ref h0] μ r μ1 := by
  refine xm_i (by decide) rfl (Nat.le_of_ble_eq_true rfl) [(0, .ref h0)] rfl ?_
  intro p e s m args below meth c ls hx hb hr hml hlocks hts hown hK hE hR hS hl
  have hts : ∀ w ∈ xAll, w.before args s = true := fun w hw => hts w (List.mem_cons_of_mem _ hw)
  rw [fX8_thrown] at h
  refine lv_aload_n (pc := 0) hx hb dX8_thrown_0 rfl (lv_at hl 0 rfl) ?_
  refine xr_getI (pc := 1) (ci := 12) hx hb hts inX8 hown hK hR rfl k0.1 7 (Nat.le_of_ble_eq_true rfl) rfl (hts _ q_f_X8_39) (fun _ h9 => h9) dX8_thrown_1 ?_
  exact xf_i (pc := 4) hx hb hr rfl hlocks h hR hK hS dX8_thrown_4
set_option maxHeartbeats 1000000 in
set_option maxRecDepth 20000 in
theorem mX8_in {l : Launch} {D : va_G} {ca : Nat → ClassId} {z : Nat} {G : xG} {X : va_W} {ad av : Nat → Nat} (hF : xFix z G X) (p0 : Int32) (p1 : Int32) (p2 : Int32)  {μ μ1 : xM} {r : Int32} (h : fX8_in p0 p1 p2 μ = some (r, μ1)) : xMi l yX8_in (xws yX8_in cX8_in 3 (some .boolean)) 0 D ca z G X ad av [.int p0, .int p1, .int p2] μ r μ1 := by
  refine xm_i (by decide) rfl (Nat.le_of_ble_eq_true rfl) [(0, .int p0), (1, .int p1), (2, .int p2)] rfl ?_
  intro p e s m args below meth c ls hx hb hr hml hlocks hts hown hK hE hR hS hl
  have hts : ∀ w ∈ xAll, w.before args s = true := fun w hw => hts w (List.mem_cons_of_mem _ hw)
  rw [fX8_in] at h
  refine lv_iload_n (pc := 0) hx hb dX8_in_0 rfl (lv_at hl 0 rfl) ?_
  refine lv_iload_n (pc := 1) hx hb dX8_in_1 rfl (lv_at hl 1 rfl) ?_
  refine lv_icmp_lt (pc := 2) (tgt := 14) hx hb dX8_in_2 (by decide) (fun c1 => ?_) (fun c1 => ?_)
  · have h := xpos c1 h
    refine lv_iconst (pc := 14) hx hb dX8_in_14 kc_0 ?_
    exact xf_i (pc := 15) hx hb hr rfl hlocks h hR hK hS dX8_in_15
  · have h := xneg c1 h
    refine lv_iload_n (pc := 5) hx hb dX8_in_5 rfl (lv_at hl 0 rfl) ?_
    refine lv_iload_n (pc := 6) hx hb dX8_in_6 rfl (lv_at hl 2 rfl) ?_
    refine lv_icmp_gt (pc := 7) (tgt := 14) hx hb dX8_in_7 (by decide) (fun c2 => ?_) (fun c2 => ?_)
    · have h := xpos c2 h
      refine lv_iconst (pc := 14) hx hb dX8_in_14 kc_0 ?_
      exact xf_i (pc := 15) hx hb hr rfl hlocks h hR hK hS dX8_in_15
    · have h := xneg c2 h
      refine lv_iconst (pc := 10) hx hb dX8_in_10 kc_1 ?_
      refine lv_goto (pc := 11) (tgt := 15) hx hb dX8_in_11 (by decide) ?_
      exact xf_i (pc := 15) hx hb hr rfl hlocks h hR hK hS dX8_in_15
set_option maxHeartbeats 1000000 in
set_option maxRecDepth 20000 in
theorem mX8_fails {l : Launch} {D : va_G} {ca : Nat → ClassId} {z : Nat} {G : xG} {X : va_W} {ad av : Nat → Nat} (hF : xFix z G X) (h0 : Nat) (p1 : Int32) (k0 : xI_Model G h0) {μ μ1 : xM} {r : Int32} (h : fX8_fails h0 p1 μ = some (r, μ1)) : xMi l yX8_fails (xws yX8_fails cX8_fails 2 (some .boolean)) 0 D ca z G X ad av [.ref h0, .int p1] μ r μ1 := by
  refine xm_i (by decide) rfl (Nat.le_of_ble_eq_true rfl) [(0, .ref h0), (1, .int p1)] rfl ?_
  intro p e s m args below meth c ls hx hb hr hml hlocks hts hown hK hE hR hS hl
  have hts : ∀ w ∈ xAll, w.before args s = true := fun w hw => hts w (List.mem_cons_of_mem _ hw)
  rw [fX8_fails] at h
  refine lv_aload_n (pc := 0) hx hb dX8_fails_0 rfl (lv_at hl 0 rfl) ?_
  refine lv_iload_n (pc := 1) hx hb dX8_fails_1 rfl (lv_at hl 1 rfl) ?_
  refine xr_putI (pc := 2) (ci := 12) (ty := .int) hx hb hts inX8 tyX8 tyX8_ok nmX8 hown hK hR hF hS rfl k0.1 7 (Nat.le_of_ble_eq_true rfl) rfl (hts _ q_f_X8_39) (fun _ h9 => h9) rfl rfl rfl rfl dX8_fails_2 (fun H locs hR hS => ?_)
  refine lv_iload_n (pc := 5) hx hb dX8_fails_5 rfl (lv_at hl 1 rfl) ?_
  refine lv_if_le (pc := 6) (tgt := 13) hx hb dX8_fails_6 (by decide) (fun c1 => ?_) (fun c1 => ?_)
  · have h := xpos c1 h
    refine lv_iconst (pc := 13) hx hb dX8_fails_13 kc_0 ?_
    exact xf_i (pc := 14) hx hb hr rfl hlocks h hR hK hS dX8_fails_14
  · have h := xneg c1 h
    refine lv_iconst (pc := 9) hx hb dX8_fails_9 kc_1 ?_
    refine lv_goto (pc := 10) (tgt := 14) hx hb dX8_fails_10 (by decide) ?_
    exact xf_i (pc := 14) hx hb hr rfl hlocks h hR hK hS dX8_fails_14
set_option maxHeartbeats 1000000 in
set_option maxRecDepth 20000 in
theorem mX8_refuses {l : Launch} {D : va_G} {ca : Nat → ClassId} {z : Nat} {G : xG} {X : va_W} {ad av : Nat → Nat} (hF : xFix z G X) (h0 : Nat) (p1 : Int32) (p2 : Int32) (p3 : Int32) (k0 : xI_Model G h0) {μ μ1 : xM} {r : Int32} (h : fX8_refuses h0 p1 p2 p3 μ = some (r, μ1)) : xMi l yX8_refuses (xws yX8_refuses cX8_refuses 4 (some .int)) 0 D ca z G X ad av [.ref h0, .int p1, .int p2, .int p3] μ r μ1 := by
  refine xm_i (by decide) rfl (Nat.le_of_ble_eq_true rfl) [(0, .ref h0), (1, .int p1), (2, .int p2), (3, .int p3)] rfl ?_
  intro p e s m args below meth c ls hx hb hr hml hlocks hts hown hK hE hR hS hl
  have hts : ∀ w ∈ xAll, w.before args s = true := fun w hw => hts w (List.mem_cons_of_mem _ hw)
  rw [fX8_refuses] at h
  refine lv_aload_n (pc := 0) hx hb dX8_refuses_0 rfl (lv_at hl 0 rfl) ?_
  refine lv_iload_n (pc := 1) hx hb dX8_refuses_1 rfl (lv_at hl 1 rfl) ?_
  refine xr_putI (pc := 2) (ci := 12) (ty := .int) hx hb hts inX8 tyX8 tyX8_ok nmX8 hown hK hR hF hS rfl k0.1 7 (Nat.le_of_ble_eq_true rfl) rfl (hts _ q_f_X8_39) (fun _ h9 => h9) rfl rfl rfl rfl dX8_refuses_2 (fun H locs hR hS => ?_)
  refine lv_aload_n (pc := 5) hx hb dX8_refuses_5 rfl (lv_at hl 0 rfl) ?_
  refine lv_iload_n (pc := 6) hx hb dX8_refuses_6 rfl (lv_at hl 2 rfl) ?_
  refine xr_putI (pc := 7) (ci := 12) (ty := .int) hx hb hts inX8 tyX8 tyX8_ok nmX8 hown hK hR hF hS rfl k0.1 8 (Nat.le_of_ble_eq_true rfl) rfl (hts _ q_f_X8_42) (fun _ h9 => h9) rfl rfl rfl rfl dX8_refuses_7 (fun H locs hR hS => ?_)
  refine lv_aload_n (pc := 10) hx hb dX8_refuses_10 rfl (lv_at hl 0 rfl) ?_
  refine lv_iload_n (pc := 11) hx hb dX8_refuses_11 rfl (lv_at hl 3 rfl) ?_
  refine xr_putI (pc := 12) (ci := 12) (ty := .int) hx hb hts inX8 tyX8 tyX8_ok nmX8 hown hK hR hF hS rfl k0.1 9 (Nat.le_of_ble_eq_true rfl) rfl (hts _ q_f_X8_45) (fun _ h9 => h9) rfl rfl rfl rfl dX8_refuses_12 (fun H locs hR hS => ?_)
  refine lv_aload_n (pc := 15) hx hb dX8_refuses_15 rfl (lv_at hl 0 rfl) ?_
  refine lv_iconst (pc := 16) hx hb dX8_refuses_16 kc_m1 ?_
  refine xr_putI (pc := 17) (ci := 12) (ty := .int) hx hb hts inX8 tyX8 tyX8_ok nmX8 hown hK hR hF hS rfl k0.1 10 (Nat.le_of_ble_eq_true rfl) rfl (hts _ q_f_X8_22) (fun _ h9 => h9) rfl rfl rfl rfl dX8_refuses_17 (fun H locs hR hS => ?_)
  refine lv_iconst (pc := 20) hx hb dX8_refuses_20 kc_0 ?_
  exact xf_i (pc := 21) hx hb hr rfl hlocks h hR hK hS dX8_refuses_21
set_option maxHeartbeats 1000000 in
set_option maxRecDepth 20000 in
theorem wX8_copies_3 {p : Program} {l : Launch} {e : Env} {s : State} {m : MethodId} {args : Array Value} {below : List Frame} {meth : Method} {c : Code} {D : va_G} {ca : Nat → ClassId} {z : Nat} {G : xG} {X : va_W} {ad av : Nat → Nat} (hF : xFix z G X) (h0 : Nat) (n0 : Nat) (p1 : Int32) (h2 : Nat) (n2 : Nat) (p3 : Int32) (k0 : xI_Ints n0 G h0) (k2 : xI_Ints n2 G h2) (hx : p.tables.exec = Jvm.exec) (hb : c.code = cX8_copies) (hr : meth.sig.returnType = none) (hml : c.maxLocals = 5) (hlocks : meth.locks = false) (hts : ∀ w ∈ xAll, w.before args s = true) (hown : s.vm.findClass RX8 = some m.cls) (hK : va_K D vwCl (xT ca) s) (hE : xEv z ad av s s.heap) {μ1 : xM} :
    ∀ (n : Nat) (x4 : Int32) (μ : xM) (H : Heap) (locs : List Loc) (ls : Array Slot), lX8_copies_3 h0 n0 p1 h2 n2 p3 n x4 μ = some μ1 → xRep D ca G X μ H → va_S (fun q => z ≤ q) s.heap H locs → lv_has ls 5 [(0, .ref h0), (1, .int p1), (2, .ref h2), (3, .int p3), (4, .int x4)] → W p l e (xRm 0 0 0) s m args below meth c H locs 0 0 (MQ below (va_Qv (fun (_ : Unit) => True) (fun _ t => xB D ca G X μ1 t) (fun q => z ≤ q)) args s 0 0 (fun q => z ≤ q)) (F0 m 3 ls []) := by
  intro n
  induction n with
  | zero => intro x4 μ H locs ls h; cases h
  | succ n ih =>
    intro x4 μ H locs ls h hR hS hl
    rw [lX8_copies_3] at h
    refine lv_iload (pc := 3) hx hb dX8_copies_3 (lv_at hl 4 rfl) ?_
    refine lv_sipush (pc := 5) hx hb dX8_copies_5 ks_199 ?_
    refine lv_icmp_ge (pc := 8) (tgt := 29) hx hb dX8_copies_8 (by decide) (fun c1 => ?_) (fun c1 => ?_)
    · have h := xpos c1 h
      exact xf_v (pc := 29) hx hb hr hlocks h hR hK hS dX8_copies_29
    · have h := xneg c1 h
      refine lv_aload_n (pc := 11) hx hb dX8_copies_11 rfl (lv_at hl 2 rfl) ?_
      refine lv_iload_n (pc := 12) hx hb dX8_copies_12 rfl (lv_at hl 3 rfl) ?_
      refine lv_iload (pc := 13) hx hb dX8_copies_13 (lv_at hl 4 rfl) ?_
      refine lv_iadd (pc := 15) hx hb dX8_copies_15 ?_
      refine lv_aload_n (pc := 16) hx hb dX8_copies_16 rfl (lv_at hl 0 rfl) ?_
      refine lv_iload_n (pc := 17) hx hb dX8_copies_17 rfl (lv_at hl 1 rfl) ?_
      refine lv_iload (pc := 18) hx hb dX8_copies_18 (lv_at hl 4 rfl) ?_
      refine lv_iadd (pc := 20) hx hb dX8_copies_20 ?_
      obtain ⟨c2, h⟩ := xk_inv h
      refine xr_ialdk (pc := 21) (Int32.toNatClampNeg ((p1 + x4))) hx hb hK hR k0.1 k0.2 rfl c2 dX8_copies_21 ?_
      obtain ⟨c3, h⟩ := xk_inv h
      refine xr_iastk (pc := 22) (Int32.toNatClampNeg ((p3 + x4))) hx hb hK hR hF hS k2.1 k2.2 rfl c3 dX8_copies_22 (fun H locs hR hS => ?_)
      refine lv_iinc (pc := 23) (lv' := [(4, .int _), (0, .ref _), (1, .int _), (2, .ref _), (3, .int _)]) hx hb dX8_copies_23 hl (k := 4) rfl (xinc kc_1) (Nat.le_of_ble_eq_true rfl) rfl (fun ls hl => ?_)
      refine lv_goto (pc := 26) (tgt := 3) hx hb dX8_copies_26 (by decide) ?_
      exact ih _ _ _ _ _ h hR hS (lv_sub hl [1, 2, 3, 4, 0] rfl)
set_option maxHeartbeats 1000000 in
set_option maxRecDepth 20000 in
theorem mX8_copies {l : Launch} {D : va_G} {ca : Nat → ClassId} {z : Nat} {G : xG} {X : va_W} {ad av : Nat → Nat} (hF : xFix z G X) (h0 : Nat) (n0 : Nat) (p1 : Int32) (h2 : Nat) (n2 : Nat) (p3 : Int32) (k0 : xI_Ints n0 G h0) (k2 : xI_Ints n2 G h2) {μ μ1 : xM} (h : fX8_copies h0 n0 p1 h2 n2 p3 μ = some μ1) : xMv l yX8_copies (xws yX8_copies cX8_copies 5 none) 0 D ca z G X ad av [.ref h0, .int p1, .ref h2, .int p3] μ μ1 := by
  refine xm_v (by decide) rfl (Nat.le_of_ble_eq_true rfl) [(0, .ref h0), (1, .int p1), (2, .ref h2), (3, .int p3)] rfl ?_
  intro p e s m args below meth c ls hx hb hr hml hlocks hts hown hK hE hR hS hl
  have hts : ∀ w ∈ xAll, w.before args s = true := fun w hw => hts w (List.mem_cons_of_mem _ hw)
  rw [fX8_copies] at h
  refine lv_iconst (pc := 0) hx hb dX8_copies_0 kc_0 ?_
  refine lv_istore (pc := 1) (lv' := [(4, .int _), (0, .ref _), (1, .int _), (2, .ref _), (3, .int _)]) hx hb dX8_copies_1 hl (Nat.le_of_ble_eq_true rfl) rfl (fun ls hl => ?_)
  exact wX8_copies_3 hF h0 n0 p1 h2 n2 p3 k0 k2 hx hb hr hml hlocks hts hown hK hE _ _ _ _ _ _ h hR hS (lv_sub hl [1, 2, 3, 4, 0] rfl)
set_option maxHeartbeats 1000000 in
set_option maxRecDepth 20000 in
theorem wX8_keeps_24 {p : Program} {l : Launch} {e : Env} {s : State} {m : MethodId} {args : Array Value} {below : List Frame} {meth : Method} {c : Code} {D : va_G} {ca : Nat → ClassId} {z : Nat} {G : xG} {X : va_W} {ad av : Nat → Nat} (hF : xFix z G X) (h0 : Nat) (h1 : Nat) (k0 : xI_Model G h0) (k1 : xI_Ints 199 G h1) (hx : p.tables.exec = Jvm.exec) (hb : c.code = cX8_keeps) (hr : meth.sig.returnType = none) (hml : c.maxLocals = 3) (hlocks : meth.locks = false) (hts : ∀ w ∈ xAll, w.before args s = true) (hown : s.vm.findClass RX8 = some m.cls) (hK : va_K D vwCl (xT ca) s) (hE : xEv z ad av s s.heap) {μ1 : xM} :
    ∀ (n : Nat) (x2 : Int32) (μ : xM) (H : Heap) (locs : List Loc) (ls : Array Slot), lX8_keeps_24 h0 h1 n x2 μ = some μ1 → xRep D ca G X μ H → va_S (fun q => z ≤ q) s.heap H locs → lv_has ls 3 [(0, .ref h0), (1, .ref h1), (2, .int x2)] → W p l e (xRm 1 0 0) s m args below meth c H locs 0 0 (MQ below (va_Qv (fun (_ : Unit) => True) (fun _ t => xB D ca G X μ1 t) (fun q => z ≤ q)) args s 0 0 (fun q => z ≤ q)) (F0 m 24 ls []) := by
  intro n
  induction n with
  | zero => intro x2 μ H locs ls h; cases h
  | succ n ih =>
    intro x2 μ H locs ls h hR hS hl
    rw [lX8_keeps_24] at h
    refine lv_iload_n (pc := 24) hx hb dX8_keeps_24 rfl (lv_at hl 2 rfl) ?_
    refine lv_sipush (pc := 25) hx hb dX8_keeps_25 ks_1393 ?_
    refine lv_icmp_ge (pc := 28) (tgt := 53) hx hb dX8_keeps_28 (by decide) (fun c4 => ?_) (fun c4 => ?_)
    · have h := xpos c4 h
      refine lv_aload_n (pc := 53) hx hb dX8_keeps_53 rfl (lv_at hl 0 rfl) ?_
      refine lv_dup (pc := 54) hx hb dX8_keeps_54 rfl ?_
      refine xr_getI (pc := 55) (ci := 12) hx hb hts inX8 hown hK hR rfl k0.1 5 (Nat.le_of_ble_eq_true rfl) rfl (hts _ q_f_X8_52) (fun _ h9 => h9) dX8_keeps_55 ?_
      refine lv_iconst (pc := 58) hx hb dX8_keeps_58 kc_1 ?_
      refine lv_isub (pc := 59) hx hb dX8_keeps_59 ?_
      refine xr_putI (pc := 60) (ci := 12) (ty := .int) hx hb hts inX8 tyX8 tyX8_ok nmX8 hown hK hR hF hS rfl k0.1 5 (Nat.le_of_ble_eq_true rfl) rfl (hts _ q_f_X8_52) (fun _ h9 => h9) rfl rfl rfl rfl dX8_keeps_60 (fun H locs hR hS => ?_)
      refine lv_aload_n (pc := 63) hx hb dX8_keeps_63 rfl (lv_at hl 1 rfl) ?_
      refine lv_iconst (pc := 64) hx hb dX8_keeps_64 kc_0 ?_
      refine lv_aload_n (pc := 65) hx hb dX8_keeps_65 rfl (lv_at hl 0 rfl) ?_
      refine xr_getR (pc := 66) (ci := 12) hx hb hts inX8 hown hK hR rfl k0.1 1 (Nat.le_of_ble_eq_true rfl) rfl k0.2.2.1.1 (hts _ q_f_X8_13) (fun _ h9 => h9) dX8_keeps_66 ?_
      refine lv_sipush (pc := 69) hx hb dX8_keeps_69 ks_199 ?_
      refine lv_aload_n (pc := 72) hx hb dX8_keeps_72 rfl (lv_at hl 0 rfl) ?_
      refine xr_getI (pc := 73) (ci := 12) hx hb hts inX8 hown hK hR rfl k0.1 5 (Nat.le_of_ble_eq_true rfl) rfl (hts _ q_f_X8_52) (fun _ h9 => h9) dX8_keeps_73 ?_
      refine lv_imul (pc := 76) hx hb dX8_keeps_76 ?_
      obtain ⟨m5, c5, h⟩ := xbv_inv h
      refine xc_vS (pc := 77) (As := [.ref _, .int _, .ref _, .int _]) (rest := []) ⟨hx, hb, hml, hown, hts⟩ (mX8_copies hF _ _ _ _ _ _ k1 k0.2.2.1.2 c5) (xcwS 4 hts fdX8_copies q_m_X8_55 ⟨Nat.le_of_ble_eq_true rfl, Nat.le_of_ble_eq_true rfl⟩) hR hK hE hS rfl hl.1 rfl (Nat.le_of_ble_eq_true rfl) dX8_keeps_77 ⟨Nat.zero_le _, Nat.zero_le _⟩ (fun H locs hR hS => ?_)
      refine lv_aload_n (pc := 80) hx hb dX8_keeps_80 rfl (lv_at hl 0 rfl) ?_
      refine lv_dup (pc := 81) hx hb dX8_keeps_81 rfl ?_
      refine xr_getI (pc := 82) (ci := 12) hx hb hts inX8 hown hK hR rfl k0.1 5 (Nat.le_of_ble_eq_true rfl) rfl (hts _ q_f_X8_52) (fun _ h9 => h9) dX8_keeps_82 ?_
      refine lv_iconst (pc := 85) hx hb dX8_keeps_85 kc_1 ?_
      refine lv_iadd (pc := 86) hx hb dX8_keeps_86 ?_
      refine xr_putI (pc := 87) (ci := 12) (ty := .int) hx hb hts inX8 tyX8 tyX8_ok nmX8 hown hK hR hF hS rfl k0.1 5 (Nat.le_of_ble_eq_true rfl) rfl (hts _ q_f_X8_52) (fun _ h9 => h9) rfl rfl rfl rfl dX8_keeps_87 (fun H locs hR hS => ?_)
      exact xf_v (pc := 90) hx hb hr hlocks h hR hK hS dX8_keeps_90
    · have h := xneg c4 h
      refine lv_aload_n (pc := 31) hx hb dX8_keeps_31 rfl (lv_at hl 0 rfl) ?_
      refine xr_getR (pc := 32) (ci := 12) hx hb hts inX8 hown hK hR rfl k0.1 1 (Nat.le_of_ble_eq_true rfl) rfl k0.2.2.1.1 (hts _ q_f_X8_13) (fun _ h9 => h9) dX8_keeps_32 ?_
      refine lv_iload_n (pc := 35) hx hb dX8_keeps_35 rfl (lv_at hl 2 rfl) ?_
      refine lv_aload_n (pc := 36) hx hb dX8_keeps_36 rfl (lv_at hl 0 rfl) ?_
      refine xr_getR (pc := 37) (ci := 12) hx hb hts inX8 hown hK hR rfl k0.1 1 (Nat.le_of_ble_eq_true rfl) rfl k0.2.2.1.1 (hts _ q_f_X8_13) (fun _ h9 => h9) dX8_keeps_37 ?_
      refine lv_iload_n (pc := 40) hx hb dX8_keeps_40 rfl (lv_at hl 2 rfl) ?_
      refine lv_sipush (pc := 41) hx hb dX8_keeps_41 ks_199 ?_
      refine lv_iadd (pc := 44) hx hb dX8_keeps_44 ?_
      obtain ⟨c6, h⟩ := xk_inv h
      refine xr_ialdk (pc := 45) (Int32.toNatClampNeg ((x2 + (199 : Int32)))) hx hb hK hR k0.2.2.1.2.1 k0.2.2.1.2.2 rfl c6 dX8_keeps_45 ?_
      obtain ⟨c7, h⟩ := xk_inv h
      refine xr_iastk (pc := 46) (Int32.toNatClampNeg x2) hx hb hK hR hF hS k0.2.2.1.2.1 k0.2.2.1.2.2 rfl c7 dX8_keeps_46 (fun H locs hR hS => ?_)
      refine lv_iinc (pc := 47) (lv' := [(2, .int _), (0, .ref _), (1, .ref _)]) hx hb dX8_keeps_47 hl (k := 2) rfl (xinc kc_1) (Nat.le_of_ble_eq_true rfl) rfl (fun ls hl => ?_)
      refine lv_goto (pc := 50) (tgt := 24) hx hb dX8_keeps_50 (by decide) ?_
      exact ih _ _ _ _ _ h hR hS (lv_sub hl [1, 2, 0] rfl)
set_option maxHeartbeats 1000000 in
set_option maxRecDepth 20000 in
theorem mX8_keeps {l : Launch} {D : va_G} {ca : Nat → ClassId} {z : Nat} {G : xG} {X : va_W} {ad av : Nat → Nat} (hF : xFix z G X) (h0 : Nat) (h1 : Nat) (k0 : xI_Model G h0) (k1 : xI_Ints 199 G h1) {μ μ1 : xM} (h : fX8_keeps h0 h1 μ = some μ1) : xMv l yX8_keeps (xws yX8_keeps cX8_keeps 3 none) 1 D ca z G X ad av [.ref h0, .ref h1] μ μ1 := by
  refine xm_v (by decide) rfl (Nat.le_of_ble_eq_true rfl) [(0, .ref h0), (1, .ref h1)] rfl ?_
  intro p e s m args below meth c ls hx hb hr hml hlocks hts hown hK hE hR hS hl
  have hts : ∀ w ∈ xAll, w.before args s = true := fun w hw => hts w (List.mem_cons_of_mem _ hw)
  rw [fX8_keeps] at h
  refine lv_aload_n (pc := 0) hx hb dX8_keeps_0 rfl (lv_at hl 0 rfl) ?_
  refine lv_iconst (pc := 1) hx hb dX8_keeps_1 kc_0 ?_
  refine xr_putI (pc := 2) (ci := 12) (ty := .int) hx hb hts inX8 tyX8 tyX8_ok nmX8 hown hK hR hF hS rfl k0.1 7 (Nat.le_of_ble_eq_true rfl) rfl (hts _ q_f_X8_39) (fun _ h9 => h9) rfl rfl rfl rfl dX8_keeps_2 (fun H locs hR hS => ?_)
  refine lv_aload_n (pc := 5) hx hb dX8_keeps_5 rfl (lv_at hl 0 rfl) ?_
  refine xr_getI (pc := 6) (ci := 12) hx hb hts inX8 hown hK hR rfl k0.1 6 (Nat.le_of_ble_eq_true rfl) rfl (hts _ q_f_X8_48) (fun _ h9 => h9) dX8_keeps_6 ?_
  refine lv_if_eq (pc := 9) (tgt := 13) hx hb dX8_keeps_9 (by decide) (fun c1 => ?_) (fun c1 => ?_)
  · have h := xpos c1 h
    refine lv_aload_n (pc := 13) hx hb dX8_keeps_13 rfl (lv_at hl 0 rfl) ?_
    refine xr_getI (pc := 14) (ci := 12) hx hb hts inX8 hown hK hR rfl k0.1 5 (Nat.le_of_ble_eq_true rfl) rfl (hts _ q_f_X8_52) (fun _ h9 => h9) dX8_keeps_14 ?_
    refine lv_bipush (pc := 17) hx hb dX8_keeps_17 kb_8 ?_
    refine lv_icmp_ne (pc := 19) (tgt := 63) hx hb dX8_keeps_19 (by decide) (fun c2 => ?_) (fun c2 => ?_)
    · have h := xneg c2 h
      refine lv_aload_n (pc := 63) hx hb dX8_keeps_63 rfl (lv_at hl 1 rfl) ?_
      refine lv_iconst (pc := 64) hx hb dX8_keeps_64 kc_0 ?_
      refine lv_aload_n (pc := 65) hx hb dX8_keeps_65 rfl (lv_at hl 0 rfl) ?_
      refine xr_getR (pc := 66) (ci := 12) hx hb hts inX8 hown hK hR rfl k0.1 1 (Nat.le_of_ble_eq_true rfl) rfl k0.2.2.1.1 (hts _ q_f_X8_13) (fun _ h9 => h9) dX8_keeps_66 ?_
      refine lv_sipush (pc := 69) hx hb dX8_keeps_69 ks_199 ?_
      refine lv_aload_n (pc := 72) hx hb dX8_keeps_72 rfl (lv_at hl 0 rfl) ?_
      refine xr_getI (pc := 73) (ci := 12) hx hb hts inX8 hown hK hR rfl k0.1 5 (Nat.le_of_ble_eq_true rfl) rfl (hts _ q_f_X8_52) (fun _ h9 => h9) dX8_keeps_73 ?_
      refine lv_imul (pc := 76) hx hb dX8_keeps_76 ?_
      obtain ⟨m3, c3, h⟩ := xbv_inv h
      refine xc_vS (pc := 77) (As := [.ref _, .int _, .ref _, .int _]) (rest := []) ⟨hx, hb, hml, hown, hts⟩ (mX8_copies hF _ _ _ _ _ _ k1 k0.2.2.1.2 c3) (xcwS 4 hts fdX8_copies q_m_X8_55 ⟨Nat.le_of_ble_eq_true rfl, Nat.le_of_ble_eq_true rfl⟩) hR hK hE hS rfl hl.1 rfl (Nat.le_of_ble_eq_true rfl) dX8_keeps_77 ⟨Nat.zero_le _, Nat.zero_le _⟩ (fun H locs hR hS => ?_)
      refine lv_aload_n (pc := 80) hx hb dX8_keeps_80 rfl (lv_at hl 0 rfl) ?_
      refine lv_dup (pc := 81) hx hb dX8_keeps_81 rfl ?_
      refine xr_getI (pc := 82) (ci := 12) hx hb hts inX8 hown hK hR rfl k0.1 5 (Nat.le_of_ble_eq_true rfl) rfl (hts _ q_f_X8_52) (fun _ h9 => h9) dX8_keeps_82 ?_
      refine lv_iconst (pc := 85) hx hb dX8_keeps_85 kc_1 ?_
      refine lv_iadd (pc := 86) hx hb dX8_keeps_86 ?_
      refine xr_putI (pc := 87) (ci := 12) (ty := .int) hx hb hts inX8 tyX8 tyX8_ok nmX8 hown hK hR hF hS rfl k0.1 5 (Nat.le_of_ble_eq_true rfl) rfl (hts _ q_f_X8_52) (fun _ h9 => h9) rfl rfl rfl rfl dX8_keeps_87 (fun H locs hR hS => ?_)
      exact xf_v (pc := 90) hx hb hr hlocks h hR hK hS dX8_keeps_90
    · have h := xpos c2 h
      refine lv_iconst (pc := 22) hx hb dX8_keeps_22 kc_0 ?_
      refine lv_istore_n (pc := 23) (lv' := [(2, .int _), (0, .ref _), (1, .ref _)]) hx hb dX8_keeps_23 rfl hl (Nat.le_of_ble_eq_true rfl) rfl (fun ls hl => ?_)
      exact wX8_keeps_24 hF h0 h1 k0 k1 hx hb hr hml hlocks hts hown hK hE _ _ _ _ _ _ h hR hS (lv_sub hl [1, 2, 0] rfl)
  · have h := xneg c1 h
    exact xf_v (pc := 12) hx hb hr hlocks h hR hK hS dX8_keeps_12
set_option maxHeartbeats 1000000 in
set_option maxRecDepth 20000 in
theorem mX8_isTicket {l : Launch} {D : va_G} {ca : Nat → ClassId} {z : Nat} {G : xG} {X : va_W} {ad av : Nat → Nat} (hF : xFix z G X) (h0 : Nat) (p1 : Int32) (k0 : xI_Model G h0) {μ μ1 : xM} {r : Int32} (h : fX8_isTicket h0 p1 μ = some (r, μ1)) : xMi l yX8_isTicket (xws yX8_isTicket cX8_isTicket 2 (some .boolean)) 1 D ca z G X ad av [.ref h0, .int p1] μ r μ1 := by
  refine xm_i (by decide) rfl (Nat.le_of_ble_eq_true rfl) [(0, .ref h0), (1, .int p1)] rfl ?_
  intro p e s m args below meth c ls hx hb hr hml hlocks hts hown hK hE hR hS hl
  have hts : ∀ w ∈ xAll, w.before args s = true := fun w hw => hts w (List.mem_cons_of_mem _ hw)
  rw [fX8_isTicket] at h
  refine lv_iload_n (pc := 0) hx hb dX8_isTicket_0 rfl (lv_at hl 1 rfl) ?_
  refine lv_iconst (pc := 1) hx hb dX8_isTicket_1 kc_0 ?_
  refine lv_aload_n (pc := 2) hx hb dX8_isTicket_2 rfl (lv_at hl 0 rfl) ?_
  refine xr_getR (pc := 3) (ci := 12) hx hb hts inX8 hown hK hR rfl k0.1 0 (Nat.le_of_ble_eq_true rfl) rfl k0.2.1.1 (hts _ q_f_X8_7) (fun _ h9 => h9) dX8_isTicket_3 ?_
  refine lv_iconst (pc := 6) hx hb dX8_isTicket_6 kc_1 ?_
  refine xr_ialdk (pc := 7) 1 hx hb hK hR k0.2.1.2.1 k0.2.1.2.2 tn_1 (vl_1 (by decide)) dX8_isTicket_7 ?_
  refine lv_iconst (pc := 8) hx hb dX8_isTicket_8 kc_1 ?_
  refine lv_isub (pc := 9) hx hb dX8_isTicket_9 ?_
  obtain ⟨r1, m1, c1, h⟩ := xb_inv h
  refine xc_iS (pc := 10) (As := [.int _, .int _, .int _]) (rest := []) ⟨hx, hb, hml, hown, hts⟩ (mX8_in hF _ _ _  c1) (xcwS 3 hts fdX8_in q_m_X8_59 ⟨Nat.le_of_ble_eq_true rfl, Nat.le_of_ble_eq_true rfl⟩) hR hK hE hS rfl hl.1 rfl (Nat.le_of_ble_eq_true rfl) dX8_isTicket_10 ⟨Nat.zero_le _, Nat.zero_le _⟩ (fun H locs hR hS => ?_)
  obtain ⟨c2, h⟩ := xk_inv h
  exact xf_i (pc := 13) hx hb hr c2.1 hlocks h hR hK hS dX8_isTicket_13
set_option maxHeartbeats 1000000 in
set_option maxRecDepth 20000 in
theorem mX8_of {l : Launch} {D : va_G} {ca : Nat → ClassId} {z : Nat} {G : xG} {X : va_W} {ad av : Nat → Nat} (hF : xFix z G X) (h0 : Nat) (p1 : Int32) (p2 : Int32) (k0 : xI_Model G h0) {μ μ1 : xM} {r : Int32} (h : fX8_of h0 p1 p2 μ = some (r, μ1)) : xMi l yX8_of (xws yX8_of cX8_of 3 (some .int)) 0 D ca z G X ad av [.ref h0, .int p1, .int p2] μ r μ1 := by
  refine xm_i (by decide) rfl (Nat.le_of_ble_eq_true rfl) [(0, .ref h0), (1, .int p1), (2, .int p2)] rfl ?_
  intro p e s m args below meth c ls hx hb hr hml hlocks hts hown hK hE hR hS hl
  have hts : ∀ w ∈ xAll, w.before args s = true := fun w hw => hts w (List.mem_cons_of_mem _ hw)
  rw [fX8_of] at h
  refine lv_aload_n (pc := 0) hx hb dX8_of_0 rfl (lv_at hl 0 rfl) ?_
  refine xr_getR (pc := 1) (ci := 12) hx hb hts inX8 hown hK hR rfl k0.1 0 (Nat.le_of_ble_eq_true rfl) rfl k0.2.1.1 (hts _ q_f_X8_7) (fun _ h9 => h9) dX8_of_1 ?_
  refine lv_bipush (pc := 4) hx hb dX8_of_4 kb_11 ?_
  refine lv_bipush (pc := 6) hx hb dX8_of_6 kb_11 ?_
  refine lv_iload_n (pc := 8) hx hb dX8_of_8 rfl (lv_at hl 1 rfl) ?_
  refine lv_imul (pc := 9) hx hb dX8_of_9 ?_
  refine lv_iadd (pc := 10) hx hb dX8_of_10 ?_
  refine lv_iload_n (pc := 11) hx hb dX8_of_11 rfl (lv_at hl 2 rfl) ?_
  refine lv_iadd (pc := 12) hx hb dX8_of_12 ?_
  obtain ⟨c1, h⟩ := xk_inv h
  refine xr_ialdk (pc := 13) (Int32.toNatClampNeg ((((11 : Int32) + ((11 : Int32) * p1)) + p2))) hx hb hK hR k0.2.1.2.1 k0.2.1.2.2 rfl c1 dX8_of_13 ?_
  exact xf_i (pc := 14) hx hb hr rfl hlocks h hR hK hS dX8_of_14
set_option maxHeartbeats 1000000 in
set_option maxRecDepth 20000 in
theorem mX8_lays {l : Launch} {D : va_G} {ca : Nat → ClassId} {z : Nat} {G : xG} {X : va_W} {ad av : Nat → Nat} (hF : xFix z G X) (h0 : Nat) (p1 : Int32) (p2 : Int32) (p3 : Int32) (k0 : xI_Model G h0) {μ μ1 : xM} (h : fX8_lays h0 p1 p2 p3 μ = some μ1) : xMv l yX8_lays (xws yX8_lays cX8_lays 4 none) 0 D ca z G X ad av [.ref h0, .int p1, .int p2, .int p3] μ μ1 := by
  refine xm_v (by decide) rfl (Nat.le_of_ble_eq_true rfl) [(0, .ref h0), (1, .int p1), (2, .int p2), (3, .int p3)] rfl ?_
  intro p e s m args below meth c ls hx hb hr hml hlocks hts hown hK hE hR hS hl
  have hts : ∀ w ∈ xAll, w.before args s = true := fun w hw => hts w (List.mem_cons_of_mem _ hw)
  rw [fX8_lays] at h
  refine lv_aload_n (pc := 0) hx hb dX8_lays_0 rfl (lv_at hl 0 rfl) ?_
  refine xr_getR (pc := 1) (ci := 12) hx hb hts inX8 hown hK hR rfl k0.1 0 (Nat.le_of_ble_eq_true rfl) rfl k0.2.1.1 (hts _ q_f_X8_7) (fun _ h9 => h9) dX8_lays_1 ?_
  refine lv_bipush (pc := 4) hx hb dX8_lays_4 kb_11 ?_
  refine lv_bipush (pc := 6) hx hb dX8_lays_6 kb_11 ?_
  refine lv_iload_n (pc := 8) hx hb dX8_lays_8 rfl (lv_at hl 1 rfl) ?_
  refine lv_imul (pc := 9) hx hb dX8_lays_9 ?_
  refine lv_iadd (pc := 10) hx hb dX8_lays_10 ?_
  refine lv_iload_n (pc := 11) hx hb dX8_lays_11 rfl (lv_at hl 2 rfl) ?_
  refine lv_iadd (pc := 12) hx hb dX8_lays_12 ?_
  refine lv_iload_n (pc := 13) hx hb dX8_lays_13 rfl (lv_at hl 3 rfl) ?_
  obtain ⟨c1, h⟩ := xk_inv h
  refine xr_iastk (pc := 14) (Int32.toNatClampNeg ((((11 : Int32) + ((11 : Int32) * p1)) + p2))) hx hb hK hR hF hS k0.2.1.2.1 k0.2.1.2.2 rfl c1 dX8_lays_14 (fun H locs hR hS => ?_)
  exact xf_v (pc := 15) hx hb hr hlocks h hR hK hS dX8_lays_15
set_option maxHeartbeats 1000000 in
set_option maxRecDepth 20000 in
theorem mX8_owed {l : Launch} {D : va_G} {ca : Nat → ClassId} {z : Nat} {G : xG} {X : va_W} {ad av : Nat → Nat} (hF : xFix z G X) (h0 : Nat) (p1 : Int32) (k0 : xI_Model G h0) {μ μ1 : xM} {r : Int32} (h : fX8_owed h0 p1 μ = some (r, μ1)) : xMi l yX8_owed (xws yX8_owed cX8_owed 2 (some .int)) 1 D ca z G X ad av [.ref h0, .int p1] μ r μ1 := by
  refine xm_i (by decide) rfl (Nat.le_of_ble_eq_true rfl) [(0, .ref h0), (1, .int p1)] rfl ?_
  intro p e s m args below meth c ls hx hb hr hml hlocks hts hown hK hE hR hS hl
  have hts : ∀ w ∈ xAll, w.before args s = true := fun w hw => hts w (List.mem_cons_of_mem _ hw)
  rw [fX8_owed] at h
  refine lv_aload_n (pc := 0) hx hb dX8_owed_0 rfl (lv_at hl 0 rfl) ?_
  refine lv_iload_n (pc := 1) hx hb dX8_owed_1 rfl (lv_at hl 1 rfl) ?_
  refine lv_iconst (pc := 2) hx hb dX8_owed_2 kc_2 ?_
  obtain ⟨r1, m1, c1, h⟩ := xb_inv h
  refine xc_iV (pc := 3) (As := [.int _, .int _]) (rest := []) ⟨hx, hb, hml, hown, hts⟩ (mX8_of hF _ _ _ k0 c1) (xcwV 2 hts fdX8_of q_m_X8_63 ⟨Nat.le_of_ble_eq_true rfl, Nat.le_of_ble_eq_true rfl⟩) (xRecv hK hR (ci := 12) rfl k0.1) hR hK hE hS rfl hl.1 rfl (Nat.le_of_ble_eq_true rfl) dX8_owed_3 ⟨Nat.zero_le _, Nat.zero_le _⟩ (fun H locs hR hS => ?_)
  refine lv_aload_n (pc := 6) hx hb dX8_owed_6 rfl (lv_at hl 0 rfl) ?_
  refine lv_iload_n (pc := 7) hx hb dX8_owed_7 rfl (lv_at hl 1 rfl) ?_
  refine lv_iconst (pc := 8) hx hb dX8_owed_8 kc_3 ?_
  obtain ⟨r2, m2, c2, h⟩ := xb_inv h
  refine xc_iV (pc := 9) (As := [.int _, .int _]) (rest := [.int _]) ⟨hx, hb, hml, hown, hts⟩ (mX8_of hF _ _ _ k0 c2) (xcwV 2 hts fdX8_of q_m_X8_63 ⟨Nat.le_of_ble_eq_true rfl, Nat.le_of_ble_eq_true rfl⟩) (xRecv hK hR (ci := 12) rfl k0.1) hR hK hE hS rfl hl.1 rfl (Nat.le_of_ble_eq_true rfl) dX8_owed_9 ⟨Nat.zero_le _, Nat.zero_le _⟩ (fun H locs hR hS => ?_)
  refine lv_iadd (pc := 12) hx hb dX8_owed_12 ?_
  exact xf_i (pc := 13) hx hb hr rfl hlocks h hR hK hS dX8_owed_13
set_option maxHeartbeats 1000000 in
set_option maxRecDepth 20000 in
theorem mX8_weekly {l : Launch} {D : va_G} {ca : Nat → ClassId} {z : Nat} {G : xG} {X : va_W} {ad av : Nat → Nat} (hF : xFix z G X) (h0 : Nat) (p1 : Int32) (k0 : xI_Model G h0) {μ μ1 : xM} {r : Int32} (h : fX8_weekly h0 p1 μ = some (r, μ1)) : xMi l yX8_weekly (xws yX8_weekly cX8_weekly 2 (some .int)) 1 D ca z G X ad av [.ref h0, .int p1] μ r μ1 := by
  refine xm_i (by decide) rfl (Nat.le_of_ble_eq_true rfl) [(0, .ref h0), (1, .int p1)] rfl ?_
  intro p e s m args below meth c ls hx hb hr hml hlocks hts hown hK hE hR hS hl
  have hts : ∀ w ∈ xAll, w.before args s = true := fun w hw => hts w (List.mem_cons_of_mem _ hw)
  rw [fX8_weekly] at h
  refine lv_aload_n (pc := 0) hx hb dX8_weekly_0 rfl (lv_at hl 0 rfl) ?_
  refine lv_iload_n (pc := 1) hx hb dX8_weekly_1 rfl (lv_at hl 1 rfl) ?_
  refine lv_iconst (pc := 2) hx hb dX8_weekly_2 kc_2 ?_
  obtain ⟨r1, m1, c1, h⟩ := xb_inv h
  refine xc_iV (pc := 3) (As := [.int _, .int _]) (rest := []) ⟨hx, hb, hml, hown, hts⟩ (mX8_of hF _ _ _ k0 c1) (xcwV 2 hts fdX8_of q_m_X8_63 ⟨Nat.le_of_ble_eq_true rfl, Nat.le_of_ble_eq_true rfl⟩) (xRecv hK hR (ci := 12) rfl k0.1) hR hK hE hS rfl hl.1 rfl (Nat.le_of_ble_eq_true rfl) dX8_weekly_3 ⟨Nat.zero_le _, Nat.zero_le _⟩ (fun H locs hR hS => ?_)
  refine lv_aload_n (pc := 6) hx hb dX8_weekly_6 rfl (lv_at hl 0 rfl) ?_
  refine lv_iload_n (pc := 7) hx hb dX8_weekly_7 rfl (lv_at hl 1 rfl) ?_
  refine lv_bipush (pc := 8) hx hb dX8_weekly_8 kb_6 ?_
  obtain ⟨r2, m2, c2, h⟩ := xb_inv h
  refine xc_iV (pc := 10) (As := [.int _, .int _]) (rest := [.int _]) ⟨hx, hb, hml, hown, hts⟩ (mX8_of hF _ _ _ k0 c2) (xcwV 2 hts fdX8_of q_m_X8_63 ⟨Nat.le_of_ble_eq_true rfl, Nat.le_of_ble_eq_true rfl⟩) (xRecv hK hR (ci := 12) rfl k0.1) hR hK hE hS rfl hl.1 rfl (Nat.le_of_ble_eq_true rfl) dX8_weekly_10 ⟨Nat.zero_le _, Nat.zero_le _⟩ (fun H locs hR hS => ?_)
  refine lv_imul (pc := 13) hx hb dX8_weekly_13 ?_
  refine lv_sipush (pc := 14) hx hb dX8_weekly_14 ks_999 ?_
  refine lv_iadd (pc := 17) hx hb dX8_weekly_17 ?_
  refine lv_sipush (pc := 18) hx hb dX8_weekly_18 ks_1000 ?_
  refine lv_idiv (pc := 21) hx hb dX8_weekly_21 (by decide) ?_
  exact xf_i (pc := 22) hx hb hr rfl hlocks h hR hK hS dX8_weekly_22
set_option maxHeartbeats 1000000 in
set_option maxRecDepth 20000 in
theorem wX8_many_4 {p : Program} {l : Launch} {e : Env} {s : State} {m : MethodId} {args : Array Value} {below : List Frame} {meth : Method} {c : Code} {D : va_G} {ca : Nat → ClassId} {z : Nat} {G : xG} {X : va_W} {ad av : Nat → Nat} (hF : xFix z G X) (h0 : Nat) (p1 : Int32) (k0 : xI_Model G h0) (hx : p.tables.exec = Jvm.exec) (hb : c.code = cX8_many) (hr : meth.sig.returnType = (some .int)) (hml : c.maxLocals = 4) (hlocks : meth.locks = false) (hts : ∀ w ∈ xAll, w.before args s = true) (hown : s.vm.findClass RX8 = some m.cls) (hK : va_K D vwCl (xT ca) s) (hE : xEv z ad av s s.heap) {μ1 : xM} {r : Int32} :
    ∀ (n : Nat) (x2 : Int32) (x3 : Int32) (μ : xM) (H : Heap) (locs : List Loc) (ls : Array Slot), lX8_many_4 h0 p1 n x2 x3 μ = some (r, μ1) → xRep D ca G X μ H → va_S (fun q => z ≤ q) s.heap H locs → lv_has ls 4 [(0, .ref h0), (1, .int p1), (2, .int x2), (3, .int x3)] → W p l e (xRm 1 0 0) s m args below meth c H locs 0 0 (MQ below (va_Qi (fun (r' : Int32) (_ : Unit) => r' = r) (fun _ t => xB D ca G X μ1 t) (fun q => z ≤ q)) args s 0 0 (fun q => z ≤ q)) (F0 m 4 ls []) := by
  intro n
  induction n with
  | zero => intro x2 x3 μ H locs ls h; cases h
  | succ n ih =>
    intro x2 x3 μ H locs ls h hR hS hl
    rw [lX8_many_4] at h
    refine lv_iload_n (pc := 4) hx hb dX8_many_4 rfl (lv_at hl 3 rfl) ?_
    refine lv_aload_n (pc := 5) hx hb dX8_many_5 rfl (lv_at hl 0 rfl) ?_
    refine xr_getR (pc := 6) (ci := 12) hx hb hts inX8 hown hK hR rfl k0.1 0 (Nat.le_of_ble_eq_true rfl) rfl k0.2.1.1 (hts _ q_f_X8_7) (fun _ h9 => h9) dX8_many_6 ?_
    refine lv_iconst (pc := 9) hx hb dX8_many_9 kc_1 ?_
    refine xr_ialdk (pc := 10) 1 hx hb hK hR k0.2.1.2.1 k0.2.1.2.2 tn_1 (vl_1 (by decide)) dX8_many_10 ?_
    refine lv_icmp_ge (pc := 11) (tgt := 38) hx hb dX8_many_11 (by decide) (fun c1 => ?_) (fun c1 => ?_)
    · have h := xpos c1 h
      refine lv_iload_n (pc := 38) hx hb dX8_many_38 rfl (lv_at hl 2 rfl) ?_
      exact xf_i (pc := 39) hx hb hr rfl hlocks h hR hK hS dX8_many_39
    · have h := xneg c1 h
      refine lv_iload_n (pc := 14) hx hb dX8_many_14 rfl (lv_at hl 2 rfl) ?_
      refine lv_aload_n (pc := 15) hx hb dX8_many_15 rfl (lv_at hl 0 rfl) ?_
      refine lv_iload_n (pc := 16) hx hb dX8_many_16 rfl (lv_at hl 3 rfl) ?_
      refine lv_iconst (pc := 17) hx hb dX8_many_17 kc_4 ?_
      obtain ⟨r2, m2, c2, h⟩ := xb_inv h
      refine xc_iV (pc := 18) (As := [.int _, .int _]) (rest := [.int _]) ⟨hx, hb, hml, hown, hts⟩ (mX8_of hF _ _ _ k0 c2) (xcwV 2 hts fdX8_of q_m_X8_63 ⟨Nat.le_of_ble_eq_true rfl, Nat.le_of_ble_eq_true rfl⟩) (xRecv hK hR (ci := 12) rfl k0.1) hR hK hE hS rfl hl.1 rfl (Nat.le_of_ble_eq_true rfl) dX8_many_18 ⟨Nat.zero_le _, Nat.zero_le _⟩ (fun H locs hR hS => ?_)
      refine lv_iload_n (pc := 21) hx hb dX8_many_21 rfl (lv_at hl 1 rfl) ?_
      refine lv_icmp_ne (pc := 22) (tgt := 29) hx hb dX8_many_22 (by decide) (fun c3 => ?_) (fun c3 => ?_)
      · have h := xneg c3 h
        refine lv_iconst (pc := 29) hx hb dX8_many_29 kc_0 ?_
        refine lv_iadd (pc := 30) hx hb dX8_many_30 ?_
        refine lv_istore_n (pc := 31) (lv' := [(2, .int _), (0, .ref _), (1, .int _), (3, .int _)]) hx hb dX8_many_31 rfl hl (Nat.le_of_ble_eq_true rfl) rfl (fun ls hl => ?_)
        refine lv_iinc (pc := 32) (lv' := [(3, .int _), (2, .int _), (0, .ref _), (1, .int _)]) hx hb dX8_many_32 hl (k := 3) rfl (xinc kc_1) (Nat.le_of_ble_eq_true rfl) rfl (fun ls hl => ?_)
        refine lv_goto (pc := 35) (tgt := 4) hx hb dX8_many_35 (by decide) ?_
        exact ih _ _ _ _ _ _ h hR hS (lv_sub hl [2, 3, 1, 0] rfl)
      · have h := xpos c3 h
        refine lv_iconst (pc := 25) hx hb dX8_many_25 kc_1 ?_
        refine lv_goto (pc := 26) (tgt := 30) hx hb dX8_many_26 (by decide) ?_
        refine lv_iadd (pc := 30) hx hb dX8_many_30 ?_
        refine lv_istore_n (pc := 31) (lv' := [(2, .int _), (0, .ref _), (1, .int _), (3, .int _)]) hx hb dX8_many_31 rfl hl (Nat.le_of_ble_eq_true rfl) rfl (fun ls hl => ?_)
        refine lv_iinc (pc := 32) (lv' := [(3, .int _), (2, .int _), (0, .ref _), (1, .int _)]) hx hb dX8_many_32 hl (k := 3) rfl (xinc kc_1) (Nat.le_of_ble_eq_true rfl) rfl (fun ls hl => ?_)
        refine lv_goto (pc := 35) (tgt := 4) hx hb dX8_many_35 (by decide) ?_
        exact ih _ _ _ _ _ _ h hR hS (lv_sub hl [2, 3, 1, 0] rfl)
set_option maxHeartbeats 1000000 in
set_option maxRecDepth 20000 in
theorem mX8_many {l : Launch} {D : va_G} {ca : Nat → ClassId} {z : Nat} {G : xG} {X : va_W} {ad av : Nat → Nat} (hF : xFix z G X) (h0 : Nat) (p1 : Int32) (k0 : xI_Model G h0) {μ μ1 : xM} {r : Int32} (h : fX8_many h0 p1 μ = some (r, μ1)) : xMi l yX8_many (xws yX8_many cX8_many 4 (some .int)) 1 D ca z G X ad av [.ref h0, .int p1] μ r μ1 := by
  refine xm_i (by decide) rfl (Nat.le_of_ble_eq_true rfl) [(0, .ref h0), (1, .int p1)] rfl ?_
  intro p e s m args below meth c ls hx hb hr hml hlocks hts hown hK hE hR hS hl
  have hts : ∀ w ∈ xAll, w.before args s = true := fun w hw => hts w (List.mem_cons_of_mem _ hw)
  rw [fX8_many] at h
  refine lv_iconst (pc := 0) hx hb dX8_many_0 kc_0 ?_
  refine lv_istore_n (pc := 1) (lv' := [(2, .int _), (0, .ref _), (1, .int _)]) hx hb dX8_many_1 rfl hl (Nat.le_of_ble_eq_true rfl) rfl (fun ls hl => ?_)
  refine lv_iconst (pc := 2) hx hb dX8_many_2 kc_0 ?_
  refine lv_istore_n (pc := 3) (lv' := [(3, .int _), (2, .int _), (0, .ref _), (1, .int _)]) hx hb dX8_many_3 rfl hl (Nat.le_of_ble_eq_true rfl) rfl (fun ls hl => ?_)
  exact wX8_many_4 hF h0 p1 k0 hx hb hr hml hlocks hts hown hK hE _ _ _ _ _ _ _ h hR hS (lv_sub hl [2, 3, 1, 0] rfl)
set_option maxHeartbeats 1000000 in
set_option maxRecDepth 20000 in
theorem wX8_pledge_140 {p : Program} {l : Launch} {e : Env} {s : State} {m : MethodId} {args : Array Value} {below : List Frame} {meth : Method} {c : Code} {D : va_G} {ca : Nat → ClassId} {z : Nat} {G : xG} {X : va_W} {ad av : Nat → Nat} (hF : xFix z G X) (h0 : Nat) (p1 : Int32) (p2 : Int32) (p3 : Int32) (k0 : xI_Model G h0) (hx : p.tables.exec = Jvm.exec) (hb : c.code = cX8_pledge) (hr : meth.sig.returnType = (some .int)) (hml : c.maxLocals = 6) (hlocks : meth.locks = false) (hts : ∀ w ∈ xAll, w.before args s = true) (hown : s.vm.findClass RX8 = some m.cls) (hK : va_K D vwCl (xT ca) s) (hE : xEv z ad av s s.heap) {μ1 : xM} {r : Int32} :
    ∀ (n : Nat) (x4 : Int32) (x5 : Int32) (μ : xM) (H : Heap) (locs : List Loc) (ls : Array Slot), lX8_pledge_140 h0 p1 p2 p3 n x4 x5 μ = some (r, μ1) → xRep D ca G X μ H → va_S (fun q => z ≤ q) s.heap H locs → lv_has ls 6 [(0, .ref h0), (1, .int p1), (2, .int p2), (3, .int p3), (4, .int x4), (5, .int x5)] → W p l e (xRm 2 0 0) s m args below meth c H locs 0 0 (MQ below (va_Qi (fun (r' : Int32) (_ : Unit) => r' = r) (fun _ t => xB D ca G X μ1 t) (fun q => z ≤ q)) args s 0 0 (fun q => z ≤ q)) (F0 m 140 ls []) := by
  intro n
  induction n with
  | zero => intro x4 x5 μ H locs ls h; cases h
  | succ n ih =>
    intro x4 x5 μ H locs ls h hR hS hl
    rw [lX8_pledge_140] at h
    refine lv_iload (pc := 140) hx hb dX8_pledge_140 (lv_at hl 5 rfl) ?_
    refine lv_bipush (pc := 142) hx hb dX8_pledge_142 kb_11 ?_
    refine lv_icmp_ge (pc := 144) (tgt := 162) hx hb dX8_pledge_144 (by decide) (fun c11 => ?_) (fun c11 => ?_)
    · have h := xpos c11 h
      refine lv_aload_n (pc := 162) hx hb dX8_pledge_162 rfl (lv_at hl 0 rfl) ?_
      refine lv_iload (pc := 163) hx hb dX8_pledge_163 (lv_at hl 4 rfl) ?_
      refine lv_iconst (pc := 165) hx hb dX8_pledge_165 kc_0 ?_
      refine lv_iload_n (pc := 166) hx hb dX8_pledge_166 rfl (lv_at hl 1 rfl) ?_
      obtain ⟨m12, c12, h⟩ := xbv_inv h
      refine xc_vV (pc := 167) (As := [.int _, .int _, .int _]) (rest := []) ⟨hx, hb, hml, hown, hts⟩ (mX8_lays hF _ _ _ _ k0 c12) (xcwV 3 hts fdX8_lays q_m_X8_79 ⟨Nat.le_of_ble_eq_true rfl, Nat.le_of_ble_eq_true rfl⟩) (xRecv hK hR (ci := 12) rfl k0.1) hR hK hE hS rfl hl.1 rfl (Nat.le_of_ble_eq_true rfl) dX8_pledge_167 ⟨Nat.zero_le _, Nat.zero_le _⟩ (fun H locs hR hS => ?_)
      refine lv_aload_n (pc := 170) hx hb dX8_pledge_170 rfl (lv_at hl 0 rfl) ?_
      refine lv_iload (pc := 171) hx hb dX8_pledge_171 (lv_at hl 4 rfl) ?_
      refine lv_iconst (pc := 173) hx hb dX8_pledge_173 kc_1 ?_
      refine lv_iload_n (pc := 174) hx hb dX8_pledge_174 rfl (lv_at hl 2 rfl) ?_
      obtain ⟨m13, c13, h⟩ := xbv_inv h
      refine xc_vV (pc := 175) (As := [.int _, .int _, .int _]) (rest := []) ⟨hx, hb, hml, hown, hts⟩ (mX8_lays hF _ _ _ _ k0 c13) (xcwV 3 hts fdX8_lays q_m_X8_79 ⟨Nat.le_of_ble_eq_true rfl, Nat.le_of_ble_eq_true rfl⟩) (xRecv hK hR (ci := 12) rfl k0.1) hR hK hE hS rfl hl.1 rfl (Nat.le_of_ble_eq_true rfl) dX8_pledge_175 ⟨Nat.zero_le _, Nat.zero_le _⟩ (fun H locs hR hS => ?_)
      refine lv_aload_n (pc := 178) hx hb dX8_pledge_178 rfl (lv_at hl 0 rfl) ?_
      refine lv_iload (pc := 179) hx hb dX8_pledge_179 (lv_at hl 4 rfl) ?_
      refine lv_iconst (pc := 181) hx hb dX8_pledge_181 kc_2 ?_
      refine lv_iload_n (pc := 182) hx hb dX8_pledge_182 rfl (lv_at hl 3 rfl) ?_
      obtain ⟨m14, c14, h⟩ := xbv_inv h
      refine xc_vV (pc := 183) (As := [.int _, .int _, .int _]) (rest := []) ⟨hx, hb, hml, hown, hts⟩ (mX8_lays hF _ _ _ _ k0 c14) (xcwV 3 hts fdX8_lays q_m_X8_79 ⟨Nat.le_of_ble_eq_true rfl, Nat.le_of_ble_eq_true rfl⟩) (xRecv hK hR (ci := 12) rfl k0.1) hR hK hE hS rfl hl.1 rfl (Nat.le_of_ble_eq_true rfl) dX8_pledge_183 ⟨Nat.zero_le _, Nat.zero_le _⟩ (fun H locs hR hS => ?_)
      refine lv_aload_n (pc := 186) hx hb dX8_pledge_186 rfl (lv_at hl 0 rfl) ?_
      refine lv_iload (pc := 187) hx hb dX8_pledge_187 (lv_at hl 4 rfl) ?_
      refine lv_iconst (pc := 189) hx hb dX8_pledge_189 kc_5 ?_
      refine lv_aload_n (pc := 190) hx hb dX8_pledge_190 rfl (lv_at hl 0 rfl) ?_
      refine xr_getR (pc := 191) (ci := 12) hx hb hts inX8 hown hK hR rfl k0.1 0 (Nat.le_of_ble_eq_true rfl) rfl k0.2.1.1 (hts _ q_f_X8_7) (fun _ h9 => h9) dX8_pledge_191 ?_
      refine lv_iconst (pc := 194) hx hb dX8_pledge_194 kc_0 ?_
      refine xr_ialdk (pc := 195) 0 hx hb hK hR k0.2.1.2.1 k0.2.1.2.2 tn_0 (vl_0 (by decide)) dX8_pledge_195 ?_
      obtain ⟨m15, c15, h⟩ := xbv_inv h
      refine xc_vV (pc := 196) (As := [.int _, .int _, .int _]) (rest := []) ⟨hx, hb, hml, hown, hts⟩ (mX8_lays hF _ _ _ _ k0 c15) (xcwV 3 hts fdX8_lays q_m_X8_79 ⟨Nat.le_of_ble_eq_true rfl, Nat.le_of_ble_eq_true rfl⟩) (xRecv hK hR (ci := 12) rfl k0.1) hR hK hE hS rfl hl.1 rfl (Nat.le_of_ble_eq_true rfl) dX8_pledge_196 ⟨Nat.zero_le _, Nat.zero_le _⟩ (fun H locs hR hS => ?_)
      refine lv_aload_n (pc := 199) hx hb dX8_pledge_199 rfl (lv_at hl 0 rfl) ?_
      refine lv_iload (pc := 200) hx hb dX8_pledge_200 (lv_at hl 4 rfl) ?_
      refine lv_bipush (pc := 202) hx hb dX8_pledge_202 kb_6 ?_
      refine lv_aload_n (pc := 204) hx hb dX8_pledge_204 rfl (lv_at hl 0 rfl) ?_
      refine xr_getR (pc := 205) (ci := 12) hx hb hts inX8 hown hK hR rfl k0.1 0 (Nat.le_of_ble_eq_true rfl) rfl k0.2.1.1 (hts _ q_f_X8_7) (fun _ h9 => h9) dX8_pledge_205 ?_
      refine lv_iconst (pc := 208) hx hb dX8_pledge_208 kc_2 ?_
      refine xr_ialdk (pc := 209) 2 hx hb hK hR k0.2.1.2.1 k0.2.1.2.2 tn_2 (vl_2 (by decide)) dX8_pledge_209 ?_
      obtain ⟨m16, c16, h⟩ := xbv_inv h
      refine xc_vV (pc := 210) (As := [.int _, .int _, .int _]) (rest := []) ⟨hx, hb, hml, hown, hts⟩ (mX8_lays hF _ _ _ _ k0 c16) (xcwV 3 hts fdX8_lays q_m_X8_79 ⟨Nat.le_of_ble_eq_true rfl, Nat.le_of_ble_eq_true rfl⟩) (xRecv hK hR (ci := 12) rfl k0.1) hR hK hE hS rfl hl.1 rfl (Nat.le_of_ble_eq_true rfl) dX8_pledge_210 ⟨Nat.zero_le _, Nat.zero_le _⟩ (fun H locs hR hS => ?_)
      refine lv_aload_n (pc := 213) hx hb dX8_pledge_213 rfl (lv_at hl 0 rfl) ?_
      refine xr_getR (pc := 214) (ci := 12) hx hb hts inX8 hown hK hR rfl k0.1 0 (Nat.le_of_ble_eq_true rfl) rfl k0.2.1.1 (hts _ q_f_X8_7) (fun _ h9 => h9) dX8_pledge_214 ?_
      refine lv_iconst (pc := 217) hx hb dX8_pledge_217 kc_4 ?_
      refine lv_dup2_11 (pc := 218) hx hb dX8_pledge_218 rfl rfl ?_
      refine xr_ialdk (pc := 219) 4 hx hb hK hR k0.2.1.2.1 k0.2.1.2.2 tn_4 (vl_4 (by decide)) dX8_pledge_219 ?_
      refine lv_iload_n (pc := 220) hx hb dX8_pledge_220 rfl (lv_at hl 3 rfl) ?_
      refine lv_isub (pc := 221) hx hb dX8_pledge_221 ?_
      refine xr_iastk (pc := 222) 4 hx hb hK hR hF hS k0.2.1.2.1 k0.2.1.2.2 tn_4 (vl_4 (by decide)) dX8_pledge_222 (fun H locs hR hS => ?_)
      refine lv_aload_n (pc := 223) hx hb dX8_pledge_223 rfl (lv_at hl 0 rfl) ?_
      refine xr_getR (pc := 224) (ci := 12) hx hb hts inX8 hown hK hR rfl k0.1 0 (Nat.le_of_ble_eq_true rfl) rfl k0.2.1.1 (hts _ q_f_X8_7) (fun _ h9 => h9) dX8_pledge_224 ?_
      refine lv_iconst (pc := 227) hx hb dX8_pledge_227 kc_5 ?_
      refine lv_dup2_11 (pc := 228) hx hb dX8_pledge_228 rfl rfl ?_
      refine xr_ialdk (pc := 229) 5 hx hb hK hR k0.2.1.2.1 k0.2.1.2.2 tn_5 (vl_5 (by decide)) dX8_pledge_229 ?_
      refine lv_iload_n (pc := 230) hx hb dX8_pledge_230 rfl (lv_at hl 3 rfl) ?_
      refine lv_iadd (pc := 231) hx hb dX8_pledge_231 ?_
      refine xr_iastk (pc := 232) 5 hx hb hK hR hF hS k0.2.1.2.1 k0.2.1.2.2 tn_5 (vl_5 (by decide)) dX8_pledge_232 (fun H locs hR hS => ?_)
      refine lv_iload (pc := 233) hx hb dX8_pledge_233 (lv_at hl 4 rfl) ?_
      exact xf_i (pc := 235) hx hb hr rfl hlocks h hR hK hS dX8_pledge_235
    · have h := xneg c11 h
      refine lv_aload_n (pc := 147) hx hb dX8_pledge_147 rfl (lv_at hl 0 rfl) ?_
      refine lv_iload (pc := 148) hx hb dX8_pledge_148 (lv_at hl 4 rfl) ?_
      refine lv_iload (pc := 150) hx hb dX8_pledge_150 (lv_at hl 5 rfl) ?_
      refine lv_iconst (pc := 152) hx hb dX8_pledge_152 kc_0 ?_
      obtain ⟨m17, c17, h⟩ := xbv_inv h
      refine xc_vV (pc := 153) (As := [.int _, .int _, .int _]) (rest := []) ⟨hx, hb, hml, hown, hts⟩ (mX8_lays hF _ _ _ _ k0 c17) (xcwV 3 hts fdX8_lays q_m_X8_79 ⟨Nat.le_of_ble_eq_true rfl, Nat.le_of_ble_eq_true rfl⟩) (xRecv hK hR (ci := 12) rfl k0.1) hR hK hE hS rfl hl.1 rfl (Nat.le_of_ble_eq_true rfl) dX8_pledge_153 ⟨Nat.zero_le _, Nat.zero_le _⟩ (fun H locs hR hS => ?_)
      refine lv_iinc (pc := 156) (lv' := [(5, .int _), (0, .ref _), (1, .int _), (2, .int _), (3, .int _), (4, .int _)]) hx hb dX8_pledge_156 hl (k := 5) rfl (xinc kc_1) (Nat.le_of_ble_eq_true rfl) rfl (fun ls hl => ?_)
      refine lv_goto (pc := 159) (tgt := 140) hx hb dX8_pledge_159 (by decide) ?_
      exact ih _ _ _ _ _ _ h hR hS (lv_sub hl [1, 2, 3, 4, 5, 0] rfl)
set_option maxHeartbeats 1000000 in
set_option maxRecDepth 20000 in
theorem mX8_pledge {l : Launch} {D : va_G} {ca : Nat → ClassId} {z : Nat} {G : xG} {X : va_W} {ad av : Nat → Nat} (hF : xFix z G X) (h0 : Nat) (p1 : Int32) (p2 : Int32) (p3 : Int32) (k0 : xI_Model G h0) {μ μ1 : xM} {r : Int32} (h : fX8_pledge h0 p1 p2 p3 μ = some (r, μ1)) : xMi l yX8_pledge (xws yX8_pledge cX8_pledge 6 (some .int)) 2 D ca z G X ad av [.ref h0, .int p1, .int p2, .int p3] μ r μ1 := by
  refine xm_i (by decide) rfl (Nat.le_of_ble_eq_true rfl) [(0, .ref h0), (1, .int p1), (2, .int p2), (3, .int p3)] rfl ?_
  intro p e s m args below meth c ls hx hb hr hml hlocks hts hown hK hE hR hS hl
  have hts : ∀ w ∈ xAll, w.before args s = true := fun w hw => hts w (List.mem_cons_of_mem _ hw)
  rw [fX8_pledge] at h
  refine lv_aload_n (pc := 0) hx hb dX8_pledge_0 rfl (lv_at hl 0 rfl) ?_
  refine lv_iload_n (pc := 1) hx hb dX8_pledge_1 rfl (lv_at hl 1 rfl) ?_
  refine lv_iconst (pc := 2) hx hb dX8_pledge_2 kc_0 ?_
  refine lv_iconst (pc := 3) hx hb dX8_pledge_3 kc_5 ?_
  obtain ⟨r1, m1, c1, h⟩ := xb_inv h
  refine xc_iS (pc := 4) (As := [.int _, .int _, .int _]) (rest := [.ref _]) ⟨hx, hb, hml, hown, hts⟩ (mX8_in hF _ _ _  c1) (xcwS 3 hts fdX8_in q_m_X8_59 ⟨Nat.le_of_ble_eq_true rfl, Nat.le_of_ble_eq_true rfl⟩) hR hK hE hS rfl hl.1 rfl (Nat.le_of_ble_eq_true rfl) dX8_pledge_4 ⟨Nat.zero_le _, Nat.zero_le _⟩ (fun H locs hR hS => ?_)
  refine lv_if_ne (pc := 7) (tgt := 14) hx hb dX8_pledge_7 (by decide) (fun c2 => ?_) (fun c2 => ?_)
  · have h := xneg c2 h
    refine lv_iload_n (pc := 14) hx hb dX8_pledge_14 rfl (lv_at hl 2 rfl) ?_
    refine lv_iconst (pc := 15) hx hb dX8_pledge_15 kc_1 ?_
    refine lv_sipush (pc := 16) hx hb dX8_pledge_16 ks_999 ?_
    obtain ⟨r3, m3, c3, h⟩ := xb_inv h
    refine xc_iS (pc := 19) (As := [.int _, .int _, .int _]) (rest := [.ref _]) ⟨hx, hb, hml, hown, hts⟩ (mX8_in hF _ _ _  c3) (xcwS 3 hts fdX8_in q_m_X8_59 ⟨Nat.le_of_ble_eq_true rfl, Nat.le_of_ble_eq_true rfl⟩) hR hK hE hS rfl hl.1 rfl (Nat.le_of_ble_eq_true rfl) dX8_pledge_19 ⟨Nat.zero_le _, Nat.zero_le _⟩ (fun H locs hR hS => ?_)
    refine lv_if_eq (pc := 22) (tgt := 34) hx hb dX8_pledge_22 (by decide) (fun c4 => ?_) (fun c4 => ?_)
    · have h := xpos c4 h
      refine lv_iconst (pc := 34) hx hb dX8_pledge_34 kc_2 ?_
      obtain ⟨r5, m5, c5, h⟩ := xb_inv h
      refine xc_iV (pc := 35) (As := [.int _]) (rest := []) ⟨hx, hb, hml, hown, hts⟩ (mX8_fails hF _ _ k0 c5) (xcwV 1 hts fdX8_fails q_m_X8_67 ⟨Nat.le_of_ble_eq_true rfl, Nat.le_of_ble_eq_true rfl⟩) (xRecv hK hR (ci := 12) rfl k0.1) hR hK hE hS rfl hl.1 rfl (Nat.le_of_ble_eq_true rfl) dX8_pledge_35 ⟨Nat.zero_le _, Nat.zero_le _⟩ (fun H locs hR hS => ?_)
      refine lv_if_eq (pc := 38) (tgt := 43) hx hb dX8_pledge_38 (by decide) (fun c6 => ?_) (fun c6 => ?_)
      · have h := xpos c6 h
        refine lv_iload_n (pc := 43) hx hb dX8_pledge_43 rfl (lv_at hl 3 rfl) ?_
        refine lv_iload_n (pc := 44) hx hb dX8_pledge_44 rfl (lv_at hl 2 rfl) ?_
        refine lv_bipush (pc := 45) hx hb dX8_pledge_45 kb_60 ?_
        refine lv_imul (pc := 47) hx hb dX8_pledge_47 ?_
        refine lv_bipush (pc := 48) hx hb dX8_pledge_48 kb_100 ?_
        refine lv_idiv (pc := 50) hx hb dX8_pledge_50 (by decide) ?_
        refine lv_icmp_le (pc := 51) (tgt := 68) hx hb dX8_pledge_51 (by decide) (fun c7 => ?_) (fun c7 => ?_)
        · have h := xpos c7 h
          refine lv_aload_n (pc := 68) hx hb dX8_pledge_68 rfl (lv_at hl 0 rfl) ?_
          refine xr_getR (pc := 69) (ci := 12) hx hb hts inX8 hown hK hR rfl k0.1 0 (Nat.le_of_ble_eq_true rfl) rfl k0.2.1.1 (hts _ q_f_X8_7) (fun _ h9 => h9) dX8_pledge_69 ?_
          refine lv_iconst (pc := 72) hx hb dX8_pledge_72 kc_1 ?_
          refine xr_ialdk (pc := 73) 1 hx hb hK hR k0.2.1.2.1 k0.2.1.2.2 tn_1 (vl_1 (by decide)) dX8_pledge_73 ?_
          refine lv_bipush (pc := 74) hx hb dX8_pledge_74 kb_16 ?_
          refine lv_icmp_ne (pc := 76) (tgt := 88) hx hb dX8_pledge_76 (by decide) (fun c8 => ?_) (fun c8 => ?_)
          · have h := xneg c8 h
            refine lv_iload_n (pc := 88) hx hb dX8_pledge_88 rfl (lv_at hl 3 rfl) ?_
            refine lv_aload_n (pc := 89) hx hb dX8_pledge_89 rfl (lv_at hl 0 rfl) ?_
            refine xr_getR (pc := 90) (ci := 12) hx hb hts inX8 hown hK hR rfl k0.1 0 (Nat.le_of_ble_eq_true rfl) rfl k0.2.1.1 (hts _ q_f_X8_7) (fun _ h9 => h9) dX8_pledge_90 ?_
            refine lv_iconst (pc := 93) hx hb dX8_pledge_93 kc_4 ?_
            refine xr_ialdk (pc := 94) 4 hx hb hK hR k0.2.1.2.1 k0.2.1.2.2 tn_4 (vl_4 (by decide)) dX8_pledge_94 ?_
            refine lv_icmp_le (pc := 95) (tgt := 111) hx hb dX8_pledge_95 (by decide) (fun c9 => ?_) (fun c9 => ?_)
            · have h := xpos c9 h
              refine lv_aload_n (pc := 111) hx hb dX8_pledge_111 rfl (lv_at hl 0 rfl) ?_
              refine lv_aload_n (pc := 112) hx hb dX8_pledge_112 rfl (lv_at hl 0 rfl) ?_
              refine xr_getR (pc := 113) (ci := 12) hx hb hts inX8 hown hK hR rfl k0.1 0 (Nat.le_of_ble_eq_true rfl) rfl k0.2.1.1 (hts _ q_f_X8_7) (fun _ h9 => h9) dX8_pledge_113 ?_
              obtain ⟨m10, c10, h⟩ := xbv_inv h
              refine xc_vV (pc := 116) (As := [.ref _]) (rest := []) ⟨hx, hb, hml, hown, hts⟩ (mX8_keeps hF _ _ k0 k0.2.1.2 c10) (xcwV 1 hts fdX8_keeps q_m_X8_75 ⟨Nat.le_of_ble_eq_true rfl, Nat.le_of_ble_eq_true rfl⟩) (xRecv hK hR (ci := 12) rfl k0.1) hR hK hE hS rfl hl.1 rfl (Nat.le_of_ble_eq_true rfl) dX8_pledge_116 ⟨Nat.zero_le _, Nat.zero_le _⟩ (fun H locs hR hS => ?_)
              refine lv_aload_n (pc := 119) hx hb dX8_pledge_119 rfl (lv_at hl 0 rfl) ?_
              refine xr_getR (pc := 120) (ci := 12) hx hb hts inX8 hown hK hR rfl k0.1 0 (Nat.le_of_ble_eq_true rfl) rfl k0.2.1.1 (hts _ q_f_X8_7) (fun _ h9 => h9) dX8_pledge_120 ?_
              refine lv_iconst (pc := 123) hx hb dX8_pledge_123 kc_1 ?_
              refine xr_ialdk (pc := 124) 1 hx hb hK hR k0.2.1.2.1 k0.2.1.2.2 tn_1 (vl_1 (by decide)) dX8_pledge_124 ?_
              refine lv_istore (pc := 125) (lv' := [(4, .int _), (0, .ref _), (1, .int _), (2, .int _), (3, .int _)]) hx hb dX8_pledge_125 hl (Nat.le_of_ble_eq_true rfl) rfl (fun ls hl => ?_)
              refine lv_aload_n (pc := 127) hx hb dX8_pledge_127 rfl (lv_at hl 1 rfl) ?_
              refine xr_getR (pc := 128) (ci := 12) hx hb hts inX8 hown hK hR rfl k0.1 0 (Nat.le_of_ble_eq_true rfl) rfl k0.2.1.1 (hts _ q_f_X8_7) (fun _ h9 => h9) dX8_pledge_128 ?_
              refine lv_iconst (pc := 131) hx hb dX8_pledge_131 kc_1 ?_
              refine lv_dup2_11 (pc := 132) hx hb dX8_pledge_132 rfl rfl ?_
              refine xr_ialdk (pc := 133) 1 hx hb hK hR k0.2.1.2.1 k0.2.1.2.2 tn_1 (vl_1 (by decide)) dX8_pledge_133 ?_
              refine lv_iconst (pc := 134) hx hb dX8_pledge_134 kc_1 ?_
              refine lv_iadd (pc := 135) hx hb dX8_pledge_135 ?_
              refine xr_iastk (pc := 136) 1 hx hb hK hR hF hS k0.2.1.2.1 k0.2.1.2.2 tn_1 (vl_1 (by decide)) dX8_pledge_136 (fun H locs hR hS => ?_)
              refine lv_iconst (pc := 137) hx hb dX8_pledge_137 kc_0 ?_
              refine lv_istore (pc := 138) (lv' := [(5, .int _), (4, .int _), (0, .ref _), (1, .int _), (2, .int _), (3, .int _)]) hx hb dX8_pledge_138 hl (Nat.le_of_ble_eq_true rfl) rfl (fun ls hl => ?_)
              exact wX8_pledge_140 hF h0 p1 p2 p3 k0 hx hb hr hml hlocks hts hown hK hE _ _ _ _ _ _ _ h hR hS (lv_sub hl [2, 3, 4, 5, 1, 0] rfl)
            · have h := xneg c9 h
              refine lv_aload_n (pc := 98) hx hb dX8_pledge_98 rfl (lv_at hl 0 rfl) ?_
              refine lv_iconst (pc := 99) hx hb dX8_pledge_99 kc_3 ?_
              refine lv_iconst (pc := 100) hx hb dX8_pledge_100 kc_3 ?_
              refine lv_aload_n (pc := 101) hx hb dX8_pledge_101 rfl (lv_at hl 0 rfl) ?_
              refine xr_getR (pc := 102) (ci := 12) hx hb hts inX8 hown hK hR rfl k0.1 0 (Nat.le_of_ble_eq_true rfl) rfl k0.2.1.1 (hts _ q_f_X8_7) (fun _ h9 => h9) dX8_pledge_102 ?_
              refine lv_iconst (pc := 105) hx hb dX8_pledge_105 kc_4 ?_
              refine xr_ialdk (pc := 106) 4 hx hb hK hR k0.2.1.2.1 k0.2.1.2.2 tn_4 (vl_4 (by decide)) dX8_pledge_106 ?_
              obtain ⟨r18, m18, c18, h⟩ := xb_inv h
              refine xc_iV (pc := 107) (As := [.int _, .int _, .int _]) (rest := []) ⟨hx, hb, hml, hown, hts⟩ (mX8_refuses hF _ _ _ _ k0 c18) (xcwV 3 hts fdX8_refuses q_m_X8_71 ⟨Nat.le_of_ble_eq_true rfl, Nat.le_of_ble_eq_true rfl⟩) (xRecv hK hR (ci := 12) rfl k0.1) hR hK hE hS rfl hl.1 rfl (Nat.le_of_ble_eq_true rfl) dX8_pledge_107 ⟨Nat.zero_le _, Nat.zero_le _⟩ (fun H locs hR hS => ?_)
              exact xf_i (pc := 110) hx hb hr rfl hlocks h hR hK hS dX8_pledge_110
          · have h := xpos c8 h
            refine lv_aload_n (pc := 79) hx hb dX8_pledge_79 rfl (lv_at hl 0 rfl) ?_
            refine lv_iconst (pc := 80) hx hb dX8_pledge_80 kc_3 ?_
            refine lv_iconst (pc := 81) hx hb dX8_pledge_81 kc_1 ?_
            refine lv_bipush (pc := 82) hx hb dX8_pledge_82 kb_16 ?_
            obtain ⟨r19, m19, c19, h⟩ := xb_inv h
            refine xc_iV (pc := 84) (As := [.int _, .int _, .int _]) (rest := []) ⟨hx, hb, hml, hown, hts⟩ (mX8_refuses hF _ _ _ _ k0 c19) (xcwV 3 hts fdX8_refuses q_m_X8_71 ⟨Nat.le_of_ble_eq_true rfl, Nat.le_of_ble_eq_true rfl⟩) (xRecv hK hR (ci := 12) rfl k0.1) hR hK hE hS rfl hl.1 rfl (Nat.le_of_ble_eq_true rfl) dX8_pledge_84 ⟨Nat.zero_le _, Nat.zero_le _⟩ (fun H locs hR hS => ?_)
            exact xf_i (pc := 87) hx hb hr rfl hlocks h hR hK hS dX8_pledge_87
        · have h := xneg c7 h
          refine lv_aload_n (pc := 54) hx hb dX8_pledge_54 rfl (lv_at hl 0 rfl) ?_
          refine lv_iconst (pc := 55) hx hb dX8_pledge_55 kc_3 ?_
          refine lv_iconst (pc := 56) hx hb dX8_pledge_56 kc_2 ?_
          refine lv_iload_n (pc := 57) hx hb dX8_pledge_57 rfl (lv_at hl 2 rfl) ?_
          refine lv_bipush (pc := 58) hx hb dX8_pledge_58 kb_60 ?_
          refine lv_imul (pc := 60) hx hb dX8_pledge_60 ?_
          refine lv_bipush (pc := 61) hx hb dX8_pledge_61 kb_100 ?_
          refine lv_idiv (pc := 63) hx hb dX8_pledge_63 (by decide) ?_
          obtain ⟨r20, m20, c20, h⟩ := xb_inv h
          refine xc_iV (pc := 64) (As := [.int _, .int _, .int _]) (rest := []) ⟨hx, hb, hml, hown, hts⟩ (mX8_refuses hF _ _ _ _ k0 c20) (xcwV 3 hts fdX8_refuses q_m_X8_71 ⟨Nat.le_of_ble_eq_true rfl, Nat.le_of_ble_eq_true rfl⟩) (xRecv hK hR (ci := 12) rfl k0.1) hR hK hE hS rfl hl.1 rfl (Nat.le_of_ble_eq_true rfl) dX8_pledge_64 ⟨Nat.zero_le _, Nat.zero_le _⟩ (fun H locs hR hS => ?_)
          exact xf_i (pc := 67) hx hb hr rfl hlocks h hR hK hS dX8_pledge_67
      · have h := xneg c6 h
        refine lv_iconst (pc := 41) hx hb dX8_pledge_41 kc_0 ?_
        exact xf_i (pc := 42) hx hb hr rfl hlocks h hR hK hS dX8_pledge_42
    · have h := xneg c4 h
      refine lv_iload_n (pc := 25) hx hb dX8_pledge_25 rfl (lv_at hl 3 rfl) ?_
      refine lv_iconst (pc := 26) hx hb dX8_pledge_26 kc_1 ?_
      refine lv_icmp_lt (pc := 27) (tgt := 34) hx hb dX8_pledge_27 (by decide) (fun c21 => ?_) (fun c21 => ?_)
      · have h := xpos c21 h
        refine lv_iconst (pc := 34) hx hb dX8_pledge_34 kc_2 ?_
        obtain ⟨r22, m22, c22, h⟩ := xb_inv h
        refine xc_iV (pc := 35) (As := [.int _]) (rest := []) ⟨hx, hb, hml, hown, hts⟩ (mX8_fails hF _ _ k0 c22) (xcwV 1 hts fdX8_fails q_m_X8_67 ⟨Nat.le_of_ble_eq_true rfl, Nat.le_of_ble_eq_true rfl⟩) (xRecv hK hR (ci := 12) rfl k0.1) hR hK hE hS rfl hl.1 rfl (Nat.le_of_ble_eq_true rfl) dX8_pledge_35 ⟨Nat.zero_le _, Nat.zero_le _⟩ (fun H locs hR hS => ?_)
        refine lv_if_eq (pc := 38) (tgt := 43) hx hb dX8_pledge_38 (by decide) (fun c23 => ?_) (fun c23 => ?_)
        · have h := xpos c23 h
          refine lv_iload_n (pc := 43) hx hb dX8_pledge_43 rfl (lv_at hl 3 rfl) ?_
          refine lv_iload_n (pc := 44) hx hb dX8_pledge_44 rfl (lv_at hl 2 rfl) ?_
          refine lv_bipush (pc := 45) hx hb dX8_pledge_45 kb_60 ?_
          refine lv_imul (pc := 47) hx hb dX8_pledge_47 ?_
          refine lv_bipush (pc := 48) hx hb dX8_pledge_48 kb_100 ?_
          refine lv_idiv (pc := 50) hx hb dX8_pledge_50 (by decide) ?_
          refine lv_icmp_le (pc := 51) (tgt := 68) hx hb dX8_pledge_51 (by decide) (fun c24 => ?_) (fun c24 => ?_)
          · have h := xpos c24 h
            refine lv_aload_n (pc := 68) hx hb dX8_pledge_68 rfl (lv_at hl 0 rfl) ?_
            refine xr_getR (pc := 69) (ci := 12) hx hb hts inX8 hown hK hR rfl k0.1 0 (Nat.le_of_ble_eq_true rfl) rfl k0.2.1.1 (hts _ q_f_X8_7) (fun _ h9 => h9) dX8_pledge_69 ?_
            refine lv_iconst (pc := 72) hx hb dX8_pledge_72 kc_1 ?_
            refine xr_ialdk (pc := 73) 1 hx hb hK hR k0.2.1.2.1 k0.2.1.2.2 tn_1 (vl_1 (by decide)) dX8_pledge_73 ?_
            refine lv_bipush (pc := 74) hx hb dX8_pledge_74 kb_16 ?_
            refine lv_icmp_ne (pc := 76) (tgt := 88) hx hb dX8_pledge_76 (by decide) (fun c25 => ?_) (fun c25 => ?_)
            · have h := xneg c25 h
              refine lv_iload_n (pc := 88) hx hb dX8_pledge_88 rfl (lv_at hl 3 rfl) ?_
              refine lv_aload_n (pc := 89) hx hb dX8_pledge_89 rfl (lv_at hl 0 rfl) ?_
              refine xr_getR (pc := 90) (ci := 12) hx hb hts inX8 hown hK hR rfl k0.1 0 (Nat.le_of_ble_eq_true rfl) rfl k0.2.1.1 (hts _ q_f_X8_7) (fun _ h9 => h9) dX8_pledge_90 ?_
              refine lv_iconst (pc := 93) hx hb dX8_pledge_93 kc_4 ?_
              refine xr_ialdk (pc := 94) 4 hx hb hK hR k0.2.1.2.1 k0.2.1.2.2 tn_4 (vl_4 (by decide)) dX8_pledge_94 ?_
              refine lv_icmp_le (pc := 95) (tgt := 111) hx hb dX8_pledge_95 (by decide) (fun c26 => ?_) (fun c26 => ?_)
              · have h := xpos c26 h
                refine lv_aload_n (pc := 111) hx hb dX8_pledge_111 rfl (lv_at hl 0 rfl) ?_
                refine lv_aload_n (pc := 112) hx hb dX8_pledge_112 rfl (lv_at hl 0 rfl) ?_
                refine xr_getR (pc := 113) (ci := 12) hx hb hts inX8 hown hK hR rfl k0.1 0 (Nat.le_of_ble_eq_true rfl) rfl k0.2.1.1 (hts _ q_f_X8_7) (fun _ h9 => h9) dX8_pledge_113 ?_
                obtain ⟨m27, c27, h⟩ := xbv_inv h
                refine xc_vV (pc := 116) (As := [.ref _]) (rest := []) ⟨hx, hb, hml, hown, hts⟩ (mX8_keeps hF _ _ k0 k0.2.1.2 c27) (xcwV 1 hts fdX8_keeps q_m_X8_75 ⟨Nat.le_of_ble_eq_true rfl, Nat.le_of_ble_eq_true rfl⟩) (xRecv hK hR (ci := 12) rfl k0.1) hR hK hE hS rfl hl.1 rfl (Nat.le_of_ble_eq_true rfl) dX8_pledge_116 ⟨Nat.zero_le _, Nat.zero_le _⟩ (fun H locs hR hS => ?_)
                refine lv_aload_n (pc := 119) hx hb dX8_pledge_119 rfl (lv_at hl 0 rfl) ?_
                refine xr_getR (pc := 120) (ci := 12) hx hb hts inX8 hown hK hR rfl k0.1 0 (Nat.le_of_ble_eq_true rfl) rfl k0.2.1.1 (hts _ q_f_X8_7) (fun _ h9 => h9) dX8_pledge_120 ?_
                refine lv_iconst (pc := 123) hx hb dX8_pledge_123 kc_1 ?_
                refine xr_ialdk (pc := 124) 1 hx hb hK hR k0.2.1.2.1 k0.2.1.2.2 tn_1 (vl_1 (by decide)) dX8_pledge_124 ?_
                refine lv_istore (pc := 125) (lv' := [(4, .int _), (0, .ref _), (1, .int _), (2, .int _), (3, .int _)]) hx hb dX8_pledge_125 hl (Nat.le_of_ble_eq_true rfl) rfl (fun ls hl => ?_)
                refine lv_aload_n (pc := 127) hx hb dX8_pledge_127 rfl (lv_at hl 1 rfl) ?_
                refine xr_getR (pc := 128) (ci := 12) hx hb hts inX8 hown hK hR rfl k0.1 0 (Nat.le_of_ble_eq_true rfl) rfl k0.2.1.1 (hts _ q_f_X8_7) (fun _ h9 => h9) dX8_pledge_128 ?_
                refine lv_iconst (pc := 131) hx hb dX8_pledge_131 kc_1 ?_
                refine lv_dup2_11 (pc := 132) hx hb dX8_pledge_132 rfl rfl ?_
                refine xr_ialdk (pc := 133) 1 hx hb hK hR k0.2.1.2.1 k0.2.1.2.2 tn_1 (vl_1 (by decide)) dX8_pledge_133 ?_
                refine lv_iconst (pc := 134) hx hb dX8_pledge_134 kc_1 ?_
                refine lv_iadd (pc := 135) hx hb dX8_pledge_135 ?_
                refine xr_iastk (pc := 136) 1 hx hb hK hR hF hS k0.2.1.2.1 k0.2.1.2.2 tn_1 (vl_1 (by decide)) dX8_pledge_136 (fun H locs hR hS => ?_)
                refine lv_iconst (pc := 137) hx hb dX8_pledge_137 kc_0 ?_
                refine lv_istore (pc := 138) (lv' := [(5, .int _), (4, .int _), (0, .ref _), (1, .int _), (2, .int _), (3, .int _)]) hx hb dX8_pledge_138 hl (Nat.le_of_ble_eq_true rfl) rfl (fun ls hl => ?_)
                exact wX8_pledge_140 hF h0 p1 p2 p3 k0 hx hb hr hml hlocks hts hown hK hE _ _ _ _ _ _ _ h hR hS (lv_sub hl [2, 3, 4, 5, 1, 0] rfl)
              · have h := xneg c26 h
                refine lv_aload_n (pc := 98) hx hb dX8_pledge_98 rfl (lv_at hl 0 rfl) ?_
                refine lv_iconst (pc := 99) hx hb dX8_pledge_99 kc_3 ?_
                refine lv_iconst (pc := 100) hx hb dX8_pledge_100 kc_3 ?_
                refine lv_aload_n (pc := 101) hx hb dX8_pledge_101 rfl (lv_at hl 0 rfl) ?_
                refine xr_getR (pc := 102) (ci := 12) hx hb hts inX8 hown hK hR rfl k0.1 0 (Nat.le_of_ble_eq_true rfl) rfl k0.2.1.1 (hts _ q_f_X8_7) (fun _ h9 => h9) dX8_pledge_102 ?_
                refine lv_iconst (pc := 105) hx hb dX8_pledge_105 kc_4 ?_
                refine xr_ialdk (pc := 106) 4 hx hb hK hR k0.2.1.2.1 k0.2.1.2.2 tn_4 (vl_4 (by decide)) dX8_pledge_106 ?_
                obtain ⟨r28, m28, c28, h⟩ := xb_inv h
                refine xc_iV (pc := 107) (As := [.int _, .int _, .int _]) (rest := []) ⟨hx, hb, hml, hown, hts⟩ (mX8_refuses hF _ _ _ _ k0 c28) (xcwV 3 hts fdX8_refuses q_m_X8_71 ⟨Nat.le_of_ble_eq_true rfl, Nat.le_of_ble_eq_true rfl⟩) (xRecv hK hR (ci := 12) rfl k0.1) hR hK hE hS rfl hl.1 rfl (Nat.le_of_ble_eq_true rfl) dX8_pledge_107 ⟨Nat.zero_le _, Nat.zero_le _⟩ (fun H locs hR hS => ?_)
                exact xf_i (pc := 110) hx hb hr rfl hlocks h hR hK hS dX8_pledge_110
            · have h := xpos c25 h
              refine lv_aload_n (pc := 79) hx hb dX8_pledge_79 rfl (lv_at hl 0 rfl) ?_
              refine lv_iconst (pc := 80) hx hb dX8_pledge_80 kc_3 ?_
              refine lv_iconst (pc := 81) hx hb dX8_pledge_81 kc_1 ?_
              refine lv_bipush (pc := 82) hx hb dX8_pledge_82 kb_16 ?_
              obtain ⟨r29, m29, c29, h⟩ := xb_inv h
              refine xc_iV (pc := 84) (As := [.int _, .int _, .int _]) (rest := []) ⟨hx, hb, hml, hown, hts⟩ (mX8_refuses hF _ _ _ _ k0 c29) (xcwV 3 hts fdX8_refuses q_m_X8_71 ⟨Nat.le_of_ble_eq_true rfl, Nat.le_of_ble_eq_true rfl⟩) (xRecv hK hR (ci := 12) rfl k0.1) hR hK hE hS rfl hl.1 rfl (Nat.le_of_ble_eq_true rfl) dX8_pledge_84 ⟨Nat.zero_le _, Nat.zero_le _⟩ (fun H locs hR hS => ?_)
              exact xf_i (pc := 87) hx hb hr rfl hlocks h hR hK hS dX8_pledge_87
          · have h := xneg c24 h
            refine lv_aload_n (pc := 54) hx hb dX8_pledge_54 rfl (lv_at hl 0 rfl) ?_
            refine lv_iconst (pc := 55) hx hb dX8_pledge_55 kc_3 ?_
            refine lv_iconst (pc := 56) hx hb dX8_pledge_56 kc_2 ?_
            refine lv_iload_n (pc := 57) hx hb dX8_pledge_57 rfl (lv_at hl 2 rfl) ?_
            refine lv_bipush (pc := 58) hx hb dX8_pledge_58 kb_60 ?_
            refine lv_imul (pc := 60) hx hb dX8_pledge_60 ?_
            refine lv_bipush (pc := 61) hx hb dX8_pledge_61 kb_100 ?_
            refine lv_idiv (pc := 63) hx hb dX8_pledge_63 (by decide) ?_
            obtain ⟨r30, m30, c30, h⟩ := xb_inv h
            refine xc_iV (pc := 64) (As := [.int _, .int _, .int _]) (rest := []) ⟨hx, hb, hml, hown, hts⟩ (mX8_refuses hF _ _ _ _ k0 c30) (xcwV 3 hts fdX8_refuses q_m_X8_71 ⟨Nat.le_of_ble_eq_true rfl, Nat.le_of_ble_eq_true rfl⟩) (xRecv hK hR (ci := 12) rfl k0.1) hR hK hE hS rfl hl.1 rfl (Nat.le_of_ble_eq_true rfl) dX8_pledge_64 ⟨Nat.zero_le _, Nat.zero_le _⟩ (fun H locs hR hS => ?_)
            exact xf_i (pc := 67) hx hb hr rfl hlocks h hR hK hS dX8_pledge_67
        · have h := xneg c23 h
          refine lv_iconst (pc := 41) hx hb dX8_pledge_41 kc_0 ?_
          exact xf_i (pc := 42) hx hb hr rfl hlocks h hR hK hS dX8_pledge_42
      · have h := xneg c21 h
        refine lv_iconst (pc := 30) hx hb dX8_pledge_30 kc_0 ?_
        refine lv_goto (pc := 31) (tgt := 35) hx hb dX8_pledge_31 (by decide) ?_
        obtain ⟨r31, m31, c31, h⟩ := xb_inv h
        refine xc_iV (pc := 35) (As := [.int _]) (rest := []) ⟨hx, hb, hml, hown, hts⟩ (mX8_fails hF _ _ k0 c31) (xcwV 1 hts fdX8_fails q_m_X8_67 ⟨Nat.le_of_ble_eq_true rfl, Nat.le_of_ble_eq_true rfl⟩) (xRecv hK hR (ci := 12) rfl k0.1) hR hK hE hS rfl hl.1 rfl (Nat.le_of_ble_eq_true rfl) dX8_pledge_35 ⟨Nat.zero_le _, Nat.zero_le _⟩ (fun H locs hR hS => ?_)
        refine lv_if_eq (pc := 38) (tgt := 43) hx hb dX8_pledge_38 (by decide) (fun c32 => ?_) (fun c32 => ?_)
        · have h := xpos c32 h
          refine lv_iload_n (pc := 43) hx hb dX8_pledge_43 rfl (lv_at hl 3 rfl) ?_
          refine lv_iload_n (pc := 44) hx hb dX8_pledge_44 rfl (lv_at hl 2 rfl) ?_
          refine lv_bipush (pc := 45) hx hb dX8_pledge_45 kb_60 ?_
          refine lv_imul (pc := 47) hx hb dX8_pledge_47 ?_
          refine lv_bipush (pc := 48) hx hb dX8_pledge_48 kb_100 ?_
          refine lv_idiv (pc := 50) hx hb dX8_pledge_50 (by decide) ?_
          refine lv_icmp_le (pc := 51) (tgt := 68) hx hb dX8_pledge_51 (by decide) (fun c33 => ?_) (fun c33 => ?_)
          · have h := xpos c33 h
            refine lv_aload_n (pc := 68) hx hb dX8_pledge_68 rfl (lv_at hl 0 rfl) ?_
            refine xr_getR (pc := 69) (ci := 12) hx hb hts inX8 hown hK hR rfl k0.1 0 (Nat.le_of_ble_eq_true rfl) rfl k0.2.1.1 (hts _ q_f_X8_7) (fun _ h9 => h9) dX8_pledge_69 ?_
            refine lv_iconst (pc := 72) hx hb dX8_pledge_72 kc_1 ?_
            refine xr_ialdk (pc := 73) 1 hx hb hK hR k0.2.1.2.1 k0.2.1.2.2 tn_1 (vl_1 (by decide)) dX8_pledge_73 ?_
            refine lv_bipush (pc := 74) hx hb dX8_pledge_74 kb_16 ?_
            refine lv_icmp_ne (pc := 76) (tgt := 88) hx hb dX8_pledge_76 (by decide) (fun c34 => ?_) (fun c34 => ?_)
            · have h := xneg c34 h
              refine lv_iload_n (pc := 88) hx hb dX8_pledge_88 rfl (lv_at hl 3 rfl) ?_
              refine lv_aload_n (pc := 89) hx hb dX8_pledge_89 rfl (lv_at hl 0 rfl) ?_
              refine xr_getR (pc := 90) (ci := 12) hx hb hts inX8 hown hK hR rfl k0.1 0 (Nat.le_of_ble_eq_true rfl) rfl k0.2.1.1 (hts _ q_f_X8_7) (fun _ h9 => h9) dX8_pledge_90 ?_
              refine lv_iconst (pc := 93) hx hb dX8_pledge_93 kc_4 ?_
              refine xr_ialdk (pc := 94) 4 hx hb hK hR k0.2.1.2.1 k0.2.1.2.2 tn_4 (vl_4 (by decide)) dX8_pledge_94 ?_
              refine lv_icmp_le (pc := 95) (tgt := 111) hx hb dX8_pledge_95 (by decide) (fun c35 => ?_) (fun c35 => ?_)
              · have h := xpos c35 h
                refine lv_aload_n (pc := 111) hx hb dX8_pledge_111 rfl (lv_at hl 0 rfl) ?_
                refine lv_aload_n (pc := 112) hx hb dX8_pledge_112 rfl (lv_at hl 0 rfl) ?_
                refine xr_getR (pc := 113) (ci := 12) hx hb hts inX8 hown hK hR rfl k0.1 0 (Nat.le_of_ble_eq_true rfl) rfl k0.2.1.1 (hts _ q_f_X8_7) (fun _ h9 => h9) dX8_pledge_113 ?_
                obtain ⟨m36, c36, h⟩ := xbv_inv h
                refine xc_vV (pc := 116) (As := [.ref _]) (rest := []) ⟨hx, hb, hml, hown, hts⟩ (mX8_keeps hF _ _ k0 k0.2.1.2 c36) (xcwV 1 hts fdX8_keeps q_m_X8_75 ⟨Nat.le_of_ble_eq_true rfl, Nat.le_of_ble_eq_true rfl⟩) (xRecv hK hR (ci := 12) rfl k0.1) hR hK hE hS rfl hl.1 rfl (Nat.le_of_ble_eq_true rfl) dX8_pledge_116 ⟨Nat.zero_le _, Nat.zero_le _⟩ (fun H locs hR hS => ?_)
                refine lv_aload_n (pc := 119) hx hb dX8_pledge_119 rfl (lv_at hl 0 rfl) ?_
                refine xr_getR (pc := 120) (ci := 12) hx hb hts inX8 hown hK hR rfl k0.1 0 (Nat.le_of_ble_eq_true rfl) rfl k0.2.1.1 (hts _ q_f_X8_7) (fun _ h9 => h9) dX8_pledge_120 ?_
                refine lv_iconst (pc := 123) hx hb dX8_pledge_123 kc_1 ?_
                refine xr_ialdk (pc := 124) 1 hx hb hK hR k0.2.1.2.1 k0.2.1.2.2 tn_1 (vl_1 (by decide)) dX8_pledge_124 ?_
                refine lv_istore (pc := 125) (lv' := [(4, .int _), (0, .ref _), (1, .int _), (2, .int _), (3, .int _)]) hx hb dX8_pledge_125 hl (Nat.le_of_ble_eq_true rfl) rfl (fun ls hl => ?_)
                refine lv_aload_n (pc := 127) hx hb dX8_pledge_127 rfl (lv_at hl 1 rfl) ?_
                refine xr_getR (pc := 128) (ci := 12) hx hb hts inX8 hown hK hR rfl k0.1 0 (Nat.le_of_ble_eq_true rfl) rfl k0.2.1.1 (hts _ q_f_X8_7) (fun _ h9 => h9) dX8_pledge_128 ?_
                refine lv_iconst (pc := 131) hx hb dX8_pledge_131 kc_1 ?_
                refine lv_dup2_11 (pc := 132) hx hb dX8_pledge_132 rfl rfl ?_
                refine xr_ialdk (pc := 133) 1 hx hb hK hR k0.2.1.2.1 k0.2.1.2.2 tn_1 (vl_1 (by decide)) dX8_pledge_133 ?_
                refine lv_iconst (pc := 134) hx hb dX8_pledge_134 kc_1 ?_
                refine lv_iadd (pc := 135) hx hb dX8_pledge_135 ?_
                refine xr_iastk (pc := 136) 1 hx hb hK hR hF hS k0.2.1.2.1 k0.2.1.2.2 tn_1 (vl_1 (by decide)) dX8_pledge_136 (fun H locs hR hS => ?_)
                refine lv_iconst (pc := 137) hx hb dX8_pledge_137 kc_0 ?_
                refine lv_istore (pc := 138) (lv' := [(5, .int _), (4, .int _), (0, .ref _), (1, .int _), (2, .int _), (3, .int _)]) hx hb dX8_pledge_138 hl (Nat.le_of_ble_eq_true rfl) rfl (fun ls hl => ?_)
                exact wX8_pledge_140 hF h0 p1 p2 p3 k0 hx hb hr hml hlocks hts hown hK hE _ _ _ _ _ _ _ h hR hS (lv_sub hl [2, 3, 4, 5, 1, 0] rfl)
              · have h := xneg c35 h
                refine lv_aload_n (pc := 98) hx hb dX8_pledge_98 rfl (lv_at hl 0 rfl) ?_
                refine lv_iconst (pc := 99) hx hb dX8_pledge_99 kc_3 ?_
                refine lv_iconst (pc := 100) hx hb dX8_pledge_100 kc_3 ?_
                refine lv_aload_n (pc := 101) hx hb dX8_pledge_101 rfl (lv_at hl 0 rfl) ?_
                refine xr_getR (pc := 102) (ci := 12) hx hb hts inX8 hown hK hR rfl k0.1 0 (Nat.le_of_ble_eq_true rfl) rfl k0.2.1.1 (hts _ q_f_X8_7) (fun _ h9 => h9) dX8_pledge_102 ?_
                refine lv_iconst (pc := 105) hx hb dX8_pledge_105 kc_4 ?_
                refine xr_ialdk (pc := 106) 4 hx hb hK hR k0.2.1.2.1 k0.2.1.2.2 tn_4 (vl_4 (by decide)) dX8_pledge_106 ?_
                obtain ⟨r37, m37, c37, h⟩ := xb_inv h
                refine xc_iV (pc := 107) (As := [.int _, .int _, .int _]) (rest := []) ⟨hx, hb, hml, hown, hts⟩ (mX8_refuses hF _ _ _ _ k0 c37) (xcwV 3 hts fdX8_refuses q_m_X8_71 ⟨Nat.le_of_ble_eq_true rfl, Nat.le_of_ble_eq_true rfl⟩) (xRecv hK hR (ci := 12) rfl k0.1) hR hK hE hS rfl hl.1 rfl (Nat.le_of_ble_eq_true rfl) dX8_pledge_107 ⟨Nat.zero_le _, Nat.zero_le _⟩ (fun H locs hR hS => ?_)
                exact xf_i (pc := 110) hx hb hr rfl hlocks h hR hK hS dX8_pledge_110
            · have h := xpos c34 h
              refine lv_aload_n (pc := 79) hx hb dX8_pledge_79 rfl (lv_at hl 0 rfl) ?_
              refine lv_iconst (pc := 80) hx hb dX8_pledge_80 kc_3 ?_
              refine lv_iconst (pc := 81) hx hb dX8_pledge_81 kc_1 ?_
              refine lv_bipush (pc := 82) hx hb dX8_pledge_82 kb_16 ?_
              obtain ⟨r38, m38, c38, h⟩ := xb_inv h
              refine xc_iV (pc := 84) (As := [.int _, .int _, .int _]) (rest := []) ⟨hx, hb, hml, hown, hts⟩ (mX8_refuses hF _ _ _ _ k0 c38) (xcwV 3 hts fdX8_refuses q_m_X8_71 ⟨Nat.le_of_ble_eq_true rfl, Nat.le_of_ble_eq_true rfl⟩) (xRecv hK hR (ci := 12) rfl k0.1) hR hK hE hS rfl hl.1 rfl (Nat.le_of_ble_eq_true rfl) dX8_pledge_84 ⟨Nat.zero_le _, Nat.zero_le _⟩ (fun H locs hR hS => ?_)
              exact xf_i (pc := 87) hx hb hr rfl hlocks h hR hK hS dX8_pledge_87
          · have h := xneg c33 h
            refine lv_aload_n (pc := 54) hx hb dX8_pledge_54 rfl (lv_at hl 0 rfl) ?_
            refine lv_iconst (pc := 55) hx hb dX8_pledge_55 kc_3 ?_
            refine lv_iconst (pc := 56) hx hb dX8_pledge_56 kc_2 ?_
            refine lv_iload_n (pc := 57) hx hb dX8_pledge_57 rfl (lv_at hl 2 rfl) ?_
            refine lv_bipush (pc := 58) hx hb dX8_pledge_58 kb_60 ?_
            refine lv_imul (pc := 60) hx hb dX8_pledge_60 ?_
            refine lv_bipush (pc := 61) hx hb dX8_pledge_61 kb_100 ?_
            refine lv_idiv (pc := 63) hx hb dX8_pledge_63 (by decide) ?_
            obtain ⟨r39, m39, c39, h⟩ := xb_inv h
            refine xc_iV (pc := 64) (As := [.int _, .int _, .int _]) (rest := []) ⟨hx, hb, hml, hown, hts⟩ (mX8_refuses hF _ _ _ _ k0 c39) (xcwV 3 hts fdX8_refuses q_m_X8_71 ⟨Nat.le_of_ble_eq_true rfl, Nat.le_of_ble_eq_true rfl⟩) (xRecv hK hR (ci := 12) rfl k0.1) hR hK hE hS rfl hl.1 rfl (Nat.le_of_ble_eq_true rfl) dX8_pledge_64 ⟨Nat.zero_le _, Nat.zero_le _⟩ (fun H locs hR hS => ?_)
            exact xf_i (pc := 67) hx hb hr rfl hlocks h hR hK hS dX8_pledge_67
        · have h := xneg c32 h
          refine lv_iconst (pc := 41) hx hb dX8_pledge_41 kc_0 ?_
          exact xf_i (pc := 42) hx hb hr rfl hlocks h hR hK hS dX8_pledge_42
  · have h := xpos c2 h
    refine lv_iconst (pc := 10) hx hb dX8_pledge_10 kc_1 ?_
    refine lv_goto (pc := 11) (tgt := 35) hx hb dX8_pledge_11 (by decide) ?_
    obtain ⟨r40, m40, c40, h⟩ := xb_inv h
    refine xc_iV (pc := 35) (As := [.int _]) (rest := []) ⟨hx, hb, hml, hown, hts⟩ (mX8_fails hF _ _ k0 c40) (xcwV 1 hts fdX8_fails q_m_X8_67 ⟨Nat.le_of_ble_eq_true rfl, Nat.le_of_ble_eq_true rfl⟩) (xRecv hK hR (ci := 12) rfl k0.1) hR hK hE hS rfl hl.1 rfl (Nat.le_of_ble_eq_true rfl) dX8_pledge_35 ⟨Nat.zero_le _, Nat.zero_le _⟩ (fun H locs hR hS => ?_)
    refine lv_if_eq (pc := 38) (tgt := 43) hx hb dX8_pledge_38 (by decide) (fun c41 => ?_) (fun c41 => ?_)
    · have h := xpos c41 h
      refine lv_iload_n (pc := 43) hx hb dX8_pledge_43 rfl (lv_at hl 3 rfl) ?_
      refine lv_iload_n (pc := 44) hx hb dX8_pledge_44 rfl (lv_at hl 2 rfl) ?_
      refine lv_bipush (pc := 45) hx hb dX8_pledge_45 kb_60 ?_
      refine lv_imul (pc := 47) hx hb dX8_pledge_47 ?_
      refine lv_bipush (pc := 48) hx hb dX8_pledge_48 kb_100 ?_
      refine lv_idiv (pc := 50) hx hb dX8_pledge_50 (by decide) ?_
      refine lv_icmp_le (pc := 51) (tgt := 68) hx hb dX8_pledge_51 (by decide) (fun c42 => ?_) (fun c42 => ?_)
      · have h := xpos c42 h
        refine lv_aload_n (pc := 68) hx hb dX8_pledge_68 rfl (lv_at hl 0 rfl) ?_
        refine xr_getR (pc := 69) (ci := 12) hx hb hts inX8 hown hK hR rfl k0.1 0 (Nat.le_of_ble_eq_true rfl) rfl k0.2.1.1 (hts _ q_f_X8_7) (fun _ h9 => h9) dX8_pledge_69 ?_
        refine lv_iconst (pc := 72) hx hb dX8_pledge_72 kc_1 ?_
        refine xr_ialdk (pc := 73) 1 hx hb hK hR k0.2.1.2.1 k0.2.1.2.2 tn_1 (vl_1 (by decide)) dX8_pledge_73 ?_
        refine lv_bipush (pc := 74) hx hb dX8_pledge_74 kb_16 ?_
        refine lv_icmp_ne (pc := 76) (tgt := 88) hx hb dX8_pledge_76 (by decide) (fun c43 => ?_) (fun c43 => ?_)
        · have h := xneg c43 h
          refine lv_iload_n (pc := 88) hx hb dX8_pledge_88 rfl (lv_at hl 3 rfl) ?_
          refine lv_aload_n (pc := 89) hx hb dX8_pledge_89 rfl (lv_at hl 0 rfl) ?_
          refine xr_getR (pc := 90) (ci := 12) hx hb hts inX8 hown hK hR rfl k0.1 0 (Nat.le_of_ble_eq_true rfl) rfl k0.2.1.1 (hts _ q_f_X8_7) (fun _ h9 => h9) dX8_pledge_90 ?_
          refine lv_iconst (pc := 93) hx hb dX8_pledge_93 kc_4 ?_
          refine xr_ialdk (pc := 94) 4 hx hb hK hR k0.2.1.2.1 k0.2.1.2.2 tn_4 (vl_4 (by decide)) dX8_pledge_94 ?_
          refine lv_icmp_le (pc := 95) (tgt := 111) hx hb dX8_pledge_95 (by decide) (fun c44 => ?_) (fun c44 => ?_)
          · have h := xpos c44 h
            refine lv_aload_n (pc := 111) hx hb dX8_pledge_111 rfl (lv_at hl 0 rfl) ?_
            refine lv_aload_n (pc := 112) hx hb dX8_pledge_112 rfl (lv_at hl 0 rfl) ?_
            refine xr_getR (pc := 113) (ci := 12) hx hb hts inX8 hown hK hR rfl k0.1 0 (Nat.le_of_ble_eq_true rfl) rfl k0.2.1.1 (hts _ q_f_X8_7) (fun _ h9 => h9) dX8_pledge_113 ?_
            obtain ⟨m45, c45, h⟩ := xbv_inv h
            refine xc_vV (pc := 116) (As := [.ref _]) (rest := []) ⟨hx, hb, hml, hown, hts⟩ (mX8_keeps hF _ _ k0 k0.2.1.2 c45) (xcwV 1 hts fdX8_keeps q_m_X8_75 ⟨Nat.le_of_ble_eq_true rfl, Nat.le_of_ble_eq_true rfl⟩) (xRecv hK hR (ci := 12) rfl k0.1) hR hK hE hS rfl hl.1 rfl (Nat.le_of_ble_eq_true rfl) dX8_pledge_116 ⟨Nat.zero_le _, Nat.zero_le _⟩ (fun H locs hR hS => ?_)
            refine lv_aload_n (pc := 119) hx hb dX8_pledge_119 rfl (lv_at hl 0 rfl) ?_
            refine xr_getR (pc := 120) (ci := 12) hx hb hts inX8 hown hK hR rfl k0.1 0 (Nat.le_of_ble_eq_true rfl) rfl k0.2.1.1 (hts _ q_f_X8_7) (fun _ h9 => h9) dX8_pledge_120 ?_
            refine lv_iconst (pc := 123) hx hb dX8_pledge_123 kc_1 ?_
            refine xr_ialdk (pc := 124) 1 hx hb hK hR k0.2.1.2.1 k0.2.1.2.2 tn_1 (vl_1 (by decide)) dX8_pledge_124 ?_
            refine lv_istore (pc := 125) (lv' := [(4, .int _), (0, .ref _), (1, .int _), (2, .int _), (3, .int _)]) hx hb dX8_pledge_125 hl (Nat.le_of_ble_eq_true rfl) rfl (fun ls hl => ?_)
            refine lv_aload_n (pc := 127) hx hb dX8_pledge_127 rfl (lv_at hl 1 rfl) ?_
            refine xr_getR (pc := 128) (ci := 12) hx hb hts inX8 hown hK hR rfl k0.1 0 (Nat.le_of_ble_eq_true rfl) rfl k0.2.1.1 (hts _ q_f_X8_7) (fun _ h9 => h9) dX8_pledge_128 ?_
            refine lv_iconst (pc := 131) hx hb dX8_pledge_131 kc_1 ?_
            refine lv_dup2_11 (pc := 132) hx hb dX8_pledge_132 rfl rfl ?_
            refine xr_ialdk (pc := 133) 1 hx hb hK hR k0.2.1.2.1 k0.2.1.2.2 tn_1 (vl_1 (by decide)) dX8_pledge_133 ?_
            refine lv_iconst (pc := 134) hx hb dX8_pledge_134 kc_1 ?_
            refine lv_iadd (pc := 135) hx hb dX8_pledge_135 ?_
            refine xr_iastk (pc := 136) 1 hx hb hK hR hF hS k0.2.1.2.1 k0.2.1.2.2 tn_1 (vl_1 (by decide)) dX8_pledge_136 (fun H locs hR hS => ?_)
            refine lv_iconst (pc := 137) hx hb dX8_pledge_137 kc_0 ?_
            refine lv_istore (pc := 138) (lv' := [(5, .int _), (4, .int _), (0, .ref _), (1, .int _), (2, .int _), (3, .int _)]) hx hb dX8_pledge_138 hl (Nat.le_of_ble_eq_true rfl) rfl (fun ls hl => ?_)
            exact wX8_pledge_140 hF h0 p1 p2 p3 k0 hx hb hr hml hlocks hts hown hK hE _ _ _ _ _ _ _ h hR hS (lv_sub hl [2, 3, 4, 5, 1, 0] rfl)
          · have h := xneg c44 h
            refine lv_aload_n (pc := 98) hx hb dX8_pledge_98 rfl (lv_at hl 0 rfl) ?_
            refine lv_iconst (pc := 99) hx hb dX8_pledge_99 kc_3 ?_
            refine lv_iconst (pc := 100) hx hb dX8_pledge_100 kc_3 ?_
            refine lv_aload_n (pc := 101) hx hb dX8_pledge_101 rfl (lv_at hl 0 rfl) ?_
            refine xr_getR (pc := 102) (ci := 12) hx hb hts inX8 hown hK hR rfl k0.1 0 (Nat.le_of_ble_eq_true rfl) rfl k0.2.1.1 (hts _ q_f_X8_7) (fun _ h9 => h9) dX8_pledge_102 ?_
            refine lv_iconst (pc := 105) hx hb dX8_pledge_105 kc_4 ?_
            refine xr_ialdk (pc := 106) 4 hx hb hK hR k0.2.1.2.1 k0.2.1.2.2 tn_4 (vl_4 (by decide)) dX8_pledge_106 ?_
            obtain ⟨r46, m46, c46, h⟩ := xb_inv h
            refine xc_iV (pc := 107) (As := [.int _, .int _, .int _]) (rest := []) ⟨hx, hb, hml, hown, hts⟩ (mX8_refuses hF _ _ _ _ k0 c46) (xcwV 3 hts fdX8_refuses q_m_X8_71 ⟨Nat.le_of_ble_eq_true rfl, Nat.le_of_ble_eq_true rfl⟩) (xRecv hK hR (ci := 12) rfl k0.1) hR hK hE hS rfl hl.1 rfl (Nat.le_of_ble_eq_true rfl) dX8_pledge_107 ⟨Nat.zero_le _, Nat.zero_le _⟩ (fun H locs hR hS => ?_)
            exact xf_i (pc := 110) hx hb hr rfl hlocks h hR hK hS dX8_pledge_110
        · have h := xpos c43 h
          refine lv_aload_n (pc := 79) hx hb dX8_pledge_79 rfl (lv_at hl 0 rfl) ?_
          refine lv_iconst (pc := 80) hx hb dX8_pledge_80 kc_3 ?_
          refine lv_iconst (pc := 81) hx hb dX8_pledge_81 kc_1 ?_
          refine lv_bipush (pc := 82) hx hb dX8_pledge_82 kb_16 ?_
          obtain ⟨r47, m47, c47, h⟩ := xb_inv h
          refine xc_iV (pc := 84) (As := [.int _, .int _, .int _]) (rest := []) ⟨hx, hb, hml, hown, hts⟩ (mX8_refuses hF _ _ _ _ k0 c47) (xcwV 3 hts fdX8_refuses q_m_X8_71 ⟨Nat.le_of_ble_eq_true rfl, Nat.le_of_ble_eq_true rfl⟩) (xRecv hK hR (ci := 12) rfl k0.1) hR hK hE hS rfl hl.1 rfl (Nat.le_of_ble_eq_true rfl) dX8_pledge_84 ⟨Nat.zero_le _, Nat.zero_le _⟩ (fun H locs hR hS => ?_)
          exact xf_i (pc := 87) hx hb hr rfl hlocks h hR hK hS dX8_pledge_87
      · have h := xneg c42 h
        refine lv_aload_n (pc := 54) hx hb dX8_pledge_54 rfl (lv_at hl 0 rfl) ?_
        refine lv_iconst (pc := 55) hx hb dX8_pledge_55 kc_3 ?_
        refine lv_iconst (pc := 56) hx hb dX8_pledge_56 kc_2 ?_
        refine lv_iload_n (pc := 57) hx hb dX8_pledge_57 rfl (lv_at hl 2 rfl) ?_
        refine lv_bipush (pc := 58) hx hb dX8_pledge_58 kb_60 ?_
        refine lv_imul (pc := 60) hx hb dX8_pledge_60 ?_
        refine lv_bipush (pc := 61) hx hb dX8_pledge_61 kb_100 ?_
        refine lv_idiv (pc := 63) hx hb dX8_pledge_63 (by decide) ?_
        obtain ⟨r48, m48, c48, h⟩ := xb_inv h
        refine xc_iV (pc := 64) (As := [.int _, .int _, .int _]) (rest := []) ⟨hx, hb, hml, hown, hts⟩ (mX8_refuses hF _ _ _ _ k0 c48) (xcwV 3 hts fdX8_refuses q_m_X8_71 ⟨Nat.le_of_ble_eq_true rfl, Nat.le_of_ble_eq_true rfl⟩) (xRecv hK hR (ci := 12) rfl k0.1) hR hK hE hS rfl hl.1 rfl (Nat.le_of_ble_eq_true rfl) dX8_pledge_64 ⟨Nat.zero_le _, Nat.zero_le _⟩ (fun H locs hR hS => ?_)
        exact xf_i (pc := 67) hx hb hr rfl hlocks h hR hK hS dX8_pledge_67
    · have h := xneg c41 h
      refine lv_iconst (pc := 41) hx hb dX8_pledge_41 kc_0 ?_
      exact xf_i (pc := 42) hx hb hr rfl hlocks h hR hK hS dX8_pledge_42
set_option maxHeartbeats 1000000 in
set_option maxRecDepth 20000 in
theorem mX8_rate {l : Launch} {D : va_G} {ca : Nat → ClassId} {z : Nat} {G : xG} {X : va_W} {ad av : Nat → Nat} (hF : xFix z G X) (h0 : Nat) (p1 : Int32) (k0 : xI_Model G h0) {μ μ1 : xM} {r : Int32} (h : fX8_rate h0 p1 μ = some (r, μ1)) : xMi l yX8_rate (xws yX8_rate cX8_rate 3 (some .int)) 2 D ca z G X ad av [.ref h0, .int p1] μ r μ1 := by
  refine xm_i (by decide) rfl (Nat.le_of_ble_eq_true rfl) [(0, .ref h0), (1, .int p1)] rfl ?_
  intro p e s m args below meth c ls hx hb hr hml hlocks hts hown hK hE hR hS hl
  have hts : ∀ w ∈ xAll, w.before args s = true := fun w hw => hts w (List.mem_cons_of_mem _ hw)
  rw [fX8_rate] at h
  refine lv_aload_n (pc := 0) hx hb dX8_rate_0 rfl (lv_at hl 0 rfl) ?_
  refine lv_iload_n (pc := 1) hx hb dX8_rate_1 rfl (lv_at hl 1 rfl) ?_
  refine lv_iconst (pc := 2) hx hb dX8_rate_2 kc_1 ?_
  refine lv_bipush (pc := 3) hx hb dX8_rate_3 kb_60 ?_
  obtain ⟨r1, m1, c1, h⟩ := xb_inv h
  refine xc_iS (pc := 5) (As := [.int _, .int _, .int _]) (rest := [.ref _]) ⟨hx, hb, hml, hown, hts⟩ (mX8_in hF _ _ _  c1) (xcwS 3 hts fdX8_in q_m_X8_59 ⟨Nat.le_of_ble_eq_true rfl, Nat.le_of_ble_eq_true rfl⟩) hR hK hE hS rfl hl.1 rfl (Nat.le_of_ble_eq_true rfl) dX8_rate_5 ⟨Nat.zero_le _, Nat.zero_le _⟩ (fun H locs hR hS => ?_)
  refine lv_if_eq (pc := 8) (tgt := 15) hx hb dX8_rate_8 (by decide) (fun c2 => ?_) (fun c2 => ?_)
  · have h := xpos c2 h
    refine lv_iconst (pc := 15) hx hb dX8_rate_15 kc_1 ?_
    obtain ⟨r3, m3, c3, h⟩ := xb_inv h
    refine xc_iV (pc := 16) (As := [.int _]) (rest := []) ⟨hx, hb, hml, hown, hts⟩ (mX8_fails hF _ _ k0 c3) (xcwV 1 hts fdX8_fails q_m_X8_67 ⟨Nat.le_of_ble_eq_true rfl, Nat.le_of_ble_eq_true rfl⟩) (xRecv hK hR (ci := 12) rfl k0.1) hR hK hE hS rfl hl.1 rfl (Nat.le_of_ble_eq_true rfl) dX8_rate_16 ⟨Nat.zero_le _, Nat.zero_le _⟩ (fun H locs hR hS => ?_)
    refine lv_if_eq (pc := 19) (tgt := 24) hx hb dX8_rate_19 (by decide) (fun c4 => ?_) (fun c4 => ?_)
    · have h := xpos c4 h
      refine lv_iload_n (pc := 24) hx hb dX8_rate_24 rfl (lv_at hl 1 rfl) ?_
      refine lv_aload_n (pc := 25) hx hb dX8_rate_25 rfl (lv_at hl 0 rfl) ?_
      refine xr_getR (pc := 26) (ci := 12) hx hb hts inX8 hown hK hR rfl k0.1 0 (Nat.le_of_ble_eq_true rfl) rfl k0.2.1.1 (hts _ q_f_X8_7) (fun _ h9 => h9) dX8_rate_26 ?_
      refine lv_iconst (pc := 29) hx hb dX8_rate_29 kc_2 ?_
      refine xr_ialdk (pc := 30) 2 hx hb hK hR k0.2.1.2.1 k0.2.1.2.2 tn_2 (vl_2 (by decide)) dX8_rate_30 ?_
      refine lv_icmp_ne (pc := 31) (tgt := 43) hx hb dX8_rate_31 (by decide) (fun c5 => ?_) (fun c5 => ?_)
      · have h := xneg c5 h
        refine lv_aload_n (pc := 43) hx hb dX8_rate_43 rfl (lv_at hl 0 rfl) ?_
        refine lv_aload_n (pc := 44) hx hb dX8_rate_44 rfl (lv_at hl 0 rfl) ?_
        refine xr_getR (pc := 45) (ci := 12) hx hb hts inX8 hown hK hR rfl k0.1 0 (Nat.le_of_ble_eq_true rfl) rfl k0.2.1.1 (hts _ q_f_X8_7) (fun _ h9 => h9) dX8_rate_45 ?_
        obtain ⟨m6, c6, h⟩ := xbv_inv h
        refine xc_vV (pc := 48) (As := [.ref _]) (rest := []) ⟨hx, hb, hml, hown, hts⟩ (mX8_keeps hF _ _ k0 k0.2.1.2 c6) (xcwV 1 hts fdX8_keeps q_m_X8_75 ⟨Nat.le_of_ble_eq_true rfl, Nat.le_of_ble_eq_true rfl⟩) (xRecv hK hR (ci := 12) rfl k0.1) hR hK hE hS rfl hl.1 rfl (Nat.le_of_ble_eq_true rfl) dX8_rate_48 ⟨Nat.zero_le _, Nat.zero_le _⟩ (fun H locs hR hS => ?_)
        refine lv_aload_n (pc := 51) hx hb dX8_rate_51 rfl (lv_at hl 0 rfl) ?_
        refine xr_getR (pc := 52) (ci := 12) hx hb hts inX8 hown hK hR rfl k0.1 0 (Nat.le_of_ble_eq_true rfl) rfl k0.2.1.1 (hts _ q_f_X8_7) (fun _ h9 => h9) dX8_rate_52 ?_
        refine lv_iconst (pc := 55) hx hb dX8_rate_55 kc_2 ?_
        refine xr_ialdk (pc := 56) 2 hx hb hK hR k0.2.1.2.1 k0.2.1.2.2 tn_2 (vl_2 (by decide)) dX8_rate_56 ?_
        refine lv_istore_n (pc := 57) (lv' := [(2, .int _), (0, .ref _), (1, .int _)]) hx hb dX8_rate_57 rfl hl (Nat.le_of_ble_eq_true rfl) rfl (fun ls hl => ?_)
        refine lv_aload_n (pc := 58) hx hb dX8_rate_58 rfl (lv_at hl 1 rfl) ?_
        refine xr_getR (pc := 59) (ci := 12) hx hb hts inX8 hown hK hR rfl k0.1 0 (Nat.le_of_ble_eq_true rfl) rfl k0.2.1.1 (hts _ q_f_X8_7) (fun _ h9 => h9) dX8_rate_59 ?_
        refine lv_iconst (pc := 62) hx hb dX8_rate_62 kc_2 ?_
        refine lv_iload_n (pc := 63) hx hb dX8_rate_63 rfl (lv_at hl 2 rfl) ?_
        refine xr_iastk (pc := 64) 2 hx hb hK hR hF hS k0.2.1.2.1 k0.2.1.2.2 tn_2 (vl_2 (by decide)) dX8_rate_64 (fun H locs hR hS => ?_)
        refine lv_iload_n (pc := 65) hx hb dX8_rate_65 rfl (lv_at hl 0 rfl) ?_
        exact xf_i (pc := 66) hx hb hr rfl hlocks h hR hK hS dX8_rate_66
      · have h := xpos c5 h
        refine lv_aload_n (pc := 34) hx hb dX8_rate_34 rfl (lv_at hl 0 rfl) ?_
        refine lv_iconst (pc := 35) hx hb dX8_rate_35 kc_2 ?_
        refine lv_bipush (pc := 36) hx hb dX8_rate_36 kb_10 ?_
        refine lv_iload_n (pc := 38) hx hb dX8_rate_38 rfl (lv_at hl 1 rfl) ?_
        obtain ⟨r7, m7, c7, h⟩ := xb_inv h
        refine xc_iV (pc := 39) (As := [.int _, .int _, .int _]) (rest := []) ⟨hx, hb, hml, hown, hts⟩ (mX8_refuses hF _ _ _ _ k0 c7) (xcwV 3 hts fdX8_refuses q_m_X8_71 ⟨Nat.le_of_ble_eq_true rfl, Nat.le_of_ble_eq_true rfl⟩) (xRecv hK hR (ci := 12) rfl k0.1) hR hK hE hS rfl hl.1 rfl (Nat.le_of_ble_eq_true rfl) dX8_rate_39 ⟨Nat.zero_le _, Nat.zero_le _⟩ (fun H locs hR hS => ?_)
        exact xf_i (pc := 42) hx hb hr rfl hlocks h hR hK hS dX8_rate_42
    · have h := xneg c4 h
      refine lv_iconst (pc := 22) hx hb dX8_rate_22 kc_0 ?_
      exact xf_i (pc := 23) hx hb hr rfl hlocks h hR hK hS dX8_rate_23
  · have h := xneg c2 h
    refine lv_iconst (pc := 11) hx hb dX8_rate_11 kc_0 ?_
    refine lv_goto (pc := 12) (tgt := 16) hx hb dX8_rate_12 (by decide) ?_
    obtain ⟨r8, m8, c8, h⟩ := xb_inv h
    refine xc_iV (pc := 16) (As := [.int _]) (rest := []) ⟨hx, hb, hml, hown, hts⟩ (mX8_fails hF _ _ k0 c8) (xcwV 1 hts fdX8_fails q_m_X8_67 ⟨Nat.le_of_ble_eq_true rfl, Nat.le_of_ble_eq_true rfl⟩) (xRecv hK hR (ci := 12) rfl k0.1) hR hK hE hS rfl hl.1 rfl (Nat.le_of_ble_eq_true rfl) dX8_rate_16 ⟨Nat.zero_le _, Nat.zero_le _⟩ (fun H locs hR hS => ?_)
    refine lv_if_eq (pc := 19) (tgt := 24) hx hb dX8_rate_19 (by decide) (fun c9 => ?_) (fun c9 => ?_)
    · have h := xpos c9 h
      refine lv_iload_n (pc := 24) hx hb dX8_rate_24 rfl (lv_at hl 1 rfl) ?_
      refine lv_aload_n (pc := 25) hx hb dX8_rate_25 rfl (lv_at hl 0 rfl) ?_
      refine xr_getR (pc := 26) (ci := 12) hx hb hts inX8 hown hK hR rfl k0.1 0 (Nat.le_of_ble_eq_true rfl) rfl k0.2.1.1 (hts _ q_f_X8_7) (fun _ h9 => h9) dX8_rate_26 ?_
      refine lv_iconst (pc := 29) hx hb dX8_rate_29 kc_2 ?_
      refine xr_ialdk (pc := 30) 2 hx hb hK hR k0.2.1.2.1 k0.2.1.2.2 tn_2 (vl_2 (by decide)) dX8_rate_30 ?_
      refine lv_icmp_ne (pc := 31) (tgt := 43) hx hb dX8_rate_31 (by decide) (fun c10 => ?_) (fun c10 => ?_)
      · have h := xneg c10 h
        refine lv_aload_n (pc := 43) hx hb dX8_rate_43 rfl (lv_at hl 0 rfl) ?_
        refine lv_aload_n (pc := 44) hx hb dX8_rate_44 rfl (lv_at hl 0 rfl) ?_
        refine xr_getR (pc := 45) (ci := 12) hx hb hts inX8 hown hK hR rfl k0.1 0 (Nat.le_of_ble_eq_true rfl) rfl k0.2.1.1 (hts _ q_f_X8_7) (fun _ h9 => h9) dX8_rate_45 ?_
        obtain ⟨m11, c11, h⟩ := xbv_inv h
        refine xc_vV (pc := 48) (As := [.ref _]) (rest := []) ⟨hx, hb, hml, hown, hts⟩ (mX8_keeps hF _ _ k0 k0.2.1.2 c11) (xcwV 1 hts fdX8_keeps q_m_X8_75 ⟨Nat.le_of_ble_eq_true rfl, Nat.le_of_ble_eq_true rfl⟩) (xRecv hK hR (ci := 12) rfl k0.1) hR hK hE hS rfl hl.1 rfl (Nat.le_of_ble_eq_true rfl) dX8_rate_48 ⟨Nat.zero_le _, Nat.zero_le _⟩ (fun H locs hR hS => ?_)
        refine lv_aload_n (pc := 51) hx hb dX8_rate_51 rfl (lv_at hl 0 rfl) ?_
        refine xr_getR (pc := 52) (ci := 12) hx hb hts inX8 hown hK hR rfl k0.1 0 (Nat.le_of_ble_eq_true rfl) rfl k0.2.1.1 (hts _ q_f_X8_7) (fun _ h9 => h9) dX8_rate_52 ?_
        refine lv_iconst (pc := 55) hx hb dX8_rate_55 kc_2 ?_
        refine xr_ialdk (pc := 56) 2 hx hb hK hR k0.2.1.2.1 k0.2.1.2.2 tn_2 (vl_2 (by decide)) dX8_rate_56 ?_
        refine lv_istore_n (pc := 57) (lv' := [(2, .int _), (0, .ref _), (1, .int _)]) hx hb dX8_rate_57 rfl hl (Nat.le_of_ble_eq_true rfl) rfl (fun ls hl => ?_)
        refine lv_aload_n (pc := 58) hx hb dX8_rate_58 rfl (lv_at hl 1 rfl) ?_
        refine xr_getR (pc := 59) (ci := 12) hx hb hts inX8 hown hK hR rfl k0.1 0 (Nat.le_of_ble_eq_true rfl) rfl k0.2.1.1 (hts _ q_f_X8_7) (fun _ h9 => h9) dX8_rate_59 ?_
        refine lv_iconst (pc := 62) hx hb dX8_rate_62 kc_2 ?_
        refine lv_iload_n (pc := 63) hx hb dX8_rate_63 rfl (lv_at hl 2 rfl) ?_
        refine xr_iastk (pc := 64) 2 hx hb hK hR hF hS k0.2.1.2.1 k0.2.1.2.2 tn_2 (vl_2 (by decide)) dX8_rate_64 (fun H locs hR hS => ?_)
        refine lv_iload_n (pc := 65) hx hb dX8_rate_65 rfl (lv_at hl 0 rfl) ?_
        exact xf_i (pc := 66) hx hb hr rfl hlocks h hR hK hS dX8_rate_66
      · have h := xpos c10 h
        refine lv_aload_n (pc := 34) hx hb dX8_rate_34 rfl (lv_at hl 0 rfl) ?_
        refine lv_iconst (pc := 35) hx hb dX8_rate_35 kc_2 ?_
        refine lv_bipush (pc := 36) hx hb dX8_rate_36 kb_10 ?_
        refine lv_iload_n (pc := 38) hx hb dX8_rate_38 rfl (lv_at hl 1 rfl) ?_
        obtain ⟨r12, m12, c12, h⟩ := xb_inv h
        refine xc_iV (pc := 39) (As := [.int _, .int _, .int _]) (rest := []) ⟨hx, hb, hml, hown, hts⟩ (mX8_refuses hF _ _ _ _ k0 c12) (xcwV 3 hts fdX8_refuses q_m_X8_71 ⟨Nat.le_of_ble_eq_true rfl, Nat.le_of_ble_eq_true rfl⟩) (xRecv hK hR (ci := 12) rfl k0.1) hR hK hE hS rfl hl.1 rfl (Nat.le_of_ble_eq_true rfl) dX8_rate_39 ⟨Nat.zero_le _, Nat.zero_le _⟩ (fun H locs hR hS => ?_)
        exact xf_i (pc := 42) hx hb hr rfl hlocks h hR hK hS dX8_rate_42
    · have h := xneg c9 h
      refine lv_iconst (pc := 22) hx hb dX8_rate_22 kc_0 ?_
      exact xf_i (pc := 23) hx hb hr rfl hlocks h hR hK hS dX8_rate_23
set_option maxHeartbeats 1000000 in
set_option maxRecDepth 20000 in
theorem mX8_fee {l : Launch} {D : va_G} {ca : Nat → ClassId} {z : Nat} {G : xG} {X : va_W} {ad av : Nat → Nat} (hF : xFix z G X) (h0 : Nat) (p1 : Int32) (k0 : xI_Model G h0) {μ μ1 : xM} {r : Int32} (h : fX8_fee h0 p1 μ = some (r, μ1)) : xMi l yX8_fee (xws yX8_fee cX8_fee 3 (some .int)) 2 D ca z G X ad av [.ref h0, .int p1] μ r μ1 := by
  refine xm_i (by decide) rfl (Nat.le_of_ble_eq_true rfl) [(0, .ref h0), (1, .int p1)] rfl ?_
  intro p e s m args below meth c ls hx hb hr hml hlocks hts hown hK hE hR hS hl
  have hts : ∀ w ∈ xAll, w.before args s = true := fun w hw => hts w (List.mem_cons_of_mem _ hw)
  rw [fX8_fee] at h
  refine lv_aload_n (pc := 0) hx hb dX8_fee_0 rfl (lv_at hl 0 rfl) ?_
  refine lv_iload_n (pc := 1) hx hb dX8_fee_1 rfl (lv_at hl 1 rfl) ?_
  refine lv_iconst (pc := 2) hx hb dX8_fee_2 kc_0 ?_
  refine lv_bipush (pc := 3) hx hb dX8_fee_3 kb_20 ?_
  obtain ⟨r1, m1, c1, h⟩ := xb_inv h
  refine xc_iS (pc := 5) (As := [.int _, .int _, .int _]) (rest := [.ref _]) ⟨hx, hb, hml, hown, hts⟩ (mX8_in hF _ _ _  c1) (xcwS 3 hts fdX8_in q_m_X8_59 ⟨Nat.le_of_ble_eq_true rfl, Nat.le_of_ble_eq_true rfl⟩) hR hK hE hS rfl hl.1 rfl (Nat.le_of_ble_eq_true rfl) dX8_fee_5 ⟨Nat.zero_le _, Nat.zero_le _⟩ (fun H locs hR hS => ?_)
  refine lv_if_eq (pc := 8) (tgt := 15) hx hb dX8_fee_8 (by decide) (fun c2 => ?_) (fun c2 => ?_)
  · have h := xpos c2 h
    refine lv_iconst (pc := 15) hx hb dX8_fee_15 kc_1 ?_
    obtain ⟨r3, m3, c3, h⟩ := xb_inv h
    refine xc_iV (pc := 16) (As := [.int _]) (rest := []) ⟨hx, hb, hml, hown, hts⟩ (mX8_fails hF _ _ k0 c3) (xcwV 1 hts fdX8_fails q_m_X8_67 ⟨Nat.le_of_ble_eq_true rfl, Nat.le_of_ble_eq_true rfl⟩) (xRecv hK hR (ci := 12) rfl k0.1) hR hK hE hS rfl hl.1 rfl (Nat.le_of_ble_eq_true rfl) dX8_fee_16 ⟨Nat.zero_le _, Nat.zero_le _⟩ (fun H locs hR hS => ?_)
    refine lv_if_eq (pc := 19) (tgt := 24) hx hb dX8_fee_19 (by decide) (fun c4 => ?_) (fun c4 => ?_)
    · have h := xpos c4 h
      refine lv_iload_n (pc := 24) hx hb dX8_fee_24 rfl (lv_at hl 1 rfl) ?_
      refine lv_aload_n (pc := 25) hx hb dX8_fee_25 rfl (lv_at hl 0 rfl) ?_
      refine xr_getR (pc := 26) (ci := 12) hx hb hts inX8 hown hK hR rfl k0.1 0 (Nat.le_of_ble_eq_true rfl) rfl k0.2.1.1 (hts _ q_f_X8_7) (fun _ h9 => h9) dX8_fee_26 ?_
      refine lv_iconst (pc := 29) hx hb dX8_fee_29 kc_3 ?_
      refine xr_ialdk (pc := 30) 3 hx hb hK hR k0.2.1.2.1 k0.2.1.2.2 tn_3 (vl_3 (by decide)) dX8_fee_30 ?_
      refine lv_icmp_ne (pc := 31) (tgt := 43) hx hb dX8_fee_31 (by decide) (fun c5 => ?_) (fun c5 => ?_)
      · have h := xneg c5 h
        refine lv_aload_n (pc := 43) hx hb dX8_fee_43 rfl (lv_at hl 0 rfl) ?_
        refine lv_aload_n (pc := 44) hx hb dX8_fee_44 rfl (lv_at hl 0 rfl) ?_
        refine xr_getR (pc := 45) (ci := 12) hx hb hts inX8 hown hK hR rfl k0.1 0 (Nat.le_of_ble_eq_true rfl) rfl k0.2.1.1 (hts _ q_f_X8_7) (fun _ h9 => h9) dX8_fee_45 ?_
        obtain ⟨m6, c6, h⟩ := xbv_inv h
        refine xc_vV (pc := 48) (As := [.ref _]) (rest := []) ⟨hx, hb, hml, hown, hts⟩ (mX8_keeps hF _ _ k0 k0.2.1.2 c6) (xcwV 1 hts fdX8_keeps q_m_X8_75 ⟨Nat.le_of_ble_eq_true rfl, Nat.le_of_ble_eq_true rfl⟩) (xRecv hK hR (ci := 12) rfl k0.1) hR hK hE hS rfl hl.1 rfl (Nat.le_of_ble_eq_true rfl) dX8_fee_48 ⟨Nat.zero_le _, Nat.zero_le _⟩ (fun H locs hR hS => ?_)
        refine lv_aload_n (pc := 51) hx hb dX8_fee_51 rfl (lv_at hl 0 rfl) ?_
        refine xr_getR (pc := 52) (ci := 12) hx hb hts inX8 hown hK hR rfl k0.1 0 (Nat.le_of_ble_eq_true rfl) rfl k0.2.1.1 (hts _ q_f_X8_7) (fun _ h9 => h9) dX8_fee_52 ?_
        refine lv_iconst (pc := 55) hx hb dX8_fee_55 kc_3 ?_
        refine xr_ialdk (pc := 56) 3 hx hb hK hR k0.2.1.2.1 k0.2.1.2.2 tn_3 (vl_3 (by decide)) dX8_fee_56 ?_
        refine lv_istore_n (pc := 57) (lv' := [(2, .int _), (0, .ref _), (1, .int _)]) hx hb dX8_fee_57 rfl hl (Nat.le_of_ble_eq_true rfl) rfl (fun ls hl => ?_)
        refine lv_aload_n (pc := 58) hx hb dX8_fee_58 rfl (lv_at hl 1 rfl) ?_
        refine xr_getR (pc := 59) (ci := 12) hx hb hts inX8 hown hK hR rfl k0.1 0 (Nat.le_of_ble_eq_true rfl) rfl k0.2.1.1 (hts _ q_f_X8_7) (fun _ h9 => h9) dX8_fee_59 ?_
        refine lv_iconst (pc := 62) hx hb dX8_fee_62 kc_3 ?_
        refine lv_iload_n (pc := 63) hx hb dX8_fee_63 rfl (lv_at hl 2 rfl) ?_
        refine xr_iastk (pc := 64) 3 hx hb hK hR hF hS k0.2.1.2.1 k0.2.1.2.2 tn_3 (vl_3 (by decide)) dX8_fee_64 (fun H locs hR hS => ?_)
        refine lv_iload_n (pc := 65) hx hb dX8_fee_65 rfl (lv_at hl 0 rfl) ?_
        exact xf_i (pc := 66) hx hb hr rfl hlocks h hR hK hS dX8_fee_66
      · have h := xpos c5 h
        refine lv_aload_n (pc := 34) hx hb dX8_fee_34 rfl (lv_at hl 0 rfl) ?_
        refine lv_iconst (pc := 35) hx hb dX8_fee_35 kc_2 ?_
        refine lv_bipush (pc := 36) hx hb dX8_fee_36 kb_10 ?_
        refine lv_iload_n (pc := 38) hx hb dX8_fee_38 rfl (lv_at hl 1 rfl) ?_
        obtain ⟨r7, m7, c7, h⟩ := xb_inv h
        refine xc_iV (pc := 39) (As := [.int _, .int _, .int _]) (rest := []) ⟨hx, hb, hml, hown, hts⟩ (mX8_refuses hF _ _ _ _ k0 c7) (xcwV 3 hts fdX8_refuses q_m_X8_71 ⟨Nat.le_of_ble_eq_true rfl, Nat.le_of_ble_eq_true rfl⟩) (xRecv hK hR (ci := 12) rfl k0.1) hR hK hE hS rfl hl.1 rfl (Nat.le_of_ble_eq_true rfl) dX8_fee_39 ⟨Nat.zero_le _, Nat.zero_le _⟩ (fun H locs hR hS => ?_)
        exact xf_i (pc := 42) hx hb hr rfl hlocks h hR hK hS dX8_fee_42
    · have h := xneg c4 h
      refine lv_iconst (pc := 22) hx hb dX8_fee_22 kc_0 ?_
      exact xf_i (pc := 23) hx hb hr rfl hlocks h hR hK hS dX8_fee_23
  · have h := xneg c2 h
    refine lv_iconst (pc := 11) hx hb dX8_fee_11 kc_0 ?_
    refine lv_goto (pc := 12) (tgt := 16) hx hb dX8_fee_12 (by decide) ?_
    obtain ⟨r8, m8, c8, h⟩ := xb_inv h
    refine xc_iV (pc := 16) (As := [.int _]) (rest := []) ⟨hx, hb, hml, hown, hts⟩ (mX8_fails hF _ _ k0 c8) (xcwV 1 hts fdX8_fails q_m_X8_67 ⟨Nat.le_of_ble_eq_true rfl, Nat.le_of_ble_eq_true rfl⟩) (xRecv hK hR (ci := 12) rfl k0.1) hR hK hE hS rfl hl.1 rfl (Nat.le_of_ble_eq_true rfl) dX8_fee_16 ⟨Nat.zero_le _, Nat.zero_le _⟩ (fun H locs hR hS => ?_)
    refine lv_if_eq (pc := 19) (tgt := 24) hx hb dX8_fee_19 (by decide) (fun c9 => ?_) (fun c9 => ?_)
    · have h := xpos c9 h
      refine lv_iload_n (pc := 24) hx hb dX8_fee_24 rfl (lv_at hl 1 rfl) ?_
      refine lv_aload_n (pc := 25) hx hb dX8_fee_25 rfl (lv_at hl 0 rfl) ?_
      refine xr_getR (pc := 26) (ci := 12) hx hb hts inX8 hown hK hR rfl k0.1 0 (Nat.le_of_ble_eq_true rfl) rfl k0.2.1.1 (hts _ q_f_X8_7) (fun _ h9 => h9) dX8_fee_26 ?_
      refine lv_iconst (pc := 29) hx hb dX8_fee_29 kc_3 ?_
      refine xr_ialdk (pc := 30) 3 hx hb hK hR k0.2.1.2.1 k0.2.1.2.2 tn_3 (vl_3 (by decide)) dX8_fee_30 ?_
      refine lv_icmp_ne (pc := 31) (tgt := 43) hx hb dX8_fee_31 (by decide) (fun c10 => ?_) (fun c10 => ?_)
      · have h := xneg c10 h
        refine lv_aload_n (pc := 43) hx hb dX8_fee_43 rfl (lv_at hl 0 rfl) ?_
        refine lv_aload_n (pc := 44) hx hb dX8_fee_44 rfl (lv_at hl 0 rfl) ?_
        refine xr_getR (pc := 45) (ci := 12) hx hb hts inX8 hown hK hR rfl k0.1 0 (Nat.le_of_ble_eq_true rfl) rfl k0.2.1.1 (hts _ q_f_X8_7) (fun _ h9 => h9) dX8_fee_45 ?_
        obtain ⟨m11, c11, h⟩ := xbv_inv h
        refine xc_vV (pc := 48) (As := [.ref _]) (rest := []) ⟨hx, hb, hml, hown, hts⟩ (mX8_keeps hF _ _ k0 k0.2.1.2 c11) (xcwV 1 hts fdX8_keeps q_m_X8_75 ⟨Nat.le_of_ble_eq_true rfl, Nat.le_of_ble_eq_true rfl⟩) (xRecv hK hR (ci := 12) rfl k0.1) hR hK hE hS rfl hl.1 rfl (Nat.le_of_ble_eq_true rfl) dX8_fee_48 ⟨Nat.zero_le _, Nat.zero_le _⟩ (fun H locs hR hS => ?_)
        refine lv_aload_n (pc := 51) hx hb dX8_fee_51 rfl (lv_at hl 0 rfl) ?_
        refine xr_getR (pc := 52) (ci := 12) hx hb hts inX8 hown hK hR rfl k0.1 0 (Nat.le_of_ble_eq_true rfl) rfl k0.2.1.1 (hts _ q_f_X8_7) (fun _ h9 => h9) dX8_fee_52 ?_
        refine lv_iconst (pc := 55) hx hb dX8_fee_55 kc_3 ?_
        refine xr_ialdk (pc := 56) 3 hx hb hK hR k0.2.1.2.1 k0.2.1.2.2 tn_3 (vl_3 (by decide)) dX8_fee_56 ?_
        refine lv_istore_n (pc := 57) (lv' := [(2, .int _), (0, .ref _), (1, .int _)]) hx hb dX8_fee_57 rfl hl (Nat.le_of_ble_eq_true rfl) rfl (fun ls hl => ?_)
        refine lv_aload_n (pc := 58) hx hb dX8_fee_58 rfl (lv_at hl 1 rfl) ?_
        refine xr_getR (pc := 59) (ci := 12) hx hb hts inX8 hown hK hR rfl k0.1 0 (Nat.le_of_ble_eq_true rfl) rfl k0.2.1.1 (hts _ q_f_X8_7) (fun _ h9 => h9) dX8_fee_59 ?_
        refine lv_iconst (pc := 62) hx hb dX8_fee_62 kc_3 ?_
        refine lv_iload_n (pc := 63) hx hb dX8_fee_63 rfl (lv_at hl 2 rfl) ?_
        refine xr_iastk (pc := 64) 3 hx hb hK hR hF hS k0.2.1.2.1 k0.2.1.2.2 tn_3 (vl_3 (by decide)) dX8_fee_64 (fun H locs hR hS => ?_)
        refine lv_iload_n (pc := 65) hx hb dX8_fee_65 rfl (lv_at hl 0 rfl) ?_
        exact xf_i (pc := 66) hx hb hr rfl hlocks h hR hK hS dX8_fee_66
      · have h := xpos c10 h
        refine lv_aload_n (pc := 34) hx hb dX8_fee_34 rfl (lv_at hl 0 rfl) ?_
        refine lv_iconst (pc := 35) hx hb dX8_fee_35 kc_2 ?_
        refine lv_bipush (pc := 36) hx hb dX8_fee_36 kb_10 ?_
        refine lv_iload_n (pc := 38) hx hb dX8_fee_38 rfl (lv_at hl 1 rfl) ?_
        obtain ⟨r12, m12, c12, h⟩ := xb_inv h
        refine xc_iV (pc := 39) (As := [.int _, .int _, .int _]) (rest := []) ⟨hx, hb, hml, hown, hts⟩ (mX8_refuses hF _ _ _ _ k0 c12) (xcwV 3 hts fdX8_refuses q_m_X8_71 ⟨Nat.le_of_ble_eq_true rfl, Nat.le_of_ble_eq_true rfl⟩) (xRecv hK hR (ci := 12) rfl k0.1) hR hK hE hS rfl hl.1 rfl (Nat.le_of_ble_eq_true rfl) dX8_fee_39 ⟨Nat.zero_le _, Nat.zero_le _⟩ (fun H locs hR hS => ?_)
        exact xf_i (pc := 42) hx hb hr rfl hlocks h hR hK hS dX8_fee_42
    · have h := xneg c9 h
      refine lv_iconst (pc := 22) hx hb dX8_fee_22 kc_0 ?_
      exact xf_i (pc := 23) hx hb hr rfl hlocks h hR hK hS dX8_fee_23
set_option maxHeartbeats 1000000 in
set_option maxRecDepth 20000 in
theorem wX8_goesBy_14 {p : Program} {l : Launch} {e : Env} {s : State} {m : MethodId} {args : Array Value} {below : List Frame} {meth : Method} {c : Code} {D : va_G} {ca : Nat → ClassId} {z : Nat} {G : xG} {X : va_W} {ad av : Nat → Nat} (hF : xFix z G X) (h0 : Nat) (k0 : xI_Model G h0) (hx : p.tables.exec = Jvm.exec) (hb : c.code = cX8_goesBy) (hr : meth.sig.returnType = (some .int)) (hml : c.maxLocals = 3) (hlocks : meth.locks = false) (hts : ∀ w ∈ xAll, w.before args s = true) (hown : s.vm.findClass RX8 = some m.cls) (hK : va_K D vwCl (xT ca) s) (hE : xEv z ad av s s.heap) {μ1 : xM} {r : Int32} :
    ∀ (n : Nat) (x1 : Int32) (x2 : Int32) (μ : xM) (H : Heap) (locs : List Loc) (ls : Array Slot), lX8_goesBy_14 h0 n x1 x2 μ = some (r, μ1) → xRep D ca G X μ H → va_S (fun q => z ≤ q) s.heap H locs → lv_has ls 3 [(0, .ref h0), (1, .int x1), (2, .int x2)] → W p l e (xRm 2 0 0) s m args below meth c H locs 0 0 (MQ below (va_Qi (fun (r' : Int32) (_ : Unit) => r' = r) (fun _ t => xB D ca G X μ1 t) (fun q => z ≤ q)) args s 0 0 (fun q => z ≤ q)) (F0 m 14 ls []) := by
  intro n
  induction n with
  | zero => intro x1 x2 μ H locs ls h; cases h
  | succ n ih =>
    intro x1 x2 μ H locs ls h hR hS hl
    rw [lX8_goesBy_14] at h
    refine lv_iload_n (pc := 14) hx hb dX8_goesBy_14 rfl (lv_at hl 2 rfl) ?_
    refine lv_aload_n (pc := 15) hx hb dX8_goesBy_15 rfl (lv_at hl 0 rfl) ?_
    refine xr_getR (pc := 16) (ci := 12) hx hb hts inX8 hown hK hR rfl k0.1 0 (Nat.le_of_ble_eq_true rfl) rfl k0.2.1.1 (hts _ q_f_X8_7) (fun _ h9 => h9) dX8_goesBy_16 ?_
    refine lv_iconst (pc := 19) hx hb dX8_goesBy_19 kc_1 ?_
    refine xr_ialdk (pc := 20) 1 hx hb hK hR k0.2.1.2.1 k0.2.1.2.2 tn_1 (vl_1 (by decide)) dX8_goesBy_20 ?_
    refine lv_icmp_ge (pc := 21) (tgt := 184) hx hb dX8_goesBy_21 (by decide) (fun c1 => ?_) (fun c1 => ?_)
    · have h := xpos c1 h
      refine lv_iload_n (pc := 184) hx hb dX8_goesBy_184 rfl (lv_at hl 1 rfl) ?_
      exact xf_i (pc := 185) hx hb hr rfl hlocks h hR hK hS dX8_goesBy_185
    · have h := xneg c1 h
      refine lv_aload_n (pc := 24) hx hb dX8_goesBy_24 rfl (lv_at hl 0 rfl) ?_
      refine lv_iload_n (pc := 25) hx hb dX8_goesBy_25 rfl (lv_at hl 2 rfl) ?_
      refine lv_iconst (pc := 26) hx hb dX8_goesBy_26 kc_4 ?_
      obtain ⟨r2, m2, c2, h⟩ := xb_inv h
      refine xc_iV (pc := 27) (As := [.int _, .int _]) (rest := []) ⟨hx, hb, hml, hown, hts⟩ (mX8_of hF _ _ _ k0 c2) (xcwV 2 hts fdX8_of q_m_X8_63 ⟨Nat.le_of_ble_eq_true rfl, Nat.le_of_ble_eq_true rfl⟩) (xRecv hK hR (ci := 12) rfl k0.1) hR hK hE hS rfl hl.1 rfl (Nat.le_of_ble_eq_true rfl) dX8_goesBy_27 ⟨Nat.zero_le _, Nat.zero_le _⟩ (fun H locs hR hS => ?_)
      refine lv_iconst (pc := 30) hx hb dX8_goesBy_30 kc_1 ?_
      refine lv_icmp_ne (pc := 31) (tgt := 59) hx hb dX8_goesBy_31 (by decide) (fun c3 => ?_) (fun c3 => ?_)
      · have h := xneg c3 h
        refine lv_aload_n (pc := 59) hx hb dX8_goesBy_59 rfl (lv_at hl 0 rfl) ?_
        refine lv_iload_n (pc := 60) hx hb dX8_goesBy_60 rfl (lv_at hl 2 rfl) ?_
        refine lv_iconst (pc := 61) hx hb dX8_goesBy_61 kc_4 ?_
        obtain ⟨r4, m4, c4, h⟩ := xb_inv h
        refine xc_iV (pc := 62) (As := [.int _, .int _]) (rest := []) ⟨hx, hb, hml, hown, hts⟩ (mX8_of hF _ _ _ k0 c4) (xcwV 2 hts fdX8_of q_m_X8_63 ⟨Nat.le_of_ble_eq_true rfl, Nat.le_of_ble_eq_true rfl⟩) (xRecv hK hR (ci := 12) rfl k0.1) hR hK hE hS rfl hl.1 rfl (Nat.le_of_ble_eq_true rfl) dX8_goesBy_62 ⟨Nat.zero_le _, Nat.zero_le _⟩ (fun H locs hR hS => ?_)
        refine lv_if_eq (pc := 65) (tgt := 71) hx hb dX8_goesBy_65 (by decide) (fun c5 => ?_) (fun c5 => ?_)
        · have h := xpos c5 h
          refine lv_aload_n (pc := 71) hx hb dX8_goesBy_71 rfl (lv_at hl 0 rfl) ?_
          refine lv_iload_n (pc := 72) hx hb dX8_goesBy_72 rfl (lv_at hl 2 rfl) ?_
          refine lv_iconst (pc := 73) hx hb dX8_goesBy_73 kc_3 ?_
          refine lv_aload_n (pc := 74) hx hb dX8_goesBy_74 rfl (lv_at hl 0 rfl) ?_
          refine lv_iload_n (pc := 75) hx hb dX8_goesBy_75 rfl (lv_at hl 2 rfl) ?_
          refine lv_iconst (pc := 76) hx hb dX8_goesBy_76 kc_3 ?_
          obtain ⟨r6, m6, c6, h⟩ := xb_inv h
          refine xc_iV (pc := 77) (As := [.int _, .int _]) (rest := [.int _, .int _, .ref _]) ⟨hx, hb, hml, hown, hts⟩ (mX8_of hF _ _ _ k0 c6) (xcwV 2 hts fdX8_of q_m_X8_63 ⟨Nat.le_of_ble_eq_true rfl, Nat.le_of_ble_eq_true rfl⟩) (xRecv hK hR (ci := 12) rfl k0.1) hR hK hE hS rfl hl.1 rfl (Nat.le_of_ble_eq_true rfl) dX8_goesBy_77 ⟨Nat.zero_le _, Nat.zero_le _⟩ (fun H locs hR hS => ?_)
          refine lv_aload_n (pc := 80) hx hb dX8_goesBy_80 rfl (lv_at hl 0 rfl) ?_
          refine lv_iload_n (pc := 81) hx hb dX8_goesBy_81 rfl (lv_at hl 2 rfl) ?_
          obtain ⟨r7, m7, c7, h⟩ := xb_inv h
          refine xc_iV (pc := 82) (As := [.int _]) (rest := [.int _, .int _, .int _, .ref _]) ⟨hx, hb, hml, hown, hts⟩ (mX8_weekly hF _ _ k0 c7) (xcwV 1 hts fdX8_weekly q_m_X8_83 ⟨Nat.le_of_ble_eq_true rfl, Nat.le_of_ble_eq_true rfl⟩) (xRecv hK hR (ci := 12) rfl k0.1) hR hK hE hS rfl hl.1 rfl (Nat.le_of_ble_eq_true rfl) dX8_goesBy_82 ⟨Nat.zero_le _, Nat.zero_le _⟩ (fun H locs hR hS => ?_)
          refine lv_iadd (pc := 85) hx hb dX8_goesBy_85 ?_
          obtain ⟨m8, c8, h⟩ := xbv_inv h
          refine xc_vV (pc := 86) (As := [.int _, .int _, .int _]) (rest := []) ⟨hx, hb, hml, hown, hts⟩ (mX8_lays hF _ _ _ _ k0 c8) (xcwV 3 hts fdX8_lays q_m_X8_79 ⟨Nat.le_of_ble_eq_true rfl, Nat.le_of_ble_eq_true rfl⟩) (xRecv hK hR (ci := 12) rfl k0.1) hR hK hE hS rfl hl.1 rfl (Nat.le_of_ble_eq_true rfl) dX8_goesBy_86 ⟨Nat.zero_le _, Nat.zero_le _⟩ (fun H locs hR hS => ?_)
          refine lv_aload_n (pc := 89) hx hb dX8_goesBy_89 rfl (lv_at hl 0 rfl) ?_
          refine xr_getR (pc := 90) (ci := 12) hx hb hts inX8 hown hK hR rfl k0.1 0 (Nat.le_of_ble_eq_true rfl) rfl k0.2.1.1 (hts _ q_f_X8_7) (fun _ h9 => h9) dX8_goesBy_90 ?_
          refine lv_iconst (pc := 93) hx hb dX8_goesBy_93 kc_0 ?_
          refine xr_ialdk (pc := 94) 0 hx hb hK hR k0.2.1.2.1 k0.2.1.2.2 tn_0 (vl_0 (by decide)) dX8_goesBy_94 ?_
          refine lv_aload_n (pc := 95) hx hb dX8_goesBy_95 rfl (lv_at hl 0 rfl) ?_
          refine lv_iload_n (pc := 96) hx hb dX8_goesBy_96 rfl (lv_at hl 2 rfl) ?_
          refine lv_iconst (pc := 97) hx hb dX8_goesBy_97 kc_5 ?_
          obtain ⟨r9, m9, c9, h⟩ := xb_inv h
          refine xc_iV (pc := 98) (As := [.int _, .int _]) (rest := [.int _]) ⟨hx, hb, hml, hown, hts⟩ (mX8_of hF _ _ _ k0 c9) (xcwV 2 hts fdX8_of q_m_X8_63 ⟨Nat.le_of_ble_eq_true rfl, Nat.le_of_ble_eq_true rfl⟩) (xRecv hK hR (ci := 12) rfl k0.1) hR hK hE hS rfl hl.1 rfl (Nat.le_of_ble_eq_true rfl) dX8_goesBy_98 ⟨Nat.zero_le _, Nat.zero_le _⟩ (fun H locs hR hS => ?_)
          refine lv_isub (pc := 101) hx hb dX8_goesBy_101 ?_
          refine lv_bipush (pc := 102) hx hb dX8_goesBy_102 kb_9 ?_
          refine lv_icmp_ge (pc := 104) (tgt := 110) hx hb dX8_goesBy_104 (by decide) (fun c10 => ?_) (fun c10 => ?_)
          · have h := xpos c10 h
            refine lv_aload_n (pc := 110) hx hb dX8_goesBy_110 rfl (lv_at hl 0 rfl) ?_
            refine lv_iload_n (pc := 111) hx hb dX8_goesBy_111 rfl (lv_at hl 2 rfl) ?_
            refine lv_iconst (pc := 112) hx hb dX8_goesBy_112 kc_4 ?_
            refine lv_iconst (pc := 113) hx hb dX8_goesBy_113 kc_1 ?_
            obtain ⟨m11, c11, h⟩ := xbv_inv h
            refine xc_vV (pc := 114) (As := [.int _, .int _, .int _]) (rest := []) ⟨hx, hb, hml, hown, hts⟩ (mX8_lays hF _ _ _ _ k0 c11) (xcwV 3 hts fdX8_lays q_m_X8_79 ⟨Nat.le_of_ble_eq_true rfl, Nat.le_of_ble_eq_true rfl⟩) (xRecv hK hR (ci := 12) rfl k0.1) hR hK hE hS rfl hl.1 rfl (Nat.le_of_ble_eq_true rfl) dX8_goesBy_114 ⟨Nat.zero_le _, Nat.zero_le _⟩ (fun H locs hR hS => ?_)
            refine lv_aload_n (pc := 117) hx hb dX8_goesBy_117 rfl (lv_at hl 0 rfl) ?_
            refine lv_iload_n (pc := 118) hx hb dX8_goesBy_118 rfl (lv_at hl 2 rfl) ?_
            refine lv_bipush (pc := 119) hx hb dX8_goesBy_119 kb_9 ?_
            refine lv_aload_n (pc := 121) hx hb dX8_goesBy_121 rfl (lv_at hl 0 rfl) ?_
            refine lv_iload_n (pc := 122) hx hb dX8_goesBy_122 rfl (lv_at hl 2 rfl) ?_
            obtain ⟨r12, m12, c12, h⟩ := xb_inv h
            refine xc_iV (pc := 123) (As := [.int _]) (rest := [.int _, .int _, .ref _]) ⟨hx, hb, hml, hown, hts⟩ (mX8_owed hF _ _ k0 c12) (xcwV 1 hts fdX8_owed q_m_X8_87 ⟨Nat.le_of_ble_eq_true rfl, Nat.le_of_ble_eq_true rfl⟩) (xRecv hK hR (ci := 12) rfl k0.1) hR hK hE hS rfl hl.1 rfl (Nat.le_of_ble_eq_true rfl) dX8_goesBy_123 ⟨Nat.zero_le _, Nat.zero_le _⟩ (fun H locs hR hS => ?_)
            refine lv_aload_n (pc := 126) hx hb dX8_goesBy_126 rfl (lv_at hl 0 rfl) ?_
            refine xr_getR (pc := 127) (ci := 12) hx hb hts inX8 hown hK hR rfl k0.1 0 (Nat.le_of_ble_eq_true rfl) rfl k0.2.1.1 (hts _ q_f_X8_7) (fun _ h9 => h9) dX8_goesBy_127 ?_
            refine lv_iconst (pc := 130) hx hb dX8_goesBy_130 kc_3 ?_
            refine xr_ialdk (pc := 131) 3 hx hb hK hR k0.2.1.2.1 k0.2.1.2.2 tn_3 (vl_3 (by decide)) dX8_goesBy_131 ?_
            refine lv_iadd (pc := 132) hx hb dX8_goesBy_132 ?_
            obtain ⟨m13, c13, h⟩ := xbv_inv h
            refine xc_vV (pc := 133) (As := [.int _, .int _, .int _]) (rest := []) ⟨hx, hb, hml, hown, hts⟩ (mX8_lays hF _ _ _ _ k0 c13) (xcwV 3 hts fdX8_lays q_m_X8_79 ⟨Nat.le_of_ble_eq_true rfl, Nat.le_of_ble_eq_true rfl⟩) (xRecv hK hR (ci := 12) rfl k0.1) hR hK hE hS rfl hl.1 rfl (Nat.le_of_ble_eq_true rfl) dX8_goesBy_133 ⟨Nat.zero_le _, Nat.zero_le _⟩ (fun H locs hR hS => ?_)
            refine lv_aload_n (pc := 136) hx hb dX8_goesBy_136 rfl (lv_at hl 0 rfl) ?_
            refine lv_iload_n (pc := 137) hx hb dX8_goesBy_137 rfl (lv_at hl 2 rfl) ?_
            refine lv_bipush (pc := 138) hx hb dX8_goesBy_138 kb_7 ?_
            refine lv_aload_n (pc := 140) hx hb dX8_goesBy_140 rfl (lv_at hl 0 rfl) ?_
            refine lv_iload_n (pc := 141) hx hb dX8_goesBy_141 rfl (lv_at hl 2 rfl) ?_
            refine lv_bipush (pc := 142) hx hb dX8_goesBy_142 kb_9 ?_
            obtain ⟨r14, m14, c14, h⟩ := xb_inv h
            refine xc_iV (pc := 144) (As := [.int _, .int _]) (rest := [.int _, .int _, .ref _]) ⟨hx, hb, hml, hown, hts⟩ (mX8_of hF _ _ _ k0 c14) (xcwV 2 hts fdX8_of q_m_X8_63 ⟨Nat.le_of_ble_eq_true rfl, Nat.le_of_ble_eq_true rfl⟩) (xRecv hK hR (ci := 12) rfl k0.1) hR hK hE hS rfl hl.1 rfl (Nat.le_of_ble_eq_true rfl) dX8_goesBy_144 ⟨Nat.zero_le _, Nat.zero_le _⟩ (fun H locs hR hS => ?_)
            obtain ⟨m15, c15, h⟩ := xbv_inv h
            refine xc_vV (pc := 147) (As := [.int _, .int _, .int _]) (rest := []) ⟨hx, hb, hml, hown, hts⟩ (mX8_lays hF _ _ _ _ k0 c15) (xcwV 3 hts fdX8_lays q_m_X8_79 ⟨Nat.le_of_ble_eq_true rfl, Nat.le_of_ble_eq_true rfl⟩) (xRecv hK hR (ci := 12) rfl k0.1) hR hK hE hS rfl hl.1 rfl (Nat.le_of_ble_eq_true rfl) dX8_goesBy_147 ⟨Nat.zero_le _, Nat.zero_le _⟩ (fun H locs hR hS => ?_)
            refine lv_aload_n (pc := 150) hx hb dX8_goesBy_150 rfl (lv_at hl 0 rfl) ?_
            refine lv_iload_n (pc := 151) hx hb dX8_goesBy_151 rfl (lv_at hl 2 rfl) ?_
            refine lv_bipush (pc := 152) hx hb dX8_goesBy_152 kb_10 ?_
            refine lv_aload_n (pc := 154) hx hb dX8_goesBy_154 rfl (lv_at hl 0 rfl) ?_
            refine xr_getR (pc := 155) (ci := 12) hx hb hts inX8 hown hK hR rfl k0.1 0 (Nat.le_of_ble_eq_true rfl) rfl k0.2.1.1 (hts _ q_f_X8_7) (fun _ h9 => h9) dX8_goesBy_155 ?_
            refine lv_bipush (pc := 158) hx hb dX8_goesBy_158 kb_10 ?_
            refine xr_ialdk (pc := 160) 10 hx hb hK hR k0.2.1.2.1 k0.2.1.2.2 tn_10 (vl_10 (by decide)) dX8_goesBy_160 ?_
            obtain ⟨m16, c16, h⟩ := xbv_inv h
            refine xc_vV (pc := 161) (As := [.int _, .int _, .int _]) (rest := []) ⟨hx, hb, hml, hown, hts⟩ (mX8_lays hF _ _ _ _ k0 c16) (xcwV 3 hts fdX8_lays q_m_X8_79 ⟨Nat.le_of_ble_eq_true rfl, Nat.le_of_ble_eq_true rfl⟩) (xRecv hK hR (ci := 12) rfl k0.1) hR hK hE hS rfl hl.1 rfl (Nat.le_of_ble_eq_true rfl) dX8_goesBy_161 ⟨Nat.zero_le _, Nat.zero_le _⟩ (fun H locs hR hS => ?_)
            refine lv_aload_n (pc := 164) hx hb dX8_goesBy_164 rfl (lv_at hl 0 rfl) ?_
            refine xr_getR (pc := 165) (ci := 12) hx hb hts inX8 hown hK hR rfl k0.1 0 (Nat.le_of_ble_eq_true rfl) rfl k0.2.1.1 (hts _ q_f_X8_7) (fun _ h9 => h9) dX8_goesBy_165 ?_
            refine lv_bipush (pc := 168) hx hb dX8_goesBy_168 kb_10 ?_
            refine lv_dup2_11 (pc := 170) hx hb dX8_goesBy_170 rfl rfl ?_
            refine xr_ialdk (pc := 171) 10 hx hb hK hR k0.2.1.2.1 k0.2.1.2.2 tn_10 (vl_10 (by decide)) dX8_goesBy_171 ?_
            refine lv_iconst (pc := 172) hx hb dX8_goesBy_172 kc_1 ?_
            refine lv_iadd (pc := 173) hx hb dX8_goesBy_173 ?_
            refine xr_iastk (pc := 174) 10 hx hb hK hR hF hS k0.2.1.2.1 k0.2.1.2.2 tn_10 (vl_10 (by decide)) dX8_goesBy_174 (fun H locs hR hS => ?_)
            refine lv_iinc (pc := 175) (lv' := [(1, .int _), (0, .ref _), (2, .int _)]) hx hb dX8_goesBy_175 hl (k := 1) rfl (xinc kc_1) (Nat.le_of_ble_eq_true rfl) rfl (fun ls hl => ?_)
            refine lv_iinc (pc := 178) (lv' := [(2, .int _), (1, .int _), (0, .ref _)]) hx hb dX8_goesBy_178 hl (k := 2) rfl (xinc kc_1) (Nat.le_of_ble_eq_true rfl) rfl (fun ls hl => ?_)
            refine lv_goto (pc := 181) (tgt := 14) hx hb dX8_goesBy_181 (by decide) ?_
            exact ih _ _ _ _ _ _ h hR hS (lv_sub hl [2, 1, 0] rfl)
          · have h := xneg c10 h
            refine lv_goto (pc := 107) (tgt := 178) hx hb dX8_goesBy_107 (by decide) ?_
            refine lv_iinc (pc := 178) (lv' := [(2, .int _), (0, .ref _), (1, .int _)]) hx hb dX8_goesBy_178 hl (k := 2) rfl (xinc kc_1) (Nat.le_of_ble_eq_true rfl) rfl (fun ls hl => ?_)
            refine lv_goto (pc := 181) (tgt := 14) hx hb dX8_goesBy_181 (by decide) ?_
            exact ih _ _ _ _ _ _ h hR hS (lv_sub hl [1, 2, 0] rfl)
        · have h := xneg c5 h
          refine lv_goto (pc := 68) (tgt := 178) hx hb dX8_goesBy_68 (by decide) ?_
          refine lv_iinc (pc := 178) (lv' := [(2, .int _), (0, .ref _), (1, .int _)]) hx hb dX8_goesBy_178 hl (k := 2) rfl (xinc kc_1) (Nat.le_of_ble_eq_true rfl) rfl (fun ls hl => ?_)
          refine lv_goto (pc := 181) (tgt := 14) hx hb dX8_goesBy_181 (by decide) ?_
          exact ih _ _ _ _ _ _ h hR hS (lv_sub hl [1, 2, 0] rfl)
      · have h := xpos c3 h
        refine lv_aload_n (pc := 34) hx hb dX8_goesBy_34 rfl (lv_at hl 0 rfl) ?_
        refine lv_iload_n (pc := 35) hx hb dX8_goesBy_35 rfl (lv_at hl 2 rfl) ?_
        refine lv_bipush (pc := 36) hx hb dX8_goesBy_36 kb_7 ?_
        refine lv_aload_n (pc := 38) hx hb dX8_goesBy_38 rfl (lv_at hl 0 rfl) ?_
        refine lv_iload_n (pc := 39) hx hb dX8_goesBy_39 rfl (lv_at hl 2 rfl) ?_
        refine lv_bipush (pc := 40) hx hb dX8_goesBy_40 kb_7 ?_
        obtain ⟨r17, m17, c17, h⟩ := xb_inv h
        refine xc_iV (pc := 42) (As := [.int _, .int _]) (rest := [.int _, .int _, .ref _]) ⟨hx, hb, hml, hown, hts⟩ (mX8_of hF _ _ _ k0 c17) (xcwV 2 hts fdX8_of q_m_X8_63 ⟨Nat.le_of_ble_eq_true rfl, Nat.le_of_ble_eq_true rfl⟩) (xRecv hK hR (ci := 12) rfl k0.1) hR hK hE hS rfl hl.1 rfl (Nat.le_of_ble_eq_true rfl) dX8_goesBy_42 ⟨Nat.zero_le _, Nat.zero_le _⟩ (fun H locs hR hS => ?_)
        refine lv_aload_n (pc := 45) hx hb dX8_goesBy_45 rfl (lv_at hl 0 rfl) ?_
        refine lv_iload_n (pc := 46) hx hb dX8_goesBy_46 rfl (lv_at hl 2 rfl) ?_
        refine lv_bipush (pc := 47) hx hb dX8_goesBy_47 kb_7 ?_
        obtain ⟨r18, m18, c18, h⟩ := xb_inv h
        refine xc_iV (pc := 49) (As := [.int _, .int _]) (rest := [.int _, .int _, .int _, .ref _]) ⟨hx, hb, hml, hown, hts⟩ (mX8_of hF _ _ _ k0 c18) (xcwV 2 hts fdX8_of q_m_X8_63 ⟨Nat.le_of_ble_eq_true rfl, Nat.le_of_ble_eq_true rfl⟩) (xRecv hK hR (ci := 12) rfl k0.1) hR hK hE hS rfl hl.1 rfl (Nat.le_of_ble_eq_true rfl) dX8_goesBy_49 ⟨Nat.zero_le _, Nat.zero_le _⟩ (fun H locs hR hS => ?_)
        refine lv_bipush (pc := 52) hx hb dX8_goesBy_52 kb_10 ?_
        refine lv_idiv (pc := 54) hx hb dX8_goesBy_54 (by decide) ?_
        refine lv_isub (pc := 55) hx hb dX8_goesBy_55 ?_
        obtain ⟨m19, c19, h⟩ := xbv_inv h
        refine xc_vV (pc := 56) (As := [.int _, .int _, .int _]) (rest := []) ⟨hx, hb, hml, hown, hts⟩ (mX8_lays hF _ _ _ _ k0 c19) (xcwV 3 hts fdX8_lays q_m_X8_79 ⟨Nat.le_of_ble_eq_true rfl, Nat.le_of_ble_eq_true rfl⟩) (xRecv hK hR (ci := 12) rfl k0.1) hR hK hE hS rfl hl.1 rfl (Nat.le_of_ble_eq_true rfl) dX8_goesBy_56 ⟨Nat.zero_le _, Nat.zero_le _⟩ (fun H locs hR hS => ?_)
        refine lv_aload_n (pc := 59) hx hb dX8_goesBy_59 rfl (lv_at hl 0 rfl) ?_
        refine lv_iload_n (pc := 60) hx hb dX8_goesBy_60 rfl (lv_at hl 2 rfl) ?_
        refine lv_iconst (pc := 61) hx hb dX8_goesBy_61 kc_4 ?_
        obtain ⟨r20, m20, c20, h⟩ := xb_inv h
        refine xc_iV (pc := 62) (As := [.int _, .int _]) (rest := []) ⟨hx, hb, hml, hown, hts⟩ (mX8_of hF _ _ _ k0 c20) (xcwV 2 hts fdX8_of q_m_X8_63 ⟨Nat.le_of_ble_eq_true rfl, Nat.le_of_ble_eq_true rfl⟩) (xRecv hK hR (ci := 12) rfl k0.1) hR hK hE hS rfl hl.1 rfl (Nat.le_of_ble_eq_true rfl) dX8_goesBy_62 ⟨Nat.zero_le _, Nat.zero_le _⟩ (fun H locs hR hS => ?_)
        refine lv_if_eq (pc := 65) (tgt := 71) hx hb dX8_goesBy_65 (by decide) (fun c21 => ?_) (fun c21 => ?_)
        · have h := xpos c21 h
          refine lv_aload_n (pc := 71) hx hb dX8_goesBy_71 rfl (lv_at hl 0 rfl) ?_
          refine lv_iload_n (pc := 72) hx hb dX8_goesBy_72 rfl (lv_at hl 2 rfl) ?_
          refine lv_iconst (pc := 73) hx hb dX8_goesBy_73 kc_3 ?_
          refine lv_aload_n (pc := 74) hx hb dX8_goesBy_74 rfl (lv_at hl 0 rfl) ?_
          refine lv_iload_n (pc := 75) hx hb dX8_goesBy_75 rfl (lv_at hl 2 rfl) ?_
          refine lv_iconst (pc := 76) hx hb dX8_goesBy_76 kc_3 ?_
          obtain ⟨r22, m22, c22, h⟩ := xb_inv h
          refine xc_iV (pc := 77) (As := [.int _, .int _]) (rest := [.int _, .int _, .ref _]) ⟨hx, hb, hml, hown, hts⟩ (mX8_of hF _ _ _ k0 c22) (xcwV 2 hts fdX8_of q_m_X8_63 ⟨Nat.le_of_ble_eq_true rfl, Nat.le_of_ble_eq_true rfl⟩) (xRecv hK hR (ci := 12) rfl k0.1) hR hK hE hS rfl hl.1 rfl (Nat.le_of_ble_eq_true rfl) dX8_goesBy_77 ⟨Nat.zero_le _, Nat.zero_le _⟩ (fun H locs hR hS => ?_)
          refine lv_aload_n (pc := 80) hx hb dX8_goesBy_80 rfl (lv_at hl 0 rfl) ?_
          refine lv_iload_n (pc := 81) hx hb dX8_goesBy_81 rfl (lv_at hl 2 rfl) ?_
          obtain ⟨r23, m23, c23, h⟩ := xb_inv h
          refine xc_iV (pc := 82) (As := [.int _]) (rest := [.int _, .int _, .int _, .ref _]) ⟨hx, hb, hml, hown, hts⟩ (mX8_weekly hF _ _ k0 c23) (xcwV 1 hts fdX8_weekly q_m_X8_83 ⟨Nat.le_of_ble_eq_true rfl, Nat.le_of_ble_eq_true rfl⟩) (xRecv hK hR (ci := 12) rfl k0.1) hR hK hE hS rfl hl.1 rfl (Nat.le_of_ble_eq_true rfl) dX8_goesBy_82 ⟨Nat.zero_le _, Nat.zero_le _⟩ (fun H locs hR hS => ?_)
          refine lv_iadd (pc := 85) hx hb dX8_goesBy_85 ?_
          obtain ⟨m24, c24, h⟩ := xbv_inv h
          refine xc_vV (pc := 86) (As := [.int _, .int _, .int _]) (rest := []) ⟨hx, hb, hml, hown, hts⟩ (mX8_lays hF _ _ _ _ k0 c24) (xcwV 3 hts fdX8_lays q_m_X8_79 ⟨Nat.le_of_ble_eq_true rfl, Nat.le_of_ble_eq_true rfl⟩) (xRecv hK hR (ci := 12) rfl k0.1) hR hK hE hS rfl hl.1 rfl (Nat.le_of_ble_eq_true rfl) dX8_goesBy_86 ⟨Nat.zero_le _, Nat.zero_le _⟩ (fun H locs hR hS => ?_)
          refine lv_aload_n (pc := 89) hx hb dX8_goesBy_89 rfl (lv_at hl 0 rfl) ?_
          refine xr_getR (pc := 90) (ci := 12) hx hb hts inX8 hown hK hR rfl k0.1 0 (Nat.le_of_ble_eq_true rfl) rfl k0.2.1.1 (hts _ q_f_X8_7) (fun _ h9 => h9) dX8_goesBy_90 ?_
          refine lv_iconst (pc := 93) hx hb dX8_goesBy_93 kc_0 ?_
          refine xr_ialdk (pc := 94) 0 hx hb hK hR k0.2.1.2.1 k0.2.1.2.2 tn_0 (vl_0 (by decide)) dX8_goesBy_94 ?_
          refine lv_aload_n (pc := 95) hx hb dX8_goesBy_95 rfl (lv_at hl 0 rfl) ?_
          refine lv_iload_n (pc := 96) hx hb dX8_goesBy_96 rfl (lv_at hl 2 rfl) ?_
          refine lv_iconst (pc := 97) hx hb dX8_goesBy_97 kc_5 ?_
          obtain ⟨r25, m25, c25, h⟩ := xb_inv h
          refine xc_iV (pc := 98) (As := [.int _, .int _]) (rest := [.int _]) ⟨hx, hb, hml, hown, hts⟩ (mX8_of hF _ _ _ k0 c25) (xcwV 2 hts fdX8_of q_m_X8_63 ⟨Nat.le_of_ble_eq_true rfl, Nat.le_of_ble_eq_true rfl⟩) (xRecv hK hR (ci := 12) rfl k0.1) hR hK hE hS rfl hl.1 rfl (Nat.le_of_ble_eq_true rfl) dX8_goesBy_98 ⟨Nat.zero_le _, Nat.zero_le _⟩ (fun H locs hR hS => ?_)
          refine lv_isub (pc := 101) hx hb dX8_goesBy_101 ?_
          refine lv_bipush (pc := 102) hx hb dX8_goesBy_102 kb_9 ?_
          refine lv_icmp_ge (pc := 104) (tgt := 110) hx hb dX8_goesBy_104 (by decide) (fun c26 => ?_) (fun c26 => ?_)
          · have h := xpos c26 h
            refine lv_aload_n (pc := 110) hx hb dX8_goesBy_110 rfl (lv_at hl 0 rfl) ?_
            refine lv_iload_n (pc := 111) hx hb dX8_goesBy_111 rfl (lv_at hl 2 rfl) ?_
            refine lv_iconst (pc := 112) hx hb dX8_goesBy_112 kc_4 ?_
            refine lv_iconst (pc := 113) hx hb dX8_goesBy_113 kc_1 ?_
            obtain ⟨m27, c27, h⟩ := xbv_inv h
            refine xc_vV (pc := 114) (As := [.int _, .int _, .int _]) (rest := []) ⟨hx, hb, hml, hown, hts⟩ (mX8_lays hF _ _ _ _ k0 c27) (xcwV 3 hts fdX8_lays q_m_X8_79 ⟨Nat.le_of_ble_eq_true rfl, Nat.le_of_ble_eq_true rfl⟩) (xRecv hK hR (ci := 12) rfl k0.1) hR hK hE hS rfl hl.1 rfl (Nat.le_of_ble_eq_true rfl) dX8_goesBy_114 ⟨Nat.zero_le _, Nat.zero_le _⟩ (fun H locs hR hS => ?_)
            refine lv_aload_n (pc := 117) hx hb dX8_goesBy_117 rfl (lv_at hl 0 rfl) ?_
            refine lv_iload_n (pc := 118) hx hb dX8_goesBy_118 rfl (lv_at hl 2 rfl) ?_
            refine lv_bipush (pc := 119) hx hb dX8_goesBy_119 kb_9 ?_
            refine lv_aload_n (pc := 121) hx hb dX8_goesBy_121 rfl (lv_at hl 0 rfl) ?_
            refine lv_iload_n (pc := 122) hx hb dX8_goesBy_122 rfl (lv_at hl 2 rfl) ?_
            obtain ⟨r28, m28, c28, h⟩ := xb_inv h
            refine xc_iV (pc := 123) (As := [.int _]) (rest := [.int _, .int _, .ref _]) ⟨hx, hb, hml, hown, hts⟩ (mX8_owed hF _ _ k0 c28) (xcwV 1 hts fdX8_owed q_m_X8_87 ⟨Nat.le_of_ble_eq_true rfl, Nat.le_of_ble_eq_true rfl⟩) (xRecv hK hR (ci := 12) rfl k0.1) hR hK hE hS rfl hl.1 rfl (Nat.le_of_ble_eq_true rfl) dX8_goesBy_123 ⟨Nat.zero_le _, Nat.zero_le _⟩ (fun H locs hR hS => ?_)
            refine lv_aload_n (pc := 126) hx hb dX8_goesBy_126 rfl (lv_at hl 0 rfl) ?_
            refine xr_getR (pc := 127) (ci := 12) hx hb hts inX8 hown hK hR rfl k0.1 0 (Nat.le_of_ble_eq_true rfl) rfl k0.2.1.1 (hts _ q_f_X8_7) (fun _ h9 => h9) dX8_goesBy_127 ?_
            refine lv_iconst (pc := 130) hx hb dX8_goesBy_130 kc_3 ?_
            refine xr_ialdk (pc := 131) 3 hx hb hK hR k0.2.1.2.1 k0.2.1.2.2 tn_3 (vl_3 (by decide)) dX8_goesBy_131 ?_
            refine lv_iadd (pc := 132) hx hb dX8_goesBy_132 ?_
            obtain ⟨m29, c29, h⟩ := xbv_inv h
            refine xc_vV (pc := 133) (As := [.int _, .int _, .int _]) (rest := []) ⟨hx, hb, hml, hown, hts⟩ (mX8_lays hF _ _ _ _ k0 c29) (xcwV 3 hts fdX8_lays q_m_X8_79 ⟨Nat.le_of_ble_eq_true rfl, Nat.le_of_ble_eq_true rfl⟩) (xRecv hK hR (ci := 12) rfl k0.1) hR hK hE hS rfl hl.1 rfl (Nat.le_of_ble_eq_true rfl) dX8_goesBy_133 ⟨Nat.zero_le _, Nat.zero_le _⟩ (fun H locs hR hS => ?_)
            refine lv_aload_n (pc := 136) hx hb dX8_goesBy_136 rfl (lv_at hl 0 rfl) ?_
            refine lv_iload_n (pc := 137) hx hb dX8_goesBy_137 rfl (lv_at hl 2 rfl) ?_
            refine lv_bipush (pc := 138) hx hb dX8_goesBy_138 kb_7 ?_
            refine lv_aload_n (pc := 140) hx hb dX8_goesBy_140 rfl (lv_at hl 0 rfl) ?_
            refine lv_iload_n (pc := 141) hx hb dX8_goesBy_141 rfl (lv_at hl 2 rfl) ?_
            refine lv_bipush (pc := 142) hx hb dX8_goesBy_142 kb_9 ?_
            obtain ⟨r30, m30, c30, h⟩ := xb_inv h
            refine xc_iV (pc := 144) (As := [.int _, .int _]) (rest := [.int _, .int _, .ref _]) ⟨hx, hb, hml, hown, hts⟩ (mX8_of hF _ _ _ k0 c30) (xcwV 2 hts fdX8_of q_m_X8_63 ⟨Nat.le_of_ble_eq_true rfl, Nat.le_of_ble_eq_true rfl⟩) (xRecv hK hR (ci := 12) rfl k0.1) hR hK hE hS rfl hl.1 rfl (Nat.le_of_ble_eq_true rfl) dX8_goesBy_144 ⟨Nat.zero_le _, Nat.zero_le _⟩ (fun H locs hR hS => ?_)
            obtain ⟨m31, c31, h⟩ := xbv_inv h
            refine xc_vV (pc := 147) (As := [.int _, .int _, .int _]) (rest := []) ⟨hx, hb, hml, hown, hts⟩ (mX8_lays hF _ _ _ _ k0 c31) (xcwV 3 hts fdX8_lays q_m_X8_79 ⟨Nat.le_of_ble_eq_true rfl, Nat.le_of_ble_eq_true rfl⟩) (xRecv hK hR (ci := 12) rfl k0.1) hR hK hE hS rfl hl.1 rfl (Nat.le_of_ble_eq_true rfl) dX8_goesBy_147 ⟨Nat.zero_le _, Nat.zero_le _⟩ (fun H locs hR hS => ?_)
            refine lv_aload_n (pc := 150) hx hb dX8_goesBy_150 rfl (lv_at hl 0 rfl) ?_
            refine lv_iload_n (pc := 151) hx hb dX8_goesBy_151 rfl (lv_at hl 2 rfl) ?_
            refine lv_bipush (pc := 152) hx hb dX8_goesBy_152 kb_10 ?_
            refine lv_aload_n (pc := 154) hx hb dX8_goesBy_154 rfl (lv_at hl 0 rfl) ?_
            refine xr_getR (pc := 155) (ci := 12) hx hb hts inX8 hown hK hR rfl k0.1 0 (Nat.le_of_ble_eq_true rfl) rfl k0.2.1.1 (hts _ q_f_X8_7) (fun _ h9 => h9) dX8_goesBy_155 ?_
            refine lv_bipush (pc := 158) hx hb dX8_goesBy_158 kb_10 ?_
            refine xr_ialdk (pc := 160) 10 hx hb hK hR k0.2.1.2.1 k0.2.1.2.2 tn_10 (vl_10 (by decide)) dX8_goesBy_160 ?_
            obtain ⟨m32, c32, h⟩ := xbv_inv h
            refine xc_vV (pc := 161) (As := [.int _, .int _, .int _]) (rest := []) ⟨hx, hb, hml, hown, hts⟩ (mX8_lays hF _ _ _ _ k0 c32) (xcwV 3 hts fdX8_lays q_m_X8_79 ⟨Nat.le_of_ble_eq_true rfl, Nat.le_of_ble_eq_true rfl⟩) (xRecv hK hR (ci := 12) rfl k0.1) hR hK hE hS rfl hl.1 rfl (Nat.le_of_ble_eq_true rfl) dX8_goesBy_161 ⟨Nat.zero_le _, Nat.zero_le _⟩ (fun H locs hR hS => ?_)
            refine lv_aload_n (pc := 164) hx hb dX8_goesBy_164 rfl (lv_at hl 0 rfl) ?_
            refine xr_getR (pc := 165) (ci := 12) hx hb hts inX8 hown hK hR rfl k0.1 0 (Nat.le_of_ble_eq_true rfl) rfl k0.2.1.1 (hts _ q_f_X8_7) (fun _ h9 => h9) dX8_goesBy_165 ?_
            refine lv_bipush (pc := 168) hx hb dX8_goesBy_168 kb_10 ?_
            refine lv_dup2_11 (pc := 170) hx hb dX8_goesBy_170 rfl rfl ?_
            refine xr_ialdk (pc := 171) 10 hx hb hK hR k0.2.1.2.1 k0.2.1.2.2 tn_10 (vl_10 (by decide)) dX8_goesBy_171 ?_
            refine lv_iconst (pc := 172) hx hb dX8_goesBy_172 kc_1 ?_
            refine lv_iadd (pc := 173) hx hb dX8_goesBy_173 ?_
            refine xr_iastk (pc := 174) 10 hx hb hK hR hF hS k0.2.1.2.1 k0.2.1.2.2 tn_10 (vl_10 (by decide)) dX8_goesBy_174 (fun H locs hR hS => ?_)
            refine lv_iinc (pc := 175) (lv' := [(1, .int _), (0, .ref _), (2, .int _)]) hx hb dX8_goesBy_175 hl (k := 1) rfl (xinc kc_1) (Nat.le_of_ble_eq_true rfl) rfl (fun ls hl => ?_)
            refine lv_iinc (pc := 178) (lv' := [(2, .int _), (1, .int _), (0, .ref _)]) hx hb dX8_goesBy_178 hl (k := 2) rfl (xinc kc_1) (Nat.le_of_ble_eq_true rfl) rfl (fun ls hl => ?_)
            refine lv_goto (pc := 181) (tgt := 14) hx hb dX8_goesBy_181 (by decide) ?_
            exact ih _ _ _ _ _ _ h hR hS (lv_sub hl [2, 1, 0] rfl)
          · have h := xneg c26 h
            refine lv_goto (pc := 107) (tgt := 178) hx hb dX8_goesBy_107 (by decide) ?_
            refine lv_iinc (pc := 178) (lv' := [(2, .int _), (0, .ref _), (1, .int _)]) hx hb dX8_goesBy_178 hl (k := 2) rfl (xinc kc_1) (Nat.le_of_ble_eq_true rfl) rfl (fun ls hl => ?_)
            refine lv_goto (pc := 181) (tgt := 14) hx hb dX8_goesBy_181 (by decide) ?_
            exact ih _ _ _ _ _ _ h hR hS (lv_sub hl [1, 2, 0] rfl)
        · have h := xneg c21 h
          refine lv_goto (pc := 68) (tgt := 178) hx hb dX8_goesBy_68 (by decide) ?_
          refine lv_iinc (pc := 178) (lv' := [(2, .int _), (0, .ref _), (1, .int _)]) hx hb dX8_goesBy_178 hl (k := 2) rfl (xinc kc_1) (Nat.le_of_ble_eq_true rfl) rfl (fun ls hl => ?_)
          refine lv_goto (pc := 181) (tgt := 14) hx hb dX8_goesBy_181 (by decide) ?_
          exact ih _ _ _ _ _ _ h hR hS (lv_sub hl [1, 2, 0] rfl)
set_option maxHeartbeats 1000000 in
set_option maxRecDepth 20000 in
theorem mX8_goesBy {l : Launch} {D : va_G} {ca : Nat → ClassId} {z : Nat} {G : xG} {X : va_W} {ad av : Nat → Nat} (hF : xFix z G X) (h0 : Nat) (k0 : xI_Model G h0) {μ μ1 : xM} {r : Int32} (h : fX8_goesBy h0 μ = some (r, μ1)) : xMi l yX8_goesBy (xws yX8_goesBy cX8_goesBy 3 (some .int)) 2 D ca z G X ad av [.ref h0] μ r μ1 := by
  refine xm_i (by decide) rfl (Nat.le_of_ble_eq_true rfl) [(0, .ref h0)] rfl ?_
  intro p e s m args below meth c ls hx hb hr hml hlocks hts hown hK hE hR hS hl
  have hts : ∀ w ∈ xAll, w.before args s = true := fun w hw => hts w (List.mem_cons_of_mem _ hw)
  rw [fX8_goesBy] at h
  refine lv_iconst (pc := 0) hx hb dX8_goesBy_0 kc_0 ?_
  refine lv_istore_n (pc := 1) (lv' := [(1, .int _), (0, .ref _)]) hx hb dX8_goesBy_1 rfl hl (Nat.le_of_ble_eq_true rfl) rfl (fun ls hl => ?_)
  refine lv_aload_n (pc := 2) hx hb dX8_goesBy_2 rfl (lv_at hl 1 rfl) ?_
  refine xr_getR (pc := 3) (ci := 12) hx hb hts inX8 hown hK hR rfl k0.1 0 (Nat.le_of_ble_eq_true rfl) rfl k0.2.1.1 (hts _ q_f_X8_7) (fun _ h9 => h9) dX8_goesBy_3 ?_
  refine lv_iconst (pc := 6) hx hb dX8_goesBy_6 kc_0 ?_
  refine lv_dup2_11 (pc := 7) hx hb dX8_goesBy_7 rfl rfl ?_
  refine xr_ialdk (pc := 8) 0 hx hb hK hR k0.2.1.2.1 k0.2.1.2.2 tn_0 (vl_0 (by decide)) dX8_goesBy_8 ?_
  refine lv_iconst (pc := 9) hx hb dX8_goesBy_9 kc_1 ?_
  refine lv_iadd (pc := 10) hx hb dX8_goesBy_10 ?_
  refine xr_iastk (pc := 11) 0 hx hb hK hR hF hS k0.2.1.2.1 k0.2.1.2.2 tn_0 (vl_0 (by decide)) dX8_goesBy_11 (fun H locs hR hS => ?_)
  refine lv_iconst (pc := 12) hx hb dX8_goesBy_12 kc_0 ?_
  refine lv_istore_n (pc := 13) (lv' := [(2, .int _), (1, .int _), (0, .ref _)]) hx hb dX8_goesBy_13 rfl hl (Nat.le_of_ble_eq_true rfl) rfl (fun ls hl => ?_)
  exact wX8_goesBy_14 hF h0 k0 hx hb hr hml hlocks hts hown hK hE _ _ _ _ _ _ _ h hR hS (lv_sub hl [2, 1, 0] rfl)
set_option maxHeartbeats 1000000 in
set_option maxRecDepth 20000 in
theorem wX8_pass_36 {p : Program} {l : Launch} {e : Env} {s : State} {m : MethodId} {args : Array Value} {below : List Frame} {meth : Method} {c : Code} {D : va_G} {ca : Nat → ClassId} {z : Nat} {G : xG} {X : va_W} {ad av : Nat → Nat} (hF : xFix z G X) (h0 : Nat) (p1 : Int32) (k0 : xI_Model G h0) (hx : p.tables.exec = Jvm.exec) (hb : c.code = cX8_pass) (hr : meth.sig.returnType = (some .int)) (hml : c.maxLocals = 4) (hlocks : meth.locks = false) (hts : ∀ w ∈ xAll, w.before args s = true) (hown : s.vm.findClass RX8 = some m.cls) (hK : va_K D vwCl (xT ca) s) (hE : xEv z ad av s s.heap) {μ1 : xM} {r : Int32} :
    ∀ (n : Nat) (x2 : Int32) (x3 : Int32) (μ : xM) (H : Heap) (locs : List Loc) (ls : Array Slot), lX8_pass_36 h0 p1 n x2 x3 μ = some (r, μ1) → xRep D ca G X μ H → va_S (fun q => z ≤ q) s.heap H locs → lv_has ls 4 [(0, .ref h0), (1, .int p1), (2, .int x2), (3, .int x3)] → W p l e (xRm 3 0 0) s m args below meth c H locs 0 0 (MQ below (va_Qi (fun (r' : Int32) (_ : Unit) => r' = r) (fun _ t => xB D ca G X μ1 t) (fun q => z ≤ q)) args s 0 0 (fun q => z ≤ q)) (F0 m 36 ls []) := by
  intro n
  induction n with
  | zero => intro x2 x3 μ H locs ls h; cases h
  | succ n ih =>
    intro x2 x3 μ H locs ls h hR hS hl
    rw [lX8_pass_36] at h
    refine lv_iload_n (pc := 36) hx hb dX8_pass_36 rfl (lv_at hl 3 rfl) ?_
    refine lv_iload_n (pc := 37) hx hb dX8_pass_37 rfl (lv_at hl 1 rfl) ?_
    refine lv_icmp_ge (pc := 38) (tgt := 54) hx hb dX8_pass_38 (by decide) (fun c6 => ?_) (fun c6 => ?_)
    · have h := xpos c6 h
      refine lv_iload_n (pc := 54) hx hb dX8_pass_54 rfl (lv_at hl 2 rfl) ?_
      exact xf_i (pc := 55) hx hb hr rfl hlocks h hR hK hS dX8_pass_55
    · have h := xneg c6 h
      refine lv_iload_n (pc := 41) hx hb dX8_pass_41 rfl (lv_at hl 2 rfl) ?_
      refine lv_aload_n (pc := 42) hx hb dX8_pass_42 rfl (lv_at hl 0 rfl) ?_
      obtain ⟨r7, m7, c7, h⟩ := xb_inv h
      refine xc_iV (pc := 43) (As := []) (rest := [.int _]) ⟨hx, hb, hml, hown, hts⟩ (mX8_goesBy hF _ k0 c7) (xcwV 0 hts fdX8_goesBy q_m_X8_90 ⟨Nat.le_of_ble_eq_true rfl, Nat.le_of_ble_eq_true rfl⟩) (xRecv hK hR (ci := 12) rfl k0.1) hR hK hE hS rfl hl.1 rfl (Nat.le_of_ble_eq_true rfl) dX8_pass_43 ⟨Nat.zero_le _, Nat.zero_le _⟩ (fun H locs hR hS => ?_)
      refine lv_iadd (pc := 46) hx hb dX8_pass_46 ?_
      refine lv_istore_n (pc := 47) (lv' := [(2, .int _), (0, .ref _), (1, .int _), (3, .int _)]) hx hb dX8_pass_47 rfl hl (Nat.le_of_ble_eq_true rfl) rfl (fun ls hl => ?_)
      refine lv_iinc (pc := 48) (lv' := [(3, .int _), (2, .int _), (0, .ref _), (1, .int _)]) hx hb dX8_pass_48 hl (k := 3) rfl (xinc kc_1) (Nat.le_of_ble_eq_true rfl) rfl (fun ls hl => ?_)
      refine lv_goto (pc := 51) (tgt := 36) hx hb dX8_pass_51 (by decide) ?_
      exact ih _ _ _ _ _ _ h hR hS (lv_sub hl [2, 3, 1, 0] rfl)
set_option maxHeartbeats 1000000 in
set_option maxRecDepth 20000 in
theorem mX8_pass {l : Launch} {D : va_G} {ca : Nat → ClassId} {z : Nat} {G : xG} {X : va_W} {ad av : Nat → Nat} (hF : xFix z G X) (h0 : Nat) (p1 : Int32) (k0 : xI_Model G h0) {μ μ1 : xM} {r : Int32} (h : fX8_pass h0 p1 μ = some (r, μ1)) : xMi l yX8_pass (xws yX8_pass cX8_pass 4 (some .int)) 3 D ca z G X ad av [.ref h0, .int p1] μ r μ1 := by
  refine xm_i (by decide) rfl (Nat.le_of_ble_eq_true rfl) [(0, .ref h0), (1, .int p1)] rfl ?_
  intro p e s m args below meth c ls hx hb hr hml hlocks hts hown hK hE hR hS hl
  have hts : ∀ w ∈ xAll, w.before args s = true := fun w hw => hts w (List.mem_cons_of_mem _ hw)
  rw [fX8_pass] at h
  refine lv_aload_n (pc := 0) hx hb dX8_pass_0 rfl (lv_at hl 0 rfl) ?_
  refine lv_iload_n (pc := 1) hx hb dX8_pass_1 rfl (lv_at hl 1 rfl) ?_
  refine lv_iconst (pc := 2) hx hb dX8_pass_2 kc_1 ?_
  refine lv_bipush (pc := 3) hx hb dX8_pass_3 kb_20 ?_
  obtain ⟨r1, m1, c1, h⟩ := xb_inv h
  refine xc_iS (pc := 5) (As := [.int _, .int _, .int _]) (rest := [.ref _]) ⟨hx, hb, hml, hown, hts⟩ (mX8_in hF _ _ _  c1) (xcwS 3 hts fdX8_in q_m_X8_59 ⟨Nat.le_of_ble_eq_true rfl, Nat.le_of_ble_eq_true rfl⟩) hR hK hE hS rfl hl.1 rfl (Nat.le_of_ble_eq_true rfl) dX8_pass_5 ⟨Nat.zero_le _, Nat.zero_le _⟩ (fun H locs hR hS => ?_)
  refine lv_if_eq (pc := 8) (tgt := 15) hx hb dX8_pass_8 (by decide) (fun c2 => ?_) (fun c2 => ?_)
  · have h := xpos c2 h
    refine lv_iconst (pc := 15) hx hb dX8_pass_15 kc_1 ?_
    obtain ⟨r3, m3, c3, h⟩ := xb_inv h
    refine xc_iV (pc := 16) (As := [.int _]) (rest := []) ⟨hx, hb, hml, hown, hts⟩ (mX8_fails hF _ _ k0 c3) (xcwV 1 hts fdX8_fails q_m_X8_67 ⟨Nat.le_of_ble_eq_true rfl, Nat.le_of_ble_eq_true rfl⟩) (xRecv hK hR (ci := 12) rfl k0.1) hR hK hE hS rfl hl.1 rfl (Nat.le_of_ble_eq_true rfl) dX8_pass_16 ⟨Nat.zero_le _, Nat.zero_le _⟩ (fun H locs hR hS => ?_)
    refine lv_if_eq (pc := 19) (tgt := 24) hx hb dX8_pass_19 (by decide) (fun c4 => ?_) (fun c4 => ?_)
    · have h := xpos c4 h
      refine lv_aload_n (pc := 24) hx hb dX8_pass_24 rfl (lv_at hl 0 rfl) ?_
      refine lv_aload_n (pc := 25) hx hb dX8_pass_25 rfl (lv_at hl 0 rfl) ?_
      refine xr_getR (pc := 26) (ci := 12) hx hb hts inX8 hown hK hR rfl k0.1 0 (Nat.le_of_ble_eq_true rfl) rfl k0.2.1.1 (hts _ q_f_X8_7) (fun _ h9 => h9) dX8_pass_26 ?_
      obtain ⟨m5, c5, h⟩ := xbv_inv h
      refine xc_vV (pc := 29) (As := [.ref _]) (rest := []) ⟨hx, hb, hml, hown, hts⟩ (mX8_keeps hF _ _ k0 k0.2.1.2 c5) (xcwV 1 hts fdX8_keeps q_m_X8_75 ⟨Nat.le_of_ble_eq_true rfl, Nat.le_of_ble_eq_true rfl⟩) (xRecv hK hR (ci := 12) rfl k0.1) hR hK hE hS rfl hl.1 rfl (Nat.le_of_ble_eq_true rfl) dX8_pass_29 ⟨Nat.zero_le _, Nat.zero_le _⟩ (fun H locs hR hS => ?_)
      refine lv_iconst (pc := 32) hx hb dX8_pass_32 kc_0 ?_
      refine lv_istore_n (pc := 33) (lv' := [(2, .int _), (0, .ref _), (1, .int _)]) hx hb dX8_pass_33 rfl hl (Nat.le_of_ble_eq_true rfl) rfl (fun ls hl => ?_)
      refine lv_iconst (pc := 34) hx hb dX8_pass_34 kc_0 ?_
      refine lv_istore_n (pc := 35) (lv' := [(3, .int _), (2, .int _), (0, .ref _), (1, .int _)]) hx hb dX8_pass_35 rfl hl (Nat.le_of_ble_eq_true rfl) rfl (fun ls hl => ?_)
      exact wX8_pass_36 hF h0 p1 k0 hx hb hr hml hlocks hts hown hK hE _ _ _ _ _ _ _ h hR hS (lv_sub hl [2, 3, 1, 0] rfl)
    · have h := xneg c4 h
      refine lv_iconst (pc := 22) hx hb dX8_pass_22 kc_0 ?_
      exact xf_i (pc := 23) hx hb hr rfl hlocks h hR hK hS dX8_pass_23
  · have h := xneg c2 h
    refine lv_iconst (pc := 11) hx hb dX8_pass_11 kc_0 ?_
    refine lv_goto (pc := 12) (tgt := 16) hx hb dX8_pass_12 (by decide) ?_
    obtain ⟨r8, m8, c8, h⟩ := xb_inv h
    refine xc_iV (pc := 16) (As := [.int _]) (rest := []) ⟨hx, hb, hml, hown, hts⟩ (mX8_fails hF _ _ k0 c8) (xcwV 1 hts fdX8_fails q_m_X8_67 ⟨Nat.le_of_ble_eq_true rfl, Nat.le_of_ble_eq_true rfl⟩) (xRecv hK hR (ci := 12) rfl k0.1) hR hK hE hS rfl hl.1 rfl (Nat.le_of_ble_eq_true rfl) dX8_pass_16 ⟨Nat.zero_le _, Nat.zero_le _⟩ (fun H locs hR hS => ?_)
    refine lv_if_eq (pc := 19) (tgt := 24) hx hb dX8_pass_19 (by decide) (fun c9 => ?_) (fun c9 => ?_)
    · have h := xpos c9 h
      refine lv_aload_n (pc := 24) hx hb dX8_pass_24 rfl (lv_at hl 0 rfl) ?_
      refine lv_aload_n (pc := 25) hx hb dX8_pass_25 rfl (lv_at hl 0 rfl) ?_
      refine xr_getR (pc := 26) (ci := 12) hx hb hts inX8 hown hK hR rfl k0.1 0 (Nat.le_of_ble_eq_true rfl) rfl k0.2.1.1 (hts _ q_f_X8_7) (fun _ h9 => h9) dX8_pass_26 ?_
      obtain ⟨m10, c10, h⟩ := xbv_inv h
      refine xc_vV (pc := 29) (As := [.ref _]) (rest := []) ⟨hx, hb, hml, hown, hts⟩ (mX8_keeps hF _ _ k0 k0.2.1.2 c10) (xcwV 1 hts fdX8_keeps q_m_X8_75 ⟨Nat.le_of_ble_eq_true rfl, Nat.le_of_ble_eq_true rfl⟩) (xRecv hK hR (ci := 12) rfl k0.1) hR hK hE hS rfl hl.1 rfl (Nat.le_of_ble_eq_true rfl) dX8_pass_29 ⟨Nat.zero_le _, Nat.zero_le _⟩ (fun H locs hR hS => ?_)
      refine lv_iconst (pc := 32) hx hb dX8_pass_32 kc_0 ?_
      refine lv_istore_n (pc := 33) (lv' := [(2, .int _), (0, .ref _), (1, .int _)]) hx hb dX8_pass_33 rfl hl (Nat.le_of_ble_eq_true rfl) rfl (fun ls hl => ?_)
      refine lv_iconst (pc := 34) hx hb dX8_pass_34 kc_0 ?_
      refine lv_istore_n (pc := 35) (lv' := [(3, .int _), (2, .int _), (0, .ref _), (1, .int _)]) hx hb dX8_pass_35 rfl hl (Nat.le_of_ble_eq_true rfl) rfl (fun ls hl => ?_)
      exact wX8_pass_36 hF h0 p1 k0 hx hb hr hml hlocks hts hown hK hE _ _ _ _ _ _ _ h hR hS (lv_sub hl [2, 3, 1, 0] rfl)
    · have h := xneg c9 h
      refine lv_iconst (pc := 22) hx hb dX8_pass_22 kc_0 ?_
      exact xf_i (pc := 23) hx hb hr rfl hlocks h hR hK hS dX8_pass_23
set_option maxHeartbeats 1000000 in
set_option maxRecDepth 20000 in
theorem mX8_comes {l : Launch} {D : va_G} {ca : Nat → ClassId} {z : Nat} {G : xG} {X : va_W} {ad av : Nat → Nat} (hF : xFix z G X) (h0 : Nat) (p1 : Int32) (p2 : Int32) (k0 : xI_Model G h0) {μ μ1 : xM} (h : fX8_comes h0 p1 p2 μ = some μ1) : xMv l yX8_comes (xws yX8_comes cX8_comes 3 none) 1 D ca z G X ad av [.ref h0, .int p1, .int p2] μ μ1 := by
  refine xm_v (by decide) rfl (Nat.le_of_ble_eq_true rfl) [(0, .ref h0), (1, .int p1), (2, .int p2)] rfl ?_
  intro p e s m args below meth c ls hx hb hr hml hlocks hts hown hK hE hR hS hl
  have hts : ∀ w ∈ xAll, w.before args s = true := fun w hw => hts w (List.mem_cons_of_mem _ hw)
  rw [fX8_comes] at h
  refine lv_aload_n (pc := 0) hx hb dX8_comes_0 rfl (lv_at hl 0 rfl) ?_
  refine xr_getR (pc := 1) (ci := 12) hx hb hts inX8 hown hK hR rfl k0.1 0 (Nat.le_of_ble_eq_true rfl) rfl k0.2.1.1 (hts _ q_f_X8_7) (fun _ h9 => h9) dX8_comes_1 ?_
  refine lv_iconst (pc := 4) hx hb dX8_comes_4 kc_4 ?_
  refine lv_dup2_11 (pc := 5) hx hb dX8_comes_5 rfl rfl ?_
  refine xr_ialdk (pc := 6) 4 hx hb hK hR k0.2.1.2.1 k0.2.1.2.2 tn_4 (vl_4 (by decide)) dX8_comes_6 ?_
  refine lv_iload_n (pc := 7) hx hb dX8_comes_7 rfl (lv_at hl 2 rfl) ?_
  refine lv_iadd (pc := 8) hx hb dX8_comes_8 ?_
  refine xr_iastk (pc := 9) 4 hx hb hK hR hF hS k0.2.1.2.1 k0.2.1.2.2 tn_4 (vl_4 (by decide)) dX8_comes_9 (fun H locs hR hS => ?_)
  refine lv_aload_n (pc := 10) hx hb dX8_comes_10 rfl (lv_at hl 0 rfl) ?_
  refine xr_getR (pc := 11) (ci := 12) hx hb hts inX8 hown hK hR rfl k0.1 0 (Nat.le_of_ble_eq_true rfl) rfl k0.2.1.1 (hts _ q_f_X8_7) (fun _ h9 => h9) dX8_comes_11 ?_
  refine lv_bipush (pc := 14) hx hb dX8_comes_14 kb_6 ?_
  refine lv_dup2_11 (pc := 16) hx hb dX8_comes_16 rfl rfl ?_
  refine xr_ialdk (pc := 17) 6 hx hb hK hR k0.2.1.2.1 k0.2.1.2.2 tn_6 (vl_6 (by decide)) dX8_comes_17 ?_
  refine lv_iload_n (pc := 18) hx hb dX8_comes_18 rfl (lv_at hl 2 rfl) ?_
  refine lv_iadd (pc := 19) hx hb dX8_comes_19 ?_
  refine xr_iastk (pc := 20) 6 hx hb hK hR hF hS k0.2.1.2.1 k0.2.1.2.2 tn_6 (vl_6 (by decide)) dX8_comes_20 (fun H locs hR hS => ?_)
  refine lv_aload_n (pc := 21) hx hb dX8_comes_21 rfl (lv_at hl 0 rfl) ?_
  refine lv_iload_n (pc := 22) hx hb dX8_comes_22 rfl (lv_at hl 1 rfl) ?_
  refine lv_bipush (pc := 23) hx hb dX8_comes_23 kb_8 ?_
  refine lv_aload_n (pc := 25) hx hb dX8_comes_25 rfl (lv_at hl 0 rfl) ?_
  refine lv_iload_n (pc := 26) hx hb dX8_comes_26 rfl (lv_at hl 1 rfl) ?_
  refine lv_bipush (pc := 27) hx hb dX8_comes_27 kb_8 ?_
  obtain ⟨r1, m1, c1, h⟩ := xb_inv h
  refine xc_iV (pc := 29) (As := [.int _, .int _]) (rest := [.int _, .int _, .ref _]) ⟨hx, hb, hml, hown, hts⟩ (mX8_of hF _ _ _ k0 c1) (xcwV 2 hts fdX8_of q_m_X8_63 ⟨Nat.le_of_ble_eq_true rfl, Nat.le_of_ble_eq_true rfl⟩) (xRecv hK hR (ci := 12) rfl k0.1) hR hK hE hS rfl hl.1 rfl (Nat.le_of_ble_eq_true rfl) dX8_comes_29 ⟨Nat.zero_le _, Nat.zero_le _⟩ (fun H locs hR hS => ?_)
  refine lv_iload_n (pc := 32) hx hb dX8_comes_32 rfl (lv_at hl 2 rfl) ?_
  refine lv_iadd (pc := 33) hx hb dX8_comes_33 ?_
  obtain ⟨m2, c2, h⟩ := xbv_inv h
  refine xc_vV (pc := 34) (As := [.int _, .int _, .int _]) (rest := []) ⟨hx, hb, hml, hown, hts⟩ (mX8_lays hF _ _ _ _ k0 c2) (xcwV 3 hts fdX8_lays q_m_X8_79 ⟨Nat.le_of_ble_eq_true rfl, Nat.le_of_ble_eq_true rfl⟩) (xRecv hK hR (ci := 12) rfl k0.1) hR hK hE hS rfl hl.1 rfl (Nat.le_of_ble_eq_true rfl) dX8_comes_34 ⟨Nat.zero_le _, Nat.zero_le _⟩ (fun H locs hR hS => ?_)
  exact xf_v (pc := 37) hx hb hr hlocks h hR hK hS dX8_comes_37
set_option maxHeartbeats 1000000 in
set_option maxRecDepth 20000 in
theorem mX8_redeem {l : Launch} {D : va_G} {ca : Nat → ClassId} {z : Nat} {G : xG} {X : va_W} {ad av : Nat → Nat} (hF : xFix z G X) (h0 : Nat) (p1 : Int32) (k0 : xI_Model G h0) {μ μ1 : xM} {r : Int32} (h : fX8_redeem h0 p1 μ = some (r, μ1)) : xMi l yX8_redeem (xws yX8_redeem cX8_redeem 3 (some .int)) 2 D ca z G X ad av [.ref h0, .int p1] μ r μ1 := by
  refine xm_i (by decide) rfl (Nat.le_of_ble_eq_true rfl) [(0, .ref h0), (1, .int p1)] rfl ?_
  intro p e s m args below meth c ls hx hb hr hml hlocks hts hown hK hE hR hS hl
  have hts : ∀ w ∈ xAll, w.before args s = true := fun w hw => hts w (List.mem_cons_of_mem _ hw)
  rw [fX8_redeem] at h
  refine lv_aload_n (pc := 0) hx hb dX8_redeem_0 rfl (lv_at hl 0 rfl) ?_
  refine lv_aload_n (pc := 1) hx hb dX8_redeem_1 rfl (lv_at hl 0 rfl) ?_
  refine lv_iload_n (pc := 2) hx hb dX8_redeem_2 rfl (lv_at hl 1 rfl) ?_
  obtain ⟨r1, m1, c1, h⟩ := xb_inv h
  refine xc_iV (pc := 3) (As := [.int _]) (rest := [.ref _]) ⟨hx, hb, hml, hown, hts⟩ (mX8_isTicket hF _ _ k0 c1) (xcwV 1 hts fdX8_isTicket q_m_X8_94 ⟨Nat.le_of_ble_eq_true rfl, Nat.le_of_ble_eq_true rfl⟩) (xRecv hK hR (ci := 12) rfl k0.1) hR hK hE hS rfl hl.1 rfl (Nat.le_of_ble_eq_true rfl) dX8_redeem_3 ⟨Nat.zero_le _, Nat.zero_le _⟩ (fun H locs hR hS => ?_)
  refine lv_if_eq (pc := 6) (tgt := 13) hx hb dX8_redeem_6 (by decide) (fun c2 => ?_) (fun c2 => ?_)
  · have h := xpos c2 h
    refine lv_iconst (pc := 13) hx hb dX8_redeem_13 kc_1 ?_
    obtain ⟨r3, m3, c3, h⟩ := xb_inv h
    refine xc_iV (pc := 14) (As := [.int _]) (rest := []) ⟨hx, hb, hml, hown, hts⟩ (mX8_fails hF _ _ k0 c3) (xcwV 1 hts fdX8_fails q_m_X8_67 ⟨Nat.le_of_ble_eq_true rfl, Nat.le_of_ble_eq_true rfl⟩) (xRecv hK hR (ci := 12) rfl k0.1) hR hK hE hS rfl hl.1 rfl (Nat.le_of_ble_eq_true rfl) dX8_redeem_14 ⟨Nat.zero_le _, Nat.zero_le _⟩ (fun H locs hR hS => ?_)
    refine lv_if_eq (pc := 17) (tgt := 22) hx hb dX8_redeem_17 (by decide) (fun c4 => ?_) (fun c4 => ?_)
    · have h := xpos c4 h
      refine lv_aload_n (pc := 22) hx hb dX8_redeem_22 rfl (lv_at hl 0 rfl) ?_
      refine lv_iload_n (pc := 23) hx hb dX8_redeem_23 rfl (lv_at hl 1 rfl) ?_
      refine lv_iconst (pc := 24) hx hb dX8_redeem_24 kc_4 ?_
      obtain ⟨r5, m5, c5, h⟩ := xb_inv h
      refine xc_iV (pc := 25) (As := [.int _, .int _]) (rest := []) ⟨hx, hb, hml, hown, hts⟩ (mX8_of hF _ _ _ k0 c5) (xcwV 2 hts fdX8_of q_m_X8_63 ⟨Nat.le_of_ble_eq_true rfl, Nat.le_of_ble_eq_true rfl⟩) (xRecv hK hR (ci := 12) rfl k0.1) hR hK hE hS rfl hl.1 rfl (Nat.le_of_ble_eq_true rfl) dX8_redeem_25 ⟨Nat.zero_le _, Nat.zero_le _⟩ (fun H locs hR hS => ?_)
      refine lv_if_eq (pc := 28) (tgt := 44) hx hb dX8_redeem_28 (by decide) (fun c6 => ?_) (fun c6 => ?_)
      · have h := xpos c6 h
        refine lv_aload_n (pc := 44) hx hb dX8_redeem_44 rfl (lv_at hl 0 rfl) ?_
        refine lv_aload_n (pc := 45) hx hb dX8_redeem_45 rfl (lv_at hl 0 rfl) ?_
        refine xr_getR (pc := 46) (ci := 12) hx hb hts inX8 hown hK hR rfl k0.1 0 (Nat.le_of_ble_eq_true rfl) rfl k0.2.1.1 (hts _ q_f_X8_7) (fun _ h9 => h9) dX8_redeem_46 ?_
        obtain ⟨m7, c7, h⟩ := xbv_inv h
        refine xc_vV (pc := 49) (As := [.ref _]) (rest := []) ⟨hx, hb, hml, hown, hts⟩ (mX8_keeps hF _ _ k0 k0.2.1.2 c7) (xcwV 1 hts fdX8_keeps q_m_X8_75 ⟨Nat.le_of_ble_eq_true rfl, Nat.le_of_ble_eq_true rfl⟩) (xRecv hK hR (ci := 12) rfl k0.1) hR hK hE hS rfl hl.1 rfl (Nat.le_of_ble_eq_true rfl) dX8_redeem_49 ⟨Nat.zero_le _, Nat.zero_le _⟩ (fun H locs hR hS => ?_)
        refine lv_aload_n (pc := 52) hx hb dX8_redeem_52 rfl (lv_at hl 0 rfl) ?_
        refine lv_iload_n (pc := 53) hx hb dX8_redeem_53 rfl (lv_at hl 1 rfl) ?_
        obtain ⟨r8, m8, c8, h⟩ := xb_inv h
        refine xc_iV (pc := 54) (As := [.int _]) (rest := []) ⟨hx, hb, hml, hown, hts⟩ (mX8_owed hF _ _ k0 c8) (xcwV 1 hts fdX8_owed q_m_X8_87 ⟨Nat.le_of_ble_eq_true rfl, Nat.le_of_ble_eq_true rfl⟩) (xRecv hK hR (ci := 12) rfl k0.1) hR hK hE hS rfl hl.1 rfl (Nat.le_of_ble_eq_true rfl) dX8_redeem_54 ⟨Nat.zero_le _, Nat.zero_le _⟩ (fun H locs hR hS => ?_)
        refine lv_istore_n (pc := 57) (lv' := [(2, .int _), (0, .ref _), (1, .int _)]) hx hb dX8_redeem_57 rfl hl (Nat.le_of_ble_eq_true rfl) rfl (fun ls hl => ?_)
        refine lv_aload_n (pc := 58) hx hb dX8_redeem_58 rfl (lv_at hl 1 rfl) ?_
        refine lv_iload_n (pc := 59) hx hb dX8_redeem_59 rfl (lv_at hl 2 rfl) ?_
        refine lv_iload_n (pc := 60) hx hb dX8_redeem_60 rfl (lv_at hl 0 rfl) ?_
        obtain ⟨m9, c9, h⟩ := xbv_inv h
        refine xc_vV (pc := 61) (As := [.int _, .int _]) (rest := []) ⟨hx, hb, hml, hown, hts⟩ (mX8_comes hF _ _ _ k0 c9) (xcwV 2 hts fdX8_comes q_m_X8_97 ⟨Nat.le_of_ble_eq_true rfl, Nat.le_of_ble_eq_true rfl⟩) (xRecv hK hR (ci := 12) rfl k0.1) hR hK hE hS rfl hl.1 rfl (Nat.le_of_ble_eq_true rfl) dX8_redeem_61 ⟨Nat.zero_le _, Nat.zero_le _⟩ (fun H locs hR hS => ?_)
        refine lv_aload_n (pc := 64) hx hb dX8_redeem_64 rfl (lv_at hl 1 rfl) ?_
        refine lv_iload_n (pc := 65) hx hb dX8_redeem_65 rfl (lv_at hl 2 rfl) ?_
        refine lv_iconst (pc := 66) hx hb dX8_redeem_66 kc_2 ?_
        refine lv_iconst (pc := 67) hx hb dX8_redeem_67 kc_0 ?_
        obtain ⟨m10, c10, h⟩ := xbv_inv h
        refine xc_vV (pc := 68) (As := [.int _, .int _, .int _]) (rest := []) ⟨hx, hb, hml, hown, hts⟩ (mX8_lays hF _ _ _ _ k0 c10) (xcwV 3 hts fdX8_lays q_m_X8_79 ⟨Nat.le_of_ble_eq_true rfl, Nat.le_of_ble_eq_true rfl⟩) (xRecv hK hR (ci := 12) rfl k0.1) hR hK hE hS rfl hl.1 rfl (Nat.le_of_ble_eq_true rfl) dX8_redeem_68 ⟨Nat.zero_le _, Nat.zero_le _⟩ (fun H locs hR hS => ?_)
        refine lv_aload_n (pc := 71) hx hb dX8_redeem_71 rfl (lv_at hl 1 rfl) ?_
        refine lv_iload_n (pc := 72) hx hb dX8_redeem_72 rfl (lv_at hl 2 rfl) ?_
        refine lv_iconst (pc := 73) hx hb dX8_redeem_73 kc_3 ?_
        refine lv_iconst (pc := 74) hx hb dX8_redeem_74 kc_0 ?_
        obtain ⟨m11, c11, h⟩ := xbv_inv h
        refine xc_vV (pc := 75) (As := [.int _, .int _, .int _]) (rest := []) ⟨hx, hb, hml, hown, hts⟩ (mX8_lays hF _ _ _ _ k0 c11) (xcwV 3 hts fdX8_lays q_m_X8_79 ⟨Nat.le_of_ble_eq_true rfl, Nat.le_of_ble_eq_true rfl⟩) (xRecv hK hR (ci := 12) rfl k0.1) hR hK hE hS rfl hl.1 rfl (Nat.le_of_ble_eq_true rfl) dX8_redeem_75 ⟨Nat.zero_le _, Nat.zero_le _⟩ (fun H locs hR hS => ?_)
        refine lv_aload_n (pc := 78) hx hb dX8_redeem_78 rfl (lv_at hl 1 rfl) ?_
        refine lv_iload_n (pc := 79) hx hb dX8_redeem_79 rfl (lv_at hl 2 rfl) ?_
        refine lv_iconst (pc := 80) hx hb dX8_redeem_80 kc_4 ?_
        refine lv_iconst (pc := 81) hx hb dX8_redeem_81 kc_2 ?_
        obtain ⟨m12, c12, h⟩ := xbv_inv h
        refine xc_vV (pc := 82) (As := [.int _, .int _, .int _]) (rest := []) ⟨hx, hb, hml, hown, hts⟩ (mX8_lays hF _ _ _ _ k0 c12) (xcwV 3 hts fdX8_lays q_m_X8_79 ⟨Nat.le_of_ble_eq_true rfl, Nat.le_of_ble_eq_true rfl⟩) (xRecv hK hR (ci := 12) rfl k0.1) hR hK hE hS rfl hl.1 rfl (Nat.le_of_ble_eq_true rfl) dX8_redeem_82 ⟨Nat.zero_le _, Nat.zero_le _⟩ (fun H locs hR hS => ?_)
        refine lv_iload_n (pc := 85) hx hb dX8_redeem_85 rfl (lv_at hl 0 rfl) ?_
        exact xf_i (pc := 86) hx hb hr rfl hlocks h hR hK hS dX8_redeem_86
      · have h := xneg c6 h
        refine lv_aload_n (pc := 31) hx hb dX8_redeem_31 rfl (lv_at hl 0 rfl) ?_
        refine lv_iconst (pc := 32) hx hb dX8_redeem_32 kc_2 ?_
        refine lv_iconst (pc := 33) hx hb dX8_redeem_33 kc_4 ?_
        refine lv_aload_n (pc := 34) hx hb dX8_redeem_34 rfl (lv_at hl 0 rfl) ?_
        refine lv_iload_n (pc := 35) hx hb dX8_redeem_35 rfl (lv_at hl 1 rfl) ?_
        refine lv_iconst (pc := 36) hx hb dX8_redeem_36 kc_4 ?_
        obtain ⟨r13, m13, c13, h⟩ := xb_inv h
        refine xc_iV (pc := 37) (As := [.int _, .int _]) (rest := [.int _, .int _, .ref _]) ⟨hx, hb, hml, hown, hts⟩ (mX8_of hF _ _ _ k0 c13) (xcwV 2 hts fdX8_of q_m_X8_63 ⟨Nat.le_of_ble_eq_true rfl, Nat.le_of_ble_eq_true rfl⟩) (xRecv hK hR (ci := 12) rfl k0.1) hR hK hE hS rfl hl.1 rfl (Nat.le_of_ble_eq_true rfl) dX8_redeem_37 ⟨Nat.zero_le _, Nat.zero_le _⟩ (fun H locs hR hS => ?_)
        obtain ⟨r14, m14, c14, h⟩ := xb_inv h
        refine xc_iV (pc := 40) (As := [.int _, .int _, .int _]) (rest := []) ⟨hx, hb, hml, hown, hts⟩ (mX8_refuses hF _ _ _ _ k0 c14) (xcwV 3 hts fdX8_refuses q_m_X8_71 ⟨Nat.le_of_ble_eq_true rfl, Nat.le_of_ble_eq_true rfl⟩) (xRecv hK hR (ci := 12) rfl k0.1) hR hK hE hS rfl hl.1 rfl (Nat.le_of_ble_eq_true rfl) dX8_redeem_40 ⟨Nat.zero_le _, Nat.zero_le _⟩ (fun H locs hR hS => ?_)
        exact xf_i (pc := 43) hx hb hr rfl hlocks h hR hK hS dX8_redeem_43
    · have h := xneg c4 h
      refine lv_iconst (pc := 20) hx hb dX8_redeem_20 kc_0 ?_
      exact xf_i (pc := 21) hx hb hr rfl hlocks h hR hK hS dX8_redeem_21
  · have h := xneg c2 h
    refine lv_iconst (pc := 9) hx hb dX8_redeem_9 kc_0 ?_
    refine lv_goto (pc := 10) (tgt := 14) hx hb dX8_redeem_10 (by decide) ?_
    obtain ⟨r15, m15, c15, h⟩ := xb_inv h
    refine xc_iV (pc := 14) (As := [.int _]) (rest := []) ⟨hx, hb, hml, hown, hts⟩ (mX8_fails hF _ _ k0 c15) (xcwV 1 hts fdX8_fails q_m_X8_67 ⟨Nat.le_of_ble_eq_true rfl, Nat.le_of_ble_eq_true rfl⟩) (xRecv hK hR (ci := 12) rfl k0.1) hR hK hE hS rfl hl.1 rfl (Nat.le_of_ble_eq_true rfl) dX8_redeem_14 ⟨Nat.zero_le _, Nat.zero_le _⟩ (fun H locs hR hS => ?_)
    refine lv_if_eq (pc := 17) (tgt := 22) hx hb dX8_redeem_17 (by decide) (fun c16 => ?_) (fun c16 => ?_)
    · have h := xpos c16 h
      refine lv_aload_n (pc := 22) hx hb dX8_redeem_22 rfl (lv_at hl 0 rfl) ?_
      refine lv_iload_n (pc := 23) hx hb dX8_redeem_23 rfl (lv_at hl 1 rfl) ?_
      refine lv_iconst (pc := 24) hx hb dX8_redeem_24 kc_4 ?_
      obtain ⟨r17, m17, c17, h⟩ := xb_inv h
      refine xc_iV (pc := 25) (As := [.int _, .int _]) (rest := []) ⟨hx, hb, hml, hown, hts⟩ (mX8_of hF _ _ _ k0 c17) (xcwV 2 hts fdX8_of q_m_X8_63 ⟨Nat.le_of_ble_eq_true rfl, Nat.le_of_ble_eq_true rfl⟩) (xRecv hK hR (ci := 12) rfl k0.1) hR hK hE hS rfl hl.1 rfl (Nat.le_of_ble_eq_true rfl) dX8_redeem_25 ⟨Nat.zero_le _, Nat.zero_le _⟩ (fun H locs hR hS => ?_)
      refine lv_if_eq (pc := 28) (tgt := 44) hx hb dX8_redeem_28 (by decide) (fun c18 => ?_) (fun c18 => ?_)
      · have h := xpos c18 h
        refine lv_aload_n (pc := 44) hx hb dX8_redeem_44 rfl (lv_at hl 0 rfl) ?_
        refine lv_aload_n (pc := 45) hx hb dX8_redeem_45 rfl (lv_at hl 0 rfl) ?_
        refine xr_getR (pc := 46) (ci := 12) hx hb hts inX8 hown hK hR rfl k0.1 0 (Nat.le_of_ble_eq_true rfl) rfl k0.2.1.1 (hts _ q_f_X8_7) (fun _ h9 => h9) dX8_redeem_46 ?_
        obtain ⟨m19, c19, h⟩ := xbv_inv h
        refine xc_vV (pc := 49) (As := [.ref _]) (rest := []) ⟨hx, hb, hml, hown, hts⟩ (mX8_keeps hF _ _ k0 k0.2.1.2 c19) (xcwV 1 hts fdX8_keeps q_m_X8_75 ⟨Nat.le_of_ble_eq_true rfl, Nat.le_of_ble_eq_true rfl⟩) (xRecv hK hR (ci := 12) rfl k0.1) hR hK hE hS rfl hl.1 rfl (Nat.le_of_ble_eq_true rfl) dX8_redeem_49 ⟨Nat.zero_le _, Nat.zero_le _⟩ (fun H locs hR hS => ?_)
        refine lv_aload_n (pc := 52) hx hb dX8_redeem_52 rfl (lv_at hl 0 rfl) ?_
        refine lv_iload_n (pc := 53) hx hb dX8_redeem_53 rfl (lv_at hl 1 rfl) ?_
        obtain ⟨r20, m20, c20, h⟩ := xb_inv h
        refine xc_iV (pc := 54) (As := [.int _]) (rest := []) ⟨hx, hb, hml, hown, hts⟩ (mX8_owed hF _ _ k0 c20) (xcwV 1 hts fdX8_owed q_m_X8_87 ⟨Nat.le_of_ble_eq_true rfl, Nat.le_of_ble_eq_true rfl⟩) (xRecv hK hR (ci := 12) rfl k0.1) hR hK hE hS rfl hl.1 rfl (Nat.le_of_ble_eq_true rfl) dX8_redeem_54 ⟨Nat.zero_le _, Nat.zero_le _⟩ (fun H locs hR hS => ?_)
        refine lv_istore_n (pc := 57) (lv' := [(2, .int _), (0, .ref _), (1, .int _)]) hx hb dX8_redeem_57 rfl hl (Nat.le_of_ble_eq_true rfl) rfl (fun ls hl => ?_)
        refine lv_aload_n (pc := 58) hx hb dX8_redeem_58 rfl (lv_at hl 1 rfl) ?_
        refine lv_iload_n (pc := 59) hx hb dX8_redeem_59 rfl (lv_at hl 2 rfl) ?_
        refine lv_iload_n (pc := 60) hx hb dX8_redeem_60 rfl (lv_at hl 0 rfl) ?_
        obtain ⟨m21, c21, h⟩ := xbv_inv h
        refine xc_vV (pc := 61) (As := [.int _, .int _]) (rest := []) ⟨hx, hb, hml, hown, hts⟩ (mX8_comes hF _ _ _ k0 c21) (xcwV 2 hts fdX8_comes q_m_X8_97 ⟨Nat.le_of_ble_eq_true rfl, Nat.le_of_ble_eq_true rfl⟩) (xRecv hK hR (ci := 12) rfl k0.1) hR hK hE hS rfl hl.1 rfl (Nat.le_of_ble_eq_true rfl) dX8_redeem_61 ⟨Nat.zero_le _, Nat.zero_le _⟩ (fun H locs hR hS => ?_)
        refine lv_aload_n (pc := 64) hx hb dX8_redeem_64 rfl (lv_at hl 1 rfl) ?_
        refine lv_iload_n (pc := 65) hx hb dX8_redeem_65 rfl (lv_at hl 2 rfl) ?_
        refine lv_iconst (pc := 66) hx hb dX8_redeem_66 kc_2 ?_
        refine lv_iconst (pc := 67) hx hb dX8_redeem_67 kc_0 ?_
        obtain ⟨m22, c22, h⟩ := xbv_inv h
        refine xc_vV (pc := 68) (As := [.int _, .int _, .int _]) (rest := []) ⟨hx, hb, hml, hown, hts⟩ (mX8_lays hF _ _ _ _ k0 c22) (xcwV 3 hts fdX8_lays q_m_X8_79 ⟨Nat.le_of_ble_eq_true rfl, Nat.le_of_ble_eq_true rfl⟩) (xRecv hK hR (ci := 12) rfl k0.1) hR hK hE hS rfl hl.1 rfl (Nat.le_of_ble_eq_true rfl) dX8_redeem_68 ⟨Nat.zero_le _, Nat.zero_le _⟩ (fun H locs hR hS => ?_)
        refine lv_aload_n (pc := 71) hx hb dX8_redeem_71 rfl (lv_at hl 1 rfl) ?_
        refine lv_iload_n (pc := 72) hx hb dX8_redeem_72 rfl (lv_at hl 2 rfl) ?_
        refine lv_iconst (pc := 73) hx hb dX8_redeem_73 kc_3 ?_
        refine lv_iconst (pc := 74) hx hb dX8_redeem_74 kc_0 ?_
        obtain ⟨m23, c23, h⟩ := xbv_inv h
        refine xc_vV (pc := 75) (As := [.int _, .int _, .int _]) (rest := []) ⟨hx, hb, hml, hown, hts⟩ (mX8_lays hF _ _ _ _ k0 c23) (xcwV 3 hts fdX8_lays q_m_X8_79 ⟨Nat.le_of_ble_eq_true rfl, Nat.le_of_ble_eq_true rfl⟩) (xRecv hK hR (ci := 12) rfl k0.1) hR hK hE hS rfl hl.1 rfl (Nat.le_of_ble_eq_true rfl) dX8_redeem_75 ⟨Nat.zero_le _, Nat.zero_le _⟩ (fun H locs hR hS => ?_)
        refine lv_aload_n (pc := 78) hx hb dX8_redeem_78 rfl (lv_at hl 1 rfl) ?_
        refine lv_iload_n (pc := 79) hx hb dX8_redeem_79 rfl (lv_at hl 2 rfl) ?_
        refine lv_iconst (pc := 80) hx hb dX8_redeem_80 kc_4 ?_
        refine lv_iconst (pc := 81) hx hb dX8_redeem_81 kc_2 ?_
        obtain ⟨m24, c24, h⟩ := xbv_inv h
        refine xc_vV (pc := 82) (As := [.int _, .int _, .int _]) (rest := []) ⟨hx, hb, hml, hown, hts⟩ (mX8_lays hF _ _ _ _ k0 c24) (xcwV 3 hts fdX8_lays q_m_X8_79 ⟨Nat.le_of_ble_eq_true rfl, Nat.le_of_ble_eq_true rfl⟩) (xRecv hK hR (ci := 12) rfl k0.1) hR hK hE hS rfl hl.1 rfl (Nat.le_of_ble_eq_true rfl) dX8_redeem_82 ⟨Nat.zero_le _, Nat.zero_le _⟩ (fun H locs hR hS => ?_)
        refine lv_iload_n (pc := 85) hx hb dX8_redeem_85 rfl (lv_at hl 0 rfl) ?_
        exact xf_i (pc := 86) hx hb hr rfl hlocks h hR hK hS dX8_redeem_86
      · have h := xneg c18 h
        refine lv_aload_n (pc := 31) hx hb dX8_redeem_31 rfl (lv_at hl 0 rfl) ?_
        refine lv_iconst (pc := 32) hx hb dX8_redeem_32 kc_2 ?_
        refine lv_iconst (pc := 33) hx hb dX8_redeem_33 kc_4 ?_
        refine lv_aload_n (pc := 34) hx hb dX8_redeem_34 rfl (lv_at hl 0 rfl) ?_
        refine lv_iload_n (pc := 35) hx hb dX8_redeem_35 rfl (lv_at hl 1 rfl) ?_
        refine lv_iconst (pc := 36) hx hb dX8_redeem_36 kc_4 ?_
        obtain ⟨r25, m25, c25, h⟩ := xb_inv h
        refine xc_iV (pc := 37) (As := [.int _, .int _]) (rest := [.int _, .int _, .ref _]) ⟨hx, hb, hml, hown, hts⟩ (mX8_of hF _ _ _ k0 c25) (xcwV 2 hts fdX8_of q_m_X8_63 ⟨Nat.le_of_ble_eq_true rfl, Nat.le_of_ble_eq_true rfl⟩) (xRecv hK hR (ci := 12) rfl k0.1) hR hK hE hS rfl hl.1 rfl (Nat.le_of_ble_eq_true rfl) dX8_redeem_37 ⟨Nat.zero_le _, Nat.zero_le _⟩ (fun H locs hR hS => ?_)
        obtain ⟨r26, m26, c26, h⟩ := xb_inv h
        refine xc_iV (pc := 40) (As := [.int _, .int _, .int _]) (rest := []) ⟨hx, hb, hml, hown, hts⟩ (mX8_refuses hF _ _ _ _ k0 c26) (xcwV 3 hts fdX8_refuses q_m_X8_71 ⟨Nat.le_of_ble_eq_true rfl, Nat.le_of_ble_eq_true rfl⟩) (xRecv hK hR (ci := 12) rfl k0.1) hR hK hE hS rfl hl.1 rfl (Nat.le_of_ble_eq_true rfl) dX8_redeem_40 ⟨Nat.zero_le _, Nat.zero_le _⟩ (fun H locs hR hS => ?_)
        exact xf_i (pc := 43) hx hb hr rfl hlocks h hR hK hS dX8_redeem_43
    · have h := xneg c16 h
      refine lv_iconst (pc := 20) hx hb dX8_redeem_20 kc_0 ?_
      exact xf_i (pc := 21) hx hb hr rfl hlocks h hR hK hS dX8_redeem_21
set_option maxHeartbeats 1000000 in
set_option maxRecDepth 20000 in
theorem mX8_pay {l : Launch} {D : va_G} {ca : Nat → ClassId} {z : Nat} {G : xG} {X : va_W} {ad av : Nat → Nat} (hF : xFix z G X) (h0 : Nat) (p1 : Int32) (p2 : Int32) (k0 : xI_Model G h0) {μ μ1 : xM} {r : Int32} (h : fX8_pay h0 p1 p2 μ = some (r, μ1)) : xMi l yX8_pay (xws yX8_pay cX8_pay 4 (some .int)) 2 D ca z G X ad av [.ref h0, .int p1, .int p2] μ r μ1 := by
  refine xm_i (by decide) rfl (Nat.le_of_ble_eq_true rfl) [(0, .ref h0), (1, .int p1), (2, .int p2)] rfl ?_
  intro p e s m args below meth c ls hx hb hr hml hlocks hts hown hK hE hR hS hl
  have hts : ∀ w ∈ xAll, w.before args s = true := fun w hw => hts w (List.mem_cons_of_mem _ hw)
  rw [fX8_pay] at h
  refine lv_aload_n (pc := 0) hx hb dX8_pay_0 rfl (lv_at hl 0 rfl) ?_
  refine lv_aload_n (pc := 1) hx hb dX8_pay_1 rfl (lv_at hl 0 rfl) ?_
  refine lv_iload_n (pc := 2) hx hb dX8_pay_2 rfl (lv_at hl 1 rfl) ?_
  obtain ⟨r1, m1, c1, h⟩ := xb_inv h
  refine xc_iV (pc := 3) (As := [.int _]) (rest := [.ref _]) ⟨hx, hb, hml, hown, hts⟩ (mX8_isTicket hF _ _ k0 c1) (xcwV 1 hts fdX8_isTicket q_m_X8_94 ⟨Nat.le_of_ble_eq_true rfl, Nat.le_of_ble_eq_true rfl⟩) (xRecv hK hR (ci := 12) rfl k0.1) hR hK hE hS rfl hl.1 rfl (Nat.le_of_ble_eq_true rfl) dX8_pay_3 ⟨Nat.zero_le _, Nat.zero_le _⟩ (fun H locs hR hS => ?_)
  refine lv_if_ne (pc := 6) (tgt := 13) hx hb dX8_pay_6 (by decide) (fun c2 => ?_) (fun c2 => ?_)
  · have h := xneg c2 h
    refine lv_iload_n (pc := 13) hx hb dX8_pay_13 rfl (lv_at hl 2 rfl) ?_
    refine lv_iconst (pc := 14) hx hb dX8_pay_14 kc_1 ?_
    refine lv_icmp_lt (pc := 15) (tgt := 22) hx hb dX8_pay_15 (by decide) (fun c3 => ?_) (fun c3 => ?_)
    · have h := xpos c3 h
      refine lv_iconst (pc := 22) hx hb dX8_pay_22 kc_2 ?_
      obtain ⟨r4, m4, c4, h⟩ := xb_inv h
      refine xc_iV (pc := 23) (As := [.int _]) (rest := []) ⟨hx, hb, hml, hown, hts⟩ (mX8_fails hF _ _ k0 c4) (xcwV 1 hts fdX8_fails q_m_X8_67 ⟨Nat.le_of_ble_eq_true rfl, Nat.le_of_ble_eq_true rfl⟩) (xRecv hK hR (ci := 12) rfl k0.1) hR hK hE hS rfl hl.1 rfl (Nat.le_of_ble_eq_true rfl) dX8_pay_23 ⟨Nat.zero_le _, Nat.zero_le _⟩ (fun H locs hR hS => ?_)
      refine lv_if_eq (pc := 26) (tgt := 31) hx hb dX8_pay_26 (by decide) (fun c5 => ?_) (fun c5 => ?_)
      · have h := xpos c5 h
        refine lv_aload_n (pc := 31) hx hb dX8_pay_31 rfl (lv_at hl 0 rfl) ?_
        refine lv_iload_n (pc := 32) hx hb dX8_pay_32 rfl (lv_at hl 1 rfl) ?_
        refine lv_iconst (pc := 33) hx hb dX8_pay_33 kc_4 ?_
        obtain ⟨r6, m6, c6, h⟩ := xb_inv h
        refine xc_iV (pc := 34) (As := [.int _, .int _]) (rest := []) ⟨hx, hb, hml, hown, hts⟩ (mX8_of hF _ _ _ k0 c6) (xcwV 2 hts fdX8_of q_m_X8_63 ⟨Nat.le_of_ble_eq_true rfl, Nat.le_of_ble_eq_true rfl⟩) (xRecv hK hR (ci := 12) rfl k0.1) hR hK hE hS rfl hl.1 rfl (Nat.le_of_ble_eq_true rfl) dX8_pay_34 ⟨Nat.zero_le _, Nat.zero_le _⟩ (fun H locs hR hS => ?_)
        refine lv_if_eq (pc := 37) (tgt := 53) hx hb dX8_pay_37 (by decide) (fun c7 => ?_) (fun c7 => ?_)
        · have h := xpos c7 h
          refine lv_iload_n (pc := 53) hx hb dX8_pay_53 rfl (lv_at hl 2 rfl) ?_
          refine lv_aload_n (pc := 54) hx hb dX8_pay_54 rfl (lv_at hl 0 rfl) ?_
          refine lv_iload_n (pc := 55) hx hb dX8_pay_55 rfl (lv_at hl 1 rfl) ?_
          obtain ⟨r8, m8, c8, h⟩ := xb_inv h
          refine xc_iV (pc := 56) (As := [.int _]) (rest := [.int _]) ⟨hx, hb, hml, hown, hts⟩ (mX8_owed hF _ _ k0 c8) (xcwV 1 hts fdX8_owed q_m_X8_87 ⟨Nat.le_of_ble_eq_true rfl, Nat.le_of_ble_eq_true rfl⟩) (xRecv hK hR (ci := 12) rfl k0.1) hR hK hE hS rfl hl.1 rfl (Nat.le_of_ble_eq_true rfl) dX8_pay_56 ⟨Nat.zero_le _, Nat.zero_le _⟩ (fun H locs hR hS => ?_)
          refine lv_icmp_lt (pc := 59) (tgt := 74) hx hb dX8_pay_59 (by decide) (fun c9 => ?_) (fun c9 => ?_)
          · have h := xpos c9 h
            refine lv_aload_n (pc := 74) hx hb dX8_pay_74 rfl (lv_at hl 0 rfl) ?_
            refine lv_aload_n (pc := 75) hx hb dX8_pay_75 rfl (lv_at hl 0 rfl) ?_
            refine xr_getR (pc := 76) (ci := 12) hx hb hts inX8 hown hK hR rfl k0.1 0 (Nat.le_of_ble_eq_true rfl) rfl k0.2.1.1 (hts _ q_f_X8_7) (fun _ h9 => h9) dX8_pay_76 ?_
            obtain ⟨m10, c10, h⟩ := xbv_inv h
            refine xc_vV (pc := 79) (As := [.ref _]) (rest := []) ⟨hx, hb, hml, hown, hts⟩ (mX8_keeps hF _ _ k0 k0.2.1.2 c10) (xcwV 1 hts fdX8_keeps q_m_X8_75 ⟨Nat.le_of_ble_eq_true rfl, Nat.le_of_ble_eq_true rfl⟩) (xRecv hK hR (ci := 12) rfl k0.1) hR hK hE hS rfl hl.1 rfl (Nat.le_of_ble_eq_true rfl) dX8_pay_79 ⟨Nat.zero_le _, Nat.zero_le _⟩ (fun H locs hR hS => ?_)
            refine lv_iload_n (pc := 82) hx hb dX8_pay_82 rfl (lv_at hl 2 rfl) ?_
            refine lv_aload_n (pc := 83) hx hb dX8_pay_83 rfl (lv_at hl 0 rfl) ?_
            refine lv_iload_n (pc := 84) hx hb dX8_pay_84 rfl (lv_at hl 1 rfl) ?_
            refine lv_iconst (pc := 85) hx hb dX8_pay_85 kc_3 ?_
            obtain ⟨r11, m11, c11, h⟩ := xb_inv h
            refine xc_iV (pc := 86) (As := [.int _, .int _]) (rest := [.int _]) ⟨hx, hb, hml, hown, hts⟩ (mX8_of hF _ _ _ k0 c11) (xcwV 2 hts fdX8_of q_m_X8_63 ⟨Nat.le_of_ble_eq_true rfl, Nat.le_of_ble_eq_true rfl⟩) (xRecv hK hR (ci := 12) rfl k0.1) hR hK hE hS rfl hl.1 rfl (Nat.le_of_ble_eq_true rfl) dX8_pay_86 ⟨Nat.zero_le _, Nat.zero_le _⟩ (fun H locs hR hS => ?_)
            refine lv_icmp_ge (pc := 89) (tgt := 96) hx hb dX8_pay_89 (by decide) (fun c12 => ?_) (fun c12 => ?_)
            · have h := xpos c12 h
              refine lv_aload_n (pc := 96) hx hb dX8_pay_96 rfl (lv_at hl 0 rfl) ?_
              refine lv_iload_n (pc := 97) hx hb dX8_pay_97 rfl (lv_at hl 1 rfl) ?_
              refine lv_iconst (pc := 98) hx hb dX8_pay_98 kc_3 ?_
              obtain ⟨r13, m13, c13, h⟩ := xb_inv h
              refine xc_iV (pc := 99) (As := [.int _, .int _]) (rest := []) ⟨hx, hb, hml, hown, hts⟩ (mX8_of hF _ _ _ k0 c13) (xcwV 2 hts fdX8_of q_m_X8_63 ⟨Nat.le_of_ble_eq_true rfl, Nat.le_of_ble_eq_true rfl⟩) (xRecv hK hR (ci := 12) rfl k0.1) hR hK hE hS rfl hl.1 rfl (Nat.le_of_ble_eq_true rfl) dX8_pay_99 ⟨Nat.zero_le _, Nat.zero_le _⟩ (fun H locs hR hS => ?_)
              refine lv_istore_n (pc := 102) (lv' := [(3, .int _), (0, .ref _), (1, .int _), (2, .int _)]) hx hb dX8_pay_102 rfl hl (Nat.le_of_ble_eq_true rfl) rfl (fun ls hl => ?_)
              refine lv_aload_n (pc := 103) hx hb dX8_pay_103 rfl (lv_at hl 1 rfl) ?_
              refine lv_iload_n (pc := 104) hx hb dX8_pay_104 rfl (lv_at hl 2 rfl) ?_
              refine lv_iload_n (pc := 105) hx hb dX8_pay_105 rfl (lv_at hl 3 rfl) ?_
              obtain ⟨m14, c14, h⟩ := xbv_inv h
              refine xc_vV (pc := 106) (As := [.int _, .int _]) (rest := []) ⟨hx, hb, hml, hown, hts⟩ (mX8_comes hF _ _ _ k0 c14) (xcwV 2 hts fdX8_comes q_m_X8_97 ⟨Nat.le_of_ble_eq_true rfl, Nat.le_of_ble_eq_true rfl⟩) (xRecv hK hR (ci := 12) rfl k0.1) hR hK hE hS rfl hl.1 rfl (Nat.le_of_ble_eq_true rfl) dX8_pay_106 ⟨Nat.zero_le _, Nat.zero_le _⟩ (fun H locs hR hS => ?_)
              refine lv_aload_n (pc := 109) hx hb dX8_pay_109 rfl (lv_at hl 1 rfl) ?_
              refine lv_iload_n (pc := 110) hx hb dX8_pay_110 rfl (lv_at hl 2 rfl) ?_
              refine lv_iconst (pc := 111) hx hb dX8_pay_111 kc_3 ?_
              refine lv_aload_n (pc := 112) hx hb dX8_pay_112 rfl (lv_at hl 1 rfl) ?_
              refine lv_iload_n (pc := 113) hx hb dX8_pay_113 rfl (lv_at hl 2 rfl) ?_
              refine lv_iconst (pc := 114) hx hb dX8_pay_114 kc_3 ?_
              obtain ⟨r15, m15, c15, h⟩ := xb_inv h
              refine xc_iV (pc := 115) (As := [.int _, .int _]) (rest := [.int _, .int _, .ref _]) ⟨hx, hb, hml, hown, hts⟩ (mX8_of hF _ _ _ k0 c15) (xcwV 2 hts fdX8_of q_m_X8_63 ⟨Nat.le_of_ble_eq_true rfl, Nat.le_of_ble_eq_true rfl⟩) (xRecv hK hR (ci := 12) rfl k0.1) hR hK hE hS rfl hl.1 rfl (Nat.le_of_ble_eq_true rfl) dX8_pay_115 ⟨Nat.zero_le _, Nat.zero_le _⟩ (fun H locs hR hS => ?_)
              refine lv_iload_n (pc := 118) hx hb dX8_pay_118 rfl (lv_at hl 0 rfl) ?_
              refine lv_isub (pc := 119) hx hb dX8_pay_119 ?_
              obtain ⟨m16, c16, h⟩ := xbv_inv h
              refine xc_vV (pc := 120) (As := [.int _, .int _, .int _]) (rest := []) ⟨hx, hb, hml, hown, hts⟩ (mX8_lays hF _ _ _ _ k0 c16) (xcwV 3 hts fdX8_lays q_m_X8_79 ⟨Nat.le_of_ble_eq_true rfl, Nat.le_of_ble_eq_true rfl⟩) (xRecv hK hR (ci := 12) rfl k0.1) hR hK hE hS rfl hl.1 rfl (Nat.le_of_ble_eq_true rfl) dX8_pay_120 ⟨Nat.zero_le _, Nat.zero_le _⟩ (fun H locs hR hS => ?_)
              refine lv_aload_n (pc := 123) hx hb dX8_pay_123 rfl (lv_at hl 1 rfl) ?_
              refine lv_iload_n (pc := 124) hx hb dX8_pay_124 rfl (lv_at hl 2 rfl) ?_
              refine lv_iconst (pc := 125) hx hb dX8_pay_125 kc_2 ?_
              refine lv_aload_n (pc := 126) hx hb dX8_pay_126 rfl (lv_at hl 1 rfl) ?_
              refine lv_iload_n (pc := 127) hx hb dX8_pay_127 rfl (lv_at hl 2 rfl) ?_
              refine lv_iconst (pc := 128) hx hb dX8_pay_128 kc_2 ?_
              obtain ⟨r17, m17, c17, h⟩ := xb_inv h
              refine xc_iV (pc := 129) (As := [.int _, .int _]) (rest := [.int _, .int _, .ref _]) ⟨hx, hb, hml, hown, hts⟩ (mX8_of hF _ _ _ k0 c17) (xcwV 2 hts fdX8_of q_m_X8_63 ⟨Nat.le_of_ble_eq_true rfl, Nat.le_of_ble_eq_true rfl⟩) (xRecv hK hR (ci := 12) rfl k0.1) hR hK hE hS rfl hl.1 rfl (Nat.le_of_ble_eq_true rfl) dX8_pay_129 ⟨Nat.zero_le _, Nat.zero_le _⟩ (fun H locs hR hS => ?_)
              refine lv_iload_n (pc := 132) hx hb dX8_pay_132 rfl (lv_at hl 3 rfl) ?_
              refine lv_iload_n (pc := 133) hx hb dX8_pay_133 rfl (lv_at hl 0 rfl) ?_
              refine lv_isub (pc := 134) hx hb dX8_pay_134 ?_
              refine lv_isub (pc := 135) hx hb dX8_pay_135 ?_
              obtain ⟨m18, c18, h⟩ := xbv_inv h
              refine xc_vV (pc := 136) (As := [.int _, .int _, .int _]) (rest := []) ⟨hx, hb, hml, hown, hts⟩ (mX8_lays hF _ _ _ _ k0 c18) (xcwV 3 hts fdX8_lays q_m_X8_79 ⟨Nat.le_of_ble_eq_true rfl, Nat.le_of_ble_eq_true rfl⟩) (xRecv hK hR (ci := 12) rfl k0.1) hR hK hE hS rfl hl.1 rfl (Nat.le_of_ble_eq_true rfl) dX8_pay_136 ⟨Nat.zero_le _, Nat.zero_le _⟩ (fun H locs hR hS => ?_)
              refine lv_aload_n (pc := 139) hx hb dX8_pay_139 rfl (lv_at hl 1 rfl) ?_
              refine lv_iload_n (pc := 140) hx hb dX8_pay_140 rfl (lv_at hl 2 rfl) ?_
              obtain ⟨r19, m19, c19, h⟩ := xb_inv h
              refine xc_iV (pc := 141) (As := [.int _]) (rest := []) ⟨hx, hb, hml, hown, hts⟩ (mX8_owed hF _ _ k0 c19) (xcwV 1 hts fdX8_owed q_m_X8_87 ⟨Nat.le_of_ble_eq_true rfl, Nat.le_of_ble_eq_true rfl⟩) (xRecv hK hR (ci := 12) rfl k0.1) hR hK hE hS rfl hl.1 rfl (Nat.le_of_ble_eq_true rfl) dX8_pay_141 ⟨Nat.zero_le _, Nat.zero_le _⟩ (fun H locs hR hS => ?_)
              exact xf_i (pc := 144) hx hb hr rfl hlocks h hR hK hS dX8_pay_144
            · have h := xneg c12 h
              refine lv_iload_n (pc := 92) hx hb dX8_pay_92 rfl (lv_at hl 2 rfl) ?_
              refine lv_goto (pc := 93) (tgt := 102) hx hb dX8_pay_93 (by decide) ?_
              refine lv_istore_n (pc := 102) (lv' := [(3, .int _), (0, .ref _), (1, .int _), (2, .int _)]) hx hb dX8_pay_102 rfl hl (Nat.le_of_ble_eq_true rfl) rfl (fun ls hl => ?_)
              refine lv_aload_n (pc := 103) hx hb dX8_pay_103 rfl (lv_at hl 1 rfl) ?_
              refine lv_iload_n (pc := 104) hx hb dX8_pay_104 rfl (lv_at hl 2 rfl) ?_
              refine lv_iload_n (pc := 105) hx hb dX8_pay_105 rfl (lv_at hl 3 rfl) ?_
              obtain ⟨m20, c20, h⟩ := xbv_inv h
              refine xc_vV (pc := 106) (As := [.int _, .int _]) (rest := []) ⟨hx, hb, hml, hown, hts⟩ (mX8_comes hF _ _ _ k0 c20) (xcwV 2 hts fdX8_comes q_m_X8_97 ⟨Nat.le_of_ble_eq_true rfl, Nat.le_of_ble_eq_true rfl⟩) (xRecv hK hR (ci := 12) rfl k0.1) hR hK hE hS rfl hl.1 rfl (Nat.le_of_ble_eq_true rfl) dX8_pay_106 ⟨Nat.zero_le _, Nat.zero_le _⟩ (fun H locs hR hS => ?_)
              refine lv_aload_n (pc := 109) hx hb dX8_pay_109 rfl (lv_at hl 1 rfl) ?_
              refine lv_iload_n (pc := 110) hx hb dX8_pay_110 rfl (lv_at hl 2 rfl) ?_
              refine lv_iconst (pc := 111) hx hb dX8_pay_111 kc_3 ?_
              refine lv_aload_n (pc := 112) hx hb dX8_pay_112 rfl (lv_at hl 1 rfl) ?_
              refine lv_iload_n (pc := 113) hx hb dX8_pay_113 rfl (lv_at hl 2 rfl) ?_
              refine lv_iconst (pc := 114) hx hb dX8_pay_114 kc_3 ?_
              obtain ⟨r21, m21, c21, h⟩ := xb_inv h
              refine xc_iV (pc := 115) (As := [.int _, .int _]) (rest := [.int _, .int _, .ref _]) ⟨hx, hb, hml, hown, hts⟩ (mX8_of hF _ _ _ k0 c21) (xcwV 2 hts fdX8_of q_m_X8_63 ⟨Nat.le_of_ble_eq_true rfl, Nat.le_of_ble_eq_true rfl⟩) (xRecv hK hR (ci := 12) rfl k0.1) hR hK hE hS rfl hl.1 rfl (Nat.le_of_ble_eq_true rfl) dX8_pay_115 ⟨Nat.zero_le _, Nat.zero_le _⟩ (fun H locs hR hS => ?_)
              refine lv_iload_n (pc := 118) hx hb dX8_pay_118 rfl (lv_at hl 0 rfl) ?_
              refine lv_isub (pc := 119) hx hb dX8_pay_119 ?_
              obtain ⟨m22, c22, h⟩ := xbv_inv h
              refine xc_vV (pc := 120) (As := [.int _, .int _, .int _]) (rest := []) ⟨hx, hb, hml, hown, hts⟩ (mX8_lays hF _ _ _ _ k0 c22) (xcwV 3 hts fdX8_lays q_m_X8_79 ⟨Nat.le_of_ble_eq_true rfl, Nat.le_of_ble_eq_true rfl⟩) (xRecv hK hR (ci := 12) rfl k0.1) hR hK hE hS rfl hl.1 rfl (Nat.le_of_ble_eq_true rfl) dX8_pay_120 ⟨Nat.zero_le _, Nat.zero_le _⟩ (fun H locs hR hS => ?_)
              refine lv_aload_n (pc := 123) hx hb dX8_pay_123 rfl (lv_at hl 1 rfl) ?_
              refine lv_iload_n (pc := 124) hx hb dX8_pay_124 rfl (lv_at hl 2 rfl) ?_
              refine lv_iconst (pc := 125) hx hb dX8_pay_125 kc_2 ?_
              refine lv_aload_n (pc := 126) hx hb dX8_pay_126 rfl (lv_at hl 1 rfl) ?_
              refine lv_iload_n (pc := 127) hx hb dX8_pay_127 rfl (lv_at hl 2 rfl) ?_
              refine lv_iconst (pc := 128) hx hb dX8_pay_128 kc_2 ?_
              obtain ⟨r23, m23, c23, h⟩ := xb_inv h
              refine xc_iV (pc := 129) (As := [.int _, .int _]) (rest := [.int _, .int _, .ref _]) ⟨hx, hb, hml, hown, hts⟩ (mX8_of hF _ _ _ k0 c23) (xcwV 2 hts fdX8_of q_m_X8_63 ⟨Nat.le_of_ble_eq_true rfl, Nat.le_of_ble_eq_true rfl⟩) (xRecv hK hR (ci := 12) rfl k0.1) hR hK hE hS rfl hl.1 rfl (Nat.le_of_ble_eq_true rfl) dX8_pay_129 ⟨Nat.zero_le _, Nat.zero_le _⟩ (fun H locs hR hS => ?_)
              refine lv_iload_n (pc := 132) hx hb dX8_pay_132 rfl (lv_at hl 3 rfl) ?_
              refine lv_iload_n (pc := 133) hx hb dX8_pay_133 rfl (lv_at hl 0 rfl) ?_
              refine lv_isub (pc := 134) hx hb dX8_pay_134 ?_
              refine lv_isub (pc := 135) hx hb dX8_pay_135 ?_
              obtain ⟨m24, c24, h⟩ := xbv_inv h
              refine xc_vV (pc := 136) (As := [.int _, .int _, .int _]) (rest := []) ⟨hx, hb, hml, hown, hts⟩ (mX8_lays hF _ _ _ _ k0 c24) (xcwV 3 hts fdX8_lays q_m_X8_79 ⟨Nat.le_of_ble_eq_true rfl, Nat.le_of_ble_eq_true rfl⟩) (xRecv hK hR (ci := 12) rfl k0.1) hR hK hE hS rfl hl.1 rfl (Nat.le_of_ble_eq_true rfl) dX8_pay_136 ⟨Nat.zero_le _, Nat.zero_le _⟩ (fun H locs hR hS => ?_)
              refine lv_aload_n (pc := 139) hx hb dX8_pay_139 rfl (lv_at hl 1 rfl) ?_
              refine lv_iload_n (pc := 140) hx hb dX8_pay_140 rfl (lv_at hl 2 rfl) ?_
              obtain ⟨r25, m25, c25, h⟩ := xb_inv h
              refine xc_iV (pc := 141) (As := [.int _]) (rest := []) ⟨hx, hb, hml, hown, hts⟩ (mX8_owed hF _ _ k0 c25) (xcwV 1 hts fdX8_owed q_m_X8_87 ⟨Nat.le_of_ble_eq_true rfl, Nat.le_of_ble_eq_true rfl⟩) (xRecv hK hR (ci := 12) rfl k0.1) hR hK hE hS rfl hl.1 rfl (Nat.le_of_ble_eq_true rfl) dX8_pay_141 ⟨Nat.zero_le _, Nat.zero_le _⟩ (fun H locs hR hS => ?_)
              exact xf_i (pc := 144) hx hb hr rfl hlocks h hR hK hS dX8_pay_144
          · have h := xneg c9 h
            refine lv_aload_n (pc := 62) hx hb dX8_pay_62 rfl (lv_at hl 0 rfl) ?_
            refine lv_iconst (pc := 63) hx hb dX8_pay_63 kc_3 ?_
            refine lv_iconst (pc := 64) hx hb dX8_pay_64 kc_5 ?_
            refine lv_aload_n (pc := 65) hx hb dX8_pay_65 rfl (lv_at hl 0 rfl) ?_
            refine lv_iload_n (pc := 66) hx hb dX8_pay_66 rfl (lv_at hl 1 rfl) ?_
            obtain ⟨r26, m26, c26, h⟩ := xb_inv h
            refine xc_iV (pc := 67) (As := [.int _]) (rest := [.int _, .int _, .ref _]) ⟨hx, hb, hml, hown, hts⟩ (mX8_owed hF _ _ k0 c26) (xcwV 1 hts fdX8_owed q_m_X8_87 ⟨Nat.le_of_ble_eq_true rfl, Nat.le_of_ble_eq_true rfl⟩) (xRecv hK hR (ci := 12) rfl k0.1) hR hK hE hS rfl hl.1 rfl (Nat.le_of_ble_eq_true rfl) dX8_pay_67 ⟨Nat.zero_le _, Nat.zero_le _⟩ (fun H locs hR hS => ?_)
            obtain ⟨r27, m27, c27, h⟩ := xb_inv h
            refine xc_iV (pc := 70) (As := [.int _, .int _, .int _]) (rest := []) ⟨hx, hb, hml, hown, hts⟩ (mX8_refuses hF _ _ _ _ k0 c27) (xcwV 3 hts fdX8_refuses q_m_X8_71 ⟨Nat.le_of_ble_eq_true rfl, Nat.le_of_ble_eq_true rfl⟩) (xRecv hK hR (ci := 12) rfl k0.1) hR hK hE hS rfl hl.1 rfl (Nat.le_of_ble_eq_true rfl) dX8_pay_70 ⟨Nat.zero_le _, Nat.zero_le _⟩ (fun H locs hR hS => ?_)
            exact xf_i (pc := 73) hx hb hr rfl hlocks h hR hK hS dX8_pay_73
        · have h := xneg c7 h
          refine lv_aload_n (pc := 40) hx hb dX8_pay_40 rfl (lv_at hl 0 rfl) ?_
          refine lv_iconst (pc := 41) hx hb dX8_pay_41 kc_3 ?_
          refine lv_iconst (pc := 42) hx hb dX8_pay_42 kc_4 ?_
          refine lv_aload_n (pc := 43) hx hb dX8_pay_43 rfl (lv_at hl 0 rfl) ?_
          refine lv_iload_n (pc := 44) hx hb dX8_pay_44 rfl (lv_at hl 1 rfl) ?_
          refine lv_iconst (pc := 45) hx hb dX8_pay_45 kc_4 ?_
          obtain ⟨r28, m28, c28, h⟩ := xb_inv h
          refine xc_iV (pc := 46) (As := [.int _, .int _]) (rest := [.int _, .int _, .ref _]) ⟨hx, hb, hml, hown, hts⟩ (mX8_of hF _ _ _ k0 c28) (xcwV 2 hts fdX8_of q_m_X8_63 ⟨Nat.le_of_ble_eq_true rfl, Nat.le_of_ble_eq_true rfl⟩) (xRecv hK hR (ci := 12) rfl k0.1) hR hK hE hS rfl hl.1 rfl (Nat.le_of_ble_eq_true rfl) dX8_pay_46 ⟨Nat.zero_le _, Nat.zero_le _⟩ (fun H locs hR hS => ?_)
          obtain ⟨r29, m29, c29, h⟩ := xb_inv h
          refine xc_iV (pc := 49) (As := [.int _, .int _, .int _]) (rest := []) ⟨hx, hb, hml, hown, hts⟩ (mX8_refuses hF _ _ _ _ k0 c29) (xcwV 3 hts fdX8_refuses q_m_X8_71 ⟨Nat.le_of_ble_eq_true rfl, Nat.le_of_ble_eq_true rfl⟩) (xRecv hK hR (ci := 12) rfl k0.1) hR hK hE hS rfl hl.1 rfl (Nat.le_of_ble_eq_true rfl) dX8_pay_49 ⟨Nat.zero_le _, Nat.zero_le _⟩ (fun H locs hR hS => ?_)
          exact xf_i (pc := 52) hx hb hr rfl hlocks h hR hK hS dX8_pay_52
      · have h := xneg c5 h
        refine lv_iconst (pc := 29) hx hb dX8_pay_29 kc_0 ?_
        exact xf_i (pc := 30) hx hb hr rfl hlocks h hR hK hS dX8_pay_30
    · have h := xneg c3 h
      refine lv_iconst (pc := 18) hx hb dX8_pay_18 kc_0 ?_
      refine lv_goto (pc := 19) (tgt := 23) hx hb dX8_pay_19 (by decide) ?_
      obtain ⟨r30, m30, c30, h⟩ := xb_inv h
      refine xc_iV (pc := 23) (As := [.int _]) (rest := []) ⟨hx, hb, hml, hown, hts⟩ (mX8_fails hF _ _ k0 c30) (xcwV 1 hts fdX8_fails q_m_X8_67 ⟨Nat.le_of_ble_eq_true rfl, Nat.le_of_ble_eq_true rfl⟩) (xRecv hK hR (ci := 12) rfl k0.1) hR hK hE hS rfl hl.1 rfl (Nat.le_of_ble_eq_true rfl) dX8_pay_23 ⟨Nat.zero_le _, Nat.zero_le _⟩ (fun H locs hR hS => ?_)
      refine lv_if_eq (pc := 26) (tgt := 31) hx hb dX8_pay_26 (by decide) (fun c31 => ?_) (fun c31 => ?_)
      · have h := xpos c31 h
        refine lv_aload_n (pc := 31) hx hb dX8_pay_31 rfl (lv_at hl 0 rfl) ?_
        refine lv_iload_n (pc := 32) hx hb dX8_pay_32 rfl (lv_at hl 1 rfl) ?_
        refine lv_iconst (pc := 33) hx hb dX8_pay_33 kc_4 ?_
        obtain ⟨r32, m32, c32, h⟩ := xb_inv h
        refine xc_iV (pc := 34) (As := [.int _, .int _]) (rest := []) ⟨hx, hb, hml, hown, hts⟩ (mX8_of hF _ _ _ k0 c32) (xcwV 2 hts fdX8_of q_m_X8_63 ⟨Nat.le_of_ble_eq_true rfl, Nat.le_of_ble_eq_true rfl⟩) (xRecv hK hR (ci := 12) rfl k0.1) hR hK hE hS rfl hl.1 rfl (Nat.le_of_ble_eq_true rfl) dX8_pay_34 ⟨Nat.zero_le _, Nat.zero_le _⟩ (fun H locs hR hS => ?_)
        refine lv_if_eq (pc := 37) (tgt := 53) hx hb dX8_pay_37 (by decide) (fun c33 => ?_) (fun c33 => ?_)
        · have h := xpos c33 h
          refine lv_iload_n (pc := 53) hx hb dX8_pay_53 rfl (lv_at hl 2 rfl) ?_
          refine lv_aload_n (pc := 54) hx hb dX8_pay_54 rfl (lv_at hl 0 rfl) ?_
          refine lv_iload_n (pc := 55) hx hb dX8_pay_55 rfl (lv_at hl 1 rfl) ?_
          obtain ⟨r34, m34, c34, h⟩ := xb_inv h
          refine xc_iV (pc := 56) (As := [.int _]) (rest := [.int _]) ⟨hx, hb, hml, hown, hts⟩ (mX8_owed hF _ _ k0 c34) (xcwV 1 hts fdX8_owed q_m_X8_87 ⟨Nat.le_of_ble_eq_true rfl, Nat.le_of_ble_eq_true rfl⟩) (xRecv hK hR (ci := 12) rfl k0.1) hR hK hE hS rfl hl.1 rfl (Nat.le_of_ble_eq_true rfl) dX8_pay_56 ⟨Nat.zero_le _, Nat.zero_le _⟩ (fun H locs hR hS => ?_)
          refine lv_icmp_lt (pc := 59) (tgt := 74) hx hb dX8_pay_59 (by decide) (fun c35 => ?_) (fun c35 => ?_)
          · have h := xpos c35 h
            refine lv_aload_n (pc := 74) hx hb dX8_pay_74 rfl (lv_at hl 0 rfl) ?_
            refine lv_aload_n (pc := 75) hx hb dX8_pay_75 rfl (lv_at hl 0 rfl) ?_
            refine xr_getR (pc := 76) (ci := 12) hx hb hts inX8 hown hK hR rfl k0.1 0 (Nat.le_of_ble_eq_true rfl) rfl k0.2.1.1 (hts _ q_f_X8_7) (fun _ h9 => h9) dX8_pay_76 ?_
            obtain ⟨m36, c36, h⟩ := xbv_inv h
            refine xc_vV (pc := 79) (As := [.ref _]) (rest := []) ⟨hx, hb, hml, hown, hts⟩ (mX8_keeps hF _ _ k0 k0.2.1.2 c36) (xcwV 1 hts fdX8_keeps q_m_X8_75 ⟨Nat.le_of_ble_eq_true rfl, Nat.le_of_ble_eq_true rfl⟩) (xRecv hK hR (ci := 12) rfl k0.1) hR hK hE hS rfl hl.1 rfl (Nat.le_of_ble_eq_true rfl) dX8_pay_79 ⟨Nat.zero_le _, Nat.zero_le _⟩ (fun H locs hR hS => ?_)
            refine lv_iload_n (pc := 82) hx hb dX8_pay_82 rfl (lv_at hl 2 rfl) ?_
            refine lv_aload_n (pc := 83) hx hb dX8_pay_83 rfl (lv_at hl 0 rfl) ?_
            refine lv_iload_n (pc := 84) hx hb dX8_pay_84 rfl (lv_at hl 1 rfl) ?_
            refine lv_iconst (pc := 85) hx hb dX8_pay_85 kc_3 ?_
            obtain ⟨r37, m37, c37, h⟩ := xb_inv h
            refine xc_iV (pc := 86) (As := [.int _, .int _]) (rest := [.int _]) ⟨hx, hb, hml, hown, hts⟩ (mX8_of hF _ _ _ k0 c37) (xcwV 2 hts fdX8_of q_m_X8_63 ⟨Nat.le_of_ble_eq_true rfl, Nat.le_of_ble_eq_true rfl⟩) (xRecv hK hR (ci := 12) rfl k0.1) hR hK hE hS rfl hl.1 rfl (Nat.le_of_ble_eq_true rfl) dX8_pay_86 ⟨Nat.zero_le _, Nat.zero_le _⟩ (fun H locs hR hS => ?_)
            refine lv_icmp_ge (pc := 89) (tgt := 96) hx hb dX8_pay_89 (by decide) (fun c38 => ?_) (fun c38 => ?_)
            · have h := xpos c38 h
              refine lv_aload_n (pc := 96) hx hb dX8_pay_96 rfl (lv_at hl 0 rfl) ?_
              refine lv_iload_n (pc := 97) hx hb dX8_pay_97 rfl (lv_at hl 1 rfl) ?_
              refine lv_iconst (pc := 98) hx hb dX8_pay_98 kc_3 ?_
              obtain ⟨r39, m39, c39, h⟩ := xb_inv h
              refine xc_iV (pc := 99) (As := [.int _, .int _]) (rest := []) ⟨hx, hb, hml, hown, hts⟩ (mX8_of hF _ _ _ k0 c39) (xcwV 2 hts fdX8_of q_m_X8_63 ⟨Nat.le_of_ble_eq_true rfl, Nat.le_of_ble_eq_true rfl⟩) (xRecv hK hR (ci := 12) rfl k0.1) hR hK hE hS rfl hl.1 rfl (Nat.le_of_ble_eq_true rfl) dX8_pay_99 ⟨Nat.zero_le _, Nat.zero_le _⟩ (fun H locs hR hS => ?_)
              refine lv_istore_n (pc := 102) (lv' := [(3, .int _), (0, .ref _), (1, .int _), (2, .int _)]) hx hb dX8_pay_102 rfl hl (Nat.le_of_ble_eq_true rfl) rfl (fun ls hl => ?_)
              refine lv_aload_n (pc := 103) hx hb dX8_pay_103 rfl (lv_at hl 1 rfl) ?_
              refine lv_iload_n (pc := 104) hx hb dX8_pay_104 rfl (lv_at hl 2 rfl) ?_
              refine lv_iload_n (pc := 105) hx hb dX8_pay_105 rfl (lv_at hl 3 rfl) ?_
              obtain ⟨m40, c40, h⟩ := xbv_inv h
              refine xc_vV (pc := 106) (As := [.int _, .int _]) (rest := []) ⟨hx, hb, hml, hown, hts⟩ (mX8_comes hF _ _ _ k0 c40) (xcwV 2 hts fdX8_comes q_m_X8_97 ⟨Nat.le_of_ble_eq_true rfl, Nat.le_of_ble_eq_true rfl⟩) (xRecv hK hR (ci := 12) rfl k0.1) hR hK hE hS rfl hl.1 rfl (Nat.le_of_ble_eq_true rfl) dX8_pay_106 ⟨Nat.zero_le _, Nat.zero_le _⟩ (fun H locs hR hS => ?_)
              refine lv_aload_n (pc := 109) hx hb dX8_pay_109 rfl (lv_at hl 1 rfl) ?_
              refine lv_iload_n (pc := 110) hx hb dX8_pay_110 rfl (lv_at hl 2 rfl) ?_
              refine lv_iconst (pc := 111) hx hb dX8_pay_111 kc_3 ?_
              refine lv_aload_n (pc := 112) hx hb dX8_pay_112 rfl (lv_at hl 1 rfl) ?_
              refine lv_iload_n (pc := 113) hx hb dX8_pay_113 rfl (lv_at hl 2 rfl) ?_
              refine lv_iconst (pc := 114) hx hb dX8_pay_114 kc_3 ?_
              obtain ⟨r41, m41, c41, h⟩ := xb_inv h
              refine xc_iV (pc := 115) (As := [.int _, .int _]) (rest := [.int _, .int _, .ref _]) ⟨hx, hb, hml, hown, hts⟩ (mX8_of hF _ _ _ k0 c41) (xcwV 2 hts fdX8_of q_m_X8_63 ⟨Nat.le_of_ble_eq_true rfl, Nat.le_of_ble_eq_true rfl⟩) (xRecv hK hR (ci := 12) rfl k0.1) hR hK hE hS rfl hl.1 rfl (Nat.le_of_ble_eq_true rfl) dX8_pay_115 ⟨Nat.zero_le _, Nat.zero_le _⟩ (fun H locs hR hS => ?_)
              refine lv_iload_n (pc := 118) hx hb dX8_pay_118 rfl (lv_at hl 0 rfl) ?_
              refine lv_isub (pc := 119) hx hb dX8_pay_119 ?_
              obtain ⟨m42, c42, h⟩ := xbv_inv h
              refine xc_vV (pc := 120) (As := [.int _, .int _, .int _]) (rest := []) ⟨hx, hb, hml, hown, hts⟩ (mX8_lays hF _ _ _ _ k0 c42) (xcwV 3 hts fdX8_lays q_m_X8_79 ⟨Nat.le_of_ble_eq_true rfl, Nat.le_of_ble_eq_true rfl⟩) (xRecv hK hR (ci := 12) rfl k0.1) hR hK hE hS rfl hl.1 rfl (Nat.le_of_ble_eq_true rfl) dX8_pay_120 ⟨Nat.zero_le _, Nat.zero_le _⟩ (fun H locs hR hS => ?_)
              refine lv_aload_n (pc := 123) hx hb dX8_pay_123 rfl (lv_at hl 1 rfl) ?_
              refine lv_iload_n (pc := 124) hx hb dX8_pay_124 rfl (lv_at hl 2 rfl) ?_
              refine lv_iconst (pc := 125) hx hb dX8_pay_125 kc_2 ?_
              refine lv_aload_n (pc := 126) hx hb dX8_pay_126 rfl (lv_at hl 1 rfl) ?_
              refine lv_iload_n (pc := 127) hx hb dX8_pay_127 rfl (lv_at hl 2 rfl) ?_
              refine lv_iconst (pc := 128) hx hb dX8_pay_128 kc_2 ?_
              obtain ⟨r43, m43, c43, h⟩ := xb_inv h
              refine xc_iV (pc := 129) (As := [.int _, .int _]) (rest := [.int _, .int _, .ref _]) ⟨hx, hb, hml, hown, hts⟩ (mX8_of hF _ _ _ k0 c43) (xcwV 2 hts fdX8_of q_m_X8_63 ⟨Nat.le_of_ble_eq_true rfl, Nat.le_of_ble_eq_true rfl⟩) (xRecv hK hR (ci := 12) rfl k0.1) hR hK hE hS rfl hl.1 rfl (Nat.le_of_ble_eq_true rfl) dX8_pay_129 ⟨Nat.zero_le _, Nat.zero_le _⟩ (fun H locs hR hS => ?_)
              refine lv_iload_n (pc := 132) hx hb dX8_pay_132 rfl (lv_at hl 3 rfl) ?_
              refine lv_iload_n (pc := 133) hx hb dX8_pay_133 rfl (lv_at hl 0 rfl) ?_
              refine lv_isub (pc := 134) hx hb dX8_pay_134 ?_
              refine lv_isub (pc := 135) hx hb dX8_pay_135 ?_
              obtain ⟨m44, c44, h⟩ := xbv_inv h
              refine xc_vV (pc := 136) (As := [.int _, .int _, .int _]) (rest := []) ⟨hx, hb, hml, hown, hts⟩ (mX8_lays hF _ _ _ _ k0 c44) (xcwV 3 hts fdX8_lays q_m_X8_79 ⟨Nat.le_of_ble_eq_true rfl, Nat.le_of_ble_eq_true rfl⟩) (xRecv hK hR (ci := 12) rfl k0.1) hR hK hE hS rfl hl.1 rfl (Nat.le_of_ble_eq_true rfl) dX8_pay_136 ⟨Nat.zero_le _, Nat.zero_le _⟩ (fun H locs hR hS => ?_)
              refine lv_aload_n (pc := 139) hx hb dX8_pay_139 rfl (lv_at hl 1 rfl) ?_
              refine lv_iload_n (pc := 140) hx hb dX8_pay_140 rfl (lv_at hl 2 rfl) ?_
              obtain ⟨r45, m45, c45, h⟩ := xb_inv h
              refine xc_iV (pc := 141) (As := [.int _]) (rest := []) ⟨hx, hb, hml, hown, hts⟩ (mX8_owed hF _ _ k0 c45) (xcwV 1 hts fdX8_owed q_m_X8_87 ⟨Nat.le_of_ble_eq_true rfl, Nat.le_of_ble_eq_true rfl⟩) (xRecv hK hR (ci := 12) rfl k0.1) hR hK hE hS rfl hl.1 rfl (Nat.le_of_ble_eq_true rfl) dX8_pay_141 ⟨Nat.zero_le _, Nat.zero_le _⟩ (fun H locs hR hS => ?_)
              exact xf_i (pc := 144) hx hb hr rfl hlocks h hR hK hS dX8_pay_144
            · have h := xneg c38 h
              refine lv_iload_n (pc := 92) hx hb dX8_pay_92 rfl (lv_at hl 2 rfl) ?_
              refine lv_goto (pc := 93) (tgt := 102) hx hb dX8_pay_93 (by decide) ?_
              refine lv_istore_n (pc := 102) (lv' := [(3, .int _), (0, .ref _), (1, .int _), (2, .int _)]) hx hb dX8_pay_102 rfl hl (Nat.le_of_ble_eq_true rfl) rfl (fun ls hl => ?_)
              refine lv_aload_n (pc := 103) hx hb dX8_pay_103 rfl (lv_at hl 1 rfl) ?_
              refine lv_iload_n (pc := 104) hx hb dX8_pay_104 rfl (lv_at hl 2 rfl) ?_
              refine lv_iload_n (pc := 105) hx hb dX8_pay_105 rfl (lv_at hl 3 rfl) ?_
              obtain ⟨m46, c46, h⟩ := xbv_inv h
              refine xc_vV (pc := 106) (As := [.int _, .int _]) (rest := []) ⟨hx, hb, hml, hown, hts⟩ (mX8_comes hF _ _ _ k0 c46) (xcwV 2 hts fdX8_comes q_m_X8_97 ⟨Nat.le_of_ble_eq_true rfl, Nat.le_of_ble_eq_true rfl⟩) (xRecv hK hR (ci := 12) rfl k0.1) hR hK hE hS rfl hl.1 rfl (Nat.le_of_ble_eq_true rfl) dX8_pay_106 ⟨Nat.zero_le _, Nat.zero_le _⟩ (fun H locs hR hS => ?_)
              refine lv_aload_n (pc := 109) hx hb dX8_pay_109 rfl (lv_at hl 1 rfl) ?_
              refine lv_iload_n (pc := 110) hx hb dX8_pay_110 rfl (lv_at hl 2 rfl) ?_
              refine lv_iconst (pc := 111) hx hb dX8_pay_111 kc_3 ?_
              refine lv_aload_n (pc := 112) hx hb dX8_pay_112 rfl (lv_at hl 1 rfl) ?_
              refine lv_iload_n (pc := 113) hx hb dX8_pay_113 rfl (lv_at hl 2 rfl) ?_
              refine lv_iconst (pc := 114) hx hb dX8_pay_114 kc_3 ?_
              obtain ⟨r47, m47, c47, h⟩ := xb_inv h
              refine xc_iV (pc := 115) (As := [.int _, .int _]) (rest := [.int _, .int _, .ref _]) ⟨hx, hb, hml, hown, hts⟩ (mX8_of hF _ _ _ k0 c47) (xcwV 2 hts fdX8_of q_m_X8_63 ⟨Nat.le_of_ble_eq_true rfl, Nat.le_of_ble_eq_true rfl⟩) (xRecv hK hR (ci := 12) rfl k0.1) hR hK hE hS rfl hl.1 rfl (Nat.le_of_ble_eq_true rfl) dX8_pay_115 ⟨Nat.zero_le _, Nat.zero_le _⟩ (fun H locs hR hS => ?_)
              refine lv_iload_n (pc := 118) hx hb dX8_pay_118 rfl (lv_at hl 0 rfl) ?_
              refine lv_isub (pc := 119) hx hb dX8_pay_119 ?_
              obtain ⟨m48, c48, h⟩ := xbv_inv h
              refine xc_vV (pc := 120) (As := [.int _, .int _, .int _]) (rest := []) ⟨hx, hb, hml, hown, hts⟩ (mX8_lays hF _ _ _ _ k0 c48) (xcwV 3 hts fdX8_lays q_m_X8_79 ⟨Nat.le_of_ble_eq_true rfl, Nat.le_of_ble_eq_true rfl⟩) (xRecv hK hR (ci := 12) rfl k0.1) hR hK hE hS rfl hl.1 rfl (Nat.le_of_ble_eq_true rfl) dX8_pay_120 ⟨Nat.zero_le _, Nat.zero_le _⟩ (fun H locs hR hS => ?_)
              refine lv_aload_n (pc := 123) hx hb dX8_pay_123 rfl (lv_at hl 1 rfl) ?_
              refine lv_iload_n (pc := 124) hx hb dX8_pay_124 rfl (lv_at hl 2 rfl) ?_
              refine lv_iconst (pc := 125) hx hb dX8_pay_125 kc_2 ?_
              refine lv_aload_n (pc := 126) hx hb dX8_pay_126 rfl (lv_at hl 1 rfl) ?_
              refine lv_iload_n (pc := 127) hx hb dX8_pay_127 rfl (lv_at hl 2 rfl) ?_
              refine lv_iconst (pc := 128) hx hb dX8_pay_128 kc_2 ?_
              obtain ⟨r49, m49, c49, h⟩ := xb_inv h
              refine xc_iV (pc := 129) (As := [.int _, .int _]) (rest := [.int _, .int _, .ref _]) ⟨hx, hb, hml, hown, hts⟩ (mX8_of hF _ _ _ k0 c49) (xcwV 2 hts fdX8_of q_m_X8_63 ⟨Nat.le_of_ble_eq_true rfl, Nat.le_of_ble_eq_true rfl⟩) (xRecv hK hR (ci := 12) rfl k0.1) hR hK hE hS rfl hl.1 rfl (Nat.le_of_ble_eq_true rfl) dX8_pay_129 ⟨Nat.zero_le _, Nat.zero_le _⟩ (fun H locs hR hS => ?_)
              refine lv_iload_n (pc := 132) hx hb dX8_pay_132 rfl (lv_at hl 3 rfl) ?_
              refine lv_iload_n (pc := 133) hx hb dX8_pay_133 rfl (lv_at hl 0 rfl) ?_
              refine lv_isub (pc := 134) hx hb dX8_pay_134 ?_
              refine lv_isub (pc := 135) hx hb dX8_pay_135 ?_
              obtain ⟨m50, c50, h⟩ := xbv_inv h
              refine xc_vV (pc := 136) (As := [.int _, .int _, .int _]) (rest := []) ⟨hx, hb, hml, hown, hts⟩ (mX8_lays hF _ _ _ _ k0 c50) (xcwV 3 hts fdX8_lays q_m_X8_79 ⟨Nat.le_of_ble_eq_true rfl, Nat.le_of_ble_eq_true rfl⟩) (xRecv hK hR (ci := 12) rfl k0.1) hR hK hE hS rfl hl.1 rfl (Nat.le_of_ble_eq_true rfl) dX8_pay_136 ⟨Nat.zero_le _, Nat.zero_le _⟩ (fun H locs hR hS => ?_)
              refine lv_aload_n (pc := 139) hx hb dX8_pay_139 rfl (lv_at hl 1 rfl) ?_
              refine lv_iload_n (pc := 140) hx hb dX8_pay_140 rfl (lv_at hl 2 rfl) ?_
              obtain ⟨r51, m51, c51, h⟩ := xb_inv h
              refine xc_iV (pc := 141) (As := [.int _]) (rest := []) ⟨hx, hb, hml, hown, hts⟩ (mX8_owed hF _ _ k0 c51) (xcwV 1 hts fdX8_owed q_m_X8_87 ⟨Nat.le_of_ble_eq_true rfl, Nat.le_of_ble_eq_true rfl⟩) (xRecv hK hR (ci := 12) rfl k0.1) hR hK hE hS rfl hl.1 rfl (Nat.le_of_ble_eq_true rfl) dX8_pay_141 ⟨Nat.zero_le _, Nat.zero_le _⟩ (fun H locs hR hS => ?_)
              exact xf_i (pc := 144) hx hb hr rfl hlocks h hR hK hS dX8_pay_144
          · have h := xneg c35 h
            refine lv_aload_n (pc := 62) hx hb dX8_pay_62 rfl (lv_at hl 0 rfl) ?_
            refine lv_iconst (pc := 63) hx hb dX8_pay_63 kc_3 ?_
            refine lv_iconst (pc := 64) hx hb dX8_pay_64 kc_5 ?_
            refine lv_aload_n (pc := 65) hx hb dX8_pay_65 rfl (lv_at hl 0 rfl) ?_
            refine lv_iload_n (pc := 66) hx hb dX8_pay_66 rfl (lv_at hl 1 rfl) ?_
            obtain ⟨r52, m52, c52, h⟩ := xb_inv h
            refine xc_iV (pc := 67) (As := [.int _]) (rest := [.int _, .int _, .ref _]) ⟨hx, hb, hml, hown, hts⟩ (mX8_owed hF _ _ k0 c52) (xcwV 1 hts fdX8_owed q_m_X8_87 ⟨Nat.le_of_ble_eq_true rfl, Nat.le_of_ble_eq_true rfl⟩) (xRecv hK hR (ci := 12) rfl k0.1) hR hK hE hS rfl hl.1 rfl (Nat.le_of_ble_eq_true rfl) dX8_pay_67 ⟨Nat.zero_le _, Nat.zero_le _⟩ (fun H locs hR hS => ?_)
            obtain ⟨r53, m53, c53, h⟩ := xb_inv h
            refine xc_iV (pc := 70) (As := [.int _, .int _, .int _]) (rest := []) ⟨hx, hb, hml, hown, hts⟩ (mX8_refuses hF _ _ _ _ k0 c53) (xcwV 3 hts fdX8_refuses q_m_X8_71 ⟨Nat.le_of_ble_eq_true rfl, Nat.le_of_ble_eq_true rfl⟩) (xRecv hK hR (ci := 12) rfl k0.1) hR hK hE hS rfl hl.1 rfl (Nat.le_of_ble_eq_true rfl) dX8_pay_70 ⟨Nat.zero_le _, Nat.zero_le _⟩ (fun H locs hR hS => ?_)
            exact xf_i (pc := 73) hx hb hr rfl hlocks h hR hK hS dX8_pay_73
        · have h := xneg c33 h
          refine lv_aload_n (pc := 40) hx hb dX8_pay_40 rfl (lv_at hl 0 rfl) ?_
          refine lv_iconst (pc := 41) hx hb dX8_pay_41 kc_3 ?_
          refine lv_iconst (pc := 42) hx hb dX8_pay_42 kc_4 ?_
          refine lv_aload_n (pc := 43) hx hb dX8_pay_43 rfl (lv_at hl 0 rfl) ?_
          refine lv_iload_n (pc := 44) hx hb dX8_pay_44 rfl (lv_at hl 1 rfl) ?_
          refine lv_iconst (pc := 45) hx hb dX8_pay_45 kc_4 ?_
          obtain ⟨r54, m54, c54, h⟩ := xb_inv h
          refine xc_iV (pc := 46) (As := [.int _, .int _]) (rest := [.int _, .int _, .ref _]) ⟨hx, hb, hml, hown, hts⟩ (mX8_of hF _ _ _ k0 c54) (xcwV 2 hts fdX8_of q_m_X8_63 ⟨Nat.le_of_ble_eq_true rfl, Nat.le_of_ble_eq_true rfl⟩) (xRecv hK hR (ci := 12) rfl k0.1) hR hK hE hS rfl hl.1 rfl (Nat.le_of_ble_eq_true rfl) dX8_pay_46 ⟨Nat.zero_le _, Nat.zero_le _⟩ (fun H locs hR hS => ?_)
          obtain ⟨r55, m55, c55, h⟩ := xb_inv h
          refine xc_iV (pc := 49) (As := [.int _, .int _, .int _]) (rest := []) ⟨hx, hb, hml, hown, hts⟩ (mX8_refuses hF _ _ _ _ k0 c55) (xcwV 3 hts fdX8_refuses q_m_X8_71 ⟨Nat.le_of_ble_eq_true rfl, Nat.le_of_ble_eq_true rfl⟩) (xRecv hK hR (ci := 12) rfl k0.1) hR hK hE hS rfl hl.1 rfl (Nat.le_of_ble_eq_true rfl) dX8_pay_49 ⟨Nat.zero_le _, Nat.zero_le _⟩ (fun H locs hR hS => ?_)
          exact xf_i (pc := 52) hx hb hr rfl hlocks h hR hK hS dX8_pay_52
      · have h := xneg c31 h
        refine lv_iconst (pc := 29) hx hb dX8_pay_29 kc_0 ?_
        exact xf_i (pc := 30) hx hb hr rfl hlocks h hR hK hS dX8_pay_30
  · have h := xpos c2 h
    refine lv_iconst (pc := 9) hx hb dX8_pay_9 kc_1 ?_
    refine lv_goto (pc := 10) (tgt := 23) hx hb dX8_pay_10 (by decide) ?_
    obtain ⟨r56, m56, c56, h⟩ := xb_inv h
    refine xc_iV (pc := 23) (As := [.int _]) (rest := []) ⟨hx, hb, hml, hown, hts⟩ (mX8_fails hF _ _ k0 c56) (xcwV 1 hts fdX8_fails q_m_X8_67 ⟨Nat.le_of_ble_eq_true rfl, Nat.le_of_ble_eq_true rfl⟩) (xRecv hK hR (ci := 12) rfl k0.1) hR hK hE hS rfl hl.1 rfl (Nat.le_of_ble_eq_true rfl) dX8_pay_23 ⟨Nat.zero_le _, Nat.zero_le _⟩ (fun H locs hR hS => ?_)
    refine lv_if_eq (pc := 26) (tgt := 31) hx hb dX8_pay_26 (by decide) (fun c57 => ?_) (fun c57 => ?_)
    · have h := xpos c57 h
      refine lv_aload_n (pc := 31) hx hb dX8_pay_31 rfl (lv_at hl 0 rfl) ?_
      refine lv_iload_n (pc := 32) hx hb dX8_pay_32 rfl (lv_at hl 1 rfl) ?_
      refine lv_iconst (pc := 33) hx hb dX8_pay_33 kc_4 ?_
      obtain ⟨r58, m58, c58, h⟩ := xb_inv h
      refine xc_iV (pc := 34) (As := [.int _, .int _]) (rest := []) ⟨hx, hb, hml, hown, hts⟩ (mX8_of hF _ _ _ k0 c58) (xcwV 2 hts fdX8_of q_m_X8_63 ⟨Nat.le_of_ble_eq_true rfl, Nat.le_of_ble_eq_true rfl⟩) (xRecv hK hR (ci := 12) rfl k0.1) hR hK hE hS rfl hl.1 rfl (Nat.le_of_ble_eq_true rfl) dX8_pay_34 ⟨Nat.zero_le _, Nat.zero_le _⟩ (fun H locs hR hS => ?_)
      refine lv_if_eq (pc := 37) (tgt := 53) hx hb dX8_pay_37 (by decide) (fun c59 => ?_) (fun c59 => ?_)
      · have h := xpos c59 h
        refine lv_iload_n (pc := 53) hx hb dX8_pay_53 rfl (lv_at hl 2 rfl) ?_
        refine lv_aload_n (pc := 54) hx hb dX8_pay_54 rfl (lv_at hl 0 rfl) ?_
        refine lv_iload_n (pc := 55) hx hb dX8_pay_55 rfl (lv_at hl 1 rfl) ?_
        obtain ⟨r60, m60, c60, h⟩ := xb_inv h
        refine xc_iV (pc := 56) (As := [.int _]) (rest := [.int _]) ⟨hx, hb, hml, hown, hts⟩ (mX8_owed hF _ _ k0 c60) (xcwV 1 hts fdX8_owed q_m_X8_87 ⟨Nat.le_of_ble_eq_true rfl, Nat.le_of_ble_eq_true rfl⟩) (xRecv hK hR (ci := 12) rfl k0.1) hR hK hE hS rfl hl.1 rfl (Nat.le_of_ble_eq_true rfl) dX8_pay_56 ⟨Nat.zero_le _, Nat.zero_le _⟩ (fun H locs hR hS => ?_)
        refine lv_icmp_lt (pc := 59) (tgt := 74) hx hb dX8_pay_59 (by decide) (fun c61 => ?_) (fun c61 => ?_)
        · have h := xpos c61 h
          refine lv_aload_n (pc := 74) hx hb dX8_pay_74 rfl (lv_at hl 0 rfl) ?_
          refine lv_aload_n (pc := 75) hx hb dX8_pay_75 rfl (lv_at hl 0 rfl) ?_
          refine xr_getR (pc := 76) (ci := 12) hx hb hts inX8 hown hK hR rfl k0.1 0 (Nat.le_of_ble_eq_true rfl) rfl k0.2.1.1 (hts _ q_f_X8_7) (fun _ h9 => h9) dX8_pay_76 ?_
          obtain ⟨m62, c62, h⟩ := xbv_inv h
          refine xc_vV (pc := 79) (As := [.ref _]) (rest := []) ⟨hx, hb, hml, hown, hts⟩ (mX8_keeps hF _ _ k0 k0.2.1.2 c62) (xcwV 1 hts fdX8_keeps q_m_X8_75 ⟨Nat.le_of_ble_eq_true rfl, Nat.le_of_ble_eq_true rfl⟩) (xRecv hK hR (ci := 12) rfl k0.1) hR hK hE hS rfl hl.1 rfl (Nat.le_of_ble_eq_true rfl) dX8_pay_79 ⟨Nat.zero_le _, Nat.zero_le _⟩ (fun H locs hR hS => ?_)
          refine lv_iload_n (pc := 82) hx hb dX8_pay_82 rfl (lv_at hl 2 rfl) ?_
          refine lv_aload_n (pc := 83) hx hb dX8_pay_83 rfl (lv_at hl 0 rfl) ?_
          refine lv_iload_n (pc := 84) hx hb dX8_pay_84 rfl (lv_at hl 1 rfl) ?_
          refine lv_iconst (pc := 85) hx hb dX8_pay_85 kc_3 ?_
          obtain ⟨r63, m63, c63, h⟩ := xb_inv h
          refine xc_iV (pc := 86) (As := [.int _, .int _]) (rest := [.int _]) ⟨hx, hb, hml, hown, hts⟩ (mX8_of hF _ _ _ k0 c63) (xcwV 2 hts fdX8_of q_m_X8_63 ⟨Nat.le_of_ble_eq_true rfl, Nat.le_of_ble_eq_true rfl⟩) (xRecv hK hR (ci := 12) rfl k0.1) hR hK hE hS rfl hl.1 rfl (Nat.le_of_ble_eq_true rfl) dX8_pay_86 ⟨Nat.zero_le _, Nat.zero_le _⟩ (fun H locs hR hS => ?_)
          refine lv_icmp_ge (pc := 89) (tgt := 96) hx hb dX8_pay_89 (by decide) (fun c64 => ?_) (fun c64 => ?_)
          · have h := xpos c64 h
            refine lv_aload_n (pc := 96) hx hb dX8_pay_96 rfl (lv_at hl 0 rfl) ?_
            refine lv_iload_n (pc := 97) hx hb dX8_pay_97 rfl (lv_at hl 1 rfl) ?_
            refine lv_iconst (pc := 98) hx hb dX8_pay_98 kc_3 ?_
            obtain ⟨r65, m65, c65, h⟩ := xb_inv h
            refine xc_iV (pc := 99) (As := [.int _, .int _]) (rest := []) ⟨hx, hb, hml, hown, hts⟩ (mX8_of hF _ _ _ k0 c65) (xcwV 2 hts fdX8_of q_m_X8_63 ⟨Nat.le_of_ble_eq_true rfl, Nat.le_of_ble_eq_true rfl⟩) (xRecv hK hR (ci := 12) rfl k0.1) hR hK hE hS rfl hl.1 rfl (Nat.le_of_ble_eq_true rfl) dX8_pay_99 ⟨Nat.zero_le _, Nat.zero_le _⟩ (fun H locs hR hS => ?_)
            refine lv_istore_n (pc := 102) (lv' := [(3, .int _), (0, .ref _), (1, .int _), (2, .int _)]) hx hb dX8_pay_102 rfl hl (Nat.le_of_ble_eq_true rfl) rfl (fun ls hl => ?_)
            refine lv_aload_n (pc := 103) hx hb dX8_pay_103 rfl (lv_at hl 1 rfl) ?_
            refine lv_iload_n (pc := 104) hx hb dX8_pay_104 rfl (lv_at hl 2 rfl) ?_
            refine lv_iload_n (pc := 105) hx hb dX8_pay_105 rfl (lv_at hl 3 rfl) ?_
            obtain ⟨m66, c66, h⟩ := xbv_inv h
            refine xc_vV (pc := 106) (As := [.int _, .int _]) (rest := []) ⟨hx, hb, hml, hown, hts⟩ (mX8_comes hF _ _ _ k0 c66) (xcwV 2 hts fdX8_comes q_m_X8_97 ⟨Nat.le_of_ble_eq_true rfl, Nat.le_of_ble_eq_true rfl⟩) (xRecv hK hR (ci := 12) rfl k0.1) hR hK hE hS rfl hl.1 rfl (Nat.le_of_ble_eq_true rfl) dX8_pay_106 ⟨Nat.zero_le _, Nat.zero_le _⟩ (fun H locs hR hS => ?_)
            refine lv_aload_n (pc := 109) hx hb dX8_pay_109 rfl (lv_at hl 1 rfl) ?_
            refine lv_iload_n (pc := 110) hx hb dX8_pay_110 rfl (lv_at hl 2 rfl) ?_
            refine lv_iconst (pc := 111) hx hb dX8_pay_111 kc_3 ?_
            refine lv_aload_n (pc := 112) hx hb dX8_pay_112 rfl (lv_at hl 1 rfl) ?_
            refine lv_iload_n (pc := 113) hx hb dX8_pay_113 rfl (lv_at hl 2 rfl) ?_
            refine lv_iconst (pc := 114) hx hb dX8_pay_114 kc_3 ?_
            obtain ⟨r67, m67, c67, h⟩ := xb_inv h
            refine xc_iV (pc := 115) (As := [.int _, .int _]) (rest := [.int _, .int _, .ref _]) ⟨hx, hb, hml, hown, hts⟩ (mX8_of hF _ _ _ k0 c67) (xcwV 2 hts fdX8_of q_m_X8_63 ⟨Nat.le_of_ble_eq_true rfl, Nat.le_of_ble_eq_true rfl⟩) (xRecv hK hR (ci := 12) rfl k0.1) hR hK hE hS rfl hl.1 rfl (Nat.le_of_ble_eq_true rfl) dX8_pay_115 ⟨Nat.zero_le _, Nat.zero_le _⟩ (fun H locs hR hS => ?_)
            refine lv_iload_n (pc := 118) hx hb dX8_pay_118 rfl (lv_at hl 0 rfl) ?_
            refine lv_isub (pc := 119) hx hb dX8_pay_119 ?_
            obtain ⟨m68, c68, h⟩ := xbv_inv h
            refine xc_vV (pc := 120) (As := [.int _, .int _, .int _]) (rest := []) ⟨hx, hb, hml, hown, hts⟩ (mX8_lays hF _ _ _ _ k0 c68) (xcwV 3 hts fdX8_lays q_m_X8_79 ⟨Nat.le_of_ble_eq_true rfl, Nat.le_of_ble_eq_true rfl⟩) (xRecv hK hR (ci := 12) rfl k0.1) hR hK hE hS rfl hl.1 rfl (Nat.le_of_ble_eq_true rfl) dX8_pay_120 ⟨Nat.zero_le _, Nat.zero_le _⟩ (fun H locs hR hS => ?_)
            refine lv_aload_n (pc := 123) hx hb dX8_pay_123 rfl (lv_at hl 1 rfl) ?_
            refine lv_iload_n (pc := 124) hx hb dX8_pay_124 rfl (lv_at hl 2 rfl) ?_
            refine lv_iconst (pc := 125) hx hb dX8_pay_125 kc_2 ?_
            refine lv_aload_n (pc := 126) hx hb dX8_pay_126 rfl (lv_at hl 1 rfl) ?_
            refine lv_iload_n (pc := 127) hx hb dX8_pay_127 rfl (lv_at hl 2 rfl) ?_
            refine lv_iconst (pc := 128) hx hb dX8_pay_128 kc_2 ?_
            obtain ⟨r69, m69, c69, h⟩ := xb_inv h
            refine xc_iV (pc := 129) (As := [.int _, .int _]) (rest := [.int _, .int _, .ref _]) ⟨hx, hb, hml, hown, hts⟩ (mX8_of hF _ _ _ k0 c69) (xcwV 2 hts fdX8_of q_m_X8_63 ⟨Nat.le_of_ble_eq_true rfl, Nat.le_of_ble_eq_true rfl⟩) (xRecv hK hR (ci := 12) rfl k0.1) hR hK hE hS rfl hl.1 rfl (Nat.le_of_ble_eq_true rfl) dX8_pay_129 ⟨Nat.zero_le _, Nat.zero_le _⟩ (fun H locs hR hS => ?_)
            refine lv_iload_n (pc := 132) hx hb dX8_pay_132 rfl (lv_at hl 3 rfl) ?_
            refine lv_iload_n (pc := 133) hx hb dX8_pay_133 rfl (lv_at hl 0 rfl) ?_
            refine lv_isub (pc := 134) hx hb dX8_pay_134 ?_
            refine lv_isub (pc := 135) hx hb dX8_pay_135 ?_
            obtain ⟨m70, c70, h⟩ := xbv_inv h
            refine xc_vV (pc := 136) (As := [.int _, .int _, .int _]) (rest := []) ⟨hx, hb, hml, hown, hts⟩ (mX8_lays hF _ _ _ _ k0 c70) (xcwV 3 hts fdX8_lays q_m_X8_79 ⟨Nat.le_of_ble_eq_true rfl, Nat.le_of_ble_eq_true rfl⟩) (xRecv hK hR (ci := 12) rfl k0.1) hR hK hE hS rfl hl.1 rfl (Nat.le_of_ble_eq_true rfl) dX8_pay_136 ⟨Nat.zero_le _, Nat.zero_le _⟩ (fun H locs hR hS => ?_)
            refine lv_aload_n (pc := 139) hx hb dX8_pay_139 rfl (lv_at hl 1 rfl) ?_
            refine lv_iload_n (pc := 140) hx hb dX8_pay_140 rfl (lv_at hl 2 rfl) ?_
            obtain ⟨r71, m71, c71, h⟩ := xb_inv h
            refine xc_iV (pc := 141) (As := [.int _]) (rest := []) ⟨hx, hb, hml, hown, hts⟩ (mX8_owed hF _ _ k0 c71) (xcwV 1 hts fdX8_owed q_m_X8_87 ⟨Nat.le_of_ble_eq_true rfl, Nat.le_of_ble_eq_true rfl⟩) (xRecv hK hR (ci := 12) rfl k0.1) hR hK hE hS rfl hl.1 rfl (Nat.le_of_ble_eq_true rfl) dX8_pay_141 ⟨Nat.zero_le _, Nat.zero_le _⟩ (fun H locs hR hS => ?_)
            exact xf_i (pc := 144) hx hb hr rfl hlocks h hR hK hS dX8_pay_144
          · have h := xneg c64 h
            refine lv_iload_n (pc := 92) hx hb dX8_pay_92 rfl (lv_at hl 2 rfl) ?_
            refine lv_goto (pc := 93) (tgt := 102) hx hb dX8_pay_93 (by decide) ?_
            refine lv_istore_n (pc := 102) (lv' := [(3, .int _), (0, .ref _), (1, .int _), (2, .int _)]) hx hb dX8_pay_102 rfl hl (Nat.le_of_ble_eq_true rfl) rfl (fun ls hl => ?_)
            refine lv_aload_n (pc := 103) hx hb dX8_pay_103 rfl (lv_at hl 1 rfl) ?_
            refine lv_iload_n (pc := 104) hx hb dX8_pay_104 rfl (lv_at hl 2 rfl) ?_
            refine lv_iload_n (pc := 105) hx hb dX8_pay_105 rfl (lv_at hl 3 rfl) ?_
            obtain ⟨m72, c72, h⟩ := xbv_inv h
            refine xc_vV (pc := 106) (As := [.int _, .int _]) (rest := []) ⟨hx, hb, hml, hown, hts⟩ (mX8_comes hF _ _ _ k0 c72) (xcwV 2 hts fdX8_comes q_m_X8_97 ⟨Nat.le_of_ble_eq_true rfl, Nat.le_of_ble_eq_true rfl⟩) (xRecv hK hR (ci := 12) rfl k0.1) hR hK hE hS rfl hl.1 rfl (Nat.le_of_ble_eq_true rfl) dX8_pay_106 ⟨Nat.zero_le _, Nat.zero_le _⟩ (fun H locs hR hS => ?_)
            refine lv_aload_n (pc := 109) hx hb dX8_pay_109 rfl (lv_at hl 1 rfl) ?_
            refine lv_iload_n (pc := 110) hx hb dX8_pay_110 rfl (lv_at hl 2 rfl) ?_
            refine lv_iconst (pc := 111) hx hb dX8_pay_111 kc_3 ?_
            refine lv_aload_n (pc := 112) hx hb dX8_pay_112 rfl (lv_at hl 1 rfl) ?_
            refine lv_iload_n (pc := 113) hx hb dX8_pay_113 rfl (lv_at hl 2 rfl) ?_
            refine lv_iconst (pc := 114) hx hb dX8_pay_114 kc_3 ?_
            obtain ⟨r73, m73, c73, h⟩ := xb_inv h
            refine xc_iV (pc := 115) (As := [.int _, .int _]) (rest := [.int _, .int _, .ref _]) ⟨hx, hb, hml, hown, hts⟩ (mX8_of hF _ _ _ k0 c73) (xcwV 2 hts fdX8_of q_m_X8_63 ⟨Nat.le_of_ble_eq_true rfl, Nat.le_of_ble_eq_true rfl⟩) (xRecv hK hR (ci := 12) rfl k0.1) hR hK hE hS rfl hl.1 rfl (Nat.le_of_ble_eq_true rfl) dX8_pay_115 ⟨Nat.zero_le _, Nat.zero_le _⟩ (fun H locs hR hS => ?_)
            refine lv_iload_n (pc := 118) hx hb dX8_pay_118 rfl (lv_at hl 0 rfl) ?_
            refine lv_isub (pc := 119) hx hb dX8_pay_119 ?_
            obtain ⟨m74, c74, h⟩ := xbv_inv h
            refine xc_vV (pc := 120) (As := [.int _, .int _, .int _]) (rest := []) ⟨hx, hb, hml, hown, hts⟩ (mX8_lays hF _ _ _ _ k0 c74) (xcwV 3 hts fdX8_lays q_m_X8_79 ⟨Nat.le_of_ble_eq_true rfl, Nat.le_of_ble_eq_true rfl⟩) (xRecv hK hR (ci := 12) rfl k0.1) hR hK hE hS rfl hl.1 rfl (Nat.le_of_ble_eq_true rfl) dX8_pay_120 ⟨Nat.zero_le _, Nat.zero_le _⟩ (fun H locs hR hS => ?_)
            refine lv_aload_n (pc := 123) hx hb dX8_pay_123 rfl (lv_at hl 1 rfl) ?_
            refine lv_iload_n (pc := 124) hx hb dX8_pay_124 rfl (lv_at hl 2 rfl) ?_
            refine lv_iconst (pc := 125) hx hb dX8_pay_125 kc_2 ?_
            refine lv_aload_n (pc := 126) hx hb dX8_pay_126 rfl (lv_at hl 1 rfl) ?_
            refine lv_iload_n (pc := 127) hx hb dX8_pay_127 rfl (lv_at hl 2 rfl) ?_
            refine lv_iconst (pc := 128) hx hb dX8_pay_128 kc_2 ?_
            obtain ⟨r75, m75, c75, h⟩ := xb_inv h
            refine xc_iV (pc := 129) (As := [.int _, .int _]) (rest := [.int _, .int _, .ref _]) ⟨hx, hb, hml, hown, hts⟩ (mX8_of hF _ _ _ k0 c75) (xcwV 2 hts fdX8_of q_m_X8_63 ⟨Nat.le_of_ble_eq_true rfl, Nat.le_of_ble_eq_true rfl⟩) (xRecv hK hR (ci := 12) rfl k0.1) hR hK hE hS rfl hl.1 rfl (Nat.le_of_ble_eq_true rfl) dX8_pay_129 ⟨Nat.zero_le _, Nat.zero_le _⟩ (fun H locs hR hS => ?_)
            refine lv_iload_n (pc := 132) hx hb dX8_pay_132 rfl (lv_at hl 3 rfl) ?_
            refine lv_iload_n (pc := 133) hx hb dX8_pay_133 rfl (lv_at hl 0 rfl) ?_
            refine lv_isub (pc := 134) hx hb dX8_pay_134 ?_
            refine lv_isub (pc := 135) hx hb dX8_pay_135 ?_
            obtain ⟨m76, c76, h⟩ := xbv_inv h
            refine xc_vV (pc := 136) (As := [.int _, .int _, .int _]) (rest := []) ⟨hx, hb, hml, hown, hts⟩ (mX8_lays hF _ _ _ _ k0 c76) (xcwV 3 hts fdX8_lays q_m_X8_79 ⟨Nat.le_of_ble_eq_true rfl, Nat.le_of_ble_eq_true rfl⟩) (xRecv hK hR (ci := 12) rfl k0.1) hR hK hE hS rfl hl.1 rfl (Nat.le_of_ble_eq_true rfl) dX8_pay_136 ⟨Nat.zero_le _, Nat.zero_le _⟩ (fun H locs hR hS => ?_)
            refine lv_aload_n (pc := 139) hx hb dX8_pay_139 rfl (lv_at hl 1 rfl) ?_
            refine lv_iload_n (pc := 140) hx hb dX8_pay_140 rfl (lv_at hl 2 rfl) ?_
            obtain ⟨r77, m77, c77, h⟩ := xb_inv h
            refine xc_iV (pc := 141) (As := [.int _]) (rest := []) ⟨hx, hb, hml, hown, hts⟩ (mX8_owed hF _ _ k0 c77) (xcwV 1 hts fdX8_owed q_m_X8_87 ⟨Nat.le_of_ble_eq_true rfl, Nat.le_of_ble_eq_true rfl⟩) (xRecv hK hR (ci := 12) rfl k0.1) hR hK hE hS rfl hl.1 rfl (Nat.le_of_ble_eq_true rfl) dX8_pay_141 ⟨Nat.zero_le _, Nat.zero_le _⟩ (fun H locs hR hS => ?_)
            exact xf_i (pc := 144) hx hb hr rfl hlocks h hR hK hS dX8_pay_144
        · have h := xneg c61 h
          refine lv_aload_n (pc := 62) hx hb dX8_pay_62 rfl (lv_at hl 0 rfl) ?_
          refine lv_iconst (pc := 63) hx hb dX8_pay_63 kc_3 ?_
          refine lv_iconst (pc := 64) hx hb dX8_pay_64 kc_5 ?_
          refine lv_aload_n (pc := 65) hx hb dX8_pay_65 rfl (lv_at hl 0 rfl) ?_
          refine lv_iload_n (pc := 66) hx hb dX8_pay_66 rfl (lv_at hl 1 rfl) ?_
          obtain ⟨r78, m78, c78, h⟩ := xb_inv h
          refine xc_iV (pc := 67) (As := [.int _]) (rest := [.int _, .int _, .ref _]) ⟨hx, hb, hml, hown, hts⟩ (mX8_owed hF _ _ k0 c78) (xcwV 1 hts fdX8_owed q_m_X8_87 ⟨Nat.le_of_ble_eq_true rfl, Nat.le_of_ble_eq_true rfl⟩) (xRecv hK hR (ci := 12) rfl k0.1) hR hK hE hS rfl hl.1 rfl (Nat.le_of_ble_eq_true rfl) dX8_pay_67 ⟨Nat.zero_le _, Nat.zero_le _⟩ (fun H locs hR hS => ?_)
          obtain ⟨r79, m79, c79, h⟩ := xb_inv h
          refine xc_iV (pc := 70) (As := [.int _, .int _, .int _]) (rest := []) ⟨hx, hb, hml, hown, hts⟩ (mX8_refuses hF _ _ _ _ k0 c79) (xcwV 3 hts fdX8_refuses q_m_X8_71 ⟨Nat.le_of_ble_eq_true rfl, Nat.le_of_ble_eq_true rfl⟩) (xRecv hK hR (ci := 12) rfl k0.1) hR hK hE hS rfl hl.1 rfl (Nat.le_of_ble_eq_true rfl) dX8_pay_70 ⟨Nat.zero_le _, Nat.zero_le _⟩ (fun H locs hR hS => ?_)
          exact xf_i (pc := 73) hx hb hr rfl hlocks h hR hK hS dX8_pay_73
      · have h := xneg c59 h
        refine lv_aload_n (pc := 40) hx hb dX8_pay_40 rfl (lv_at hl 0 rfl) ?_
        refine lv_iconst (pc := 41) hx hb dX8_pay_41 kc_3 ?_
        refine lv_iconst (pc := 42) hx hb dX8_pay_42 kc_4 ?_
        refine lv_aload_n (pc := 43) hx hb dX8_pay_43 rfl (lv_at hl 0 rfl) ?_
        refine lv_iload_n (pc := 44) hx hb dX8_pay_44 rfl (lv_at hl 1 rfl) ?_
        refine lv_iconst (pc := 45) hx hb dX8_pay_45 kc_4 ?_
        obtain ⟨r80, m80, c80, h⟩ := xb_inv h
        refine xc_iV (pc := 46) (As := [.int _, .int _]) (rest := [.int _, .int _, .ref _]) ⟨hx, hb, hml, hown, hts⟩ (mX8_of hF _ _ _ k0 c80) (xcwV 2 hts fdX8_of q_m_X8_63 ⟨Nat.le_of_ble_eq_true rfl, Nat.le_of_ble_eq_true rfl⟩) (xRecv hK hR (ci := 12) rfl k0.1) hR hK hE hS rfl hl.1 rfl (Nat.le_of_ble_eq_true rfl) dX8_pay_46 ⟨Nat.zero_le _, Nat.zero_le _⟩ (fun H locs hR hS => ?_)
        obtain ⟨r81, m81, c81, h⟩ := xb_inv h
        refine xc_iV (pc := 49) (As := [.int _, .int _, .int _]) (rest := []) ⟨hx, hb, hml, hown, hts⟩ (mX8_refuses hF _ _ _ _ k0 c81) (xcwV 3 hts fdX8_refuses q_m_X8_71 ⟨Nat.le_of_ble_eq_true rfl, Nat.le_of_ble_eq_true rfl⟩) (xRecv hK hR (ci := 12) rfl k0.1) hR hK hE hS rfl hl.1 rfl (Nat.le_of_ble_eq_true rfl) dX8_pay_49 ⟨Nat.zero_le _, Nat.zero_le _⟩ (fun H locs hR hS => ?_)
        exact xf_i (pc := 52) hx hb hr rfl hlocks h hR hK hS dX8_pay_52
    · have h := xneg c57 h
      refine lv_iconst (pc := 29) hx hb dX8_pay_29 kc_0 ?_
      exact xf_i (pc := 30) hx hb hr rfl hlocks h hR hK hS dX8_pay_30
set_option maxHeartbeats 1000000 in
set_option maxRecDepth 20000 in
theorem mX8_renew {l : Launch} {D : va_G} {ca : Nat → ClassId} {z : Nat} {G : xG} {X : va_W} {ad av : Nat → Nat} (hF : xFix z G X) (h0 : Nat) (p1 : Int32) (k0 : xI_Model G h0) {μ μ1 : xM} {r : Int32} (h : fX8_renew h0 p1 μ = some (r, μ1)) : xMi l yX8_renew (xws yX8_renew cX8_renew 3 (some .int)) 2 D ca z G X ad av [.ref h0, .int p1] μ r μ1 := by
  refine xm_i (by decide) rfl (Nat.le_of_ble_eq_true rfl) [(0, .ref h0), (1, .int p1)] rfl ?_
  intro p e s m args below meth c ls hx hb hr hml hlocks hts hown hK hE hR hS hl
  have hts : ∀ w ∈ xAll, w.before args s = true := fun w hw => hts w (List.mem_cons_of_mem _ hw)
  rw [fX8_renew] at h
  refine lv_aload_n (pc := 0) hx hb dX8_renew_0 rfl (lv_at hl 0 rfl) ?_
  refine lv_aload_n (pc := 1) hx hb dX8_renew_1 rfl (lv_at hl 0 rfl) ?_
  refine lv_iload_n (pc := 2) hx hb dX8_renew_2 rfl (lv_at hl 1 rfl) ?_
  obtain ⟨r1, m1, c1, h⟩ := xb_inv h
  refine xc_iV (pc := 3) (As := [.int _]) (rest := [.ref _]) ⟨hx, hb, hml, hown, hts⟩ (mX8_isTicket hF _ _ k0 c1) (xcwV 1 hts fdX8_isTicket q_m_X8_94 ⟨Nat.le_of_ble_eq_true rfl, Nat.le_of_ble_eq_true rfl⟩) (xRecv hK hR (ci := 12) rfl k0.1) hR hK hE hS rfl hl.1 rfl (Nat.le_of_ble_eq_true rfl) dX8_renew_3 ⟨Nat.zero_le _, Nat.zero_le _⟩ (fun H locs hR hS => ?_)
  refine lv_if_eq (pc := 6) (tgt := 13) hx hb dX8_renew_6 (by decide) (fun c2 => ?_) (fun c2 => ?_)
  · have h := xpos c2 h
    refine lv_iconst (pc := 13) hx hb dX8_renew_13 kc_1 ?_
    obtain ⟨r3, m3, c3, h⟩ := xb_inv h
    refine xc_iV (pc := 14) (As := [.int _]) (rest := []) ⟨hx, hb, hml, hown, hts⟩ (mX8_fails hF _ _ k0 c3) (xcwV 1 hts fdX8_fails q_m_X8_67 ⟨Nat.le_of_ble_eq_true rfl, Nat.le_of_ble_eq_true rfl⟩) (xRecv hK hR (ci := 12) rfl k0.1) hR hK hE hS rfl hl.1 rfl (Nat.le_of_ble_eq_true rfl) dX8_renew_14 ⟨Nat.zero_le _, Nat.zero_le _⟩ (fun H locs hR hS => ?_)
    refine lv_if_eq (pc := 17) (tgt := 22) hx hb dX8_renew_17 (by decide) (fun c4 => ?_) (fun c4 => ?_)
    · have h := xpos c4 h
      refine lv_aload_n (pc := 22) hx hb dX8_renew_22 rfl (lv_at hl 0 rfl) ?_
      refine lv_iload_n (pc := 23) hx hb dX8_renew_23 rfl (lv_at hl 1 rfl) ?_
      refine lv_iconst (pc := 24) hx hb dX8_renew_24 kc_4 ?_
      obtain ⟨r5, m5, c5, h⟩ := xb_inv h
      refine xc_iV (pc := 25) (As := [.int _, .int _]) (rest := []) ⟨hx, hb, hml, hown, hts⟩ (mX8_of hF _ _ _ k0 c5) (xcwV 2 hts fdX8_of q_m_X8_63 ⟨Nat.le_of_ble_eq_true rfl, Nat.le_of_ble_eq_true rfl⟩) (xRecv hK hR (ci := 12) rfl k0.1) hR hK hE hS rfl hl.1 rfl (Nat.le_of_ble_eq_true rfl) dX8_renew_25 ⟨Nat.zero_le _, Nat.zero_le _⟩ (fun H locs hR hS => ?_)
      refine lv_if_eq (pc := 28) (tgt := 44) hx hb dX8_renew_28 (by decide) (fun c6 => ?_) (fun c6 => ?_)
      · have h := xpos c6 h
        refine lv_aload_n (pc := 44) hx hb dX8_renew_44 rfl (lv_at hl 0 rfl) ?_
        refine lv_iload_n (pc := 45) hx hb dX8_renew_45 rfl (lv_at hl 1 rfl) ?_
        refine lv_iconst (pc := 46) hx hb dX8_renew_46 kc_3 ?_
        obtain ⟨r7, m7, c7, h⟩ := xb_inv h
        refine xc_iV (pc := 47) (As := [.int _, .int _]) (rest := []) ⟨hx, hb, hml, hown, hts⟩ (mX8_of hF _ _ _ k0 c7) (xcwV 2 hts fdX8_of q_m_X8_63 ⟨Nat.le_of_ble_eq_true rfl, Nat.le_of_ble_eq_true rfl⟩) (xRecv hK hR (ci := 12) rfl k0.1) hR hK hE hS rfl hl.1 rfl (Nat.le_of_ble_eq_true rfl) dX8_renew_47 ⟨Nat.zero_le _, Nat.zero_le _⟩ (fun H locs hR hS => ?_)
        refine lv_if_ne (pc := 50) (tgt := 67) hx hb dX8_renew_50 (by decide) (fun c8 => ?_) (fun c8 => ?_)
        · have h := xneg c8 h
          refine lv_aload_n (pc := 67) hx hb dX8_renew_67 rfl (lv_at hl 0 rfl) ?_
          refine lv_aload_n (pc := 68) hx hb dX8_renew_68 rfl (lv_at hl 0 rfl) ?_
          refine xr_getR (pc := 69) (ci := 12) hx hb hts inX8 hown hK hR rfl k0.1 0 (Nat.le_of_ble_eq_true rfl) rfl k0.2.1.1 (hts _ q_f_X8_7) (fun _ h9 => h9) dX8_renew_69 ?_
          obtain ⟨m9, c9, h⟩ := xbv_inv h
          refine xc_vV (pc := 72) (As := [.ref _]) (rest := []) ⟨hx, hb, hml, hown, hts⟩ (mX8_keeps hF _ _ k0 k0.2.1.2 c9) (xcwV 1 hts fdX8_keeps q_m_X8_75 ⟨Nat.le_of_ble_eq_true rfl, Nat.le_of_ble_eq_true rfl⟩) (xRecv hK hR (ci := 12) rfl k0.1) hR hK hE hS rfl hl.1 rfl (Nat.le_of_ble_eq_true rfl) dX8_renew_72 ⟨Nat.zero_le _, Nat.zero_le _⟩ (fun H locs hR hS => ?_)
          refine lv_aload_n (pc := 75) hx hb dX8_renew_75 rfl (lv_at hl 0 rfl) ?_
          refine lv_iload_n (pc := 76) hx hb dX8_renew_76 rfl (lv_at hl 1 rfl) ?_
          refine lv_iconst (pc := 77) hx hb dX8_renew_77 kc_3 ?_
          obtain ⟨r10, m10, c10, h⟩ := xb_inv h
          refine xc_iV (pc := 78) (As := [.int _, .int _]) (rest := []) ⟨hx, hb, hml, hown, hts⟩ (mX8_of hF _ _ _ k0 c10) (xcwV 2 hts fdX8_of q_m_X8_63 ⟨Nat.le_of_ble_eq_true rfl, Nat.le_of_ble_eq_true rfl⟩) (xRecv hK hR (ci := 12) rfl k0.1) hR hK hE hS rfl hl.1 rfl (Nat.le_of_ble_eq_true rfl) dX8_renew_78 ⟨Nat.zero_le _, Nat.zero_le _⟩ (fun H locs hR hS => ?_)
          refine lv_istore_n (pc := 81) (lv' := [(2, .int _), (0, .ref _), (1, .int _)]) hx hb dX8_renew_81 rfl hl (Nat.le_of_ble_eq_true rfl) rfl (fun ls hl => ?_)
          refine lv_aload_n (pc := 82) hx hb dX8_renew_82 rfl (lv_at hl 1 rfl) ?_
          refine lv_iload_n (pc := 83) hx hb dX8_renew_83 rfl (lv_at hl 2 rfl) ?_
          refine lv_iload_n (pc := 84) hx hb dX8_renew_84 rfl (lv_at hl 0 rfl) ?_
          obtain ⟨m11, c11, h⟩ := xbv_inv h
          refine xc_vV (pc := 85) (As := [.int _, .int _]) (rest := []) ⟨hx, hb, hml, hown, hts⟩ (mX8_comes hF _ _ _ k0 c11) (xcwV 2 hts fdX8_comes q_m_X8_97 ⟨Nat.le_of_ble_eq_true rfl, Nat.le_of_ble_eq_true rfl⟩) (xRecv hK hR (ci := 12) rfl k0.1) hR hK hE hS rfl hl.1 rfl (Nat.le_of_ble_eq_true rfl) dX8_renew_85 ⟨Nat.zero_le _, Nat.zero_le _⟩ (fun H locs hR hS => ?_)
          refine lv_aload_n (pc := 88) hx hb dX8_renew_88 rfl (lv_at hl 1 rfl) ?_
          refine lv_iload_n (pc := 89) hx hb dX8_renew_89 rfl (lv_at hl 2 rfl) ?_
          refine lv_iconst (pc := 90) hx hb dX8_renew_90 kc_3 ?_
          refine lv_iconst (pc := 91) hx hb dX8_renew_91 kc_0 ?_
          obtain ⟨m12, c12, h⟩ := xbv_inv h
          refine xc_vV (pc := 92) (As := [.int _, .int _, .int _]) (rest := []) ⟨hx, hb, hml, hown, hts⟩ (mX8_lays hF _ _ _ _ k0 c12) (xcwV 3 hts fdX8_lays q_m_X8_79 ⟨Nat.le_of_ble_eq_true rfl, Nat.le_of_ble_eq_true rfl⟩) (xRecv hK hR (ci := 12) rfl k0.1) hR hK hE hS rfl hl.1 rfl (Nat.le_of_ble_eq_true rfl) dX8_renew_92 ⟨Nat.zero_le _, Nat.zero_le _⟩ (fun H locs hR hS => ?_)
          refine lv_aload_n (pc := 95) hx hb dX8_renew_95 rfl (lv_at hl 1 rfl) ?_
          refine lv_iload_n (pc := 96) hx hb dX8_renew_96 rfl (lv_at hl 2 rfl) ?_
          refine lv_iconst (pc := 97) hx hb dX8_renew_97 kc_5 ?_
          refine lv_aload_n (pc := 98) hx hb dX8_renew_98 rfl (lv_at hl 1 rfl) ?_
          refine xr_getR (pc := 99) (ci := 12) hx hb hts inX8 hown hK hR rfl k0.1 0 (Nat.le_of_ble_eq_true rfl) rfl k0.2.1.1 (hts _ q_f_X8_7) (fun _ h9 => h9) dX8_renew_99 ?_
          refine lv_iconst (pc := 102) hx hb dX8_renew_102 kc_0 ?_
          refine xr_ialdk (pc := 103) 0 hx hb hK hR k0.2.1.2.1 k0.2.1.2.2 tn_0 (vl_0 (by decide)) dX8_renew_103 ?_
          obtain ⟨m13, c13, h⟩ := xbv_inv h
          refine xc_vV (pc := 104) (As := [.int _, .int _, .int _]) (rest := []) ⟨hx, hb, hml, hown, hts⟩ (mX8_lays hF _ _ _ _ k0 c13) (xcwV 3 hts fdX8_lays q_m_X8_79 ⟨Nat.le_of_ble_eq_true rfl, Nat.le_of_ble_eq_true rfl⟩) (xRecv hK hR (ci := 12) rfl k0.1) hR hK hE hS rfl hl.1 rfl (Nat.le_of_ble_eq_true rfl) dX8_renew_104 ⟨Nat.zero_le _, Nat.zero_le _⟩ (fun H locs hR hS => ?_)
          refine lv_iload_n (pc := 107) hx hb dX8_renew_107 rfl (lv_at hl 0 rfl) ?_
          exact xf_i (pc := 108) hx hb hr rfl hlocks h hR hK hS dX8_renew_108
        · have h := xpos c8 h
          refine lv_aload_n (pc := 53) hx hb dX8_renew_53 rfl (lv_at hl 0 rfl) ?_
          refine lv_iconst (pc := 54) hx hb dX8_renew_54 kc_2 ?_
          refine lv_bipush (pc := 55) hx hb dX8_renew_55 kb_6 ?_
          refine lv_aload_n (pc := 57) hx hb dX8_renew_57 rfl (lv_at hl 0 rfl) ?_
          refine lv_iload_n (pc := 58) hx hb dX8_renew_58 rfl (lv_at hl 1 rfl) ?_
          refine lv_iconst (pc := 59) hx hb dX8_renew_59 kc_2 ?_
          obtain ⟨r14, m14, c14, h⟩ := xb_inv h
          refine xc_iV (pc := 60) (As := [.int _, .int _]) (rest := [.int _, .int _, .ref _]) ⟨hx, hb, hml, hown, hts⟩ (mX8_of hF _ _ _ k0 c14) (xcwV 2 hts fdX8_of q_m_X8_63 ⟨Nat.le_of_ble_eq_true rfl, Nat.le_of_ble_eq_true rfl⟩) (xRecv hK hR (ci := 12) rfl k0.1) hR hK hE hS rfl hl.1 rfl (Nat.le_of_ble_eq_true rfl) dX8_renew_60 ⟨Nat.zero_le _, Nat.zero_le _⟩ (fun H locs hR hS => ?_)
          obtain ⟨r15, m15, c15, h⟩ := xb_inv h
          refine xc_iV (pc := 63) (As := [.int _, .int _, .int _]) (rest := []) ⟨hx, hb, hml, hown, hts⟩ (mX8_refuses hF _ _ _ _ k0 c15) (xcwV 3 hts fdX8_refuses q_m_X8_71 ⟨Nat.le_of_ble_eq_true rfl, Nat.le_of_ble_eq_true rfl⟩) (xRecv hK hR (ci := 12) rfl k0.1) hR hK hE hS rfl hl.1 rfl (Nat.le_of_ble_eq_true rfl) dX8_renew_63 ⟨Nat.zero_le _, Nat.zero_le _⟩ (fun H locs hR hS => ?_)
          exact xf_i (pc := 66) hx hb hr rfl hlocks h hR hK hS dX8_renew_66
      · have h := xneg c6 h
        refine lv_aload_n (pc := 31) hx hb dX8_renew_31 rfl (lv_at hl 0 rfl) ?_
        refine lv_iconst (pc := 32) hx hb dX8_renew_32 kc_2 ?_
        refine lv_iconst (pc := 33) hx hb dX8_renew_33 kc_4 ?_
        refine lv_aload_n (pc := 34) hx hb dX8_renew_34 rfl (lv_at hl 0 rfl) ?_
        refine lv_iload_n (pc := 35) hx hb dX8_renew_35 rfl (lv_at hl 1 rfl) ?_
        refine lv_iconst (pc := 36) hx hb dX8_renew_36 kc_4 ?_
        obtain ⟨r16, m16, c16, h⟩ := xb_inv h
        refine xc_iV (pc := 37) (As := [.int _, .int _]) (rest := [.int _, .int _, .ref _]) ⟨hx, hb, hml, hown, hts⟩ (mX8_of hF _ _ _ k0 c16) (xcwV 2 hts fdX8_of q_m_X8_63 ⟨Nat.le_of_ble_eq_true rfl, Nat.le_of_ble_eq_true rfl⟩) (xRecv hK hR (ci := 12) rfl k0.1) hR hK hE hS rfl hl.1 rfl (Nat.le_of_ble_eq_true rfl) dX8_renew_37 ⟨Nat.zero_le _, Nat.zero_le _⟩ (fun H locs hR hS => ?_)
        obtain ⟨r17, m17, c17, h⟩ := xb_inv h
        refine xc_iV (pc := 40) (As := [.int _, .int _, .int _]) (rest := []) ⟨hx, hb, hml, hown, hts⟩ (mX8_refuses hF _ _ _ _ k0 c17) (xcwV 3 hts fdX8_refuses q_m_X8_71 ⟨Nat.le_of_ble_eq_true rfl, Nat.le_of_ble_eq_true rfl⟩) (xRecv hK hR (ci := 12) rfl k0.1) hR hK hE hS rfl hl.1 rfl (Nat.le_of_ble_eq_true rfl) dX8_renew_40 ⟨Nat.zero_le _, Nat.zero_le _⟩ (fun H locs hR hS => ?_)
        exact xf_i (pc := 43) hx hb hr rfl hlocks h hR hK hS dX8_renew_43
    · have h := xneg c4 h
      refine lv_iconst (pc := 20) hx hb dX8_renew_20 kc_0 ?_
      exact xf_i (pc := 21) hx hb hr rfl hlocks h hR hK hS dX8_renew_21
  · have h := xneg c2 h
    refine lv_iconst (pc := 9) hx hb dX8_renew_9 kc_0 ?_
    refine lv_goto (pc := 10) (tgt := 14) hx hb dX8_renew_10 (by decide) ?_
    obtain ⟨r18, m18, c18, h⟩ := xb_inv h
    refine xc_iV (pc := 14) (As := [.int _]) (rest := []) ⟨hx, hb, hml, hown, hts⟩ (mX8_fails hF _ _ k0 c18) (xcwV 1 hts fdX8_fails q_m_X8_67 ⟨Nat.le_of_ble_eq_true rfl, Nat.le_of_ble_eq_true rfl⟩) (xRecv hK hR (ci := 12) rfl k0.1) hR hK hE hS rfl hl.1 rfl (Nat.le_of_ble_eq_true rfl) dX8_renew_14 ⟨Nat.zero_le _, Nat.zero_le _⟩ (fun H locs hR hS => ?_)
    refine lv_if_eq (pc := 17) (tgt := 22) hx hb dX8_renew_17 (by decide) (fun c19 => ?_) (fun c19 => ?_)
    · have h := xpos c19 h
      refine lv_aload_n (pc := 22) hx hb dX8_renew_22 rfl (lv_at hl 0 rfl) ?_
      refine lv_iload_n (pc := 23) hx hb dX8_renew_23 rfl (lv_at hl 1 rfl) ?_
      refine lv_iconst (pc := 24) hx hb dX8_renew_24 kc_4 ?_
      obtain ⟨r20, m20, c20, h⟩ := xb_inv h
      refine xc_iV (pc := 25) (As := [.int _, .int _]) (rest := []) ⟨hx, hb, hml, hown, hts⟩ (mX8_of hF _ _ _ k0 c20) (xcwV 2 hts fdX8_of q_m_X8_63 ⟨Nat.le_of_ble_eq_true rfl, Nat.le_of_ble_eq_true rfl⟩) (xRecv hK hR (ci := 12) rfl k0.1) hR hK hE hS rfl hl.1 rfl (Nat.le_of_ble_eq_true rfl) dX8_renew_25 ⟨Nat.zero_le _, Nat.zero_le _⟩ (fun H locs hR hS => ?_)
      refine lv_if_eq (pc := 28) (tgt := 44) hx hb dX8_renew_28 (by decide) (fun c21 => ?_) (fun c21 => ?_)
      · have h := xpos c21 h
        refine lv_aload_n (pc := 44) hx hb dX8_renew_44 rfl (lv_at hl 0 rfl) ?_
        refine lv_iload_n (pc := 45) hx hb dX8_renew_45 rfl (lv_at hl 1 rfl) ?_
        refine lv_iconst (pc := 46) hx hb dX8_renew_46 kc_3 ?_
        obtain ⟨r22, m22, c22, h⟩ := xb_inv h
        refine xc_iV (pc := 47) (As := [.int _, .int _]) (rest := []) ⟨hx, hb, hml, hown, hts⟩ (mX8_of hF _ _ _ k0 c22) (xcwV 2 hts fdX8_of q_m_X8_63 ⟨Nat.le_of_ble_eq_true rfl, Nat.le_of_ble_eq_true rfl⟩) (xRecv hK hR (ci := 12) rfl k0.1) hR hK hE hS rfl hl.1 rfl (Nat.le_of_ble_eq_true rfl) dX8_renew_47 ⟨Nat.zero_le _, Nat.zero_le _⟩ (fun H locs hR hS => ?_)
        refine lv_if_ne (pc := 50) (tgt := 67) hx hb dX8_renew_50 (by decide) (fun c23 => ?_) (fun c23 => ?_)
        · have h := xneg c23 h
          refine lv_aload_n (pc := 67) hx hb dX8_renew_67 rfl (lv_at hl 0 rfl) ?_
          refine lv_aload_n (pc := 68) hx hb dX8_renew_68 rfl (lv_at hl 0 rfl) ?_
          refine xr_getR (pc := 69) (ci := 12) hx hb hts inX8 hown hK hR rfl k0.1 0 (Nat.le_of_ble_eq_true rfl) rfl k0.2.1.1 (hts _ q_f_X8_7) (fun _ h9 => h9) dX8_renew_69 ?_
          obtain ⟨m24, c24, h⟩ := xbv_inv h
          refine xc_vV (pc := 72) (As := [.ref _]) (rest := []) ⟨hx, hb, hml, hown, hts⟩ (mX8_keeps hF _ _ k0 k0.2.1.2 c24) (xcwV 1 hts fdX8_keeps q_m_X8_75 ⟨Nat.le_of_ble_eq_true rfl, Nat.le_of_ble_eq_true rfl⟩) (xRecv hK hR (ci := 12) rfl k0.1) hR hK hE hS rfl hl.1 rfl (Nat.le_of_ble_eq_true rfl) dX8_renew_72 ⟨Nat.zero_le _, Nat.zero_le _⟩ (fun H locs hR hS => ?_)
          refine lv_aload_n (pc := 75) hx hb dX8_renew_75 rfl (lv_at hl 0 rfl) ?_
          refine lv_iload_n (pc := 76) hx hb dX8_renew_76 rfl (lv_at hl 1 rfl) ?_
          refine lv_iconst (pc := 77) hx hb dX8_renew_77 kc_3 ?_
          obtain ⟨r25, m25, c25, h⟩ := xb_inv h
          refine xc_iV (pc := 78) (As := [.int _, .int _]) (rest := []) ⟨hx, hb, hml, hown, hts⟩ (mX8_of hF _ _ _ k0 c25) (xcwV 2 hts fdX8_of q_m_X8_63 ⟨Nat.le_of_ble_eq_true rfl, Nat.le_of_ble_eq_true rfl⟩) (xRecv hK hR (ci := 12) rfl k0.1) hR hK hE hS rfl hl.1 rfl (Nat.le_of_ble_eq_true rfl) dX8_renew_78 ⟨Nat.zero_le _, Nat.zero_le _⟩ (fun H locs hR hS => ?_)
          refine lv_istore_n (pc := 81) (lv' := [(2, .int _), (0, .ref _), (1, .int _)]) hx hb dX8_renew_81 rfl hl (Nat.le_of_ble_eq_true rfl) rfl (fun ls hl => ?_)
          refine lv_aload_n (pc := 82) hx hb dX8_renew_82 rfl (lv_at hl 1 rfl) ?_
          refine lv_iload_n (pc := 83) hx hb dX8_renew_83 rfl (lv_at hl 2 rfl) ?_
          refine lv_iload_n (pc := 84) hx hb dX8_renew_84 rfl (lv_at hl 0 rfl) ?_
          obtain ⟨m26, c26, h⟩ := xbv_inv h
          refine xc_vV (pc := 85) (As := [.int _, .int _]) (rest := []) ⟨hx, hb, hml, hown, hts⟩ (mX8_comes hF _ _ _ k0 c26) (xcwV 2 hts fdX8_comes q_m_X8_97 ⟨Nat.le_of_ble_eq_true rfl, Nat.le_of_ble_eq_true rfl⟩) (xRecv hK hR (ci := 12) rfl k0.1) hR hK hE hS rfl hl.1 rfl (Nat.le_of_ble_eq_true rfl) dX8_renew_85 ⟨Nat.zero_le _, Nat.zero_le _⟩ (fun H locs hR hS => ?_)
          refine lv_aload_n (pc := 88) hx hb dX8_renew_88 rfl (lv_at hl 1 rfl) ?_
          refine lv_iload_n (pc := 89) hx hb dX8_renew_89 rfl (lv_at hl 2 rfl) ?_
          refine lv_iconst (pc := 90) hx hb dX8_renew_90 kc_3 ?_
          refine lv_iconst (pc := 91) hx hb dX8_renew_91 kc_0 ?_
          obtain ⟨m27, c27, h⟩ := xbv_inv h
          refine xc_vV (pc := 92) (As := [.int _, .int _, .int _]) (rest := []) ⟨hx, hb, hml, hown, hts⟩ (mX8_lays hF _ _ _ _ k0 c27) (xcwV 3 hts fdX8_lays q_m_X8_79 ⟨Nat.le_of_ble_eq_true rfl, Nat.le_of_ble_eq_true rfl⟩) (xRecv hK hR (ci := 12) rfl k0.1) hR hK hE hS rfl hl.1 rfl (Nat.le_of_ble_eq_true rfl) dX8_renew_92 ⟨Nat.zero_le _, Nat.zero_le _⟩ (fun H locs hR hS => ?_)
          refine lv_aload_n (pc := 95) hx hb dX8_renew_95 rfl (lv_at hl 1 rfl) ?_
          refine lv_iload_n (pc := 96) hx hb dX8_renew_96 rfl (lv_at hl 2 rfl) ?_
          refine lv_iconst (pc := 97) hx hb dX8_renew_97 kc_5 ?_
          refine lv_aload_n (pc := 98) hx hb dX8_renew_98 rfl (lv_at hl 1 rfl) ?_
          refine xr_getR (pc := 99) (ci := 12) hx hb hts inX8 hown hK hR rfl k0.1 0 (Nat.le_of_ble_eq_true rfl) rfl k0.2.1.1 (hts _ q_f_X8_7) (fun _ h9 => h9) dX8_renew_99 ?_
          refine lv_iconst (pc := 102) hx hb dX8_renew_102 kc_0 ?_
          refine xr_ialdk (pc := 103) 0 hx hb hK hR k0.2.1.2.1 k0.2.1.2.2 tn_0 (vl_0 (by decide)) dX8_renew_103 ?_
          obtain ⟨m28, c28, h⟩ := xbv_inv h
          refine xc_vV (pc := 104) (As := [.int _, .int _, .int _]) (rest := []) ⟨hx, hb, hml, hown, hts⟩ (mX8_lays hF _ _ _ _ k0 c28) (xcwV 3 hts fdX8_lays q_m_X8_79 ⟨Nat.le_of_ble_eq_true rfl, Nat.le_of_ble_eq_true rfl⟩) (xRecv hK hR (ci := 12) rfl k0.1) hR hK hE hS rfl hl.1 rfl (Nat.le_of_ble_eq_true rfl) dX8_renew_104 ⟨Nat.zero_le _, Nat.zero_le _⟩ (fun H locs hR hS => ?_)
          refine lv_iload_n (pc := 107) hx hb dX8_renew_107 rfl (lv_at hl 0 rfl) ?_
          exact xf_i (pc := 108) hx hb hr rfl hlocks h hR hK hS dX8_renew_108
        · have h := xpos c23 h
          refine lv_aload_n (pc := 53) hx hb dX8_renew_53 rfl (lv_at hl 0 rfl) ?_
          refine lv_iconst (pc := 54) hx hb dX8_renew_54 kc_2 ?_
          refine lv_bipush (pc := 55) hx hb dX8_renew_55 kb_6 ?_
          refine lv_aload_n (pc := 57) hx hb dX8_renew_57 rfl (lv_at hl 0 rfl) ?_
          refine lv_iload_n (pc := 58) hx hb dX8_renew_58 rfl (lv_at hl 1 rfl) ?_
          refine lv_iconst (pc := 59) hx hb dX8_renew_59 kc_2 ?_
          obtain ⟨r29, m29, c29, h⟩ := xb_inv h
          refine xc_iV (pc := 60) (As := [.int _, .int _]) (rest := [.int _, .int _, .ref _]) ⟨hx, hb, hml, hown, hts⟩ (mX8_of hF _ _ _ k0 c29) (xcwV 2 hts fdX8_of q_m_X8_63 ⟨Nat.le_of_ble_eq_true rfl, Nat.le_of_ble_eq_true rfl⟩) (xRecv hK hR (ci := 12) rfl k0.1) hR hK hE hS rfl hl.1 rfl (Nat.le_of_ble_eq_true rfl) dX8_renew_60 ⟨Nat.zero_le _, Nat.zero_le _⟩ (fun H locs hR hS => ?_)
          obtain ⟨r30, m30, c30, h⟩ := xb_inv h
          refine xc_iV (pc := 63) (As := [.int _, .int _, .int _]) (rest := []) ⟨hx, hb, hml, hown, hts⟩ (mX8_refuses hF _ _ _ _ k0 c30) (xcwV 3 hts fdX8_refuses q_m_X8_71 ⟨Nat.le_of_ble_eq_true rfl, Nat.le_of_ble_eq_true rfl⟩) (xRecv hK hR (ci := 12) rfl k0.1) hR hK hE hS rfl hl.1 rfl (Nat.le_of_ble_eq_true rfl) dX8_renew_63 ⟨Nat.zero_le _, Nat.zero_le _⟩ (fun H locs hR hS => ?_)
          exact xf_i (pc := 66) hx hb hr rfl hlocks h hR hK hS dX8_renew_66
      · have h := xneg c21 h
        refine lv_aload_n (pc := 31) hx hb dX8_renew_31 rfl (lv_at hl 0 rfl) ?_
        refine lv_iconst (pc := 32) hx hb dX8_renew_32 kc_2 ?_
        refine lv_iconst (pc := 33) hx hb dX8_renew_33 kc_4 ?_
        refine lv_aload_n (pc := 34) hx hb dX8_renew_34 rfl (lv_at hl 0 rfl) ?_
        refine lv_iload_n (pc := 35) hx hb dX8_renew_35 rfl (lv_at hl 1 rfl) ?_
        refine lv_iconst (pc := 36) hx hb dX8_renew_36 kc_4 ?_
        obtain ⟨r31, m31, c31, h⟩ := xb_inv h
        refine xc_iV (pc := 37) (As := [.int _, .int _]) (rest := [.int _, .int _, .ref _]) ⟨hx, hb, hml, hown, hts⟩ (mX8_of hF _ _ _ k0 c31) (xcwV 2 hts fdX8_of q_m_X8_63 ⟨Nat.le_of_ble_eq_true rfl, Nat.le_of_ble_eq_true rfl⟩) (xRecv hK hR (ci := 12) rfl k0.1) hR hK hE hS rfl hl.1 rfl (Nat.le_of_ble_eq_true rfl) dX8_renew_37 ⟨Nat.zero_le _, Nat.zero_le _⟩ (fun H locs hR hS => ?_)
        obtain ⟨r32, m32, c32, h⟩ := xb_inv h
        refine xc_iV (pc := 40) (As := [.int _, .int _, .int _]) (rest := []) ⟨hx, hb, hml, hown, hts⟩ (mX8_refuses hF _ _ _ _ k0 c32) (xcwV 3 hts fdX8_refuses q_m_X8_71 ⟨Nat.le_of_ble_eq_true rfl, Nat.le_of_ble_eq_true rfl⟩) (xRecv hK hR (ci := 12) rfl k0.1) hR hK hE hS rfl hl.1 rfl (Nat.le_of_ble_eq_true rfl) dX8_renew_40 ⟨Nat.zero_le _, Nat.zero_le _⟩ (fun H locs hR hS => ?_)
        exact xf_i (pc := 43) hx hb hr rfl hlocks h hR hK hS dX8_renew_43
    · have h := xneg c19 h
      refine lv_iconst (pc := 20) hx hb dX8_renew_20 kc_0 ?_
      exact xf_i (pc := 21) hx hb hr rfl hlocks h hR hK hS dX8_renew_21
set_option maxHeartbeats 1000000 in
set_option maxRecDepth 20000 in
theorem mX8_pledgeOf {l : Launch} {D : va_G} {ca : Nat → ClassId} {z : Nat} {G : xG} {X : va_W} {ad av : Nat → Nat} (hF : xFix z G X) (h0 : Nat) (p1 : Int32) (p2 : Int32) (k0 : xI_Model G h0) {μ μ1 : xM} {r : Int32} (h : fX8_pledgeOf h0 p1 p2 μ = some (r, μ1)) : xMi l yX8_pledgeOf (xws yX8_pledgeOf cX8_pledgeOf 3 (some .int)) 2 D ca z G X ad av [.ref h0, .int p1, .int p2] μ r μ1 := by
  refine xm_i (by decide) rfl (Nat.le_of_ble_eq_true rfl) [(0, .ref h0), (1, .int p1), (2, .int p2)] rfl ?_
  intro p e s m args below meth c ls hx hb hr hml hlocks hts hown hK hE hR hS hl
  have hts : ∀ w ∈ xAll, w.before args s = true := fun w hw => hts w (List.mem_cons_of_mem _ hw)
  rw [fX8_pledgeOf] at h
  refine lv_aload_n (pc := 0) hx hb dX8_pledgeOf_0 rfl (lv_at hl 0 rfl) ?_
  refine lv_aload_n (pc := 1) hx hb dX8_pledgeOf_1 rfl (lv_at hl 0 rfl) ?_
  refine lv_iload_n (pc := 2) hx hb dX8_pledgeOf_2 rfl (lv_at hl 1 rfl) ?_
  obtain ⟨r1, m1, c1, h⟩ := xb_inv h
  refine xc_iV (pc := 3) (As := [.int _]) (rest := [.ref _]) ⟨hx, hb, hml, hown, hts⟩ (mX8_isTicket hF _ _ k0 c1) (xcwV 1 hts fdX8_isTicket q_m_X8_94 ⟨Nat.le_of_ble_eq_true rfl, Nat.le_of_ble_eq_true rfl⟩) (xRecv hK hR (ci := 12) rfl k0.1) hR hK hE hS rfl hl.1 rfl (Nat.le_of_ble_eq_true rfl) dX8_pledgeOf_3 ⟨Nat.zero_le _, Nat.zero_le _⟩ (fun H locs hR hS => ?_)
  refine lv_if_ne (pc := 6) (tgt := 13) hx hb dX8_pledgeOf_6 (by decide) (fun c2 => ?_) (fun c2 => ?_)
  · have h := xneg c2 h
    refine lv_iload_n (pc := 13) hx hb dX8_pledgeOf_13 rfl (lv_at hl 2 rfl) ?_
    refine lv_iconst (pc := 14) hx hb dX8_pledgeOf_14 kc_0 ?_
    refine lv_bipush (pc := 15) hx hb dX8_pledgeOf_15 kb_8 ?_
    obtain ⟨r3, m3, c3, h⟩ := xb_inv h
    refine xc_iS (pc := 17) (As := [.int _, .int _, .int _]) (rest := [.ref _]) ⟨hx, hb, hml, hown, hts⟩ (mX8_in hF _ _ _  c3) (xcwS 3 hts fdX8_in q_m_X8_59 ⟨Nat.le_of_ble_eq_true rfl, Nat.le_of_ble_eq_true rfl⟩) hR hK hE hS rfl hl.1 rfl (Nat.le_of_ble_eq_true rfl) dX8_pledgeOf_17 ⟨Nat.zero_le _, Nat.zero_le _⟩ (fun H locs hR hS => ?_)
    refine lv_if_eq (pc := 20) (tgt := 27) hx hb dX8_pledgeOf_20 (by decide) (fun c4 => ?_) (fun c4 => ?_)
    · have h := xpos c4 h
      refine lv_iconst (pc := 27) hx hb dX8_pledgeOf_27 kc_2 ?_
      obtain ⟨r5, m5, c5, h⟩ := xb_inv h
      refine xc_iV (pc := 28) (As := [.int _]) (rest := []) ⟨hx, hb, hml, hown, hts⟩ (mX8_fails hF _ _ k0 c5) (xcwV 1 hts fdX8_fails q_m_X8_67 ⟨Nat.le_of_ble_eq_true rfl, Nat.le_of_ble_eq_true rfl⟩) (xRecv hK hR (ci := 12) rfl k0.1) hR hK hE hS rfl hl.1 rfl (Nat.le_of_ble_eq_true rfl) dX8_pledgeOf_28 ⟨Nat.zero_le _, Nat.zero_le _⟩ (fun H locs hR hS => ?_)
      refine lv_if_eq (pc := 31) (tgt := 36) hx hb dX8_pledgeOf_31 (by decide) (fun c6 => ?_) (fun c6 => ?_)
      · have h := xpos c6 h
        refine lv_iload_n (pc := 36) hx hb dX8_pledgeOf_36 rfl (lv_at hl 2 rfl) ?_
        refine lv_bipush (pc := 37) hx hb dX8_pledgeOf_37 kb_7 ?_
        refine lv_icmp_ne (pc := 39) (tgt := 56) hx hb dX8_pledgeOf_39 (by decide) (fun c7 => ?_) (fun c7 => ?_)
        · have h := xneg c7 h
          refine lv_aload_n (pc := 56) hx hb dX8_pledgeOf_56 rfl (lv_at hl 0 rfl) ?_
          refine lv_iload_n (pc := 57) hx hb dX8_pledgeOf_57 rfl (lv_at hl 1 rfl) ?_
          refine lv_iload_n (pc := 58) hx hb dX8_pledgeOf_58 rfl (lv_at hl 2 rfl) ?_
          obtain ⟨r8, m8, c8, h⟩ := xb_inv h
          refine xc_iV (pc := 59) (As := [.int _, .int _]) (rest := []) ⟨hx, hb, hml, hown, hts⟩ (mX8_of hF _ _ _ k0 c8) (xcwV 2 hts fdX8_of q_m_X8_63 ⟨Nat.le_of_ble_eq_true rfl, Nat.le_of_ble_eq_true rfl⟩) (xRecv hK hR (ci := 12) rfl k0.1) hR hK hE hS rfl hl.1 rfl (Nat.le_of_ble_eq_true rfl) dX8_pledgeOf_59 ⟨Nat.zero_le _, Nat.zero_le _⟩ (fun H locs hR hS => ?_)
          exact xf_i (pc := 62) hx hb hr rfl hlocks h hR hK hS dX8_pledgeOf_62
        · have h := xpos c7 h
          refine lv_aload_n (pc := 42) hx hb dX8_pledgeOf_42 rfl (lv_at hl 0 rfl) ?_
          refine lv_iload_n (pc := 43) hx hb dX8_pledgeOf_43 rfl (lv_at hl 1 rfl) ?_
          refine lv_iconst (pc := 44) hx hb dX8_pledgeOf_44 kc_4 ?_
          obtain ⟨r9, m9, c9, h⟩ := xb_inv h
          refine xc_iV (pc := 45) (As := [.int _, .int _]) (rest := []) ⟨hx, hb, hml, hown, hts⟩ (mX8_of hF _ _ _ k0 c9) (xcwV 2 hts fdX8_of q_m_X8_63 ⟨Nat.le_of_ble_eq_true rfl, Nat.le_of_ble_eq_true rfl⟩) (xRecv hK hR (ci := 12) rfl k0.1) hR hK hE hS rfl hl.1 rfl (Nat.le_of_ble_eq_true rfl) dX8_pledgeOf_45 ⟨Nat.zero_le _, Nat.zero_le _⟩ (fun H locs hR hS => ?_)
          refine lv_iconst (pc := 48) hx hb dX8_pledgeOf_48 kc_1 ?_
          refine lv_icmp_eq (pc := 49) (tgt := 56) hx hb dX8_pledgeOf_49 (by decide) (fun c10 => ?_) (fun c10 => ?_)
          · have h := xpos c10 h
            refine lv_aload_n (pc := 56) hx hb dX8_pledgeOf_56 rfl (lv_at hl 0 rfl) ?_
            refine lv_iload_n (pc := 57) hx hb dX8_pledgeOf_57 rfl (lv_at hl 1 rfl) ?_
            refine lv_iload_n (pc := 58) hx hb dX8_pledgeOf_58 rfl (lv_at hl 2 rfl) ?_
            obtain ⟨r11, m11, c11, h⟩ := xb_inv h
            refine xc_iV (pc := 59) (As := [.int _, .int _]) (rest := []) ⟨hx, hb, hml, hown, hts⟩ (mX8_of hF _ _ _ k0 c11) (xcwV 2 hts fdX8_of q_m_X8_63 ⟨Nat.le_of_ble_eq_true rfl, Nat.le_of_ble_eq_true rfl⟩) (xRecv hK hR (ci := 12) rfl k0.1) hR hK hE hS rfl hl.1 rfl (Nat.le_of_ble_eq_true rfl) dX8_pledgeOf_59 ⟨Nat.zero_le _, Nat.zero_le _⟩ (fun H locs hR hS => ?_)
            exact xf_i (pc := 62) hx hb hr rfl hlocks h hR hK hS dX8_pledgeOf_62
          · have h := xneg c10 h
            refine lv_iconst (pc := 52) hx hb dX8_pledgeOf_52 kc_0 ?_
            refine lv_goto (pc := 53) (tgt := 62) hx hb dX8_pledgeOf_53 (by decide) ?_
            exact xf_i (pc := 62) hx hb hr rfl hlocks h hR hK hS dX8_pledgeOf_62
      · have h := xneg c6 h
        refine lv_iconst (pc := 34) hx hb dX8_pledgeOf_34 kc_0 ?_
        exact xf_i (pc := 35) hx hb hr rfl hlocks h hR hK hS dX8_pledgeOf_35
    · have h := xneg c4 h
      refine lv_iconst (pc := 23) hx hb dX8_pledgeOf_23 kc_0 ?_
      refine lv_goto (pc := 24) (tgt := 28) hx hb dX8_pledgeOf_24 (by decide) ?_
      obtain ⟨r12, m12, c12, h⟩ := xb_inv h
      refine xc_iV (pc := 28) (As := [.int _]) (rest := []) ⟨hx, hb, hml, hown, hts⟩ (mX8_fails hF _ _ k0 c12) (xcwV 1 hts fdX8_fails q_m_X8_67 ⟨Nat.le_of_ble_eq_true rfl, Nat.le_of_ble_eq_true rfl⟩) (xRecv hK hR (ci := 12) rfl k0.1) hR hK hE hS rfl hl.1 rfl (Nat.le_of_ble_eq_true rfl) dX8_pledgeOf_28 ⟨Nat.zero_le _, Nat.zero_le _⟩ (fun H locs hR hS => ?_)
      refine lv_if_eq (pc := 31) (tgt := 36) hx hb dX8_pledgeOf_31 (by decide) (fun c13 => ?_) (fun c13 => ?_)
      · have h := xpos c13 h
        refine lv_iload_n (pc := 36) hx hb dX8_pledgeOf_36 rfl (lv_at hl 2 rfl) ?_
        refine lv_bipush (pc := 37) hx hb dX8_pledgeOf_37 kb_7 ?_
        refine lv_icmp_ne (pc := 39) (tgt := 56) hx hb dX8_pledgeOf_39 (by decide) (fun c14 => ?_) (fun c14 => ?_)
        · have h := xneg c14 h
          refine lv_aload_n (pc := 56) hx hb dX8_pledgeOf_56 rfl (lv_at hl 0 rfl) ?_
          refine lv_iload_n (pc := 57) hx hb dX8_pledgeOf_57 rfl (lv_at hl 1 rfl) ?_
          refine lv_iload_n (pc := 58) hx hb dX8_pledgeOf_58 rfl (lv_at hl 2 rfl) ?_
          obtain ⟨r15, m15, c15, h⟩ := xb_inv h
          refine xc_iV (pc := 59) (As := [.int _, .int _]) (rest := []) ⟨hx, hb, hml, hown, hts⟩ (mX8_of hF _ _ _ k0 c15) (xcwV 2 hts fdX8_of q_m_X8_63 ⟨Nat.le_of_ble_eq_true rfl, Nat.le_of_ble_eq_true rfl⟩) (xRecv hK hR (ci := 12) rfl k0.1) hR hK hE hS rfl hl.1 rfl (Nat.le_of_ble_eq_true rfl) dX8_pledgeOf_59 ⟨Nat.zero_le _, Nat.zero_le _⟩ (fun H locs hR hS => ?_)
          exact xf_i (pc := 62) hx hb hr rfl hlocks h hR hK hS dX8_pledgeOf_62
        · have h := xpos c14 h
          refine lv_aload_n (pc := 42) hx hb dX8_pledgeOf_42 rfl (lv_at hl 0 rfl) ?_
          refine lv_iload_n (pc := 43) hx hb dX8_pledgeOf_43 rfl (lv_at hl 1 rfl) ?_
          refine lv_iconst (pc := 44) hx hb dX8_pledgeOf_44 kc_4 ?_
          obtain ⟨r16, m16, c16, h⟩ := xb_inv h
          refine xc_iV (pc := 45) (As := [.int _, .int _]) (rest := []) ⟨hx, hb, hml, hown, hts⟩ (mX8_of hF _ _ _ k0 c16) (xcwV 2 hts fdX8_of q_m_X8_63 ⟨Nat.le_of_ble_eq_true rfl, Nat.le_of_ble_eq_true rfl⟩) (xRecv hK hR (ci := 12) rfl k0.1) hR hK hE hS rfl hl.1 rfl (Nat.le_of_ble_eq_true rfl) dX8_pledgeOf_45 ⟨Nat.zero_le _, Nat.zero_le _⟩ (fun H locs hR hS => ?_)
          refine lv_iconst (pc := 48) hx hb dX8_pledgeOf_48 kc_1 ?_
          refine lv_icmp_eq (pc := 49) (tgt := 56) hx hb dX8_pledgeOf_49 (by decide) (fun c17 => ?_) (fun c17 => ?_)
          · have h := xpos c17 h
            refine lv_aload_n (pc := 56) hx hb dX8_pledgeOf_56 rfl (lv_at hl 0 rfl) ?_
            refine lv_iload_n (pc := 57) hx hb dX8_pledgeOf_57 rfl (lv_at hl 1 rfl) ?_
            refine lv_iload_n (pc := 58) hx hb dX8_pledgeOf_58 rfl (lv_at hl 2 rfl) ?_
            obtain ⟨r18, m18, c18, h⟩ := xb_inv h
            refine xc_iV (pc := 59) (As := [.int _, .int _]) (rest := []) ⟨hx, hb, hml, hown, hts⟩ (mX8_of hF _ _ _ k0 c18) (xcwV 2 hts fdX8_of q_m_X8_63 ⟨Nat.le_of_ble_eq_true rfl, Nat.le_of_ble_eq_true rfl⟩) (xRecv hK hR (ci := 12) rfl k0.1) hR hK hE hS rfl hl.1 rfl (Nat.le_of_ble_eq_true rfl) dX8_pledgeOf_59 ⟨Nat.zero_le _, Nat.zero_le _⟩ (fun H locs hR hS => ?_)
            exact xf_i (pc := 62) hx hb hr rfl hlocks h hR hK hS dX8_pledgeOf_62
          · have h := xneg c17 h
            refine lv_iconst (pc := 52) hx hb dX8_pledgeOf_52 kc_0 ?_
            refine lv_goto (pc := 53) (tgt := 62) hx hb dX8_pledgeOf_53 (by decide) ?_
            exact xf_i (pc := 62) hx hb hr rfl hlocks h hR hK hS dX8_pledgeOf_62
      · have h := xneg c13 h
        refine lv_iconst (pc := 34) hx hb dX8_pledgeOf_34 kc_0 ?_
        exact xf_i (pc := 35) hx hb hr rfl hlocks h hR hK hS dX8_pledgeOf_35
  · have h := xpos c2 h
    refine lv_iconst (pc := 9) hx hb dX8_pledgeOf_9 kc_1 ?_
    refine lv_goto (pc := 10) (tgt := 28) hx hb dX8_pledgeOf_10 (by decide) ?_
    obtain ⟨r19, m19, c19, h⟩ := xb_inv h
    refine xc_iV (pc := 28) (As := [.int _]) (rest := []) ⟨hx, hb, hml, hown, hts⟩ (mX8_fails hF _ _ k0 c19) (xcwV 1 hts fdX8_fails q_m_X8_67 ⟨Nat.le_of_ble_eq_true rfl, Nat.le_of_ble_eq_true rfl⟩) (xRecv hK hR (ci := 12) rfl k0.1) hR hK hE hS rfl hl.1 rfl (Nat.le_of_ble_eq_true rfl) dX8_pledgeOf_28 ⟨Nat.zero_le _, Nat.zero_le _⟩ (fun H locs hR hS => ?_)
    refine lv_if_eq (pc := 31) (tgt := 36) hx hb dX8_pledgeOf_31 (by decide) (fun c20 => ?_) (fun c20 => ?_)
    · have h := xpos c20 h
      refine lv_iload_n (pc := 36) hx hb dX8_pledgeOf_36 rfl (lv_at hl 2 rfl) ?_
      refine lv_bipush (pc := 37) hx hb dX8_pledgeOf_37 kb_7 ?_
      refine lv_icmp_ne (pc := 39) (tgt := 56) hx hb dX8_pledgeOf_39 (by decide) (fun c21 => ?_) (fun c21 => ?_)
      · have h := xneg c21 h
        refine lv_aload_n (pc := 56) hx hb dX8_pledgeOf_56 rfl (lv_at hl 0 rfl) ?_
        refine lv_iload_n (pc := 57) hx hb dX8_pledgeOf_57 rfl (lv_at hl 1 rfl) ?_
        refine lv_iload_n (pc := 58) hx hb dX8_pledgeOf_58 rfl (lv_at hl 2 rfl) ?_
        obtain ⟨r22, m22, c22, h⟩ := xb_inv h
        refine xc_iV (pc := 59) (As := [.int _, .int _]) (rest := []) ⟨hx, hb, hml, hown, hts⟩ (mX8_of hF _ _ _ k0 c22) (xcwV 2 hts fdX8_of q_m_X8_63 ⟨Nat.le_of_ble_eq_true rfl, Nat.le_of_ble_eq_true rfl⟩) (xRecv hK hR (ci := 12) rfl k0.1) hR hK hE hS rfl hl.1 rfl (Nat.le_of_ble_eq_true rfl) dX8_pledgeOf_59 ⟨Nat.zero_le _, Nat.zero_le _⟩ (fun H locs hR hS => ?_)
        exact xf_i (pc := 62) hx hb hr rfl hlocks h hR hK hS dX8_pledgeOf_62
      · have h := xpos c21 h
        refine lv_aload_n (pc := 42) hx hb dX8_pledgeOf_42 rfl (lv_at hl 0 rfl) ?_
        refine lv_iload_n (pc := 43) hx hb dX8_pledgeOf_43 rfl (lv_at hl 1 rfl) ?_
        refine lv_iconst (pc := 44) hx hb dX8_pledgeOf_44 kc_4 ?_
        obtain ⟨r23, m23, c23, h⟩ := xb_inv h
        refine xc_iV (pc := 45) (As := [.int _, .int _]) (rest := []) ⟨hx, hb, hml, hown, hts⟩ (mX8_of hF _ _ _ k0 c23) (xcwV 2 hts fdX8_of q_m_X8_63 ⟨Nat.le_of_ble_eq_true rfl, Nat.le_of_ble_eq_true rfl⟩) (xRecv hK hR (ci := 12) rfl k0.1) hR hK hE hS rfl hl.1 rfl (Nat.le_of_ble_eq_true rfl) dX8_pledgeOf_45 ⟨Nat.zero_le _, Nat.zero_le _⟩ (fun H locs hR hS => ?_)
        refine lv_iconst (pc := 48) hx hb dX8_pledgeOf_48 kc_1 ?_
        refine lv_icmp_eq (pc := 49) (tgt := 56) hx hb dX8_pledgeOf_49 (by decide) (fun c24 => ?_) (fun c24 => ?_)
        · have h := xpos c24 h
          refine lv_aload_n (pc := 56) hx hb dX8_pledgeOf_56 rfl (lv_at hl 0 rfl) ?_
          refine lv_iload_n (pc := 57) hx hb dX8_pledgeOf_57 rfl (lv_at hl 1 rfl) ?_
          refine lv_iload_n (pc := 58) hx hb dX8_pledgeOf_58 rfl (lv_at hl 2 rfl) ?_
          obtain ⟨r25, m25, c25, h⟩ := xb_inv h
          refine xc_iV (pc := 59) (As := [.int _, .int _]) (rest := []) ⟨hx, hb, hml, hown, hts⟩ (mX8_of hF _ _ _ k0 c25) (xcwV 2 hts fdX8_of q_m_X8_63 ⟨Nat.le_of_ble_eq_true rfl, Nat.le_of_ble_eq_true rfl⟩) (xRecv hK hR (ci := 12) rfl k0.1) hR hK hE hS rfl hl.1 rfl (Nat.le_of_ble_eq_true rfl) dX8_pledgeOf_59 ⟨Nat.zero_le _, Nat.zero_le _⟩ (fun H locs hR hS => ?_)
          exact xf_i (pc := 62) hx hb hr rfl hlocks h hR hK hS dX8_pledgeOf_62
        · have h := xneg c24 h
          refine lv_iconst (pc := 52) hx hb dX8_pledgeOf_52 kc_0 ?_
          refine lv_goto (pc := 53) (tgt := 62) hx hb dX8_pledgeOf_53 (by decide) ?_
          exact xf_i (pc := 62) hx hb hr rfl hlocks h hR hK hS dX8_pledgeOf_62
    · have h := xneg c20 h
      refine lv_iconst (pc := 34) hx hb dX8_pledgeOf_34 kc_0 ?_
      exact xf_i (pc := 35) hx hb hr rfl hlocks h hR hK hS dX8_pledgeOf_35
set_option maxHeartbeats 1000000 in
set_option maxRecDepth 20000 in
theorem mX8_sell {l : Launch} {D : va_G} {ca : Nat → ClassId} {z : Nat} {G : xG} {X : va_W} {ad av : Nat → Nat} (hF : xFix z G X) (h0 : Nat) (p1 : Int32) (p2 : Int32) (k0 : xI_Model G h0) {μ μ1 : xM} {r : Int32} (h : fX8_sell h0 p1 p2 μ = some (r, μ1)) : xMi l yX8_sell (xws yX8_sell cX8_sell 4 (some .int)) 2 D ca z G X ad av [.ref h0, .int p1, .int p2] μ r μ1 := by
  refine xm_i (by decide) rfl (Nat.le_of_ble_eq_true rfl) [(0, .ref h0), (1, .int p1), (2, .int p2)] rfl ?_
  intro p e s m args below meth c ls hx hb hr hml hlocks hts hown hK hE hR hS hl
  have hts : ∀ w ∈ xAll, w.before args s = true := fun w hw => hts w (List.mem_cons_of_mem _ hw)
  rw [fX8_sell] at h
  refine lv_aload_n (pc := 0) hx hb dX8_sell_0 rfl (lv_at hl 0 rfl) ?_
  refine lv_aload_n (pc := 1) hx hb dX8_sell_1 rfl (lv_at hl 0 rfl) ?_
  refine lv_iload_n (pc := 2) hx hb dX8_sell_2 rfl (lv_at hl 1 rfl) ?_
  obtain ⟨r1, m1, c1, h⟩ := xb_inv h
  refine xc_iV (pc := 3) (As := [.int _]) (rest := [.ref _]) ⟨hx, hb, hml, hown, hts⟩ (mX8_isTicket hF _ _ k0 c1) (xcwV 1 hts fdX8_isTicket q_m_X8_94 ⟨Nat.le_of_ble_eq_true rfl, Nat.le_of_ble_eq_true rfl⟩) (xRecv hK hR (ci := 12) rfl k0.1) hR hK hE hS rfl hl.1 rfl (Nat.le_of_ble_eq_true rfl) dX8_sell_3 ⟨Nat.zero_le _, Nat.zero_le _⟩ (fun H locs hR hS => ?_)
  refine lv_if_ne (pc := 6) (tgt := 13) hx hb dX8_sell_6 (by decide) (fun c2 => ?_) (fun c2 => ?_)
  · have h := xneg c2 h
    refine lv_iload_n (pc := 13) hx hb dX8_sell_13 rfl (lv_at hl 2 rfl) ?_
    refine lv_iconst (pc := 14) hx hb dX8_sell_14 kc_1 ?_
    refine lv_sipush (pc := 15) hx hb dX8_sell_15 ks_9999 ?_
    obtain ⟨r3, m3, c3, h⟩ := xb_inv h
    refine xc_iS (pc := 18) (As := [.int _, .int _, .int _]) (rest := [.ref _]) ⟨hx, hb, hml, hown, hts⟩ (mX8_in hF _ _ _  c3) (xcwS 3 hts fdX8_in q_m_X8_59 ⟨Nat.le_of_ble_eq_true rfl, Nat.le_of_ble_eq_true rfl⟩) hR hK hE hS rfl hl.1 rfl (Nat.le_of_ble_eq_true rfl) dX8_sell_18 ⟨Nat.zero_le _, Nat.zero_le _⟩ (fun H locs hR hS => ?_)
    refine lv_if_eq (pc := 21) (tgt := 28) hx hb dX8_sell_21 (by decide) (fun c4 => ?_) (fun c4 => ?_)
    · have h := xpos c4 h
      refine lv_iconst (pc := 28) hx hb dX8_sell_28 kc_2 ?_
      obtain ⟨r5, m5, c5, h⟩ := xb_inv h
      refine xc_iV (pc := 29) (As := [.int _]) (rest := []) ⟨hx, hb, hml, hown, hts⟩ (mX8_fails hF _ _ k0 c5) (xcwV 1 hts fdX8_fails q_m_X8_67 ⟨Nat.le_of_ble_eq_true rfl, Nat.le_of_ble_eq_true rfl⟩) (xRecv hK hR (ci := 12) rfl k0.1) hR hK hE hS rfl hl.1 rfl (Nat.le_of_ble_eq_true rfl) dX8_sell_29 ⟨Nat.zero_le _, Nat.zero_le _⟩ (fun H locs hR hS => ?_)
      refine lv_if_eq (pc := 32) (tgt := 37) hx hb dX8_sell_32 (by decide) (fun c6 => ?_) (fun c6 => ?_)
      · have h := xpos c6 h
        refine lv_aload_n (pc := 37) hx hb dX8_sell_37 rfl (lv_at hl 0 rfl) ?_
        refine lv_iload_n (pc := 38) hx hb dX8_sell_38 rfl (lv_at hl 1 rfl) ?_
        refine lv_iconst (pc := 39) hx hb dX8_sell_39 kc_4 ?_
        obtain ⟨r7, m7, c7, h⟩ := xb_inv h
        refine xc_iV (pc := 40) (As := [.int _, .int _]) (rest := []) ⟨hx, hb, hml, hown, hts⟩ (mX8_of hF _ _ _ k0 c7) (xcwV 2 hts fdX8_of q_m_X8_63 ⟨Nat.le_of_ble_eq_true rfl, Nat.le_of_ble_eq_true rfl⟩) (xRecv hK hR (ci := 12) rfl k0.1) hR hK hE hS rfl hl.1 rfl (Nat.le_of_ble_eq_true rfl) dX8_sell_40 ⟨Nat.zero_le _, Nat.zero_le _⟩ (fun H locs hR hS => ?_)
        refine lv_iconst (pc := 43) hx hb dX8_sell_43 kc_1 ?_
        refine lv_icmp_eq (pc := 44) (tgt := 61) hx hb dX8_sell_44 (by decide) (fun c8 => ?_) (fun c8 => ?_)
        · have h := xpos c8 h
          refine lv_iload_n (pc := 61) hx hb dX8_sell_61 rfl (lv_at hl 2 rfl) ?_
          refine lv_aload_n (pc := 62) hx hb dX8_sell_62 rfl (lv_at hl 0 rfl) ?_
          refine lv_iload_n (pc := 63) hx hb dX8_sell_63 rfl (lv_at hl 1 rfl) ?_
          refine lv_bipush (pc := 64) hx hb dX8_sell_64 kb_7 ?_
          obtain ⟨r9, m9, c9, h⟩ := xb_inv h
          refine xc_iV (pc := 66) (As := [.int _, .int _]) (rest := [.int _]) ⟨hx, hb, hml, hown, hts⟩ (mX8_of hF _ _ _ k0 c9) (xcwV 2 hts fdX8_of q_m_X8_63 ⟨Nat.le_of_ble_eq_true rfl, Nat.le_of_ble_eq_true rfl⟩) (xRecv hK hR (ci := 12) rfl k0.1) hR hK hE hS rfl hl.1 rfl (Nat.le_of_ble_eq_true rfl) dX8_sell_66 ⟨Nat.zero_le _, Nat.zero_le _⟩ (fun H locs hR hS => ?_)
          refine lv_icmp_ge (pc := 69) (tgt := 87) hx hb dX8_sell_69 (by decide) (fun c10 => ?_) (fun c10 => ?_)
          · have h := xpos c10 h
            refine lv_aload_n (pc := 87) hx hb dX8_sell_87 rfl (lv_at hl 0 rfl) ?_
            refine lv_aload_n (pc := 88) hx hb dX8_sell_88 rfl (lv_at hl 0 rfl) ?_
            refine xr_getR (pc := 89) (ci := 12) hx hb hts inX8 hown hK hR rfl k0.1 0 (Nat.le_of_ble_eq_true rfl) rfl k0.2.1.1 (hts _ q_f_X8_7) (fun _ h9 => h9) dX8_sell_89 ?_
            obtain ⟨m11, c11, h⟩ := xbv_inv h
            refine xc_vV (pc := 92) (As := [.ref _]) (rest := []) ⟨hx, hb, hml, hown, hts⟩ (mX8_keeps hF _ _ k0 k0.2.1.2 c11) (xcwV 1 hts fdX8_keeps q_m_X8_75 ⟨Nat.le_of_ble_eq_true rfl, Nat.le_of_ble_eq_true rfl⟩) (xRecv hK hR (ci := 12) rfl k0.1) hR hK hE hS rfl hl.1 rfl (Nat.le_of_ble_eq_true rfl) dX8_sell_92 ⟨Nat.zero_le _, Nat.zero_le _⟩ (fun H locs hR hS => ?_)
            refine lv_iload_n (pc := 95) hx hb dX8_sell_95 rfl (lv_at hl 2 rfl) ?_
            refine lv_aload_n (pc := 96) hx hb dX8_sell_96 rfl (lv_at hl 0 rfl) ?_
            refine lv_iload_n (pc := 97) hx hb dX8_sell_97 rfl (lv_at hl 1 rfl) ?_
            refine lv_bipush (pc := 98) hx hb dX8_sell_98 kb_9 ?_
            obtain ⟨r12, m12, c12, h⟩ := xb_inv h
            refine xc_iV (pc := 100) (As := [.int _, .int _]) (rest := [.int _]) ⟨hx, hb, hml, hown, hts⟩ (mX8_of hF _ _ _ k0 c12) (xcwV 2 hts fdX8_of q_m_X8_63 ⟨Nat.le_of_ble_eq_true rfl, Nat.le_of_ble_eq_true rfl⟩) (xRecv hK hR (ci := 12) rfl k0.1) hR hK hE hS rfl hl.1 rfl (Nat.le_of_ble_eq_true rfl) dX8_sell_100 ⟨Nat.zero_le _, Nat.zero_le _⟩ (fun H locs hR hS => ?_)
            refine lv_isub (pc := 103) hx hb dX8_sell_103 ?_
            refine lv_istore_n (pc := 104) (lv' := [(3, .int _), (0, .ref _), (1, .int _), (2, .int _)]) hx hb dX8_sell_104 rfl hl (Nat.le_of_ble_eq_true rfl) rfl (fun ls hl => ?_)
            refine lv_aload_n (pc := 105) hx hb dX8_sell_105 rfl (lv_at hl 1 rfl) ?_
            refine lv_iload_n (pc := 106) hx hb dX8_sell_106 rfl (lv_at hl 2 rfl) ?_
            refine lv_iconst (pc := 107) hx hb dX8_sell_107 kc_4 ?_
            refine lv_iconst (pc := 108) hx hb dX8_sell_108 kc_3 ?_
            obtain ⟨m13, c13, h⟩ := xbv_inv h
            refine xc_vV (pc := 109) (As := [.int _, .int _, .int _]) (rest := []) ⟨hx, hb, hml, hown, hts⟩ (mX8_lays hF _ _ _ _ k0 c13) (xcwV 3 hts fdX8_lays q_m_X8_79 ⟨Nat.le_of_ble_eq_true rfl, Nat.le_of_ble_eq_true rfl⟩) (xRecv hK hR (ci := 12) rfl k0.1) hR hK hE hS rfl hl.1 rfl (Nat.le_of_ble_eq_true rfl) dX8_sell_109 ⟨Nat.zero_le _, Nat.zero_le _⟩ (fun H locs hR hS => ?_)
            refine lv_aload_n (pc := 112) hx hb dX8_sell_112 rfl (lv_at hl 1 rfl) ?_
            refine xr_getR (pc := 113) (ci := 12) hx hb hts inX8 hown hK hR rfl k0.1 0 (Nat.le_of_ble_eq_true rfl) rfl k0.2.1.1 (hts _ q_f_X8_7) (fun _ h9 => h9) dX8_sell_113 ?_
            refine lv_iconst (pc := 116) hx hb dX8_sell_116 kc_4 ?_
            refine lv_dup2_11 (pc := 117) hx hb dX8_sell_117 rfl rfl ?_
            refine xr_ialdk (pc := 118) 4 hx hb hK hR k0.2.1.2.1 k0.2.1.2.2 tn_4 (vl_4 (by decide)) dX8_sell_118 ?_
            refine lv_iload_n (pc := 119) hx hb dX8_sell_119 rfl (lv_at hl 3 rfl) ?_
            refine lv_iadd (pc := 120) hx hb dX8_sell_120 ?_
            refine xr_iastk (pc := 121) 4 hx hb hK hR hF hS k0.2.1.2.1 k0.2.1.2.2 tn_4 (vl_4 (by decide)) dX8_sell_121 (fun H locs hR hS => ?_)
            refine lv_aload_n (pc := 122) hx hb dX8_sell_122 rfl (lv_at hl 1 rfl) ?_
            refine xr_getR (pc := 123) (ci := 12) hx hb hts inX8 hown hK hR rfl k0.1 0 (Nat.le_of_ble_eq_true rfl) rfl k0.2.1.1 (hts _ q_f_X8_7) (fun _ h9 => h9) dX8_sell_123 ?_
            refine lv_bipush (pc := 126) hx hb dX8_sell_126 kb_7 ?_
            refine lv_dup2_11 (pc := 128) hx hb dX8_sell_128 rfl rfl ?_
            refine xr_ialdk (pc := 129) 7 hx hb hK hR k0.2.1.2.1 k0.2.1.2.2 tn_7 (vl_7 (by decide)) dX8_sell_129 ?_
            refine lv_iload_n (pc := 130) hx hb dX8_sell_130 rfl (lv_at hl 3 rfl) ?_
            refine lv_iadd (pc := 131) hx hb dX8_sell_131 ?_
            refine xr_iastk (pc := 132) 7 hx hb hK hR hF hS k0.2.1.2.1 k0.2.1.2.2 tn_7 (vl_7 (by decide)) dX8_sell_132 (fun H locs hR hS => ?_)
            refine lv_iload_n (pc := 133) hx hb dX8_sell_133 rfl (lv_at hl 0 rfl) ?_
            refine lv_if_ge (pc := 134) (tgt := 148) hx hb dX8_sell_134 (by decide) (fun c14 => ?_) (fun c14 => ?_)
            · have h := xpos c14 h
              refine lv_iload_n (pc := 148) hx hb dX8_sell_148 rfl (lv_at hl 0 rfl) ?_
              refine lv_if_le (pc := 149) (tgt := 156) hx hb dX8_sell_149 (by decide) (fun c15 => ?_) (fun c15 => ?_)
              · have h := xpos c15 h
                refine lv_iconst (pc := 156) hx hb dX8_sell_156 kc_0 ?_
                refine lv_istore_n (pc := 157) (lv' := [(3, .int _), (0, .ref _), (1, .int _), (2, .int _)]) hx hb dX8_sell_157 rfl hl (Nat.le_of_ble_eq_true rfl) rfl (fun ls hl => ?_)
                refine lv_aload_n (pc := 158) hx hb dX8_sell_158 rfl (lv_at hl 1 rfl) ?_
                refine xr_getR (pc := 159) (ci := 12) hx hb hts inX8 hown hK hR rfl k0.1 0 (Nat.le_of_ble_eq_true rfl) rfl k0.2.1.1 (hts _ q_f_X8_7) (fun _ h9 => h9) dX8_sell_159 ?_
                refine lv_sipush (pc := 162) hx hb dX8_sell_162 ks_187 ?_
                refine lv_aload_n (pc := 165) hx hb dX8_sell_165 rfl (lv_at hl 1 rfl) ?_
                refine lv_iload_n (pc := 166) hx hb dX8_sell_166 rfl (lv_at hl 2 rfl) ?_
                refine lv_iconst (pc := 167) hx hb dX8_sell_167 kc_0 ?_
                obtain ⟨r16, m16, c16, h⟩ := xb_inv h
                refine xc_iV (pc := 168) (As := [.int _, .int _]) (rest := [.int _, .ref _]) ⟨hx, hb, hml, hown, hts⟩ (mX8_of hF _ _ _ k0 c16) (xcwV 2 hts fdX8_of q_m_X8_63 ⟨Nat.le_of_ble_eq_true rfl, Nat.le_of_ble_eq_true rfl⟩) (xRecv hK hR (ci := 12) rfl k0.1) hR hK hE hS rfl hl.1 rfl (Nat.le_of_ble_eq_true rfl) dX8_sell_168 ⟨Nat.zero_le _, Nat.zero_le _⟩ (fun H locs hR hS => ?_)
                refine lv_iadd (pc := 171) hx hb dX8_sell_171 ?_
                refine lv_dup2_11 (pc := 172) hx hb dX8_sell_172 rfl rfl ?_
                obtain ⟨c17, h⟩ := xk_inv h
                refine xr_ialdk (pc := 173) (Int32.toNatClampNeg (((187 : Int32) + r16))) hx hb hK hR k0.2.1.2.1 k0.2.1.2.2 rfl c17 dX8_sell_173 ?_
                refine lv_iload_n (pc := 174) hx hb dX8_sell_174 rfl (lv_at hl 0 rfl) ?_
                refine lv_iadd (pc := 175) hx hb dX8_sell_175 ?_
                obtain ⟨c18, h⟩ := xk_inv h
                refine xr_iastk (pc := 176) (Int32.toNatClampNeg (((187 : Int32) + r16))) hx hb hK hR hF hS k0.2.1.2.1 k0.2.1.2.2 rfl c18 dX8_sell_176 (fun H locs hR hS => ?_)
                refine lv_iload_n (pc := 177) hx hb dX8_sell_177 rfl (lv_at hl 0 rfl) ?_
                exact xf_i (pc := 178) hx hb hr rfl hlocks h hR hK hS dX8_sell_178
              · have h := xneg c15 h
                refine lv_iload_n (pc := 152) hx hb dX8_sell_152 rfl (lv_at hl 0 rfl) ?_
                refine lv_goto (pc := 153) (tgt := 157) hx hb dX8_sell_153 (by decide) ?_
                refine lv_istore_n (pc := 157) (lv' := [(3, .int _), (0, .ref _), (1, .int _), (2, .int _)]) hx hb dX8_sell_157 rfl hl (Nat.le_of_ble_eq_true rfl) rfl (fun ls hl => ?_)
                refine lv_aload_n (pc := 158) hx hb dX8_sell_158 rfl (lv_at hl 1 rfl) ?_
                refine xr_getR (pc := 159) (ci := 12) hx hb hts inX8 hown hK hR rfl k0.1 0 (Nat.le_of_ble_eq_true rfl) rfl k0.2.1.1 (hts _ q_f_X8_7) (fun _ h9 => h9) dX8_sell_159 ?_
                refine lv_sipush (pc := 162) hx hb dX8_sell_162 ks_187 ?_
                refine lv_aload_n (pc := 165) hx hb dX8_sell_165 rfl (lv_at hl 1 rfl) ?_
                refine lv_iload_n (pc := 166) hx hb dX8_sell_166 rfl (lv_at hl 2 rfl) ?_
                refine lv_iconst (pc := 167) hx hb dX8_sell_167 kc_0 ?_
                obtain ⟨r19, m19, c19, h⟩ := xb_inv h
                refine xc_iV (pc := 168) (As := [.int _, .int _]) (rest := [.int _, .ref _]) ⟨hx, hb, hml, hown, hts⟩ (mX8_of hF _ _ _ k0 c19) (xcwV 2 hts fdX8_of q_m_X8_63 ⟨Nat.le_of_ble_eq_true rfl, Nat.le_of_ble_eq_true rfl⟩) (xRecv hK hR (ci := 12) rfl k0.1) hR hK hE hS rfl hl.1 rfl (Nat.le_of_ble_eq_true rfl) dX8_sell_168 ⟨Nat.zero_le _, Nat.zero_le _⟩ (fun H locs hR hS => ?_)
                refine lv_iadd (pc := 171) hx hb dX8_sell_171 ?_
                refine lv_dup2_11 (pc := 172) hx hb dX8_sell_172 rfl rfl ?_
                obtain ⟨c20, h⟩ := xk_inv h
                refine xr_ialdk (pc := 173) (Int32.toNatClampNeg (((187 : Int32) + r19))) hx hb hK hR k0.2.1.2.1 k0.2.1.2.2 rfl c20 dX8_sell_173 ?_
                refine lv_iload_n (pc := 174) hx hb dX8_sell_174 rfl (lv_at hl 0 rfl) ?_
                refine lv_iadd (pc := 175) hx hb dX8_sell_175 ?_
                obtain ⟨c21, h⟩ := xk_inv h
                refine xr_iastk (pc := 176) (Int32.toNatClampNeg (((187 : Int32) + r19))) hx hb hK hR hF hS k0.2.1.2.1 k0.2.1.2.2 rfl c21 dX8_sell_176 (fun H locs hR hS => ?_)
                refine lv_iload_n (pc := 177) hx hb dX8_sell_177 rfl (lv_at hl 0 rfl) ?_
                exact xf_i (pc := 178) hx hb hr rfl hlocks h hR hK hS dX8_sell_178
            · have h := xneg c14 h
              refine lv_aload_n (pc := 137) hx hb dX8_sell_137 rfl (lv_at hl 1 rfl) ?_
              refine xr_getR (pc := 138) (ci := 12) hx hb hts inX8 hown hK hR rfl k0.1 0 (Nat.le_of_ble_eq_true rfl) rfl k0.2.1.1 (hts _ q_f_X8_7) (fun _ h9 => h9) dX8_sell_138 ?_
              refine lv_bipush (pc := 141) hx hb dX8_sell_141 kb_9 ?_
              refine lv_dup2_11 (pc := 143) hx hb dX8_sell_143 rfl rfl ?_
              refine xr_ialdk (pc := 144) 9 hx hb hK hR k0.2.1.2.1 k0.2.1.2.2 tn_9 (vl_9 (by decide)) dX8_sell_144 ?_
              refine lv_iload_n (pc := 145) hx hb dX8_sell_145 rfl (lv_at hl 0 rfl) ?_
              refine lv_isub (pc := 146) hx hb dX8_sell_146 ?_
              refine xr_iastk (pc := 147) 9 hx hb hK hR hF hS k0.2.1.2.1 k0.2.1.2.2 tn_9 (vl_9 (by decide)) dX8_sell_147 (fun H locs hR hS => ?_)
              refine lv_iload_n (pc := 148) hx hb dX8_sell_148 rfl (lv_at hl 0 rfl) ?_
              refine lv_if_le (pc := 149) (tgt := 156) hx hb dX8_sell_149 (by decide) (fun c22 => ?_) (fun c22 => ?_)
              · have h := xpos c22 h
                refine lv_iconst (pc := 156) hx hb dX8_sell_156 kc_0 ?_
                refine lv_istore_n (pc := 157) (lv' := [(3, .int _), (0, .ref _), (1, .int _), (2, .int _)]) hx hb dX8_sell_157 rfl hl (Nat.le_of_ble_eq_true rfl) rfl (fun ls hl => ?_)
                refine lv_aload_n (pc := 158) hx hb dX8_sell_158 rfl (lv_at hl 1 rfl) ?_
                refine xr_getR (pc := 159) (ci := 12) hx hb hts inX8 hown hK hR rfl k0.1 0 (Nat.le_of_ble_eq_true rfl) rfl k0.2.1.1 (hts _ q_f_X8_7) (fun _ h9 => h9) dX8_sell_159 ?_
                refine lv_sipush (pc := 162) hx hb dX8_sell_162 ks_187 ?_
                refine lv_aload_n (pc := 165) hx hb dX8_sell_165 rfl (lv_at hl 1 rfl) ?_
                refine lv_iload_n (pc := 166) hx hb dX8_sell_166 rfl (lv_at hl 2 rfl) ?_
                refine lv_iconst (pc := 167) hx hb dX8_sell_167 kc_0 ?_
                obtain ⟨r23, m23, c23, h⟩ := xb_inv h
                refine xc_iV (pc := 168) (As := [.int _, .int _]) (rest := [.int _, .ref _]) ⟨hx, hb, hml, hown, hts⟩ (mX8_of hF _ _ _ k0 c23) (xcwV 2 hts fdX8_of q_m_X8_63 ⟨Nat.le_of_ble_eq_true rfl, Nat.le_of_ble_eq_true rfl⟩) (xRecv hK hR (ci := 12) rfl k0.1) hR hK hE hS rfl hl.1 rfl (Nat.le_of_ble_eq_true rfl) dX8_sell_168 ⟨Nat.zero_le _, Nat.zero_le _⟩ (fun H locs hR hS => ?_)
                refine lv_iadd (pc := 171) hx hb dX8_sell_171 ?_
                refine lv_dup2_11 (pc := 172) hx hb dX8_sell_172 rfl rfl ?_
                obtain ⟨c24, h⟩ := xk_inv h
                refine xr_ialdk (pc := 173) (Int32.toNatClampNeg (((187 : Int32) + r23))) hx hb hK hR k0.2.1.2.1 k0.2.1.2.2 rfl c24 dX8_sell_173 ?_
                refine lv_iload_n (pc := 174) hx hb dX8_sell_174 rfl (lv_at hl 0 rfl) ?_
                refine lv_iadd (pc := 175) hx hb dX8_sell_175 ?_
                obtain ⟨c25, h⟩ := xk_inv h
                refine xr_iastk (pc := 176) (Int32.toNatClampNeg (((187 : Int32) + r23))) hx hb hK hR hF hS k0.2.1.2.1 k0.2.1.2.2 rfl c25 dX8_sell_176 (fun H locs hR hS => ?_)
                refine lv_iload_n (pc := 177) hx hb dX8_sell_177 rfl (lv_at hl 0 rfl) ?_
                exact xf_i (pc := 178) hx hb hr rfl hlocks h hR hK hS dX8_sell_178
              · have h := xneg c22 h
                refine lv_iload_n (pc := 152) hx hb dX8_sell_152 rfl (lv_at hl 0 rfl) ?_
                refine lv_goto (pc := 153) (tgt := 157) hx hb dX8_sell_153 (by decide) ?_
                refine lv_istore_n (pc := 157) (lv' := [(3, .int _), (0, .ref _), (1, .int _), (2, .int _)]) hx hb dX8_sell_157 rfl hl (Nat.le_of_ble_eq_true rfl) rfl (fun ls hl => ?_)
                refine lv_aload_n (pc := 158) hx hb dX8_sell_158 rfl (lv_at hl 1 rfl) ?_
                refine xr_getR (pc := 159) (ci := 12) hx hb hts inX8 hown hK hR rfl k0.1 0 (Nat.le_of_ble_eq_true rfl) rfl k0.2.1.1 (hts _ q_f_X8_7) (fun _ h9 => h9) dX8_sell_159 ?_
                refine lv_sipush (pc := 162) hx hb dX8_sell_162 ks_187 ?_
                refine lv_aload_n (pc := 165) hx hb dX8_sell_165 rfl (lv_at hl 1 rfl) ?_
                refine lv_iload_n (pc := 166) hx hb dX8_sell_166 rfl (lv_at hl 2 rfl) ?_
                refine lv_iconst (pc := 167) hx hb dX8_sell_167 kc_0 ?_
                obtain ⟨r26, m26, c26, h⟩ := xb_inv h
                refine xc_iV (pc := 168) (As := [.int _, .int _]) (rest := [.int _, .ref _]) ⟨hx, hb, hml, hown, hts⟩ (mX8_of hF _ _ _ k0 c26) (xcwV 2 hts fdX8_of q_m_X8_63 ⟨Nat.le_of_ble_eq_true rfl, Nat.le_of_ble_eq_true rfl⟩) (xRecv hK hR (ci := 12) rfl k0.1) hR hK hE hS rfl hl.1 rfl (Nat.le_of_ble_eq_true rfl) dX8_sell_168 ⟨Nat.zero_le _, Nat.zero_le _⟩ (fun H locs hR hS => ?_)
                refine lv_iadd (pc := 171) hx hb dX8_sell_171 ?_
                refine lv_dup2_11 (pc := 172) hx hb dX8_sell_172 rfl rfl ?_
                obtain ⟨c27, h⟩ := xk_inv h
                refine xr_ialdk (pc := 173) (Int32.toNatClampNeg (((187 : Int32) + r26))) hx hb hK hR k0.2.1.2.1 k0.2.1.2.2 rfl c27 dX8_sell_173 ?_
                refine lv_iload_n (pc := 174) hx hb dX8_sell_174 rfl (lv_at hl 0 rfl) ?_
                refine lv_iadd (pc := 175) hx hb dX8_sell_175 ?_
                obtain ⟨c28, h⟩ := xk_inv h
                refine xr_iastk (pc := 176) (Int32.toNatClampNeg (((187 : Int32) + r26))) hx hb hK hR hF hS k0.2.1.2.1 k0.2.1.2.2 rfl c28 dX8_sell_176 (fun H locs hR hS => ?_)
                refine lv_iload_n (pc := 177) hx hb dX8_sell_177 rfl (lv_at hl 0 rfl) ?_
                exact xf_i (pc := 178) hx hb hr rfl hlocks h hR hK hS dX8_sell_178
          · have h := xneg c10 h
            refine lv_aload_n (pc := 72) hx hb dX8_sell_72 rfl (lv_at hl 0 rfl) ?_
            refine lv_iconst (pc := 73) hx hb dX8_sell_73 kc_3 ?_
            refine lv_bipush (pc := 74) hx hb dX8_sell_74 kb_8 ?_
            refine lv_aload_n (pc := 76) hx hb dX8_sell_76 rfl (lv_at hl 0 rfl) ?_
            refine lv_iload_n (pc := 77) hx hb dX8_sell_77 rfl (lv_at hl 1 rfl) ?_
            refine lv_bipush (pc := 78) hx hb dX8_sell_78 kb_7 ?_
            obtain ⟨r29, m29, c29, h⟩ := xb_inv h
            refine xc_iV (pc := 80) (As := [.int _, .int _]) (rest := [.int _, .int _, .ref _]) ⟨hx, hb, hml, hown, hts⟩ (mX8_of hF _ _ _ k0 c29) (xcwV 2 hts fdX8_of q_m_X8_63 ⟨Nat.le_of_ble_eq_true rfl, Nat.le_of_ble_eq_true rfl⟩) (xRecv hK hR (ci := 12) rfl k0.1) hR hK hE hS rfl hl.1 rfl (Nat.le_of_ble_eq_true rfl) dX8_sell_80 ⟨Nat.zero_le _, Nat.zero_le _⟩ (fun H locs hR hS => ?_)
            obtain ⟨r30, m30, c30, h⟩ := xb_inv h
            refine xc_iV (pc := 83) (As := [.int _, .int _, .int _]) (rest := []) ⟨hx, hb, hml, hown, hts⟩ (mX8_refuses hF _ _ _ _ k0 c30) (xcwV 3 hts fdX8_refuses q_m_X8_71 ⟨Nat.le_of_ble_eq_true rfl, Nat.le_of_ble_eq_true rfl⟩) (xRecv hK hR (ci := 12) rfl k0.1) hR hK hE hS rfl hl.1 rfl (Nat.le_of_ble_eq_true rfl) dX8_sell_83 ⟨Nat.zero_le _, Nat.zero_le _⟩ (fun H locs hR hS => ?_)
            exact xf_i (pc := 86) hx hb hr rfl hlocks h hR hK hS dX8_sell_86
        · have h := xneg c8 h
          refine lv_aload_n (pc := 47) hx hb dX8_sell_47 rfl (lv_at hl 0 rfl) ?_
          refine lv_iconst (pc := 48) hx hb dX8_sell_48 kc_3 ?_
          refine lv_bipush (pc := 49) hx hb dX8_sell_49 kb_7 ?_
          refine lv_aload_n (pc := 51) hx hb dX8_sell_51 rfl (lv_at hl 0 rfl) ?_
          refine lv_iload_n (pc := 52) hx hb dX8_sell_52 rfl (lv_at hl 1 rfl) ?_
          refine lv_iconst (pc := 53) hx hb dX8_sell_53 kc_4 ?_
          obtain ⟨r31, m31, c31, h⟩ := xb_inv h
          refine xc_iV (pc := 54) (As := [.int _, .int _]) (rest := [.int _, .int _, .ref _]) ⟨hx, hb, hml, hown, hts⟩ (mX8_of hF _ _ _ k0 c31) (xcwV 2 hts fdX8_of q_m_X8_63 ⟨Nat.le_of_ble_eq_true rfl, Nat.le_of_ble_eq_true rfl⟩) (xRecv hK hR (ci := 12) rfl k0.1) hR hK hE hS rfl hl.1 rfl (Nat.le_of_ble_eq_true rfl) dX8_sell_54 ⟨Nat.zero_le _, Nat.zero_le _⟩ (fun H locs hR hS => ?_)
          obtain ⟨r32, m32, c32, h⟩ := xb_inv h
          refine xc_iV (pc := 57) (As := [.int _, .int _, .int _]) (rest := []) ⟨hx, hb, hml, hown, hts⟩ (mX8_refuses hF _ _ _ _ k0 c32) (xcwV 3 hts fdX8_refuses q_m_X8_71 ⟨Nat.le_of_ble_eq_true rfl, Nat.le_of_ble_eq_true rfl⟩) (xRecv hK hR (ci := 12) rfl k0.1) hR hK hE hS rfl hl.1 rfl (Nat.le_of_ble_eq_true rfl) dX8_sell_57 ⟨Nat.zero_le _, Nat.zero_le _⟩ (fun H locs hR hS => ?_)
          exact xf_i (pc := 60) hx hb hr rfl hlocks h hR hK hS dX8_sell_60
      · have h := xneg c6 h
        refine lv_iconst (pc := 35) hx hb dX8_sell_35 kc_0 ?_
        exact xf_i (pc := 36) hx hb hr rfl hlocks h hR hK hS dX8_sell_36
    · have h := xneg c4 h
      refine lv_iconst (pc := 24) hx hb dX8_sell_24 kc_0 ?_
      refine lv_goto (pc := 25) (tgt := 29) hx hb dX8_sell_25 (by decide) ?_
      obtain ⟨r33, m33, c33, h⟩ := xb_inv h
      refine xc_iV (pc := 29) (As := [.int _]) (rest := []) ⟨hx, hb, hml, hown, hts⟩ (mX8_fails hF _ _ k0 c33) (xcwV 1 hts fdX8_fails q_m_X8_67 ⟨Nat.le_of_ble_eq_true rfl, Nat.le_of_ble_eq_true rfl⟩) (xRecv hK hR (ci := 12) rfl k0.1) hR hK hE hS rfl hl.1 rfl (Nat.le_of_ble_eq_true rfl) dX8_sell_29 ⟨Nat.zero_le _, Nat.zero_le _⟩ (fun H locs hR hS => ?_)
      refine lv_if_eq (pc := 32) (tgt := 37) hx hb dX8_sell_32 (by decide) (fun c34 => ?_) (fun c34 => ?_)
      · have h := xpos c34 h
        refine lv_aload_n (pc := 37) hx hb dX8_sell_37 rfl (lv_at hl 0 rfl) ?_
        refine lv_iload_n (pc := 38) hx hb dX8_sell_38 rfl (lv_at hl 1 rfl) ?_
        refine lv_iconst (pc := 39) hx hb dX8_sell_39 kc_4 ?_
        obtain ⟨r35, m35, c35, h⟩ := xb_inv h
        refine xc_iV (pc := 40) (As := [.int _, .int _]) (rest := []) ⟨hx, hb, hml, hown, hts⟩ (mX8_of hF _ _ _ k0 c35) (xcwV 2 hts fdX8_of q_m_X8_63 ⟨Nat.le_of_ble_eq_true rfl, Nat.le_of_ble_eq_true rfl⟩) (xRecv hK hR (ci := 12) rfl k0.1) hR hK hE hS rfl hl.1 rfl (Nat.le_of_ble_eq_true rfl) dX8_sell_40 ⟨Nat.zero_le _, Nat.zero_le _⟩ (fun H locs hR hS => ?_)
        refine lv_iconst (pc := 43) hx hb dX8_sell_43 kc_1 ?_
        refine lv_icmp_eq (pc := 44) (tgt := 61) hx hb dX8_sell_44 (by decide) (fun c36 => ?_) (fun c36 => ?_)
        · have h := xpos c36 h
          refine lv_iload_n (pc := 61) hx hb dX8_sell_61 rfl (lv_at hl 2 rfl) ?_
          refine lv_aload_n (pc := 62) hx hb dX8_sell_62 rfl (lv_at hl 0 rfl) ?_
          refine lv_iload_n (pc := 63) hx hb dX8_sell_63 rfl (lv_at hl 1 rfl) ?_
          refine lv_bipush (pc := 64) hx hb dX8_sell_64 kb_7 ?_
          obtain ⟨r37, m37, c37, h⟩ := xb_inv h
          refine xc_iV (pc := 66) (As := [.int _, .int _]) (rest := [.int _]) ⟨hx, hb, hml, hown, hts⟩ (mX8_of hF _ _ _ k0 c37) (xcwV 2 hts fdX8_of q_m_X8_63 ⟨Nat.le_of_ble_eq_true rfl, Nat.le_of_ble_eq_true rfl⟩) (xRecv hK hR (ci := 12) rfl k0.1) hR hK hE hS rfl hl.1 rfl (Nat.le_of_ble_eq_true rfl) dX8_sell_66 ⟨Nat.zero_le _, Nat.zero_le _⟩ (fun H locs hR hS => ?_)
          refine lv_icmp_ge (pc := 69) (tgt := 87) hx hb dX8_sell_69 (by decide) (fun c38 => ?_) (fun c38 => ?_)
          · have h := xpos c38 h
            refine lv_aload_n (pc := 87) hx hb dX8_sell_87 rfl (lv_at hl 0 rfl) ?_
            refine lv_aload_n (pc := 88) hx hb dX8_sell_88 rfl (lv_at hl 0 rfl) ?_
            refine xr_getR (pc := 89) (ci := 12) hx hb hts inX8 hown hK hR rfl k0.1 0 (Nat.le_of_ble_eq_true rfl) rfl k0.2.1.1 (hts _ q_f_X8_7) (fun _ h9 => h9) dX8_sell_89 ?_
            obtain ⟨m39, c39, h⟩ := xbv_inv h
            refine xc_vV (pc := 92) (As := [.ref _]) (rest := []) ⟨hx, hb, hml, hown, hts⟩ (mX8_keeps hF _ _ k0 k0.2.1.2 c39) (xcwV 1 hts fdX8_keeps q_m_X8_75 ⟨Nat.le_of_ble_eq_true rfl, Nat.le_of_ble_eq_true rfl⟩) (xRecv hK hR (ci := 12) rfl k0.1) hR hK hE hS rfl hl.1 rfl (Nat.le_of_ble_eq_true rfl) dX8_sell_92 ⟨Nat.zero_le _, Nat.zero_le _⟩ (fun H locs hR hS => ?_)
            refine lv_iload_n (pc := 95) hx hb dX8_sell_95 rfl (lv_at hl 2 rfl) ?_
            refine lv_aload_n (pc := 96) hx hb dX8_sell_96 rfl (lv_at hl 0 rfl) ?_
            refine lv_iload_n (pc := 97) hx hb dX8_sell_97 rfl (lv_at hl 1 rfl) ?_
            refine lv_bipush (pc := 98) hx hb dX8_sell_98 kb_9 ?_
            obtain ⟨r40, m40, c40, h⟩ := xb_inv h
            refine xc_iV (pc := 100) (As := [.int _, .int _]) (rest := [.int _]) ⟨hx, hb, hml, hown, hts⟩ (mX8_of hF _ _ _ k0 c40) (xcwV 2 hts fdX8_of q_m_X8_63 ⟨Nat.le_of_ble_eq_true rfl, Nat.le_of_ble_eq_true rfl⟩) (xRecv hK hR (ci := 12) rfl k0.1) hR hK hE hS rfl hl.1 rfl (Nat.le_of_ble_eq_true rfl) dX8_sell_100 ⟨Nat.zero_le _, Nat.zero_le _⟩ (fun H locs hR hS => ?_)
            refine lv_isub (pc := 103) hx hb dX8_sell_103 ?_
            refine lv_istore_n (pc := 104) (lv' := [(3, .int _), (0, .ref _), (1, .int _), (2, .int _)]) hx hb dX8_sell_104 rfl hl (Nat.le_of_ble_eq_true rfl) rfl (fun ls hl => ?_)
            refine lv_aload_n (pc := 105) hx hb dX8_sell_105 rfl (lv_at hl 1 rfl) ?_
            refine lv_iload_n (pc := 106) hx hb dX8_sell_106 rfl (lv_at hl 2 rfl) ?_
            refine lv_iconst (pc := 107) hx hb dX8_sell_107 kc_4 ?_
            refine lv_iconst (pc := 108) hx hb dX8_sell_108 kc_3 ?_
            obtain ⟨m41, c41, h⟩ := xbv_inv h
            refine xc_vV (pc := 109) (As := [.int _, .int _, .int _]) (rest := []) ⟨hx, hb, hml, hown, hts⟩ (mX8_lays hF _ _ _ _ k0 c41) (xcwV 3 hts fdX8_lays q_m_X8_79 ⟨Nat.le_of_ble_eq_true rfl, Nat.le_of_ble_eq_true rfl⟩) (xRecv hK hR (ci := 12) rfl k0.1) hR hK hE hS rfl hl.1 rfl (Nat.le_of_ble_eq_true rfl) dX8_sell_109 ⟨Nat.zero_le _, Nat.zero_le _⟩ (fun H locs hR hS => ?_)
            refine lv_aload_n (pc := 112) hx hb dX8_sell_112 rfl (lv_at hl 1 rfl) ?_
            refine xr_getR (pc := 113) (ci := 12) hx hb hts inX8 hown hK hR rfl k0.1 0 (Nat.le_of_ble_eq_true rfl) rfl k0.2.1.1 (hts _ q_f_X8_7) (fun _ h9 => h9) dX8_sell_113 ?_
            refine lv_iconst (pc := 116) hx hb dX8_sell_116 kc_4 ?_
            refine lv_dup2_11 (pc := 117) hx hb dX8_sell_117 rfl rfl ?_
            refine xr_ialdk (pc := 118) 4 hx hb hK hR k0.2.1.2.1 k0.2.1.2.2 tn_4 (vl_4 (by decide)) dX8_sell_118 ?_
            refine lv_iload_n (pc := 119) hx hb dX8_sell_119 rfl (lv_at hl 3 rfl) ?_
            refine lv_iadd (pc := 120) hx hb dX8_sell_120 ?_
            refine xr_iastk (pc := 121) 4 hx hb hK hR hF hS k0.2.1.2.1 k0.2.1.2.2 tn_4 (vl_4 (by decide)) dX8_sell_121 (fun H locs hR hS => ?_)
            refine lv_aload_n (pc := 122) hx hb dX8_sell_122 rfl (lv_at hl 1 rfl) ?_
            refine xr_getR (pc := 123) (ci := 12) hx hb hts inX8 hown hK hR rfl k0.1 0 (Nat.le_of_ble_eq_true rfl) rfl k0.2.1.1 (hts _ q_f_X8_7) (fun _ h9 => h9) dX8_sell_123 ?_
            refine lv_bipush (pc := 126) hx hb dX8_sell_126 kb_7 ?_
            refine lv_dup2_11 (pc := 128) hx hb dX8_sell_128 rfl rfl ?_
            refine xr_ialdk (pc := 129) 7 hx hb hK hR k0.2.1.2.1 k0.2.1.2.2 tn_7 (vl_7 (by decide)) dX8_sell_129 ?_
            refine lv_iload_n (pc := 130) hx hb dX8_sell_130 rfl (lv_at hl 3 rfl) ?_
            refine lv_iadd (pc := 131) hx hb dX8_sell_131 ?_
            refine xr_iastk (pc := 132) 7 hx hb hK hR hF hS k0.2.1.2.1 k0.2.1.2.2 tn_7 (vl_7 (by decide)) dX8_sell_132 (fun H locs hR hS => ?_)
            refine lv_iload_n (pc := 133) hx hb dX8_sell_133 rfl (lv_at hl 0 rfl) ?_
            refine lv_if_ge (pc := 134) (tgt := 148) hx hb dX8_sell_134 (by decide) (fun c42 => ?_) (fun c42 => ?_)
            · have h := xpos c42 h
              refine lv_iload_n (pc := 148) hx hb dX8_sell_148 rfl (lv_at hl 0 rfl) ?_
              refine lv_if_le (pc := 149) (tgt := 156) hx hb dX8_sell_149 (by decide) (fun c43 => ?_) (fun c43 => ?_)
              · have h := xpos c43 h
                refine lv_iconst (pc := 156) hx hb dX8_sell_156 kc_0 ?_
                refine lv_istore_n (pc := 157) (lv' := [(3, .int _), (0, .ref _), (1, .int _), (2, .int _)]) hx hb dX8_sell_157 rfl hl (Nat.le_of_ble_eq_true rfl) rfl (fun ls hl => ?_)
                refine lv_aload_n (pc := 158) hx hb dX8_sell_158 rfl (lv_at hl 1 rfl) ?_
                refine xr_getR (pc := 159) (ci := 12) hx hb hts inX8 hown hK hR rfl k0.1 0 (Nat.le_of_ble_eq_true rfl) rfl k0.2.1.1 (hts _ q_f_X8_7) (fun _ h9 => h9) dX8_sell_159 ?_
                refine lv_sipush (pc := 162) hx hb dX8_sell_162 ks_187 ?_
                refine lv_aload_n (pc := 165) hx hb dX8_sell_165 rfl (lv_at hl 1 rfl) ?_
                refine lv_iload_n (pc := 166) hx hb dX8_sell_166 rfl (lv_at hl 2 rfl) ?_
                refine lv_iconst (pc := 167) hx hb dX8_sell_167 kc_0 ?_
                obtain ⟨r44, m44, c44, h⟩ := xb_inv h
                refine xc_iV (pc := 168) (As := [.int _, .int _]) (rest := [.int _, .ref _]) ⟨hx, hb, hml, hown, hts⟩ (mX8_of hF _ _ _ k0 c44) (xcwV 2 hts fdX8_of q_m_X8_63 ⟨Nat.le_of_ble_eq_true rfl, Nat.le_of_ble_eq_true rfl⟩) (xRecv hK hR (ci := 12) rfl k0.1) hR hK hE hS rfl hl.1 rfl (Nat.le_of_ble_eq_true rfl) dX8_sell_168 ⟨Nat.zero_le _, Nat.zero_le _⟩ (fun H locs hR hS => ?_)
                refine lv_iadd (pc := 171) hx hb dX8_sell_171 ?_
                refine lv_dup2_11 (pc := 172) hx hb dX8_sell_172 rfl rfl ?_
                obtain ⟨c45, h⟩ := xk_inv h
                refine xr_ialdk (pc := 173) (Int32.toNatClampNeg (((187 : Int32) + r44))) hx hb hK hR k0.2.1.2.1 k0.2.1.2.2 rfl c45 dX8_sell_173 ?_
                refine lv_iload_n (pc := 174) hx hb dX8_sell_174 rfl (lv_at hl 0 rfl) ?_
                refine lv_iadd (pc := 175) hx hb dX8_sell_175 ?_
                obtain ⟨c46, h⟩ := xk_inv h
                refine xr_iastk (pc := 176) (Int32.toNatClampNeg (((187 : Int32) + r44))) hx hb hK hR hF hS k0.2.1.2.1 k0.2.1.2.2 rfl c46 dX8_sell_176 (fun H locs hR hS => ?_)
                refine lv_iload_n (pc := 177) hx hb dX8_sell_177 rfl (lv_at hl 0 rfl) ?_
                exact xf_i (pc := 178) hx hb hr rfl hlocks h hR hK hS dX8_sell_178
              · have h := xneg c43 h
                refine lv_iload_n (pc := 152) hx hb dX8_sell_152 rfl (lv_at hl 0 rfl) ?_
                refine lv_goto (pc := 153) (tgt := 157) hx hb dX8_sell_153 (by decide) ?_
                refine lv_istore_n (pc := 157) (lv' := [(3, .int _), (0, .ref _), (1, .int _), (2, .int _)]) hx hb dX8_sell_157 rfl hl (Nat.le_of_ble_eq_true rfl) rfl (fun ls hl => ?_)
                refine lv_aload_n (pc := 158) hx hb dX8_sell_158 rfl (lv_at hl 1 rfl) ?_
                refine xr_getR (pc := 159) (ci := 12) hx hb hts inX8 hown hK hR rfl k0.1 0 (Nat.le_of_ble_eq_true rfl) rfl k0.2.1.1 (hts _ q_f_X8_7) (fun _ h9 => h9) dX8_sell_159 ?_
                refine lv_sipush (pc := 162) hx hb dX8_sell_162 ks_187 ?_
                refine lv_aload_n (pc := 165) hx hb dX8_sell_165 rfl (lv_at hl 1 rfl) ?_
                refine lv_iload_n (pc := 166) hx hb dX8_sell_166 rfl (lv_at hl 2 rfl) ?_
                refine lv_iconst (pc := 167) hx hb dX8_sell_167 kc_0 ?_
                obtain ⟨r47, m47, c47, h⟩ := xb_inv h
                refine xc_iV (pc := 168) (As := [.int _, .int _]) (rest := [.int _, .ref _]) ⟨hx, hb, hml, hown, hts⟩ (mX8_of hF _ _ _ k0 c47) (xcwV 2 hts fdX8_of q_m_X8_63 ⟨Nat.le_of_ble_eq_true rfl, Nat.le_of_ble_eq_true rfl⟩) (xRecv hK hR (ci := 12) rfl k0.1) hR hK hE hS rfl hl.1 rfl (Nat.le_of_ble_eq_true rfl) dX8_sell_168 ⟨Nat.zero_le _, Nat.zero_le _⟩ (fun H locs hR hS => ?_)
                refine lv_iadd (pc := 171) hx hb dX8_sell_171 ?_
                refine lv_dup2_11 (pc := 172) hx hb dX8_sell_172 rfl rfl ?_
                obtain ⟨c48, h⟩ := xk_inv h
                refine xr_ialdk (pc := 173) (Int32.toNatClampNeg (((187 : Int32) + r47))) hx hb hK hR k0.2.1.2.1 k0.2.1.2.2 rfl c48 dX8_sell_173 ?_
                refine lv_iload_n (pc := 174) hx hb dX8_sell_174 rfl (lv_at hl 0 rfl) ?_
                refine lv_iadd (pc := 175) hx hb dX8_sell_175 ?_
                obtain ⟨c49, h⟩ := xk_inv h
                refine xr_iastk (pc := 176) (Int32.toNatClampNeg (((187 : Int32) + r47))) hx hb hK hR hF hS k0.2.1.2.1 k0.2.1.2.2 rfl c49 dX8_sell_176 (fun H locs hR hS => ?_)
                refine lv_iload_n (pc := 177) hx hb dX8_sell_177 rfl (lv_at hl 0 rfl) ?_
                exact xf_i (pc := 178) hx hb hr rfl hlocks h hR hK hS dX8_sell_178
            · have h := xneg c42 h
              refine lv_aload_n (pc := 137) hx hb dX8_sell_137 rfl (lv_at hl 1 rfl) ?_
              refine xr_getR (pc := 138) (ci := 12) hx hb hts inX8 hown hK hR rfl k0.1 0 (Nat.le_of_ble_eq_true rfl) rfl k0.2.1.1 (hts _ q_f_X8_7) (fun _ h9 => h9) dX8_sell_138 ?_
              refine lv_bipush (pc := 141) hx hb dX8_sell_141 kb_9 ?_
              refine lv_dup2_11 (pc := 143) hx hb dX8_sell_143 rfl rfl ?_
              refine xr_ialdk (pc := 144) 9 hx hb hK hR k0.2.1.2.1 k0.2.1.2.2 tn_9 (vl_9 (by decide)) dX8_sell_144 ?_
              refine lv_iload_n (pc := 145) hx hb dX8_sell_145 rfl (lv_at hl 0 rfl) ?_
              refine lv_isub (pc := 146) hx hb dX8_sell_146 ?_
              refine xr_iastk (pc := 147) 9 hx hb hK hR hF hS k0.2.1.2.1 k0.2.1.2.2 tn_9 (vl_9 (by decide)) dX8_sell_147 (fun H locs hR hS => ?_)
              refine lv_iload_n (pc := 148) hx hb dX8_sell_148 rfl (lv_at hl 0 rfl) ?_
              refine lv_if_le (pc := 149) (tgt := 156) hx hb dX8_sell_149 (by decide) (fun c50 => ?_) (fun c50 => ?_)
              · have h := xpos c50 h
                refine lv_iconst (pc := 156) hx hb dX8_sell_156 kc_0 ?_
                refine lv_istore_n (pc := 157) (lv' := [(3, .int _), (0, .ref _), (1, .int _), (2, .int _)]) hx hb dX8_sell_157 rfl hl (Nat.le_of_ble_eq_true rfl) rfl (fun ls hl => ?_)
                refine lv_aload_n (pc := 158) hx hb dX8_sell_158 rfl (lv_at hl 1 rfl) ?_
                refine xr_getR (pc := 159) (ci := 12) hx hb hts inX8 hown hK hR rfl k0.1 0 (Nat.le_of_ble_eq_true rfl) rfl k0.2.1.1 (hts _ q_f_X8_7) (fun _ h9 => h9) dX8_sell_159 ?_
                refine lv_sipush (pc := 162) hx hb dX8_sell_162 ks_187 ?_
                refine lv_aload_n (pc := 165) hx hb dX8_sell_165 rfl (lv_at hl 1 rfl) ?_
                refine lv_iload_n (pc := 166) hx hb dX8_sell_166 rfl (lv_at hl 2 rfl) ?_
                refine lv_iconst (pc := 167) hx hb dX8_sell_167 kc_0 ?_
                obtain ⟨r51, m51, c51, h⟩ := xb_inv h
                refine xc_iV (pc := 168) (As := [.int _, .int _]) (rest := [.int _, .ref _]) ⟨hx, hb, hml, hown, hts⟩ (mX8_of hF _ _ _ k0 c51) (xcwV 2 hts fdX8_of q_m_X8_63 ⟨Nat.le_of_ble_eq_true rfl, Nat.le_of_ble_eq_true rfl⟩) (xRecv hK hR (ci := 12) rfl k0.1) hR hK hE hS rfl hl.1 rfl (Nat.le_of_ble_eq_true rfl) dX8_sell_168 ⟨Nat.zero_le _, Nat.zero_le _⟩ (fun H locs hR hS => ?_)
                refine lv_iadd (pc := 171) hx hb dX8_sell_171 ?_
                refine lv_dup2_11 (pc := 172) hx hb dX8_sell_172 rfl rfl ?_
                obtain ⟨c52, h⟩ := xk_inv h
                refine xr_ialdk (pc := 173) (Int32.toNatClampNeg (((187 : Int32) + r51))) hx hb hK hR k0.2.1.2.1 k0.2.1.2.2 rfl c52 dX8_sell_173 ?_
                refine lv_iload_n (pc := 174) hx hb dX8_sell_174 rfl (lv_at hl 0 rfl) ?_
                refine lv_iadd (pc := 175) hx hb dX8_sell_175 ?_
                obtain ⟨c53, h⟩ := xk_inv h
                refine xr_iastk (pc := 176) (Int32.toNatClampNeg (((187 : Int32) + r51))) hx hb hK hR hF hS k0.2.1.2.1 k0.2.1.2.2 rfl c53 dX8_sell_176 (fun H locs hR hS => ?_)
                refine lv_iload_n (pc := 177) hx hb dX8_sell_177 rfl (lv_at hl 0 rfl) ?_
                exact xf_i (pc := 178) hx hb hr rfl hlocks h hR hK hS dX8_sell_178
              · have h := xneg c50 h
                refine lv_iload_n (pc := 152) hx hb dX8_sell_152 rfl (lv_at hl 0 rfl) ?_
                refine lv_goto (pc := 153) (tgt := 157) hx hb dX8_sell_153 (by decide) ?_
                refine lv_istore_n (pc := 157) (lv' := [(3, .int _), (0, .ref _), (1, .int _), (2, .int _)]) hx hb dX8_sell_157 rfl hl (Nat.le_of_ble_eq_true rfl) rfl (fun ls hl => ?_)
                refine lv_aload_n (pc := 158) hx hb dX8_sell_158 rfl (lv_at hl 1 rfl) ?_
                refine xr_getR (pc := 159) (ci := 12) hx hb hts inX8 hown hK hR rfl k0.1 0 (Nat.le_of_ble_eq_true rfl) rfl k0.2.1.1 (hts _ q_f_X8_7) (fun _ h9 => h9) dX8_sell_159 ?_
                refine lv_sipush (pc := 162) hx hb dX8_sell_162 ks_187 ?_
                refine lv_aload_n (pc := 165) hx hb dX8_sell_165 rfl (lv_at hl 1 rfl) ?_
                refine lv_iload_n (pc := 166) hx hb dX8_sell_166 rfl (lv_at hl 2 rfl) ?_
                refine lv_iconst (pc := 167) hx hb dX8_sell_167 kc_0 ?_
                obtain ⟨r54, m54, c54, h⟩ := xb_inv h
                refine xc_iV (pc := 168) (As := [.int _, .int _]) (rest := [.int _, .ref _]) ⟨hx, hb, hml, hown, hts⟩ (mX8_of hF _ _ _ k0 c54) (xcwV 2 hts fdX8_of q_m_X8_63 ⟨Nat.le_of_ble_eq_true rfl, Nat.le_of_ble_eq_true rfl⟩) (xRecv hK hR (ci := 12) rfl k0.1) hR hK hE hS rfl hl.1 rfl (Nat.le_of_ble_eq_true rfl) dX8_sell_168 ⟨Nat.zero_le _, Nat.zero_le _⟩ (fun H locs hR hS => ?_)
                refine lv_iadd (pc := 171) hx hb dX8_sell_171 ?_
                refine lv_dup2_11 (pc := 172) hx hb dX8_sell_172 rfl rfl ?_
                obtain ⟨c55, h⟩ := xk_inv h
                refine xr_ialdk (pc := 173) (Int32.toNatClampNeg (((187 : Int32) + r54))) hx hb hK hR k0.2.1.2.1 k0.2.1.2.2 rfl c55 dX8_sell_173 ?_
                refine lv_iload_n (pc := 174) hx hb dX8_sell_174 rfl (lv_at hl 0 rfl) ?_
                refine lv_iadd (pc := 175) hx hb dX8_sell_175 ?_
                obtain ⟨c56, h⟩ := xk_inv h
                refine xr_iastk (pc := 176) (Int32.toNatClampNeg (((187 : Int32) + r54))) hx hb hK hR hF hS k0.2.1.2.1 k0.2.1.2.2 rfl c56 dX8_sell_176 (fun H locs hR hS => ?_)
                refine lv_iload_n (pc := 177) hx hb dX8_sell_177 rfl (lv_at hl 0 rfl) ?_
                exact xf_i (pc := 178) hx hb hr rfl hlocks h hR hK hS dX8_sell_178
          · have h := xneg c38 h
            refine lv_aload_n (pc := 72) hx hb dX8_sell_72 rfl (lv_at hl 0 rfl) ?_
            refine lv_iconst (pc := 73) hx hb dX8_sell_73 kc_3 ?_
            refine lv_bipush (pc := 74) hx hb dX8_sell_74 kb_8 ?_
            refine lv_aload_n (pc := 76) hx hb dX8_sell_76 rfl (lv_at hl 0 rfl) ?_
            refine lv_iload_n (pc := 77) hx hb dX8_sell_77 rfl (lv_at hl 1 rfl) ?_
            refine lv_bipush (pc := 78) hx hb dX8_sell_78 kb_7 ?_
            obtain ⟨r57, m57, c57, h⟩ := xb_inv h
            refine xc_iV (pc := 80) (As := [.int _, .int _]) (rest := [.int _, .int _, .ref _]) ⟨hx, hb, hml, hown, hts⟩ (mX8_of hF _ _ _ k0 c57) (xcwV 2 hts fdX8_of q_m_X8_63 ⟨Nat.le_of_ble_eq_true rfl, Nat.le_of_ble_eq_true rfl⟩) (xRecv hK hR (ci := 12) rfl k0.1) hR hK hE hS rfl hl.1 rfl (Nat.le_of_ble_eq_true rfl) dX8_sell_80 ⟨Nat.zero_le _, Nat.zero_le _⟩ (fun H locs hR hS => ?_)
            obtain ⟨r58, m58, c58, h⟩ := xb_inv h
            refine xc_iV (pc := 83) (As := [.int _, .int _, .int _]) (rest := []) ⟨hx, hb, hml, hown, hts⟩ (mX8_refuses hF _ _ _ _ k0 c58) (xcwV 3 hts fdX8_refuses q_m_X8_71 ⟨Nat.le_of_ble_eq_true rfl, Nat.le_of_ble_eq_true rfl⟩) (xRecv hK hR (ci := 12) rfl k0.1) hR hK hE hS rfl hl.1 rfl (Nat.le_of_ble_eq_true rfl) dX8_sell_83 ⟨Nat.zero_le _, Nat.zero_le _⟩ (fun H locs hR hS => ?_)
            exact xf_i (pc := 86) hx hb hr rfl hlocks h hR hK hS dX8_sell_86
        · have h := xneg c36 h
          refine lv_aload_n (pc := 47) hx hb dX8_sell_47 rfl (lv_at hl 0 rfl) ?_
          refine lv_iconst (pc := 48) hx hb dX8_sell_48 kc_3 ?_
          refine lv_bipush (pc := 49) hx hb dX8_sell_49 kb_7 ?_
          refine lv_aload_n (pc := 51) hx hb dX8_sell_51 rfl (lv_at hl 0 rfl) ?_
          refine lv_iload_n (pc := 52) hx hb dX8_sell_52 rfl (lv_at hl 1 rfl) ?_
          refine lv_iconst (pc := 53) hx hb dX8_sell_53 kc_4 ?_
          obtain ⟨r59, m59, c59, h⟩ := xb_inv h
          refine xc_iV (pc := 54) (As := [.int _, .int _]) (rest := [.int _, .int _, .ref _]) ⟨hx, hb, hml, hown, hts⟩ (mX8_of hF _ _ _ k0 c59) (xcwV 2 hts fdX8_of q_m_X8_63 ⟨Nat.le_of_ble_eq_true rfl, Nat.le_of_ble_eq_true rfl⟩) (xRecv hK hR (ci := 12) rfl k0.1) hR hK hE hS rfl hl.1 rfl (Nat.le_of_ble_eq_true rfl) dX8_sell_54 ⟨Nat.zero_le _, Nat.zero_le _⟩ (fun H locs hR hS => ?_)
          obtain ⟨r60, m60, c60, h⟩ := xb_inv h
          refine xc_iV (pc := 57) (As := [.int _, .int _, .int _]) (rest := []) ⟨hx, hb, hml, hown, hts⟩ (mX8_refuses hF _ _ _ _ k0 c60) (xcwV 3 hts fdX8_refuses q_m_X8_71 ⟨Nat.le_of_ble_eq_true rfl, Nat.le_of_ble_eq_true rfl⟩) (xRecv hK hR (ci := 12) rfl k0.1) hR hK hE hS rfl hl.1 rfl (Nat.le_of_ble_eq_true rfl) dX8_sell_57 ⟨Nat.zero_le _, Nat.zero_le _⟩ (fun H locs hR hS => ?_)
          exact xf_i (pc := 60) hx hb hr rfl hlocks h hR hK hS dX8_sell_60
      · have h := xneg c34 h
        refine lv_iconst (pc := 35) hx hb dX8_sell_35 kc_0 ?_
        exact xf_i (pc := 36) hx hb hr rfl hlocks h hR hK hS dX8_sell_36
  · have h := xpos c2 h
    refine lv_iconst (pc := 9) hx hb dX8_sell_9 kc_1 ?_
    refine lv_goto (pc := 10) (tgt := 29) hx hb dX8_sell_10 (by decide) ?_
    obtain ⟨r61, m61, c61, h⟩ := xb_inv h
    refine xc_iV (pc := 29) (As := [.int _]) (rest := []) ⟨hx, hb, hml, hown, hts⟩ (mX8_fails hF _ _ k0 c61) (xcwV 1 hts fdX8_fails q_m_X8_67 ⟨Nat.le_of_ble_eq_true rfl, Nat.le_of_ble_eq_true rfl⟩) (xRecv hK hR (ci := 12) rfl k0.1) hR hK hE hS rfl hl.1 rfl (Nat.le_of_ble_eq_true rfl) dX8_sell_29 ⟨Nat.zero_le _, Nat.zero_le _⟩ (fun H locs hR hS => ?_)
    refine lv_if_eq (pc := 32) (tgt := 37) hx hb dX8_sell_32 (by decide) (fun c62 => ?_) (fun c62 => ?_)
    · have h := xpos c62 h
      refine lv_aload_n (pc := 37) hx hb dX8_sell_37 rfl (lv_at hl 0 rfl) ?_
      refine lv_iload_n (pc := 38) hx hb dX8_sell_38 rfl (lv_at hl 1 rfl) ?_
      refine lv_iconst (pc := 39) hx hb dX8_sell_39 kc_4 ?_
      obtain ⟨r63, m63, c63, h⟩ := xb_inv h
      refine xc_iV (pc := 40) (As := [.int _, .int _]) (rest := []) ⟨hx, hb, hml, hown, hts⟩ (mX8_of hF _ _ _ k0 c63) (xcwV 2 hts fdX8_of q_m_X8_63 ⟨Nat.le_of_ble_eq_true rfl, Nat.le_of_ble_eq_true rfl⟩) (xRecv hK hR (ci := 12) rfl k0.1) hR hK hE hS rfl hl.1 rfl (Nat.le_of_ble_eq_true rfl) dX8_sell_40 ⟨Nat.zero_le _, Nat.zero_le _⟩ (fun H locs hR hS => ?_)
      refine lv_iconst (pc := 43) hx hb dX8_sell_43 kc_1 ?_
      refine lv_icmp_eq (pc := 44) (tgt := 61) hx hb dX8_sell_44 (by decide) (fun c64 => ?_) (fun c64 => ?_)
      · have h := xpos c64 h
        refine lv_iload_n (pc := 61) hx hb dX8_sell_61 rfl (lv_at hl 2 rfl) ?_
        refine lv_aload_n (pc := 62) hx hb dX8_sell_62 rfl (lv_at hl 0 rfl) ?_
        refine lv_iload_n (pc := 63) hx hb dX8_sell_63 rfl (lv_at hl 1 rfl) ?_
        refine lv_bipush (pc := 64) hx hb dX8_sell_64 kb_7 ?_
        obtain ⟨r65, m65, c65, h⟩ := xb_inv h
        refine xc_iV (pc := 66) (As := [.int _, .int _]) (rest := [.int _]) ⟨hx, hb, hml, hown, hts⟩ (mX8_of hF _ _ _ k0 c65) (xcwV 2 hts fdX8_of q_m_X8_63 ⟨Nat.le_of_ble_eq_true rfl, Nat.le_of_ble_eq_true rfl⟩) (xRecv hK hR (ci := 12) rfl k0.1) hR hK hE hS rfl hl.1 rfl (Nat.le_of_ble_eq_true rfl) dX8_sell_66 ⟨Nat.zero_le _, Nat.zero_le _⟩ (fun H locs hR hS => ?_)
        refine lv_icmp_ge (pc := 69) (tgt := 87) hx hb dX8_sell_69 (by decide) (fun c66 => ?_) (fun c66 => ?_)
        · have h := xpos c66 h
          refine lv_aload_n (pc := 87) hx hb dX8_sell_87 rfl (lv_at hl 0 rfl) ?_
          refine lv_aload_n (pc := 88) hx hb dX8_sell_88 rfl (lv_at hl 0 rfl) ?_
          refine xr_getR (pc := 89) (ci := 12) hx hb hts inX8 hown hK hR rfl k0.1 0 (Nat.le_of_ble_eq_true rfl) rfl k0.2.1.1 (hts _ q_f_X8_7) (fun _ h9 => h9) dX8_sell_89 ?_
          obtain ⟨m67, c67, h⟩ := xbv_inv h
          refine xc_vV (pc := 92) (As := [.ref _]) (rest := []) ⟨hx, hb, hml, hown, hts⟩ (mX8_keeps hF _ _ k0 k0.2.1.2 c67) (xcwV 1 hts fdX8_keeps q_m_X8_75 ⟨Nat.le_of_ble_eq_true rfl, Nat.le_of_ble_eq_true rfl⟩) (xRecv hK hR (ci := 12) rfl k0.1) hR hK hE hS rfl hl.1 rfl (Nat.le_of_ble_eq_true rfl) dX8_sell_92 ⟨Nat.zero_le _, Nat.zero_le _⟩ (fun H locs hR hS => ?_)
          refine lv_iload_n (pc := 95) hx hb dX8_sell_95 rfl (lv_at hl 2 rfl) ?_
          refine lv_aload_n (pc := 96) hx hb dX8_sell_96 rfl (lv_at hl 0 rfl) ?_
          refine lv_iload_n (pc := 97) hx hb dX8_sell_97 rfl (lv_at hl 1 rfl) ?_
          refine lv_bipush (pc := 98) hx hb dX8_sell_98 kb_9 ?_
          obtain ⟨r68, m68, c68, h⟩ := xb_inv h
          refine xc_iV (pc := 100) (As := [.int _, .int _]) (rest := [.int _]) ⟨hx, hb, hml, hown, hts⟩ (mX8_of hF _ _ _ k0 c68) (xcwV 2 hts fdX8_of q_m_X8_63 ⟨Nat.le_of_ble_eq_true rfl, Nat.le_of_ble_eq_true rfl⟩) (xRecv hK hR (ci := 12) rfl k0.1) hR hK hE hS rfl hl.1 rfl (Nat.le_of_ble_eq_true rfl) dX8_sell_100 ⟨Nat.zero_le _, Nat.zero_le _⟩ (fun H locs hR hS => ?_)
          refine lv_isub (pc := 103) hx hb dX8_sell_103 ?_
          refine lv_istore_n (pc := 104) (lv' := [(3, .int _), (0, .ref _), (1, .int _), (2, .int _)]) hx hb dX8_sell_104 rfl hl (Nat.le_of_ble_eq_true rfl) rfl (fun ls hl => ?_)
          refine lv_aload_n (pc := 105) hx hb dX8_sell_105 rfl (lv_at hl 1 rfl) ?_
          refine lv_iload_n (pc := 106) hx hb dX8_sell_106 rfl (lv_at hl 2 rfl) ?_
          refine lv_iconst (pc := 107) hx hb dX8_sell_107 kc_4 ?_
          refine lv_iconst (pc := 108) hx hb dX8_sell_108 kc_3 ?_
          obtain ⟨m69, c69, h⟩ := xbv_inv h
          refine xc_vV (pc := 109) (As := [.int _, .int _, .int _]) (rest := []) ⟨hx, hb, hml, hown, hts⟩ (mX8_lays hF _ _ _ _ k0 c69) (xcwV 3 hts fdX8_lays q_m_X8_79 ⟨Nat.le_of_ble_eq_true rfl, Nat.le_of_ble_eq_true rfl⟩) (xRecv hK hR (ci := 12) rfl k0.1) hR hK hE hS rfl hl.1 rfl (Nat.le_of_ble_eq_true rfl) dX8_sell_109 ⟨Nat.zero_le _, Nat.zero_le _⟩ (fun H locs hR hS => ?_)
          refine lv_aload_n (pc := 112) hx hb dX8_sell_112 rfl (lv_at hl 1 rfl) ?_
          refine xr_getR (pc := 113) (ci := 12) hx hb hts inX8 hown hK hR rfl k0.1 0 (Nat.le_of_ble_eq_true rfl) rfl k0.2.1.1 (hts _ q_f_X8_7) (fun _ h9 => h9) dX8_sell_113 ?_
          refine lv_iconst (pc := 116) hx hb dX8_sell_116 kc_4 ?_
          refine lv_dup2_11 (pc := 117) hx hb dX8_sell_117 rfl rfl ?_
          refine xr_ialdk (pc := 118) 4 hx hb hK hR k0.2.1.2.1 k0.2.1.2.2 tn_4 (vl_4 (by decide)) dX8_sell_118 ?_
          refine lv_iload_n (pc := 119) hx hb dX8_sell_119 rfl (lv_at hl 3 rfl) ?_
          refine lv_iadd (pc := 120) hx hb dX8_sell_120 ?_
          refine xr_iastk (pc := 121) 4 hx hb hK hR hF hS k0.2.1.2.1 k0.2.1.2.2 tn_4 (vl_4 (by decide)) dX8_sell_121 (fun H locs hR hS => ?_)
          refine lv_aload_n (pc := 122) hx hb dX8_sell_122 rfl (lv_at hl 1 rfl) ?_
          refine xr_getR (pc := 123) (ci := 12) hx hb hts inX8 hown hK hR rfl k0.1 0 (Nat.le_of_ble_eq_true rfl) rfl k0.2.1.1 (hts _ q_f_X8_7) (fun _ h9 => h9) dX8_sell_123 ?_
          refine lv_bipush (pc := 126) hx hb dX8_sell_126 kb_7 ?_
          refine lv_dup2_11 (pc := 128) hx hb dX8_sell_128 rfl rfl ?_
          refine xr_ialdk (pc := 129) 7 hx hb hK hR k0.2.1.2.1 k0.2.1.2.2 tn_7 (vl_7 (by decide)) dX8_sell_129 ?_
          refine lv_iload_n (pc := 130) hx hb dX8_sell_130 rfl (lv_at hl 3 rfl) ?_
          refine lv_iadd (pc := 131) hx hb dX8_sell_131 ?_
          refine xr_iastk (pc := 132) 7 hx hb hK hR hF hS k0.2.1.2.1 k0.2.1.2.2 tn_7 (vl_7 (by decide)) dX8_sell_132 (fun H locs hR hS => ?_)
          refine lv_iload_n (pc := 133) hx hb dX8_sell_133 rfl (lv_at hl 0 rfl) ?_
          refine lv_if_ge (pc := 134) (tgt := 148) hx hb dX8_sell_134 (by decide) (fun c70 => ?_) (fun c70 => ?_)
          · have h := xpos c70 h
            refine lv_iload_n (pc := 148) hx hb dX8_sell_148 rfl (lv_at hl 0 rfl) ?_
            refine lv_if_le (pc := 149) (tgt := 156) hx hb dX8_sell_149 (by decide) (fun c71 => ?_) (fun c71 => ?_)
            · have h := xpos c71 h
              refine lv_iconst (pc := 156) hx hb dX8_sell_156 kc_0 ?_
              refine lv_istore_n (pc := 157) (lv' := [(3, .int _), (0, .ref _), (1, .int _), (2, .int _)]) hx hb dX8_sell_157 rfl hl (Nat.le_of_ble_eq_true rfl) rfl (fun ls hl => ?_)
              refine lv_aload_n (pc := 158) hx hb dX8_sell_158 rfl (lv_at hl 1 rfl) ?_
              refine xr_getR (pc := 159) (ci := 12) hx hb hts inX8 hown hK hR rfl k0.1 0 (Nat.le_of_ble_eq_true rfl) rfl k0.2.1.1 (hts _ q_f_X8_7) (fun _ h9 => h9) dX8_sell_159 ?_
              refine lv_sipush (pc := 162) hx hb dX8_sell_162 ks_187 ?_
              refine lv_aload_n (pc := 165) hx hb dX8_sell_165 rfl (lv_at hl 1 rfl) ?_
              refine lv_iload_n (pc := 166) hx hb dX8_sell_166 rfl (lv_at hl 2 rfl) ?_
              refine lv_iconst (pc := 167) hx hb dX8_sell_167 kc_0 ?_
              obtain ⟨r72, m72, c72, h⟩ := xb_inv h
              refine xc_iV (pc := 168) (As := [.int _, .int _]) (rest := [.int _, .ref _]) ⟨hx, hb, hml, hown, hts⟩ (mX8_of hF _ _ _ k0 c72) (xcwV 2 hts fdX8_of q_m_X8_63 ⟨Nat.le_of_ble_eq_true rfl, Nat.le_of_ble_eq_true rfl⟩) (xRecv hK hR (ci := 12) rfl k0.1) hR hK hE hS rfl hl.1 rfl (Nat.le_of_ble_eq_true rfl) dX8_sell_168 ⟨Nat.zero_le _, Nat.zero_le _⟩ (fun H locs hR hS => ?_)
              refine lv_iadd (pc := 171) hx hb dX8_sell_171 ?_
              refine lv_dup2_11 (pc := 172) hx hb dX8_sell_172 rfl rfl ?_
              obtain ⟨c73, h⟩ := xk_inv h
              refine xr_ialdk (pc := 173) (Int32.toNatClampNeg (((187 : Int32) + r72))) hx hb hK hR k0.2.1.2.1 k0.2.1.2.2 rfl c73 dX8_sell_173 ?_
              refine lv_iload_n (pc := 174) hx hb dX8_sell_174 rfl (lv_at hl 0 rfl) ?_
              refine lv_iadd (pc := 175) hx hb dX8_sell_175 ?_
              obtain ⟨c74, h⟩ := xk_inv h
              refine xr_iastk (pc := 176) (Int32.toNatClampNeg (((187 : Int32) + r72))) hx hb hK hR hF hS k0.2.1.2.1 k0.2.1.2.2 rfl c74 dX8_sell_176 (fun H locs hR hS => ?_)
              refine lv_iload_n (pc := 177) hx hb dX8_sell_177 rfl (lv_at hl 0 rfl) ?_
              exact xf_i (pc := 178) hx hb hr rfl hlocks h hR hK hS dX8_sell_178
            · have h := xneg c71 h
              refine lv_iload_n (pc := 152) hx hb dX8_sell_152 rfl (lv_at hl 0 rfl) ?_
              refine lv_goto (pc := 153) (tgt := 157) hx hb dX8_sell_153 (by decide) ?_
              refine lv_istore_n (pc := 157) (lv' := [(3, .int _), (0, .ref _), (1, .int _), (2, .int _)]) hx hb dX8_sell_157 rfl hl (Nat.le_of_ble_eq_true rfl) rfl (fun ls hl => ?_)
              refine lv_aload_n (pc := 158) hx hb dX8_sell_158 rfl (lv_at hl 1 rfl) ?_
              refine xr_getR (pc := 159) (ci := 12) hx hb hts inX8 hown hK hR rfl k0.1 0 (Nat.le_of_ble_eq_true rfl) rfl k0.2.1.1 (hts _ q_f_X8_7) (fun _ h9 => h9) dX8_sell_159 ?_
              refine lv_sipush (pc := 162) hx hb dX8_sell_162 ks_187 ?_
              refine lv_aload_n (pc := 165) hx hb dX8_sell_165 rfl (lv_at hl 1 rfl) ?_
              refine lv_iload_n (pc := 166) hx hb dX8_sell_166 rfl (lv_at hl 2 rfl) ?_
              refine lv_iconst (pc := 167) hx hb dX8_sell_167 kc_0 ?_
              obtain ⟨r75, m75, c75, h⟩ := xb_inv h
              refine xc_iV (pc := 168) (As := [.int _, .int _]) (rest := [.int _, .ref _]) ⟨hx, hb, hml, hown, hts⟩ (mX8_of hF _ _ _ k0 c75) (xcwV 2 hts fdX8_of q_m_X8_63 ⟨Nat.le_of_ble_eq_true rfl, Nat.le_of_ble_eq_true rfl⟩) (xRecv hK hR (ci := 12) rfl k0.1) hR hK hE hS rfl hl.1 rfl (Nat.le_of_ble_eq_true rfl) dX8_sell_168 ⟨Nat.zero_le _, Nat.zero_le _⟩ (fun H locs hR hS => ?_)
              refine lv_iadd (pc := 171) hx hb dX8_sell_171 ?_
              refine lv_dup2_11 (pc := 172) hx hb dX8_sell_172 rfl rfl ?_
              obtain ⟨c76, h⟩ := xk_inv h
              refine xr_ialdk (pc := 173) (Int32.toNatClampNeg (((187 : Int32) + r75))) hx hb hK hR k0.2.1.2.1 k0.2.1.2.2 rfl c76 dX8_sell_173 ?_
              refine lv_iload_n (pc := 174) hx hb dX8_sell_174 rfl (lv_at hl 0 rfl) ?_
              refine lv_iadd (pc := 175) hx hb dX8_sell_175 ?_
              obtain ⟨c77, h⟩ := xk_inv h
              refine xr_iastk (pc := 176) (Int32.toNatClampNeg (((187 : Int32) + r75))) hx hb hK hR hF hS k0.2.1.2.1 k0.2.1.2.2 rfl c77 dX8_sell_176 (fun H locs hR hS => ?_)
              refine lv_iload_n (pc := 177) hx hb dX8_sell_177 rfl (lv_at hl 0 rfl) ?_
              exact xf_i (pc := 178) hx hb hr rfl hlocks h hR hK hS dX8_sell_178
          · have h := xneg c70 h
            refine lv_aload_n (pc := 137) hx hb dX8_sell_137 rfl (lv_at hl 1 rfl) ?_
            refine xr_getR (pc := 138) (ci := 12) hx hb hts inX8 hown hK hR rfl k0.1 0 (Nat.le_of_ble_eq_true rfl) rfl k0.2.1.1 (hts _ q_f_X8_7) (fun _ h9 => h9) dX8_sell_138 ?_
            refine lv_bipush (pc := 141) hx hb dX8_sell_141 kb_9 ?_
            refine lv_dup2_11 (pc := 143) hx hb dX8_sell_143 rfl rfl ?_
            refine xr_ialdk (pc := 144) 9 hx hb hK hR k0.2.1.2.1 k0.2.1.2.2 tn_9 (vl_9 (by decide)) dX8_sell_144 ?_
            refine lv_iload_n (pc := 145) hx hb dX8_sell_145 rfl (lv_at hl 0 rfl) ?_
            refine lv_isub (pc := 146) hx hb dX8_sell_146 ?_
            refine xr_iastk (pc := 147) 9 hx hb hK hR hF hS k0.2.1.2.1 k0.2.1.2.2 tn_9 (vl_9 (by decide)) dX8_sell_147 (fun H locs hR hS => ?_)
            refine lv_iload_n (pc := 148) hx hb dX8_sell_148 rfl (lv_at hl 0 rfl) ?_
            refine lv_if_le (pc := 149) (tgt := 156) hx hb dX8_sell_149 (by decide) (fun c78 => ?_) (fun c78 => ?_)
            · have h := xpos c78 h
              refine lv_iconst (pc := 156) hx hb dX8_sell_156 kc_0 ?_
              refine lv_istore_n (pc := 157) (lv' := [(3, .int _), (0, .ref _), (1, .int _), (2, .int _)]) hx hb dX8_sell_157 rfl hl (Nat.le_of_ble_eq_true rfl) rfl (fun ls hl => ?_)
              refine lv_aload_n (pc := 158) hx hb dX8_sell_158 rfl (lv_at hl 1 rfl) ?_
              refine xr_getR (pc := 159) (ci := 12) hx hb hts inX8 hown hK hR rfl k0.1 0 (Nat.le_of_ble_eq_true rfl) rfl k0.2.1.1 (hts _ q_f_X8_7) (fun _ h9 => h9) dX8_sell_159 ?_
              refine lv_sipush (pc := 162) hx hb dX8_sell_162 ks_187 ?_
              refine lv_aload_n (pc := 165) hx hb dX8_sell_165 rfl (lv_at hl 1 rfl) ?_
              refine lv_iload_n (pc := 166) hx hb dX8_sell_166 rfl (lv_at hl 2 rfl) ?_
              refine lv_iconst (pc := 167) hx hb dX8_sell_167 kc_0 ?_
              obtain ⟨r79, m79, c79, h⟩ := xb_inv h
              refine xc_iV (pc := 168) (As := [.int _, .int _]) (rest := [.int _, .ref _]) ⟨hx, hb, hml, hown, hts⟩ (mX8_of hF _ _ _ k0 c79) (xcwV 2 hts fdX8_of q_m_X8_63 ⟨Nat.le_of_ble_eq_true rfl, Nat.le_of_ble_eq_true rfl⟩) (xRecv hK hR (ci := 12) rfl k0.1) hR hK hE hS rfl hl.1 rfl (Nat.le_of_ble_eq_true rfl) dX8_sell_168 ⟨Nat.zero_le _, Nat.zero_le _⟩ (fun H locs hR hS => ?_)
              refine lv_iadd (pc := 171) hx hb dX8_sell_171 ?_
              refine lv_dup2_11 (pc := 172) hx hb dX8_sell_172 rfl rfl ?_
              obtain ⟨c80, h⟩ := xk_inv h
              refine xr_ialdk (pc := 173) (Int32.toNatClampNeg (((187 : Int32) + r79))) hx hb hK hR k0.2.1.2.1 k0.2.1.2.2 rfl c80 dX8_sell_173 ?_
              refine lv_iload_n (pc := 174) hx hb dX8_sell_174 rfl (lv_at hl 0 rfl) ?_
              refine lv_iadd (pc := 175) hx hb dX8_sell_175 ?_
              obtain ⟨c81, h⟩ := xk_inv h
              refine xr_iastk (pc := 176) (Int32.toNatClampNeg (((187 : Int32) + r79))) hx hb hK hR hF hS k0.2.1.2.1 k0.2.1.2.2 rfl c81 dX8_sell_176 (fun H locs hR hS => ?_)
              refine lv_iload_n (pc := 177) hx hb dX8_sell_177 rfl (lv_at hl 0 rfl) ?_
              exact xf_i (pc := 178) hx hb hr rfl hlocks h hR hK hS dX8_sell_178
            · have h := xneg c78 h
              refine lv_iload_n (pc := 152) hx hb dX8_sell_152 rfl (lv_at hl 0 rfl) ?_
              refine lv_goto (pc := 153) (tgt := 157) hx hb dX8_sell_153 (by decide) ?_
              refine lv_istore_n (pc := 157) (lv' := [(3, .int _), (0, .ref _), (1, .int _), (2, .int _)]) hx hb dX8_sell_157 rfl hl (Nat.le_of_ble_eq_true rfl) rfl (fun ls hl => ?_)
              refine lv_aload_n (pc := 158) hx hb dX8_sell_158 rfl (lv_at hl 1 rfl) ?_
              refine xr_getR (pc := 159) (ci := 12) hx hb hts inX8 hown hK hR rfl k0.1 0 (Nat.le_of_ble_eq_true rfl) rfl k0.2.1.1 (hts _ q_f_X8_7) (fun _ h9 => h9) dX8_sell_159 ?_
              refine lv_sipush (pc := 162) hx hb dX8_sell_162 ks_187 ?_
              refine lv_aload_n (pc := 165) hx hb dX8_sell_165 rfl (lv_at hl 1 rfl) ?_
              refine lv_iload_n (pc := 166) hx hb dX8_sell_166 rfl (lv_at hl 2 rfl) ?_
              refine lv_iconst (pc := 167) hx hb dX8_sell_167 kc_0 ?_
              obtain ⟨r82, m82, c82, h⟩ := xb_inv h
              refine xc_iV (pc := 168) (As := [.int _, .int _]) (rest := [.int _, .ref _]) ⟨hx, hb, hml, hown, hts⟩ (mX8_of hF _ _ _ k0 c82) (xcwV 2 hts fdX8_of q_m_X8_63 ⟨Nat.le_of_ble_eq_true rfl, Nat.le_of_ble_eq_true rfl⟩) (xRecv hK hR (ci := 12) rfl k0.1) hR hK hE hS rfl hl.1 rfl (Nat.le_of_ble_eq_true rfl) dX8_sell_168 ⟨Nat.zero_le _, Nat.zero_le _⟩ (fun H locs hR hS => ?_)
              refine lv_iadd (pc := 171) hx hb dX8_sell_171 ?_
              refine lv_dup2_11 (pc := 172) hx hb dX8_sell_172 rfl rfl ?_
              obtain ⟨c83, h⟩ := xk_inv h
              refine xr_ialdk (pc := 173) (Int32.toNatClampNeg (((187 : Int32) + r82))) hx hb hK hR k0.2.1.2.1 k0.2.1.2.2 rfl c83 dX8_sell_173 ?_
              refine lv_iload_n (pc := 174) hx hb dX8_sell_174 rfl (lv_at hl 0 rfl) ?_
              refine lv_iadd (pc := 175) hx hb dX8_sell_175 ?_
              obtain ⟨c84, h⟩ := xk_inv h
              refine xr_iastk (pc := 176) (Int32.toNatClampNeg (((187 : Int32) + r82))) hx hb hK hR hF hS k0.2.1.2.1 k0.2.1.2.2 rfl c84 dX8_sell_176 (fun H locs hR hS => ?_)
              refine lv_iload_n (pc := 177) hx hb dX8_sell_177 rfl (lv_at hl 0 rfl) ?_
              exact xf_i (pc := 178) hx hb hr rfl hlocks h hR hK hS dX8_sell_178
        · have h := xneg c66 h
          refine lv_aload_n (pc := 72) hx hb dX8_sell_72 rfl (lv_at hl 0 rfl) ?_
          refine lv_iconst (pc := 73) hx hb dX8_sell_73 kc_3 ?_
          refine lv_bipush (pc := 74) hx hb dX8_sell_74 kb_8 ?_
          refine lv_aload_n (pc := 76) hx hb dX8_sell_76 rfl (lv_at hl 0 rfl) ?_
          refine lv_iload_n (pc := 77) hx hb dX8_sell_77 rfl (lv_at hl 1 rfl) ?_
          refine lv_bipush (pc := 78) hx hb dX8_sell_78 kb_7 ?_
          obtain ⟨r85, m85, c85, h⟩ := xb_inv h
          refine xc_iV (pc := 80) (As := [.int _, .int _]) (rest := [.int _, .int _, .ref _]) ⟨hx, hb, hml, hown, hts⟩ (mX8_of hF _ _ _ k0 c85) (xcwV 2 hts fdX8_of q_m_X8_63 ⟨Nat.le_of_ble_eq_true rfl, Nat.le_of_ble_eq_true rfl⟩) (xRecv hK hR (ci := 12) rfl k0.1) hR hK hE hS rfl hl.1 rfl (Nat.le_of_ble_eq_true rfl) dX8_sell_80 ⟨Nat.zero_le _, Nat.zero_le _⟩ (fun H locs hR hS => ?_)
          obtain ⟨r86, m86, c86, h⟩ := xb_inv h
          refine xc_iV (pc := 83) (As := [.int _, .int _, .int _]) (rest := []) ⟨hx, hb, hml, hown, hts⟩ (mX8_refuses hF _ _ _ _ k0 c86) (xcwV 3 hts fdX8_refuses q_m_X8_71 ⟨Nat.le_of_ble_eq_true rfl, Nat.le_of_ble_eq_true rfl⟩) (xRecv hK hR (ci := 12) rfl k0.1) hR hK hE hS rfl hl.1 rfl (Nat.le_of_ble_eq_true rfl) dX8_sell_83 ⟨Nat.zero_le _, Nat.zero_le _⟩ (fun H locs hR hS => ?_)
          exact xf_i (pc := 86) hx hb hr rfl hlocks h hR hK hS dX8_sell_86
      · have h := xneg c64 h
        refine lv_aload_n (pc := 47) hx hb dX8_sell_47 rfl (lv_at hl 0 rfl) ?_
        refine lv_iconst (pc := 48) hx hb dX8_sell_48 kc_3 ?_
        refine lv_bipush (pc := 49) hx hb dX8_sell_49 kb_7 ?_
        refine lv_aload_n (pc := 51) hx hb dX8_sell_51 rfl (lv_at hl 0 rfl) ?_
        refine lv_iload_n (pc := 52) hx hb dX8_sell_52 rfl (lv_at hl 1 rfl) ?_
        refine lv_iconst (pc := 53) hx hb dX8_sell_53 kc_4 ?_
        obtain ⟨r87, m87, c87, h⟩ := xb_inv h
        refine xc_iV (pc := 54) (As := [.int _, .int _]) (rest := [.int _, .int _, .ref _]) ⟨hx, hb, hml, hown, hts⟩ (mX8_of hF _ _ _ k0 c87) (xcwV 2 hts fdX8_of q_m_X8_63 ⟨Nat.le_of_ble_eq_true rfl, Nat.le_of_ble_eq_true rfl⟩) (xRecv hK hR (ci := 12) rfl k0.1) hR hK hE hS rfl hl.1 rfl (Nat.le_of_ble_eq_true rfl) dX8_sell_54 ⟨Nat.zero_le _, Nat.zero_le _⟩ (fun H locs hR hS => ?_)
        obtain ⟨r88, m88, c88, h⟩ := xb_inv h
        refine xc_iV (pc := 57) (As := [.int _, .int _, .int _]) (rest := []) ⟨hx, hb, hml, hown, hts⟩ (mX8_refuses hF _ _ _ _ k0 c88) (xcwV 3 hts fdX8_refuses q_m_X8_71 ⟨Nat.le_of_ble_eq_true rfl, Nat.le_of_ble_eq_true rfl⟩) (xRecv hK hR (ci := 12) rfl k0.1) hR hK hE hS rfl hl.1 rfl (Nat.le_of_ble_eq_true rfl) dX8_sell_57 ⟨Nat.zero_le _, Nat.zero_le _⟩ (fun H locs hR hS => ?_)
        exact xf_i (pc := 60) hx hb hr rfl hlocks h hR hK hS dX8_sell_60
    · have h := xneg c62 h
      refine lv_iconst (pc := 35) hx hb dX8_sell_35 kc_0 ?_
      exact xf_i (pc := 36) hx hb hr rfl hlocks h hR hK hS dX8_sell_36
set_option maxHeartbeats 1000000 in
set_option maxRecDepth 20000 in
theorem wX8_ofOwner_5 {p : Program} {l : Launch} {e : Env} {s : State} {m : MethodId} {args : Array Value} {below : List Frame} {meth : Method} {c : Code} {D : va_G} {ca : Nat → ClassId} {z : Nat} {G : xG} {X : va_W} {ad av : Nat → Nat} (hF : xFix z G X) (h0 : Nat) (p1 : Int32) (p2 : Int32) (k0 : xI_Model G h0) (hx : p.tables.exec = Jvm.exec) (hb : c.code = cX8_ofOwner) (hr : meth.sig.returnType = (some .int)) (hml : c.maxLocals = 5) (hlocks : meth.locks = false) (hts : ∀ w ∈ xAll, w.before args s = true) (hown : s.vm.findClass RX8 = some m.cls) (hK : va_K D vwCl (xT ca) s) (hE : xEv z ad av s s.heap) {μ1 : xM} {r : Int32} :
    ∀ (n : Nat) (x3 : Int32) (x4 : Int32) (μ : xM) (H : Heap) (locs : List Loc) (ls : Array Slot), lX8_ofOwner_5 h0 p1 p2 n x3 x4 μ = some (r, μ1) → xRep D ca G X μ H → va_S (fun q => z ≤ q) s.heap H locs → lv_has ls 5 [(0, .ref h0), (1, .int p1), (2, .int p2), (3, .int x3), (4, .int x4)] → W p l e (xRm 1 0 0) s m args below meth c H locs 0 0 (MQ below (va_Qi (fun (r' : Int32) (_ : Unit) => r' = r) (fun _ t => xB D ca G X μ1 t) (fun q => z ≤ q)) args s 0 0 (fun q => z ≤ q)) (F0 m 5 ls []) := by
  intro n
  induction n with
  | zero => intro x3 x4 μ H locs ls h; cases h
  | succ n ih =>
    intro x3 x4 μ H locs ls h hR hS hl
    rw [lX8_ofOwner_5] at h
    refine lv_iload (pc := 5) hx hb dX8_ofOwner_5 (lv_at hl 4 rfl) ?_
    refine lv_aload_n (pc := 7) hx hb dX8_ofOwner_7 rfl (lv_at hl 0 rfl) ?_
    refine xr_getR (pc := 8) (ci := 12) hx hb hts inX8 hown hK hR rfl k0.1 0 (Nat.le_of_ble_eq_true rfl) rfl k0.2.1.1 (hts _ q_f_X8_7) (fun _ h9 => h9) dX8_ofOwner_8 ?_
    refine lv_iconst (pc := 11) hx hb dX8_ofOwner_11 kc_1 ?_
    refine xr_ialdk (pc := 12) 1 hx hb hK hR k0.2.1.2.1 k0.2.1.2.2 tn_1 (vl_1 (by decide)) dX8_ofOwner_12 ?_
    refine lv_icmp_ge (pc := 13) (tgt := 52) hx hb dX8_ofOwner_13 (by decide) (fun c1 => ?_) (fun c1 => ?_)
    · have h := xpos c1 h
      refine lv_iload_n (pc := 52) hx hb dX8_ofOwner_52 rfl (lv_at hl 3 rfl) ?_
      exact xf_i (pc := 53) hx hb hr rfl hlocks h hR hK hS dX8_ofOwner_53
    · have h := xneg c1 h
      refine lv_iload_n (pc := 16) hx hb dX8_ofOwner_16 rfl (lv_at hl 3 rfl) ?_
      refine lv_aload_n (pc := 17) hx hb dX8_ofOwner_17 rfl (lv_at hl 0 rfl) ?_
      refine lv_iload (pc := 18) hx hb dX8_ofOwner_18 (lv_at hl 4 rfl) ?_
      refine lv_iconst (pc := 20) hx hb dX8_ofOwner_20 kc_0 ?_
      obtain ⟨r2, m2, c2, h⟩ := xb_inv h
      refine xc_iV (pc := 21) (As := [.int _, .int _]) (rest := [.int _]) ⟨hx, hb, hml, hown, hts⟩ (mX8_of hF _ _ _ k0 c2) (xcwV 2 hts fdX8_of q_m_X8_63 ⟨Nat.le_of_ble_eq_true rfl, Nat.le_of_ble_eq_true rfl⟩) (xRecv hK hR (ci := 12) rfl k0.1) hR hK hE hS rfl hl.1 rfl (Nat.le_of_ble_eq_true rfl) dX8_ofOwner_21 ⟨Nat.zero_le _, Nat.zero_le _⟩ (fun H locs hR hS => ?_)
      refine lv_iload_n (pc := 24) hx hb dX8_ofOwner_24 rfl (lv_at hl 1 rfl) ?_
      refine lv_icmp_ne (pc := 25) (tgt := 43) hx hb dX8_ofOwner_25 (by decide) (fun c3 => ?_) (fun c3 => ?_)
      · have h := xneg c3 h
        refine lv_iconst (pc := 43) hx hb dX8_ofOwner_43 kc_0 ?_
        refine lv_iadd (pc := 44) hx hb dX8_ofOwner_44 ?_
        refine lv_istore_n (pc := 45) (lv' := [(3, .int _), (0, .ref _), (1, .int _), (2, .int _), (4, .int _)]) hx hb dX8_ofOwner_45 rfl hl (Nat.le_of_ble_eq_true rfl) rfl (fun ls hl => ?_)
        refine lv_iinc (pc := 46) (lv' := [(4, .int _), (3, .int _), (0, .ref _), (1, .int _), (2, .int _)]) hx hb dX8_ofOwner_46 hl (k := 4) rfl (xinc kc_1) (Nat.le_of_ble_eq_true rfl) rfl (fun ls hl => ?_)
        refine lv_goto (pc := 49) (tgt := 5) hx hb dX8_ofOwner_49 (by decide) ?_
        exact ih _ _ _ _ _ _ h hR hS (lv_sub hl [2, 3, 4, 1, 0] rfl)
      · have h := xpos c3 h
        refine lv_aload_n (pc := 28) hx hb dX8_ofOwner_28 rfl (lv_at hl 0 rfl) ?_
        refine lv_iload (pc := 29) hx hb dX8_ofOwner_29 (lv_at hl 4 rfl) ?_
        refine lv_iconst (pc := 31) hx hb dX8_ofOwner_31 kc_4 ?_
        obtain ⟨r4, m4, c4, h⟩ := xb_inv h
        refine xc_iV (pc := 32) (As := [.int _, .int _]) (rest := [.int _]) ⟨hx, hb, hml, hown, hts⟩ (mX8_of hF _ _ _ k0 c4) (xcwV 2 hts fdX8_of q_m_X8_63 ⟨Nat.le_of_ble_eq_true rfl, Nat.le_of_ble_eq_true rfl⟩) (xRecv hK hR (ci := 12) rfl k0.1) hR hK hE hS rfl hl.1 rfl (Nat.le_of_ble_eq_true rfl) dX8_ofOwner_32 ⟨Nat.zero_le _, Nat.zero_le _⟩ (fun H locs hR hS => ?_)
        refine lv_iload_n (pc := 35) hx hb dX8_ofOwner_35 rfl (lv_at hl 2 rfl) ?_
        refine lv_icmp_ne (pc := 36) (tgt := 43) hx hb dX8_ofOwner_36 (by decide) (fun c5 => ?_) (fun c5 => ?_)
        · have h := xneg c5 h
          refine lv_iconst (pc := 43) hx hb dX8_ofOwner_43 kc_0 ?_
          refine lv_iadd (pc := 44) hx hb dX8_ofOwner_44 ?_
          refine lv_istore_n (pc := 45) (lv' := [(3, .int _), (0, .ref _), (1, .int _), (2, .int _), (4, .int _)]) hx hb dX8_ofOwner_45 rfl hl (Nat.le_of_ble_eq_true rfl) rfl (fun ls hl => ?_)
          refine lv_iinc (pc := 46) (lv' := [(4, .int _), (3, .int _), (0, .ref _), (1, .int _), (2, .int _)]) hx hb dX8_ofOwner_46 hl (k := 4) rfl (xinc kc_1) (Nat.le_of_ble_eq_true rfl) rfl (fun ls hl => ?_)
          refine lv_goto (pc := 49) (tgt := 5) hx hb dX8_ofOwner_49 (by decide) ?_
          exact ih _ _ _ _ _ _ h hR hS (lv_sub hl [2, 3, 4, 1, 0] rfl)
        · have h := xpos c5 h
          refine lv_iconst (pc := 39) hx hb dX8_ofOwner_39 kc_1 ?_
          refine lv_goto (pc := 40) (tgt := 44) hx hb dX8_ofOwner_40 (by decide) ?_
          refine lv_iadd (pc := 44) hx hb dX8_ofOwner_44 ?_
          refine lv_istore_n (pc := 45) (lv' := [(3, .int _), (0, .ref _), (1, .int _), (2, .int _), (4, .int _)]) hx hb dX8_ofOwner_45 rfl hl (Nat.le_of_ble_eq_true rfl) rfl (fun ls hl => ?_)
          refine lv_iinc (pc := 46) (lv' := [(4, .int _), (3, .int _), (0, .ref _), (1, .int _), (2, .int _)]) hx hb dX8_ofOwner_46 hl (k := 4) rfl (xinc kc_1) (Nat.le_of_ble_eq_true rfl) rfl (fun ls hl => ?_)
          refine lv_goto (pc := 49) (tgt := 5) hx hb dX8_ofOwner_49 (by decide) ?_
          exact ih _ _ _ _ _ _ h hR hS (lv_sub hl [2, 3, 4, 1, 0] rfl)
set_option maxHeartbeats 1000000 in
set_option maxRecDepth 20000 in
theorem mX8_ofOwner {l : Launch} {D : va_G} {ca : Nat → ClassId} {z : Nat} {G : xG} {X : va_W} {ad av : Nat → Nat} (hF : xFix z G X) (h0 : Nat) (p1 : Int32) (p2 : Int32) (k0 : xI_Model G h0) {μ μ1 : xM} {r : Int32} (h : fX8_ofOwner h0 p1 p2 μ = some (r, μ1)) : xMi l yX8_ofOwner (xws yX8_ofOwner cX8_ofOwner 5 (some .int)) 1 D ca z G X ad av [.ref h0, .int p1, .int p2] μ r μ1 := by
  refine xm_i (by decide) rfl (Nat.le_of_ble_eq_true rfl) [(0, .ref h0), (1, .int p1), (2, .int p2)] rfl ?_
  intro p e s m args below meth c ls hx hb hr hml hlocks hts hown hK hE hR hS hl
  have hts : ∀ w ∈ xAll, w.before args s = true := fun w hw => hts w (List.mem_cons_of_mem _ hw)
  rw [fX8_ofOwner] at h
  refine lv_iconst (pc := 0) hx hb dX8_ofOwner_0 kc_0 ?_
  refine lv_istore_n (pc := 1) (lv' := [(3, .int _), (0, .ref _), (1, .int _), (2, .int _)]) hx hb dX8_ofOwner_1 rfl hl (Nat.le_of_ble_eq_true rfl) rfl (fun ls hl => ?_)
  refine lv_iconst (pc := 2) hx hb dX8_ofOwner_2 kc_0 ?_
  refine lv_istore (pc := 3) (lv' := [(4, .int _), (3, .int _), (0, .ref _), (1, .int _), (2, .int _)]) hx hb dX8_ofOwner_3 hl (Nat.le_of_ble_eq_true rfl) rfl (fun ls hl => ?_)
  exact wX8_ofOwner_5 hF h0 p1 p2 k0 hx hb hr hml hlocks hts hown hK hE _ _ _ _ _ _ _ h hR hS (lv_sub hl [2, 3, 4, 1, 0] rfl)
