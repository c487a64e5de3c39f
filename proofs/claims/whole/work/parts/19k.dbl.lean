set_option maxHeartbeats 1000000 in
set_option maxRecDepth 20000 in
theorem mX7_meanLoan {l : Launch} (hls : l.stackTraces = false) {D : va_G} {ca : Nat → ClassId} {z : Nat} {G : xG} {X : va_W} {ad av : Nat → Nat} (hF : xFix z G X) (h0 : Nat) (k0 : xI_Coat G h0) {μ μ1 : xM} {o : (Nat × UInt64)} (h : fX7_meanLoan h0 μ = some (o, μ1)) : xMxd l yX7_meanLoan (xws yX7_meanLoan cX7_meanLoan 2 (some .double)) 6 1 6 D ca z G X ad av [.ref h0] μ o μ1 := by
  refine xm_xd (by decide) rfl (Nat.le_of_ble_eq_true rfl) [(0, .ref h0)] rfl ?_
  intro p e s m args below meth c ls hx hb hr hml hlocks hex hts hown hK hE hR hS hl
  have hts : ∀ w ∈ xAll, w.before args s = true := fun w hw => hts w (List.mem_cons_of_mem _ hw)
  rw [fX7_meanLoan] at h
  refine lv_aload_n (pc := 0) hx hb dX7_meanLoan_0 rfl (lv_at hl 0 rfl) ?_
  refine xr_getR (pc := 1) (ci := 11) hx hb hts inX7 hown hK hR rfl k0.1 0 (Nat.le_of_ble_eq_true rfl) rfl k0.2.1.1 (hts _ q_f_X7_10) (fun _ h9 => h9) dX7_meanLoan_1 ?_
  refine lv_iconst (pc := 4) hx hb dX7_meanLoan_4 kc_m1 ?_
  refine lv_iconst (pc := 5) hx hb dX7_meanLoan_5 kc_0 ?_
  obtain ⟨r1, m1, c1, h⟩ := xb_inv h
  refine xc_iV (pc := 6) (As := [.int _, .int _]) (rest := []) ⟨hx, hb, hml, hown, hts⟩ (mX0_countOf hF _ _ _ k0.2.1.2 c1) (xcwV 2 hts fdX0_countOf q_m_X7_141 ⟨Nat.le_of_ble_eq_true rfl, Nat.le_of_ble_eq_true rfl⟩) (xRecv hK hR (ci := 4) rfl k0.2.1.2.1) hR hK hE hS rfl hl.1 rfl (Nat.le_of_ble_eq_true rfl) dX7_meanLoan_6 ⟨Nat.le_of_ble_eq_true rfl, Nat.le_of_ble_eq_true rfl⟩ (fun H locs hR hS => ?_)
  refine lv_istore_n (pc := 9) (lv' := [(1, .int _), (0, .ref _)]) hx hb dX7_meanLoan_9 rfl hl (Nat.le_of_ble_eq_true rfl) rfl (fun ls hl => ?_)
  refine lv_iload_n (pc := 10) hx hb dX7_meanLoan_10 rfl (lv_at hl 0 rfl) ?_
  refine lv_if_ne (pc := 11) (tgt := 25) hx hb dX7_meanLoan_11 (by decide) (fun c2 => ?_) (fun c2 => ?_)
  · have h := xneg c2 h
    refine lv_aload_n (pc := 25) hx hb dX7_meanLoan_25 rfl (lv_at hl 1 rfl) ?_
    refine xr_getR (pc := 26) (ci := 11) hx hb hts inX7 hown hK hR rfl k0.1 0 (Nat.le_of_ble_eq_true rfl) rfl k0.2.1.1 (hts _ q_f_X7_10) (fun _ h9 => h9) dX7_meanLoan_26 ?_
    obtain ⟨r3, m3, c3, h⟩ := xb_inv h
    refine xc_iV (pc := 29) (As := []) (rest := []) ⟨hx, hb, hml, hown, hts⟩ (mX0_sumOfRunningLoans hF _ k0.2.1.2 c3) (xcwV 0 hts fdX0_sumOfRunningLoans q_m_X7_274 ⟨Nat.le_of_ble_eq_true rfl, Nat.le_of_ble_eq_true rfl⟩) (xRecv hK hR (ci := 4) rfl k0.2.1.2.1) hR hK hE hS rfl hl.1 rfl (Nat.le_of_ble_eq_true rfl) dX7_meanLoan_29 ⟨Nat.le_of_ble_eq_true rfl, Nat.le_of_ble_eq_true rfl⟩ (fun H locs hR hS => ?_)
    refine lv_i2d (pc := 32) hx hb dX7_meanLoan_32 ?_
    refine lv_iload_n (pc := 33) hx hb dX7_meanLoan_33 rfl (lv_at hl 0 rfl) ?_
    refine lv_i2d (pc := 34) hx hb dX7_meanLoan_34 ?_
    obtain ⟨c4, h⟩ := xk_inv h
    refine lv_ddiv (pc := 35) hx hb dX7_meanLoan_35 c4 ?_
    exact xe_xd (pc := 36) hx hb hr hlocks h hR hK hS (Nat.le_of_ble_eq_true rfl) (Nat.le_of_ble_eq_true rfl) dX7_meanLoan_36
  · have h := xpos c2 h
    have h := xthdd h
    exact xt_SW (pc := 14) (k := 5) (i := 5) hx hb hls hlocks hts hown hK hE hF th_6 (by decide) (by decide +kernel) rfl h hR hS (hl.1.trans hml.symm) hex dX7_meanLoan_14 dX7_meanLoan_17 dX7_meanLoan_18 dX7_meanLoan_21 dX7_meanLoan_24 (Nat.le_of_ble_eq_true rfl) (Nat.le_of_ble_eq_true rfl) (Nat.le_of_ble_eq_true rfl) (Nat.le_of_ble_eq_true rfl) (Nat.le_of_ble_eq_true rfl) (Nat.le_of_ble_eq_true rfl)
set_option maxHeartbeats 1000000 in
set_option maxRecDepth 20000 in
theorem mX7_redeemedShare {l : Launch} (hls : l.stackTraces = false) {D : va_G} {ca : Nat → ClassId} {z : Nat} {G : xG} {X : va_W} {ad av : Nat → Nat} (hF : xFix z G X) (h0 : Nat) (k0 : xI_Coat G h0) {μ μ1 : xM} {o : (Nat × UInt32)} (h : fX7_redeemedShare h0 μ = some (o, μ1)) : xMxf l yX7_redeemedShare (xws yX7_redeemedShare cX7_redeemedShare 1 (some .float)) 6 1 6 D ca z G X ad av [.ref h0] μ o μ1 := by
  refine xm_xf (by decide) rfl (Nat.le_of_ble_eq_true rfl) [(0, .ref h0)] rfl ?_
  intro p e s m args below meth c ls hx hb hr hml hlocks hex hts hown hK hE hR hS hl
  have hts : ∀ w ∈ xAll, w.before args s = true := fun w hw => hts w (List.mem_cons_of_mem _ hw)
  rw [fX7_redeemedShare] at h
  refine lv_aload_n (pc := 0) hx hb dX7_redeemedShare_0 rfl (lv_at hl 0 rfl) ?_
  refine xr_getR (pc := 1) (ci := 11) hx hb hts inX7 hown hK hR rfl k0.1 0 (Nat.le_of_ble_eq_true rfl) rfl k0.2.1.1 (hts _ q_f_X7_10) (fun _ h9 => h9) dX7_redeemedShare_1 ?_
  refine xr_getI (pc := 4) (ci := 4) hx hb hts inX0 hown hK hR rfl k0.2.1.2.1 3 (Nat.le_of_ble_eq_true rfl) rfl (hts _ q_f_X7_239) (fun _ h9 => h9) dX7_redeemedShare_4 ?_
  refine lv_if_ne (pc := 7) (tgt := 21) hx hb dX7_redeemedShare_7 (by decide) (fun c1 => ?_) (fun c1 => ?_)
  · have h := xneg c1 h
    refine lv_aload_n (pc := 21) hx hb dX7_redeemedShare_21 rfl (lv_at hl 0 rfl) ?_
    refine xr_getR (pc := 22) (ci := 11) hx hb hts inX7 hown hK hR rfl k0.1 0 (Nat.le_of_ble_eq_true rfl) rfl k0.2.1.1 (hts _ q_f_X7_10) (fun _ h9 => h9) dX7_redeemedShare_22 ?_
    refine lv_iconst (pc := 25) hx hb dX7_redeemedShare_25 kc_m1 ?_
    refine lv_iconst (pc := 26) hx hb dX7_redeemedShare_26 kc_2 ?_
    obtain ⟨r2, m2, c2, h⟩ := xb_inv h
    refine xc_iV (pc := 27) (As := [.int _, .int _]) (rest := []) ⟨hx, hb, hml, hown, hts⟩ (mX0_countOf hF _ _ _ k0.2.1.2 c2) (xcwV 2 hts fdX0_countOf q_m_X7_141 ⟨Nat.le_of_ble_eq_true rfl, Nat.le_of_ble_eq_true rfl⟩) (xRecv hK hR (ci := 4) rfl k0.2.1.2.1) hR hK hE hS rfl hl.1 rfl (Nat.le_of_ble_eq_true rfl) dX7_redeemedShare_27 ⟨Nat.le_of_ble_eq_true rfl, Nat.le_of_ble_eq_true rfl⟩ (fun H locs hR hS => ?_)
    refine lv_i2f (pc := 30) hx hb dX7_redeemedShare_30 ?_
    refine lv_aload_n (pc := 31) hx hb dX7_redeemedShare_31 rfl (lv_at hl 0 rfl) ?_
    refine xr_getR (pc := 32) (ci := 11) hx hb hts inX7 hown hK hR rfl k0.1 0 (Nat.le_of_ble_eq_true rfl) rfl k0.2.1.1 (hts _ q_f_X7_10) (fun _ h9 => h9) dX7_redeemedShare_32 ?_
    refine xr_getI (pc := 35) (ci := 4) hx hb hts inX0 hown hK hR rfl k0.2.1.2.1 3 (Nat.le_of_ble_eq_true rfl) rfl (hts _ q_f_X7_239) (fun _ h9 => h9) dX7_redeemedShare_35 ?_
    refine lv_i2f (pc := 38) hx hb dX7_redeemedShare_38 ?_
    obtain ⟨c3, h⟩ := xk_inv h
    refine lv_fdiv (pc := 39) hx hb dX7_redeemedShare_39 c3 ?_
    exact xe_xf (pc := 40) hx hb hr hlocks h hR hK hS (Nat.le_of_ble_eq_true rfl) (Nat.le_of_ble_eq_true rfl) dX7_redeemedShare_40
  · have h := xpos c1 h
    have h := xthdf h
    exact xt_SW (pc := 10) (k := 5) (i := 6) hx hb hls hlocks hts hown hK hE hF th_6 (by decide) (by decide +kernel) rfl h hR hS (hl.1.trans hml.symm) hex dX7_redeemedShare_10 dX7_redeemedShare_13 dX7_redeemedShare_14 dX7_redeemedShare_17 dX7_redeemedShare_20 (Nat.le_of_ble_eq_true rfl) (Nat.le_of_ble_eq_true rfl) (Nat.le_of_ble_eq_true rfl) (Nat.le_of_ble_eq_true rfl) (Nat.le_of_ble_eq_true rfl) (Nat.le_of_ble_eq_true rfl)
set_option maxHeartbeats 1000000 in
set_option maxRecDepth 20000 in
theorem wX8_meanLoan_26 {p : Program} {l : Launch} {e : Env} {s : State} {m : MethodId} {args : Array Value} {below : List Frame} {meth : Method} {c : Code} {D : va_G} {ca : Nat → ClassId} {z : Nat} {G : xG} {X : va_W} {ad av : Nat → Nat} (hF : xFix z G X) (h0 : Nat) (k0 : xI_Model G h0) (hx : p.tables.exec = Jvm.exec) (hb : c.code = cX8_meanLoan) (hr : meth.sig.returnType = (some .double)) (hml : c.maxLocals = 3) (hlocks : meth.locks = false) (hts : ∀ w ∈ xAll, w.before args s = true) (hown : s.vm.findClass RX8 = some m.cls) (hK : va_K D vwCl (xT ca) s) (hE : xEv z ad av s s.heap) {μ1 : xM} {r : UInt64} :
    ∀ (n : Nat) (x1 : Int32) (x2 : Int32) (μ : xM) (H : Heap) (locs : List Loc) (ls : Array Slot), lX8_meanLoan_26 h0 n x1 x2 μ = some (r, μ1) → xRep D ca G X μ H → va_S (fun q => z ≤ q) s.heap H locs → lv_has ls 3 [(0, .ref h0), (1, .int x1), (2, .int x2)] → W p l e (xRm 2 0 0) s m args below meth c H locs 0 0 (MQ below (va_Qd (fun (r' : UInt64) (_ : Unit) => r' = r) (fun _ t => xB D ca G X μ1 t) (fun q => z ≤ q)) args s 0 0 (fun q => z ≤ q)) (F0 m 26 ls []) := by
  intro n
  induction n with
  | zero => intro x1 x2 μ H locs ls h; cases h
  | succ n ih =>
    intro x1 x2 μ H locs ls h hR hS hl
    rw [lX8_meanLoan_26] at h
    refine lv_iload_n (pc := 26) hx hb dX8_meanLoan_26 rfl (lv_at hl 2 rfl) ?_
    refine lv_aload_n (pc := 27) hx hb dX8_meanLoan_27 rfl (lv_at hl 0 rfl) ?_
    refine xr_getR (pc := 28) (ci := 12) hx hb hts inX8 hown hK hR rfl k0.1 0 (Nat.le_of_ble_eq_true rfl) rfl k0.2.1.1 (hts _ q_f_X8_7) (fun _ h9 => h9) dX8_meanLoan_28 ?_
    refine lv_iconst (pc := 31) hx hb dX8_meanLoan_31 kc_1 ?_
    refine xr_ialdk (pc := 32) 1 hx hb hK hR k0.2.1.2.1 k0.2.1.2.2 tn_1 (vl_1 (by decide)) dX8_meanLoan_32 ?_
    refine lv_icmp_ge (pc := 33) (tgt := 64) hx hb dX8_meanLoan_33 (by decide) (fun c5 => ?_) (fun c5 => ?_)
    · have h := xpos c5 h
      refine lv_iload_n (pc := 64) hx hb dX8_meanLoan_64 rfl (lv_at hl 1 rfl) ?_
      refine lv_i2d (pc := 65) hx hb dX8_meanLoan_65 ?_
      refine lv_aload_n (pc := 66) hx hb dX8_meanLoan_66 rfl (lv_at hl 0 rfl) ?_
      refine lv_iconst (pc := 67) hx hb dX8_meanLoan_67 kc_0 ?_
      obtain ⟨r6, m6, c6, h⟩ := xb_inv h
      refine xc_iV (pc := 68) (As := [.int _]) (rest := [.double _]) ⟨hx, hb, hml, hown, hts⟩ (mX8_many hF _ _ k0 c6) (xcwV 1 hts fdX8_many q_m_X8_190 ⟨Nat.le_of_ble_eq_true rfl, Nat.le_of_ble_eq_true rfl⟩) (xRecv hK hR (ci := 12) rfl k0.1) hR hK hE hS rfl hl.1 rfl (Nat.le_of_ble_eq_true rfl) dX8_meanLoan_68 ⟨Nat.zero_le _, Nat.zero_le _⟩ (fun H locs hR hS => ?_)
      refine lv_i2d (pc := 71) hx hb dX8_meanLoan_71 ?_
      obtain ⟨c7, h⟩ := xk_inv h
      refine lv_ddiv (pc := 72) hx hb dX8_meanLoan_72 c7 ?_
      exact xf_d (pc := 73) hx hb hr hlocks h hR hK hS dX8_meanLoan_73
    · have h := xneg c5 h
      refine lv_iload_n (pc := 36) hx hb dX8_meanLoan_36 rfl (lv_at hl 1 rfl) ?_
      refine lv_aload_n (pc := 37) hx hb dX8_meanLoan_37 rfl (lv_at hl 0 rfl) ?_
      refine lv_iload_n (pc := 38) hx hb dX8_meanLoan_38 rfl (lv_at hl 2 rfl) ?_
      refine lv_iconst (pc := 39) hx hb dX8_meanLoan_39 kc_4 ?_
      obtain ⟨r8, m8, c8, h⟩ := xb_inv h
      refine xc_iV (pc := 40) (As := [.int _, .int _]) (rest := [.int _]) ⟨hx, hb, hml, hown, hts⟩ (mX8_of hF _ _ _ k0 c8) (xcwV 2 hts fdX8_of q_m_X8_63 ⟨Nat.le_of_ble_eq_true rfl, Nat.le_of_ble_eq_true rfl⟩) (xRecv hK hR (ci := 12) rfl k0.1) hR hK hE hS rfl hl.1 rfl (Nat.le_of_ble_eq_true rfl) dX8_meanLoan_40 ⟨Nat.zero_le _, Nat.zero_le _⟩ (fun H locs hR hS => ?_)
      refine lv_if_ne (pc := 43) (tgt := 55) hx hb dX8_meanLoan_43 (by decide) (fun c9 => ?_) (fun c9 => ?_)
      · have h := xneg c9 h
        refine lv_iconst (pc := 55) hx hb dX8_meanLoan_55 kc_0 ?_
        refine lv_iadd (pc := 56) hx hb dX8_meanLoan_56 ?_
        refine lv_istore_n (pc := 57) (lv' := [(1, .int _), (0, .ref _), (2, .int _)]) hx hb dX8_meanLoan_57 rfl hl (Nat.le_of_ble_eq_true rfl) rfl (fun ls hl => ?_)
        refine lv_iinc (pc := 58) (lv' := [(2, .int _), (1, .int _), (0, .ref _)]) hx hb dX8_meanLoan_58 hl (k := 2) rfl (xinc kc_1) (Nat.le_of_ble_eq_true rfl) rfl (fun ls hl => ?_)
        refine lv_goto (pc := 61) (tgt := 26) hx hb dX8_meanLoan_61 (by decide) ?_
        exact ih _ _ _ _ _ _ h hR hS (lv_sub hl [2, 1, 0] rfl)
      · have h := xpos c9 h
        refine lv_aload_n (pc := 46) hx hb dX8_meanLoan_46 rfl (lv_at hl 0 rfl) ?_
        refine lv_iload_n (pc := 47) hx hb dX8_meanLoan_47 rfl (lv_at hl 2 rfl) ?_
        refine lv_iconst (pc := 48) hx hb dX8_meanLoan_48 kc_2 ?_
        obtain ⟨r10, m10, c10, h⟩ := xb_inv h
        refine xc_iV (pc := 49) (As := [.int _, .int _]) (rest := [.int _]) ⟨hx, hb, hml, hown, hts⟩ (mX8_of hF _ _ _ k0 c10) (xcwV 2 hts fdX8_of q_m_X8_63 ⟨Nat.le_of_ble_eq_true rfl, Nat.le_of_ble_eq_true rfl⟩) (xRecv hK hR (ci := 12) rfl k0.1) hR hK hE hS rfl hl.1 rfl (Nat.le_of_ble_eq_true rfl) dX8_meanLoan_49 ⟨Nat.zero_le _, Nat.zero_le _⟩ (fun H locs hR hS => ?_)
        refine lv_goto (pc := 52) (tgt := 56) hx hb dX8_meanLoan_52 (by decide) ?_
        refine lv_iadd (pc := 56) hx hb dX8_meanLoan_56 ?_
        refine lv_istore_n (pc := 57) (lv' := [(1, .int _), (0, .ref _), (2, .int _)]) hx hb dX8_meanLoan_57 rfl hl (Nat.le_of_ble_eq_true rfl) rfl (fun ls hl => ?_)
        refine lv_iinc (pc := 58) (lv' := [(2, .int _), (1, .int _), (0, .ref _)]) hx hb dX8_meanLoan_58 hl (k := 2) rfl (xinc kc_1) (Nat.le_of_ble_eq_true rfl) rfl (fun ls hl => ?_)
        refine lv_goto (pc := 61) (tgt := 26) hx hb dX8_meanLoan_61 (by decide) ?_
        exact ih _ _ _ _ _ _ h hR hS (lv_sub hl [2, 1, 0] rfl)
set_option maxHeartbeats 1000000 in
set_option maxRecDepth 20000 in
theorem mX8_meanLoan {l : Launch} {D : va_G} {ca : Nat → ClassId} {z : Nat} {G : xG} {X : va_W} {ad av : Nat → Nat} (hF : xFix z G X) (h0 : Nat) (k0 : xI_Model G h0) {μ μ1 : xM} {r : UInt64} (h : fX8_meanLoan h0 μ = some (r, μ1)) : xMd l yX8_meanLoan (xws yX8_meanLoan cX8_meanLoan 3 (some .double)) 2 D ca z G X ad av [.ref h0] μ r μ1 := by
  refine xm_d (by decide) rfl (Nat.le_of_ble_eq_true rfl) [(0, .ref h0)] rfl ?_
  intro p e s m args below meth c ls hx hb hr hml hlocks hts hown hK hE hR hS hl
  have hts : ∀ w ∈ xAll, w.before args s = true := fun w hw => hts w (List.mem_cons_of_mem _ hw)
  rw [fX8_meanLoan] at h
  refine lv_aload_n (pc := 0) hx hb dX8_meanLoan_0 rfl (lv_at hl 0 rfl) ?_
  refine lv_aload_n (pc := 1) hx hb dX8_meanLoan_1 rfl (lv_at hl 0 rfl) ?_
  refine lv_iconst (pc := 2) hx hb dX8_meanLoan_2 kc_0 ?_
  obtain ⟨r1, m1, c1, h⟩ := xb_inv h
  refine xc_iV (pc := 3) (As := [.int _]) (rest := [.ref _]) ⟨hx, hb, hml, hown, hts⟩ (mX8_many hF _ _ k0 c1) (xcwV 1 hts fdX8_many q_m_X8_190 ⟨Nat.le_of_ble_eq_true rfl, Nat.le_of_ble_eq_true rfl⟩) (xRecv hK hR (ci := 12) rfl k0.1) hR hK hE hS rfl hl.1 rfl (Nat.le_of_ble_eq_true rfl) dX8_meanLoan_3 ⟨Nat.zero_le _, Nat.zero_le _⟩ (fun H locs hR hS => ?_)
  refine lv_if_ne (pc := 6) (tgt := 13) hx hb dX8_meanLoan_6 (by decide) (fun c2 => ?_) (fun c2 => ?_)
  · have h := xneg c2 h
    refine lv_iconst (pc := 13) hx hb dX8_meanLoan_13 kc_0 ?_
    obtain ⟨r3, m3, c3, h⟩ := xb_inv h
    refine xc_iV (pc := 14) (As := [.int _]) (rest := []) ⟨hx, hb, hml, hown, hts⟩ (mX8_fails hF _ _ k0 c3) (xcwV 1 hts fdX8_fails q_m_X8_67 ⟨Nat.le_of_ble_eq_true rfl, Nat.le_of_ble_eq_true rfl⟩) (xRecv hK hR (ci := 12) rfl k0.1) hR hK hE hS rfl hl.1 rfl (Nat.le_of_ble_eq_true rfl) dX8_meanLoan_14 ⟨Nat.zero_le _, Nat.zero_le _⟩ (fun H locs hR hS => ?_)
    refine lv_if_eq (pc := 17) (tgt := 22) hx hb dX8_meanLoan_17 (by decide) (fun c4 => ?_) (fun c4 => ?_)
    · have h := xpos c4 h
      refine lv_iconst (pc := 22) hx hb dX8_meanLoan_22 kc_0 ?_
      refine lv_istore_n (pc := 23) (lv' := [(1, .int _), (0, .ref _)]) hx hb dX8_meanLoan_23 rfl hl (Nat.le_of_ble_eq_true rfl) rfl (fun ls hl => ?_)
      refine lv_iconst (pc := 24) hx hb dX8_meanLoan_24 kc_0 ?_
      refine lv_istore_n (pc := 25) (lv' := [(2, .int _), (1, .int _), (0, .ref _)]) hx hb dX8_meanLoan_25 rfl hl (Nat.le_of_ble_eq_true rfl) rfl (fun ls hl => ?_)
      exact wX8_meanLoan_26 hF h0 k0 hx hb hr hml hlocks hts hown hK hE _ _ _ _ _ _ _ h hR hS (lv_sub hl [2, 1, 0] rfl)
    · have h := xneg c4 h
      refine lv_dconst0 (pc := 20) hx hb dX8_meanLoan_20 ?_
      exact xf_d (pc := 21) hx hb hr hlocks h hR hK hS dX8_meanLoan_21
  · have h := xpos c2 h
    refine lv_iconst (pc := 9) hx hb dX8_meanLoan_9 kc_1 ?_
    refine lv_goto (pc := 10) (tgt := 14) hx hb dX8_meanLoan_10 (by decide) ?_
    obtain ⟨r11, m11, c11, h⟩ := xb_inv h
    refine xc_iV (pc := 14) (As := [.int _]) (rest := []) ⟨hx, hb, hml, hown, hts⟩ (mX8_fails hF _ _ k0 c11) (xcwV 1 hts fdX8_fails q_m_X8_67 ⟨Nat.le_of_ble_eq_true rfl, Nat.le_of_ble_eq_true rfl⟩) (xRecv hK hR (ci := 12) rfl k0.1) hR hK hE hS rfl hl.1 rfl (Nat.le_of_ble_eq_true rfl) dX8_meanLoan_14 ⟨Nat.zero_le _, Nat.zero_le _⟩ (fun H locs hR hS => ?_)
    refine lv_if_eq (pc := 17) (tgt := 22) hx hb dX8_meanLoan_17 (by decide) (fun c12 => ?_) (fun c12 => ?_)
    · have h := xpos c12 h
      refine lv_iconst (pc := 22) hx hb dX8_meanLoan_22 kc_0 ?_
      refine lv_istore_n (pc := 23) (lv' := [(1, .int _), (0, .ref _)]) hx hb dX8_meanLoan_23 rfl hl (Nat.le_of_ble_eq_true rfl) rfl (fun ls hl => ?_)
      refine lv_iconst (pc := 24) hx hb dX8_meanLoan_24 kc_0 ?_
      refine lv_istore_n (pc := 25) (lv' := [(2, .int _), (1, .int _), (0, .ref _)]) hx hb dX8_meanLoan_25 rfl hl (Nat.le_of_ble_eq_true rfl) rfl (fun ls hl => ?_)
      exact wX8_meanLoan_26 hF h0 k0 hx hb hr hml hlocks hts hown hK hE _ _ _ _ _ _ _ h hR hS (lv_sub hl [2, 1, 0] rfl)
    · have h := xneg c12 h
      refine lv_dconst0 (pc := 20) hx hb dX8_meanLoan_20 ?_
      exact xf_d (pc := 21) hx hb hr hlocks h hR hK hS dX8_meanLoan_21
set_option maxHeartbeats 1000000 in
set_option maxRecDepth 20000 in
theorem mX8_redeemedShare {l : Launch} {D : va_G} {ca : Nat → ClassId} {z : Nat} {G : xG} {X : va_W} {ad av : Nat → Nat} (hF : xFix z G X) (h0 : Nat) (k0 : xI_Model G h0) {μ μ1 : xM} {r : UInt32} (h : fX8_redeemedShare h0 μ = some (r, μ1)) : xMf l yX8_redeemedShare (xws yX8_redeemedShare cX8_redeemedShare 1 (some .float)) 2 D ca z G X ad av [.ref h0] μ r μ1 := by
  refine xm_f (by decide) rfl (Nat.le_of_ble_eq_true rfl) [(0, .ref h0)] rfl ?_
  intro p e s m args below meth c ls hx hb hr hml hlocks hts hown hK hE hR hS hl
  have hts : ∀ w ∈ xAll, w.before args s = true := fun w hw => hts w (List.mem_cons_of_mem _ hw)
  rw [fX8_redeemedShare] at h
  refine lv_aload_n (pc := 0) hx hb dX8_redeemedShare_0 rfl (lv_at hl 0 rfl) ?_
  refine lv_aload_n (pc := 1) hx hb dX8_redeemedShare_1 rfl (lv_at hl 0 rfl) ?_
  refine xr_getR (pc := 2) (ci := 12) hx hb hts inX8 hown hK hR rfl k0.1 0 (Nat.le_of_ble_eq_true rfl) rfl k0.2.1.1 (hts _ q_f_X8_7) (fun _ h9 => h9) dX8_redeemedShare_2 ?_
  refine lv_iconst (pc := 5) hx hb dX8_redeemedShare_5 kc_1 ?_
  refine xr_ialdk (pc := 6) 1 hx hb hK hR k0.2.1.2.1 k0.2.1.2.2 tn_1 (vl_1 (by decide)) dX8_redeemedShare_6 ?_
  refine lv_if_ne (pc := 7) (tgt := 14) hx hb dX8_redeemedShare_7 (by decide) (fun c1 => ?_) (fun c1 => ?_)
  · have h := xneg c1 h
    refine lv_iconst (pc := 14) hx hb dX8_redeemedShare_14 kc_0 ?_
    obtain ⟨r2, m2, c2, h⟩ := xb_inv h
    refine xc_iV (pc := 15) (As := [.int _]) (rest := []) ⟨hx, hb, hml, hown, hts⟩ (mX8_fails hF _ _ k0 c2) (xcwV 1 hts fdX8_fails q_m_X8_67 ⟨Nat.le_of_ble_eq_true rfl, Nat.le_of_ble_eq_true rfl⟩) (xRecv hK hR (ci := 12) rfl k0.1) hR hK hE hS rfl hl.1 rfl (Nat.le_of_ble_eq_true rfl) dX8_redeemedShare_15 ⟨Nat.zero_le _, Nat.zero_le _⟩ (fun H locs hR hS => ?_)
    refine lv_if_eq (pc := 18) (tgt := 25) hx hb dX8_redeemedShare_18 (by decide) (fun c3 => ?_) (fun c3 => ?_)
    · have h := xpos c3 h
      refine lv_aload_n (pc := 25) hx hb dX8_redeemedShare_25 rfl (lv_at hl 0 rfl) ?_
      refine lv_iconst (pc := 26) hx hb dX8_redeemedShare_26 kc_2 ?_
      obtain ⟨r4, m4, c4, h⟩ := xb_inv h
      refine xc_iV (pc := 27) (As := [.int _]) (rest := []) ⟨hx, hb, hml, hown, hts⟩ (mX8_many hF _ _ k0 c4) (xcwV 1 hts fdX8_many q_m_X8_190 ⟨Nat.le_of_ble_eq_true rfl, Nat.le_of_ble_eq_true rfl⟩) (xRecv hK hR (ci := 12) rfl k0.1) hR hK hE hS rfl hl.1 rfl (Nat.le_of_ble_eq_true rfl) dX8_redeemedShare_27 ⟨Nat.zero_le _, Nat.zero_le _⟩ (fun H locs hR hS => ?_)
      refine lv_i2f (pc := 30) hx hb dX8_redeemedShare_30 ?_
      refine lv_aload_n (pc := 31) hx hb dX8_redeemedShare_31 rfl (lv_at hl 0 rfl) ?_
      refine xr_getR (pc := 32) (ci := 12) hx hb hts inX8 hown hK hR rfl k0.1 0 (Nat.le_of_ble_eq_true rfl) rfl k0.2.1.1 (hts _ q_f_X8_7) (fun _ h9 => h9) dX8_redeemedShare_32 ?_
      refine lv_iconst (pc := 35) hx hb dX8_redeemedShare_35 kc_1 ?_
      refine xr_ialdk (pc := 36) 1 hx hb hK hR k0.2.1.2.1 k0.2.1.2.2 tn_1 (vl_1 (by decide)) dX8_redeemedShare_36 ?_
      refine lv_i2f (pc := 37) hx hb dX8_redeemedShare_37 ?_
      obtain ⟨c5, h⟩ := xk_inv h
      refine lv_fdiv (pc := 38) hx hb dX8_redeemedShare_38 c5 ?_
      exact xf_f (pc := 39) hx hb hr hlocks h hR hK hS dX8_redeemedShare_39
    · have h := xneg c3 h
      refine lv_fconst0 (pc := 21) hx hb dX8_redeemedShare_21 ?_
      refine lv_goto (pc := 22) (tgt := 39) hx hb dX8_redeemedShare_22 (by decide) ?_
      exact xf_f (pc := 39) hx hb hr hlocks h hR hK hS dX8_redeemedShare_39
  · have h := xpos c1 h
    refine lv_iconst (pc := 10) hx hb dX8_redeemedShare_10 kc_1 ?_
    refine lv_goto (pc := 11) (tgt := 15) hx hb dX8_redeemedShare_11 (by decide) ?_
    obtain ⟨r6, m6, c6, h⟩ := xb_inv h
    refine xc_iV (pc := 15) (As := [.int _]) (rest := []) ⟨hx, hb, hml, hown, hts⟩ (mX8_fails hF _ _ k0 c6) (xcwV 1 hts fdX8_fails q_m_X8_67 ⟨Nat.le_of_ble_eq_true rfl, Nat.le_of_ble_eq_true rfl⟩) (xRecv hK hR (ci := 12) rfl k0.1) hR hK hE hS rfl hl.1 rfl (Nat.le_of_ble_eq_true rfl) dX8_redeemedShare_15 ⟨Nat.zero_le _, Nat.zero_le _⟩ (fun H locs hR hS => ?_)
    refine lv_if_eq (pc := 18) (tgt := 25) hx hb dX8_redeemedShare_18 (by decide) (fun c7 => ?_) (fun c7 => ?_)
    · have h := xpos c7 h
      refine lv_aload_n (pc := 25) hx hb dX8_redeemedShare_25 rfl (lv_at hl 0 rfl) ?_
      refine lv_iconst (pc := 26) hx hb dX8_redeemedShare_26 kc_2 ?_
      obtain ⟨r8, m8, c8, h⟩ := xb_inv h
      refine xc_iV (pc := 27) (As := [.int _]) (rest := []) ⟨hx, hb, hml, hown, hts⟩ (mX8_many hF _ _ k0 c8) (xcwV 1 hts fdX8_many q_m_X8_190 ⟨Nat.le_of_ble_eq_true rfl, Nat.le_of_ble_eq_true rfl⟩) (xRecv hK hR (ci := 12) rfl k0.1) hR hK hE hS rfl hl.1 rfl (Nat.le_of_ble_eq_true rfl) dX8_redeemedShare_27 ⟨Nat.zero_le _, Nat.zero_le _⟩ (fun H locs hR hS => ?_)
      refine lv_i2f (pc := 30) hx hb dX8_redeemedShare_30 ?_
      refine lv_aload_n (pc := 31) hx hb dX8_redeemedShare_31 rfl (lv_at hl 0 rfl) ?_
      refine xr_getR (pc := 32) (ci := 12) hx hb hts inX8 hown hK hR rfl k0.1 0 (Nat.le_of_ble_eq_true rfl) rfl k0.2.1.1 (hts _ q_f_X8_7) (fun _ h9 => h9) dX8_redeemedShare_32 ?_
      refine lv_iconst (pc := 35) hx hb dX8_redeemedShare_35 kc_1 ?_
      refine xr_ialdk (pc := 36) 1 hx hb hK hR k0.2.1.2.1 k0.2.1.2.2 tn_1 (vl_1 (by decide)) dX8_redeemedShare_36 ?_
      refine lv_i2f (pc := 37) hx hb dX8_redeemedShare_37 ?_
      obtain ⟨c9, h⟩ := xk_inv h
      refine lv_fdiv (pc := 38) hx hb dX8_redeemedShare_38 c9 ?_
      exact xf_f (pc := 39) hx hb hr hlocks h hR hK hS dX8_redeemedShare_39
    · have h := xneg c7 h
      refine lv_fconst0 (pc := 21) hx hb dX8_redeemedShare_21 ?_
      refine lv_goto (pc := 22) (tgt := 39) hx hb dX8_redeemedShare_22 (by decide) ?_
      exact xf_f (pc := 39) hx hb hr hlocks h hR hK hS dX8_redeemedShare_39
