set_option maxHeartbeats 1000000 in
set_option maxRecDepth 20000 in
theorem wX0_copyFrom_33 {p : Program} {l : Launch} {e : Env} {s : State} {m : MethodId} {args : Array Value} {below : List Frame} {meth : Method} {c : Code} {D : va_G} {ca : Nat → ClassId} {z : Nat} {G : xG} {X : va_W} {ad av : Nat → Nat} (hF : xFix z G X) (h0 : Nat) (h1 : Nat) (k0 : xI_Bank G h0) (k1 : xI_Bank G h1) (hx : p.tables.exec = Jvm.exec) (hb : c.code = cX0_copyFrom) (hr : meth.sig.returnType = none) (hml : c.maxLocals = 3) (hlocks : meth.locks = false) (hts : ∀ w ∈ xAll, w.before args s = true) (hown : s.vm.findClass RX0 = some m.cls) (hK : va_K D vwCl (xT ca) s) (hE : xEv z ad av s s.heap) {μ1 : xM} :
    ∀ (n : Nat) (x2 : Int32) (μ : xM) (H : Heap) (locs : List Loc) (ls : Array Slot), lX0_copyFrom_33 h0 h1 n x2 μ = some μ1 → xRep D ca G X μ H → va_S (fun q => z ≤ q) s.heap H locs → lv_has ls 3 [(0, .ref h0), (1, .ref h1), (2, .int x2)] → W p l e (xRm 1 0 0) s m args below meth c H locs 0 0 (MQ below (va_Qv (fun (_ : Unit) => True) (fun _ t => xB D ca G X μ1 t) (fun q => z ≤ q)) args s 0 0 (fun q => z ≤ q)) (F0 m 33 ls []) := by
  intro n
  induction n with
  | zero => intro x2 μ H locs ls h; cases h
  | succ n ih =>
    intro x2 μ H locs ls h hR hS hl
    rw [lX0_copyFrom_33] at h
    refine lv_iload_n (pc := 33) hx hb dX0_copyFrom_33 rfl (lv_at hl 2 rfl) ?_
    refine lv_bipush (pc := 34) hx hb dX0_copyFrom_34 kb_6 ?_
    refine lv_icmp_ge (pc := 36) (tgt := 69) hx hb dX0_copyFrom_36 (by decide) (fun c2 => ?_) (fun c2 => ?_)
    · have h := xpos c2 h
      refine lv_aload_n (pc := 69) hx hb dX0_copyFrom_69 rfl (lv_at hl 0 rfl) ?_
      refine lv_aload_n (pc := 70) hx hb dX0_copyFrom_70 rfl (lv_at hl 1 rfl) ?_
      refine xr_getI (pc := 71) (ci := 4) hx hb hts inX0 hown hK hR rfl k1.1 3 (Nat.le_of_ble_eq_true rfl) rfl (hts _ q_f_X0_25) (fun _ h9 => h9) dX0_copyFrom_71 ?_
      refine xr_putI (pc := 74) (ci := 4) (ty := .int) hx hb hts inX0 tyX0 tyX0_ok nmX0 hown hK hR hF hS rfl k0.1 3 (Nat.le_of_ble_eq_true rfl) rfl (hts _ q_f_X0_25) (fun _ h9 => h9) rfl rfl rfl rfl dX0_copyFrom_74 (fun H locs hR hS => ?_)
      refine lv_aload_n (pc := 77) hx hb dX0_copyFrom_77 rfl (lv_at hl 0 rfl) ?_
      refine lv_aload_n (pc := 78) hx hb dX0_copyFrom_78 rfl (lv_at hl 1 rfl) ?_
      refine xr_getI (pc := 79) (ci := 4) hx hb hts inX0 hown hK hR rfl k1.1 4 (Nat.le_of_ble_eq_true rfl) rfl (hts _ q_f_X0_29) (fun _ h9 => h9) dX0_copyFrom_79 ?_
      refine xr_putI (pc := 82) (ci := 4) (ty := .int) hx hb hts inX0 tyX0 tyX0_ok nmX0 hown hK hR hF hS rfl k0.1 4 (Nat.le_of_ble_eq_true rfl) rfl (hts _ q_f_X0_29) (fun _ h9 => h9) rfl rfl rfl rfl dX0_copyFrom_82 (fun H locs hR hS => ?_)
      refine lv_aload_n (pc := 85) hx hb dX0_copyFrom_85 rfl (lv_at hl 0 rfl) ?_
      refine lv_aload_n (pc := 86) hx hb dX0_copyFrom_86 rfl (lv_at hl 1 rfl) ?_
      refine xr_getI (pc := 87) (ci := 4) hx hb hts inX0 hown hK hR rfl k1.1 5 (Nat.le_of_ble_eq_true rfl) rfl (hts _ q_f_X0_32) (fun _ h9 => h9) dX0_copyFrom_87 ?_
      refine xr_putI (pc := 90) (ci := 4) (ty := .int) hx hb hts inX0 tyX0 tyX0_ok nmX0 hown hK hR hF hS rfl k0.1 5 (Nat.le_of_ble_eq_true rfl) rfl (hts _ q_f_X0_32) (fun _ h9 => h9) rfl rfl rfl rfl dX0_copyFrom_90 (fun H locs hR hS => ?_)
      refine lv_aload_n (pc := 93) hx hb dX0_copyFrom_93 rfl (lv_at hl 0 rfl) ?_
      refine lv_aload_n (pc := 94) hx hb dX0_copyFrom_94 rfl (lv_at hl 1 rfl) ?_
      refine xr_getI (pc := 95) (ci := 4) hx hb hts inX0 hown hK hR rfl k1.1 6 (Nat.le_of_ble_eq_true rfl) rfl (hts _ q_f_X0_35) (fun _ h9 => h9) dX0_copyFrom_95 ?_
      refine xr_putI (pc := 98) (ci := 4) (ty := .int) hx hb hts inX0 tyX0 tyX0_ok nmX0 hown hK hR hF hS rfl k0.1 6 (Nat.le_of_ble_eq_true rfl) rfl (hts _ q_f_X0_35) (fun _ h9 => h9) rfl rfl rfl rfl dX0_copyFrom_98 (fun H locs hR hS => ?_)
      refine lv_aload_n (pc := 101) hx hb dX0_copyFrom_101 rfl (lv_at hl 0 rfl) ?_
      refine lv_aload_n (pc := 102) hx hb dX0_copyFrom_102 rfl (lv_at hl 1 rfl) ?_
      refine xr_getI (pc := 103) (ci := 4) hx hb hts inX0 hown hK hR rfl k1.1 7 (Nat.le_of_ble_eq_true rfl) rfl (hts _ q_f_X0_38) (fun _ h9 => h9) dX0_copyFrom_103 ?_
      refine xr_putI (pc := 106) (ci := 4) (ty := .int) hx hb hts inX0 tyX0 tyX0_ok nmX0 hown hK hR hF hS rfl k0.1 7 (Nat.le_of_ble_eq_true rfl) rfl (hts _ q_f_X0_38) (fun _ h9 => h9) rfl rfl rfl rfl dX0_copyFrom_106 (fun H locs hR hS => ?_)
      exact xf_v (pc := 109) hx hb hr hlocks h hR hK hS dX0_copyFrom_109
    · have h := xneg c2 h
      refine lv_aload_n (pc := 39) hx hb dX0_copyFrom_39 rfl (lv_at hl 0 rfl) ?_
      refine xr_getR (pc := 40) (ci := 4) hx hb hts inX0 hown hK hR rfl k0.1 1 (Nat.le_of_ble_eq_true rfl) rfl k0.2.2.1.1 (hts _ q_f_X0_18) (fun _ h9 => h9) dX0_copyFrom_40 ?_
      refine lv_iload_n (pc := 43) hx hb dX0_copyFrom_43 rfl (lv_at hl 2 rfl) ?_
      refine lv_aload_n (pc := 44) hx hb dX0_copyFrom_44 rfl (lv_at hl 1 rfl) ?_
      refine xr_getR (pc := 45) (ci := 4) hx hb hts inX0 hown hK hR rfl k1.1 1 (Nat.le_of_ble_eq_true rfl) rfl k1.2.2.1.1 (hts _ q_f_X0_18) (fun _ h9 => h9) dX0_copyFrom_45 ?_
      refine lv_iload_n (pc := 48) hx hb dX0_copyFrom_48 rfl (lv_at hl 2 rfl) ?_
      obtain ⟨c3, h⟩ := xk_inv h
      refine xr_ialdk (pc := 49) (Int32.toNatClampNeg x2) hx hb hK hR k1.2.2.1.2.1 k1.2.2.1.2.2 rfl c3 dX0_copyFrom_49 ?_
      obtain ⟨c4, h⟩ := xk_inv h
      refine xr_iastk (pc := 50) (Int32.toNatClampNeg x2) hx hb hK hR hF hS k0.2.2.1.2.1 k0.2.2.1.2.2 rfl c4 dX0_copyFrom_50 (fun H locs hR hS => ?_)
      refine lv_aload_n (pc := 51) hx hb dX0_copyFrom_51 rfl (lv_at hl 0 rfl) ?_
      refine xr_getR (pc := 52) (ci := 4) hx hb hts inX0 hown hK hR rfl k0.1 2 (Nat.le_of_ble_eq_true rfl) rfl k0.2.2.2.1 (hts _ q_f_X0_22) (fun _ h9 => h9) dX0_copyFrom_52 ?_
      refine lv_iload_n (pc := 55) hx hb dX0_copyFrom_55 rfl (lv_at hl 2 rfl) ?_
      refine lv_aload_n (pc := 56) hx hb dX0_copyFrom_56 rfl (lv_at hl 1 rfl) ?_
      refine xr_getR (pc := 57) (ci := 4) hx hb hts inX0 hown hK hR rfl k1.1 2 (Nat.le_of_ble_eq_true rfl) rfl k1.2.2.2.1 (hts _ q_f_X0_22) (fun _ h9 => h9) dX0_copyFrom_57 ?_
      refine lv_iload_n (pc := 60) hx hb dX0_copyFrom_60 rfl (lv_at hl 2 rfl) ?_
      obtain ⟨c5, h⟩ := xk_inv h
      refine xr_ialdk (pc := 61) (Int32.toNatClampNeg x2) hx hb hK hR k1.2.2.2.2.1 k1.2.2.2.2.2 rfl c5 dX0_copyFrom_61 ?_
      obtain ⟨c6, h⟩ := xk_inv h
      refine xr_iastk (pc := 62) (Int32.toNatClampNeg x2) hx hb hK hR hF hS k0.2.2.2.2.1 k0.2.2.2.2.2 rfl c6 dX0_copyFrom_62 (fun H locs hR hS => ?_)
      refine lv_iinc (pc := 63) (lv' := [(2, .int _), (0, .ref _), (1, .ref _)]) hx hb dX0_copyFrom_63 hl (k := 2) rfl (xinc kc_1) (Nat.le_of_ble_eq_true rfl) rfl (fun ls hl => ?_)
      refine lv_goto (pc := 66) (tgt := 33) hx hb dX0_copyFrom_66 (by decide) ?_
      exact ih _ _ _ _ _ h hR hS (lv_sub hl [1, 2, 0] rfl)
set_option maxHeartbeats 1000000 in
set_option maxRecDepth 20000 in
theorem wX0_copyFrom_2 {p : Program} {l : Launch} {e : Env} {s : State} {m : MethodId} {args : Array Value} {below : List Frame} {meth : Method} {c : Code} {D : va_G} {ca : Nat → ClassId} {z : Nat} {G : xG} {X : va_W} {ad av : Nat → Nat} (hF : xFix z G X) (h0 : Nat) (h1 : Nat) (k0 : xI_Bank G h0) (k1 : xI_Bank G h1) (hx : p.tables.exec = Jvm.exec) (hb : c.code = cX0_copyFrom) (hr : meth.sig.returnType = none) (hml : c.maxLocals = 3) (hlocks : meth.locks = false) (hts : ∀ w ∈ xAll, w.before args s = true) (hown : s.vm.findClass RX0 = some m.cls) (hK : va_K D vwCl (xT ca) s) (hE : xEv z ad av s s.heap) {μ1 : xM} :
    ∀ (n : Nat) (x2 : Int32) (μ : xM) (H : Heap) (locs : List Loc) (ls : Array Slot), lX0_copyFrom_2 h0 h1 n x2 μ = some μ1 → xRep D ca G X μ H → va_S (fun q => z ≤ q) s.heap H locs → lv_has ls 3 [(0, .ref h0), (1, .ref h1), (2, .int x2)] → W p l e (xRm 1 0 0) s m args below meth c H locs 0 0 (MQ below (va_Qv (fun (_ : Unit) => True) (fun _ t => xB D ca G X μ1 t) (fun q => z ≤ q)) args s 0 0 (fun q => z ≤ q)) (F0 m 2 ls []) := by
  intro n
  induction n with
  | zero => intro x2 μ H locs ls h; cases h
  | succ n ih =>
    intro x2 μ H locs ls h hR hS hl
    rw [lX0_copyFrom_2] at h
    refine lv_iload_n (pc := 2) hx hb dX0_copyFrom_2 rfl (lv_at hl 2 rfl) ?_
    refine lv_aload_n (pc := 3) hx hb dX0_copyFrom_3 rfl (lv_at hl 1 rfl) ?_
    refine xr_getI (pc := 4) (ci := 4) hx hb hts inX0 hown hK hR rfl k1.1 3 (Nat.le_of_ble_eq_true rfl) rfl (hts _ q_f_X0_25) (fun _ h9 => h9) dX0_copyFrom_4 ?_
    refine lv_icmp_ge (pc := 7) (tgt := 31) hx hb dX0_copyFrom_7 (by decide) (fun c1 => ?_) (fun c1 => ?_)
    · have h := xpos c1 h
      refine lv_iconst (pc := 31) hx hb dX0_copyFrom_31 kc_0 ?_
      refine lv_istore_n (pc := 32) (lv' := [(2, .int _), (0, .ref _), (1, .ref _)]) hx hb dX0_copyFrom_32 rfl hl (Nat.le_of_ble_eq_true rfl) rfl (fun ls hl => ?_)
      exact wX0_copyFrom_33 hF h0 h1 k0 k1 hx hb hr hml hlocks hts hown hK hE _ _ _ _ _ _ h hR hS (lv_sub hl [1, 2, 0] rfl)
    · have h := xneg c1 h
      refine lv_aload_n (pc := 10) hx hb dX0_copyFrom_10 rfl (lv_at hl 0 rfl) ?_
      refine xr_getR (pc := 11) (ci := 4) hx hb hts inX0 hown hK hR rfl k0.1 0 (Nat.le_of_ble_eq_true rfl) rfl k0.2.1.1 (hts _ q_f_X0_11) (fun _ h9 => h9) dX0_copyFrom_11 ?_
      refine lv_iload_n (pc := 14) hx hb dX0_copyFrom_14 rfl (lv_at hl 2 rfl) ?_
      obtain ⟨c7, h⟩ := xk_inv h
      refine xr_aald (pc := 15) hx hb hK hR 2 (by decide) k0.2.1.2.1 rfl k0.2.1.2.2.1 c7 (k0.2.1.2.2.2 _ (xlt c7)).1 dX0_copyFrom_15 ?_
      refine lv_aload_n (pc := 16) hx hb dX0_copyFrom_16 rfl (lv_at hl 1 rfl) ?_
      refine xr_getR (pc := 17) (ci := 4) hx hb hts inX0 hown hK hR rfl k1.1 0 (Nat.le_of_ble_eq_true rfl) rfl k1.2.1.1 (hts _ q_f_X0_11) (fun _ h9 => h9) dX0_copyFrom_17 ?_
      refine lv_iload_n (pc := 20) hx hb dX0_copyFrom_20 rfl (lv_at hl 2 rfl) ?_
      obtain ⟨c8, h⟩ := xk_inv h
      refine xr_aald (pc := 21) hx hb hK hR 2 (by decide) k1.2.1.2.1 rfl k1.2.1.2.2.1 c8 (k1.2.1.2.2.2 _ (xlt c8)).1 dX0_copyFrom_21 ?_
      obtain ⟨m9, c9, h⟩ := xbv_inv h
      refine xc_vV (pc := 22) (As := [.ref _]) (rest := []) ⟨hx, hb, hml, hown, hts⟩ (mX5_copyFrom hF _ _ ((k0.2.1.2.2.2 _ (xlt c7)).2) ((k1.2.1.2.2.2 _ (xlt c8)).2) c9) (xcwV 1 hts fdX5_copyFrom q_m_X0_41 ⟨Nat.le_of_ble_eq_true rfl, Nat.le_of_ble_eq_true rfl⟩) (xRecv hK hR (ci := 9) rfl ((k0.2.1.2.2.2 _ (xlt c7)).2)) hR hK hE hS rfl hl.1 rfl (Nat.le_of_ble_eq_true rfl) dX0_copyFrom_22 ⟨Nat.zero_le _, Nat.zero_le _⟩ (fun H locs hR hS => ?_)
      refine lv_iinc (pc := 25) (lv' := [(2, .int _), (0, .ref _), (1, .ref _)]) hx hb dX0_copyFrom_25 hl (k := 2) rfl (xinc kc_1) (Nat.le_of_ble_eq_true rfl) rfl (fun ls hl => ?_)
      refine lv_goto (pc := 28) (tgt := 2) hx hb dX0_copyFrom_28 (by decide) ?_
      exact ih _ _ _ _ _ h hR hS (lv_sub hl [1, 2, 0] rfl)
set_option maxHeartbeats 1000000 in
set_option maxRecDepth 20000 in
theorem mX0_copyFrom {l : Launch} {D : va_G} {ca : Nat → ClassId} {z : Nat} {G : xG} {X : va_W} {ad av : Nat → Nat} (hF : xFix z G X) (h0 : Nat) (h1 : Nat) (k0 : xI_Bank G h0) (k1 : xI_Bank G h1) {μ μ1 : xM} (h : fX0_copyFrom h0 h1 μ = some μ1) : xMv l yX0_copyFrom (xws yX0_copyFrom cX0_copyFrom 3 none) 1 D ca z G X ad av [.ref h0, .ref h1] μ μ1 := by
  refine xm_v (by decide) rfl (Nat.le_of_ble_eq_true rfl) [(0, .ref h0), (1, .ref h1)] rfl ?_
  intro p e s m args below meth c ls hx hb hr hml hlocks hts hown hK hE hR hS hl
  have hts : ∀ w ∈ xAll, w.before args s = true := fun w hw => hts w (List.mem_cons_of_mem _ hw)
  rw [fX0_copyFrom] at h
  refine lv_iconst (pc := 0) hx hb dX0_copyFrom_0 kc_0 ?_
  refine lv_istore_n (pc := 1) (lv' := [(2, .int _), (0, .ref _), (1, .ref _)]) hx hb dX0_copyFrom_1 rfl hl (Nat.le_of_ble_eq_true rfl) rfl (fun ls hl => ?_)
  exact wX0_copyFrom_2 hF h0 h1 k0 k1 hx hb hr hml hlocks hts hown hK hE _ _ _ _ _ _ h hR hS (lv_sub hl [1, 2, 0] rfl)
set_option maxHeartbeats 1000000 in
set_option maxRecDepth 20000 in
theorem mX0_hasTicket {l : Launch} {D : va_G} {ca : Nat → ClassId} {z : Nat} {G : xG} {X : va_W} {ad av : Nat → Nat} (hF : xFix z G X) (h0 : Nat) (p1 : Int32) (k0 : xI_Bank G h0) {μ μ1 : xM} {r : Int32} (h : fX0_hasTicket h0 p1 μ = some (r, μ1)) : xMi l yX0_hasTicket (xws yX0_hasTicket cX0_hasTicket 2 (some .boolean)) 0 D ca z G X ad av [.ref h0, .int p1] μ r μ1 := by
  refine xm_i (by decide) rfl (Nat.le_of_ble_eq_true rfl) [(0, .ref h0), (1, .int p1)] rfl ?_
  intro p e s m args below meth c ls hx hb hr hml hlocks hts hown hK hE hR hS hl
  have hts : ∀ w ∈ xAll, w.before args s = true := fun w hw => hts w (List.mem_cons_of_mem _ hw)
  rw [fX0_hasTicket] at h
  refine lv_iload_n (pc := 0) hx hb dX0_hasTicket_0 rfl (lv_at hl 1 rfl) ?_
  refine lv_if_lt (pc := 1) (tgt := 16) hx hb dX0_hasTicket_1 (by decide) (fun c1 => ?_) (fun c1 => ?_)
  · have h := xpos c1 h
    refine lv_iconst (pc := 16) hx hb dX0_hasTicket_16 kc_0 ?_
    exact xf_i (pc := 17) hx hb hr rfl hlocks h hR hK hS dX0_hasTicket_17
  · have h := xneg c1 h
    refine lv_iload_n (pc := 4) hx hb dX0_hasTicket_4 rfl (lv_at hl 1 rfl) ?_
    refine lv_aload_n (pc := 5) hx hb dX0_hasTicket_5 rfl (lv_at hl 0 rfl) ?_
    refine xr_getI (pc := 6) (ci := 4) hx hb hts inX0 hown hK hR rfl k0.1 3 (Nat.le_of_ble_eq_true rfl) rfl (hts _ q_f_X0_25) (fun _ h9 => h9) dX0_hasTicket_6 ?_
    refine lv_icmp_ge (pc := 9) (tgt := 16) hx hb dX0_hasTicket_9 (by decide) (fun c2 => ?_) (fun c2 => ?_)
    · have h := xpos c2 h
      refine lv_iconst (pc := 16) hx hb dX0_hasTicket_16 kc_0 ?_
      exact xf_i (pc := 17) hx hb hr rfl hlocks h hR hK hS dX0_hasTicket_17
    · have h := xneg c2 h
      refine lv_iconst (pc := 12) hx hb dX0_hasTicket_12 kc_1 ?_
      refine lv_goto (pc := 13) (tgt := 17) hx hb dX0_hasTicket_13 (by decide) ?_
      exact xf_i (pc := 17) hx hb hr rfl hlocks h hR hK hS dX0_hasTicket_17
set_option maxHeartbeats 1000000 in
set_option maxRecDepth 20000 in
theorem mX0_lend {l : Launch} {D : va_G} {ca : Nat → ClassId} {z : Nat} {G : xG} {X : va_W} {ad av : Nat → Nat} (hF : xFix z G X) (h0 : Nat) (h1 : Nat) (k0 : xI_Bank G h0) (k1 : xI_Order G h1) {μ μ1 : xM} {r : Int32} (h : fX0_lend h0 h1 μ = some (r, μ1)) : xMi l yX0_lend (xws yX0_lend cX0_lend 3 (some .int)) 1 D ca z G X ad av [.ref h0, .ref h1] μ r μ1 := by
  refine xm_i (by decide) rfl (Nat.le_of_ble_eq_true rfl) [(0, .ref h0), (1, .ref h1)] rfl ?_
  intro p e s m args below meth c ls hx hb hr hml hlocks hts hown hK hE hR hS hl
  have hts : ∀ w ∈ xAll, w.before args s = true := fun w hw => hts w (List.mem_cons_of_mem _ hw)
  rw [fX0_lend] at h
  refine lv_aload_n (pc := 0) hx hb dX0_lend_0 rfl (lv_at hl 0 rfl) ?_
  refine xr_getI (pc := 1) (ci := 4) hx hb hts inX0 hown hK hR rfl k0.1 3 (Nat.le_of_ble_eq_true rfl) rfl (hts _ q_f_X0_25) (fun _ h9 => h9) dX0_lend_1 ?_
  refine lv_istore_n (pc := 4) (lv' := [(2, .int _), (0, .ref _), (1, .ref _)]) hx hb dX0_lend_4 rfl hl (Nat.le_of_ble_eq_true rfl) rfl (fun ls hl => ?_)
  refine lv_aload_n (pc := 5) hx hb dX0_lend_5 rfl (lv_at hl 1 rfl) ?_
  refine xr_getR (pc := 6) (ci := 4) hx hb hts inX0 hown hK hR rfl k0.1 0 (Nat.le_of_ble_eq_true rfl) rfl k0.2.1.1 (hts _ q_f_X0_11) (fun _ h9 => h9) dX0_lend_6 ?_
  refine lv_iload_n (pc := 9) hx hb dX0_lend_9 rfl (lv_at hl 0 rfl) ?_
  obtain ⟨c1, h⟩ := xk_inv h
  refine xr_aald (pc := 10) hx hb hK hR 2 (by decide) k0.2.1.2.1 rfl k0.2.1.2.2.1 c1 (k0.2.1.2.2.2 _ (xlt c1)).1 dX0_lend_10 ?_
  refine lv_aload_n (pc := 11) hx hb dX0_lend_11 rfl (lv_at hl 2 rfl) ?_
  refine lv_aload_n (pc := 12) hx hb dX0_lend_12 rfl (lv_at hl 1 rfl) ?_
  refine xr_getI (pc := 13) (ci := 4) hx hb hts inX0 hown hK hR rfl k0.1 5 (Nat.le_of_ble_eq_true rfl) rfl (hts _ q_f_X0_32) (fun _ h9 => h9) dX0_lend_13 ?_
  refine lv_aload_n (pc := 16) hx hb dX0_lend_16 rfl (lv_at hl 1 rfl) ?_
  refine xr_getI (pc := 17) (ci := 4) hx hb hts inX0 hown hK hR rfl k0.1 4 (Nat.le_of_ble_eq_true rfl) rfl (hts _ q_f_X0_29) (fun _ h9 => h9) dX0_lend_17 ?_
  obtain ⟨m2, c2, h⟩ := xbv_inv h
  refine xc_vV (pc := 20) (As := [.ref _, .int _, .int _]) (rest := []) ⟨hx, hb, hml, hown, hts⟩ (mX5_begin hF _ _ _ _ ((k0.2.1.2.2.2 _ (xlt c1)).2) k1 c2) (xcwV 3 hts fdX5_begin q_m_X0_87 ⟨Nat.le_of_ble_eq_true rfl, Nat.le_of_ble_eq_true rfl⟩) (xRecv hK hR (ci := 9) rfl ((k0.2.1.2.2.2 _ (xlt c1)).2)) hR hK hE hS rfl hl.1 rfl (Nat.le_of_ble_eq_true rfl) dX0_lend_20 ⟨Nat.zero_le _, Nat.zero_le _⟩ (fun H locs hR hS => ?_)
  refine lv_aload_n (pc := 23) hx hb dX0_lend_23 rfl (lv_at hl 1 rfl) ?_
  refine lv_dup (pc := 24) hx hb dX0_lend_24 rfl ?_
  refine xr_getI (pc := 25) (ci := 4) hx hb hts inX0 hown hK hR rfl k0.1 7 (Nat.le_of_ble_eq_true rfl) rfl (hts _ q_f_X0_38) (fun _ h9 => h9) dX0_lend_25 ?_
  refine lv_aload_n (pc := 28) hx hb dX0_lend_28 rfl (lv_at hl 2 rfl) ?_
  refine xr_getI (pc := 29) (ci := 8) hx hb hts inX4 hown hK hR rfl k1 3 (Nat.le_of_ble_eq_true rfl) rfl (hts _ q_f_X0_91) (fun _ h9 => h9) dX0_lend_29 ?_
  refine lv_isub (pc := 32) hx hb dX0_lend_32 ?_
  refine xr_putI (pc := 33) (ci := 4) (ty := .int) hx hb hts inX0 tyX0 tyX0_ok nmX0 hown hK hR hF hS rfl k0.1 7 (Nat.le_of_ble_eq_true rfl) rfl (hts _ q_f_X0_38) (fun _ h9 => h9) rfl rfl rfl rfl dX0_lend_33 (fun H locs hR hS => ?_)
  refine lv_aload_n (pc := 36) hx hb dX0_lend_36 rfl (lv_at hl 1 rfl) ?_
  refine lv_dup (pc := 37) hx hb dX0_lend_37 rfl ?_
  refine xr_getI (pc := 38) (ci := 4) hx hb hts inX0 hown hK hR rfl k0.1 3 (Nat.le_of_ble_eq_true rfl) rfl (hts _ q_f_X0_25) (fun _ h9 => h9) dX0_lend_38 ?_
  refine lv_iconst (pc := 41) hx hb dX0_lend_41 kc_1 ?_
  refine lv_iadd (pc := 42) hx hb dX0_lend_42 ?_
  refine xr_putI (pc := 43) (ci := 4) (ty := .int) hx hb hts inX0 tyX0 tyX0_ok nmX0 hown hK hR hF hS rfl k0.1 3 (Nat.le_of_ble_eq_true rfl) rfl (hts _ q_f_X0_25) (fun _ h9 => h9) rfl rfl rfl rfl dX0_lend_43 (fun H locs hR hS => ?_)
  refine lv_iload_n (pc := 46) hx hb dX0_lend_46 rfl (lv_at hl 0 rfl) ?_
  exact xf_i (pc := 47) hx hb hr rfl hlocks h hR hK hS dX0_lend_47
set_option maxHeartbeats 1000000 in
set_option maxRecDepth 20000 in
theorem mX0_changeRate {l : Launch} {D : va_G} {ca : Nat → ClassId} {z : Nat} {G : xG} {X : va_W} {ad av : Nat → Nat} (hF : xFix z G X) (h0 : Nat) (p1 : Int32) (k0 : xI_Bank G h0) {μ μ1 : xM} {r : Int32} (h : fX0_changeRate h0 p1 μ = some (r, μ1)) : xMi l yX0_changeRate (xws yX0_changeRate cX0_changeRate 3 (some .int)) 0 D ca z G X ad av [.ref h0, .int p1] μ r μ1 := by
  refine xm_i (by decide) rfl (Nat.le_of_ble_eq_true rfl) [(0, .ref h0), (1, .int p1)] rfl ?_
  intro p e s m args below meth c ls hx hb hr hml hlocks hts hown hK hE hR hS hl
  have hts : ∀ w ∈ xAll, w.before args s = true := fun w hw => hts w (List.mem_cons_of_mem _ hw)
  rw [fX0_changeRate] at h
  refine lv_aload_n (pc := 0) hx hb dX0_changeRate_0 rfl (lv_at hl 0 rfl) ?_
  refine xr_getI (pc := 1) (ci := 4) hx hb hts inX0 hown hK hR rfl k0.1 5 (Nat.le_of_ble_eq_true rfl) rfl (hts _ q_f_X0_32) (fun _ h9 => h9) dX0_changeRate_1 ?_
  refine lv_istore_n (pc := 4) (lv' := [(2, .int _), (0, .ref _), (1, .int _)]) hx hb dX0_changeRate_4 rfl hl (Nat.le_of_ble_eq_true rfl) rfl (fun ls hl => ?_)
  refine lv_aload_n (pc := 5) hx hb dX0_changeRate_5 rfl (lv_at hl 1 rfl) ?_
  refine lv_iload_n (pc := 6) hx hb dX0_changeRate_6 rfl (lv_at hl 2 rfl) ?_
  refine xr_putI (pc := 7) (ci := 4) (ty := .int) hx hb hts inX0 tyX0 tyX0_ok nmX0 hown hK hR hF hS rfl k0.1 5 (Nat.le_of_ble_eq_true rfl) rfl (hts _ q_f_X0_32) (fun _ h9 => h9) rfl rfl rfl rfl dX0_changeRate_7 (fun H locs hR hS => ?_)
  refine lv_iload_n (pc := 10) hx hb dX0_changeRate_10 rfl (lv_at hl 0 rfl) ?_
  exact xf_i (pc := 11) hx hb hr rfl hlocks h hR hK hS dX0_changeRate_11
set_option maxHeartbeats 1000000 in
set_option maxRecDepth 20000 in
theorem mX0_changeFee {l : Launch} {D : va_G} {ca : Nat → ClassId} {z : Nat} {G : xG} {X : va_W} {ad av : Nat → Nat} (hF : xFix z G X) (h0 : Nat) (p1 : Int32) (k0 : xI_Bank G h0) {μ μ1 : xM} {r : Int32} (h : fX0_changeFee h0 p1 μ = some (r, μ1)) : xMi l yX0_changeFee (xws yX0_changeFee cX0_changeFee 3 (some .int)) 0 D ca z G X ad av [.ref h0, .int p1] μ r μ1 := by
  refine xm_i (by decide) rfl (Nat.le_of_ble_eq_true rfl) [(0, .ref h0), (1, .int p1)] rfl ?_
  intro p e s m args below meth c ls hx hb hr hml hlocks hts hown hK hE hR hS hl
  have hts : ∀ w ∈ xAll, w.before args s = true := fun w hw => hts w (List.mem_cons_of_mem _ hw)
  rw [fX0_changeFee] at h
  refine lv_aload_n (pc := 0) hx hb dX0_changeFee_0 rfl (lv_at hl 0 rfl) ?_
  refine xr_getI (pc := 1) (ci := 4) hx hb hts inX0 hown hK hR rfl k0.1 6 (Nat.le_of_ble_eq_true rfl) rfl (hts _ q_f_X0_35) (fun _ h9 => h9) dX0_changeFee_1 ?_
  refine lv_istore_n (pc := 4) (lv' := [(2, .int _), (0, .ref _), (1, .int _)]) hx hb dX0_changeFee_4 rfl hl (Nat.le_of_ble_eq_true rfl) rfl (fun ls hl => ?_)
  refine lv_aload_n (pc := 5) hx hb dX0_changeFee_5 rfl (lv_at hl 1 rfl) ?_
  refine lv_iload_n (pc := 6) hx hb dX0_changeFee_6 rfl (lv_at hl 2 rfl) ?_
  refine xr_putI (pc := 7) (ci := 4) (ty := .int) hx hb hts inX0 tyX0 tyX0_ok nmX0 hown hK hR hF hS rfl k0.1 6 (Nat.le_of_ble_eq_true rfl) rfl (hts _ q_f_X0_35) (fun _ h9 => h9) rfl rfl rfl rfl dX0_changeFee_7 (fun H locs hR hS => ?_)
  refine lv_iload_n (pc := 10) hx hb dX0_changeFee_10 rfl (lv_at hl 0 rfl) ?_
  exact xf_i (pc := 11) hx hb hr rfl hlocks h hR hK hS dX0_changeFee_11
set_option maxHeartbeats 1000000 in
set_option maxRecDepth 20000 in
theorem wX0_endWeek_14 {p : Program} {l : Launch} {e : Env} {s : State} {m : MethodId} {args : Array Value} {below : List Frame} {meth : Method} {c : Code} {D : va_G} {ca : Nat → ClassId} {z : Nat} {G : xG} {X : va_W} {ad av : Nat → Nat} (hF : xFix z G X) (h0 : Nat) (k0 : xI_Bank G h0) (hx : p.tables.exec = Jvm.exec) (hb : c.code = cX0_endWeek) (hr : meth.sig.returnType = (some .int)) (hml : c.maxLocals = 3) (hlocks : meth.locks = false) (hts : ∀ w ∈ xAll, w.before args s = true) (hown : s.vm.findClass RX0 = some m.cls) (hK : va_K D vwCl (xT ca) s) (hE : xEv z ad av s s.heap) {μ1 : xM} {r : Int32} :
    ∀ (n : Nat) (x1 : Int32) (x2 : Int32) (μ : xM) (H : Heap) (locs : List Loc) (ls : Array Slot), lX0_endWeek_14 h0 n x1 x2 μ = some (r, μ1) → xRep D ca G X μ H → va_S (fun q => z ≤ q) s.heap H locs → lv_has ls 3 [(0, .ref h0), (1, .int x1), (2, .int x2)] → W p l e (xRm 2 0 0) s m args below meth c H locs 0 0 (MQ below (va_Qi (fun (r' : Int32) (_ : Unit) => r' = r) (fun _ t => xB D ca G X μ1 t) (fun q => z ≤ q)) args s 0 0 (fun q => z ≤ q)) (F0 m 14 ls []) := by
  intro n
  induction n with
  | zero => intro x1 x2 μ H locs ls h; cases h
  | succ n ih =>
    intro x1 x2 μ H locs ls h hR hS hl
    rw [lX0_endWeek_14] at h
    refine lv_iload_n (pc := 14) hx hb dX0_endWeek_14 rfl (lv_at hl 2 rfl) ?_
    refine lv_aload_n (pc := 15) hx hb dX0_endWeek_15 rfl (lv_at hl 0 rfl) ?_
    refine xr_getI (pc := 16) (ci := 4) hx hb hts inX0 hown hK hR rfl k0.1 3 (Nat.le_of_ble_eq_true rfl) rfl (hts _ q_f_X0_25) (fun _ h9 => h9) dX0_endWeek_16 ?_
    refine lv_icmp_ge (pc := 19) (tgt := 51) hx hb dX0_endWeek_19 (by decide) (fun c1 => ?_) (fun c1 => ?_)
    · have h := xpos c1 h
      refine lv_iload_n (pc := 51) hx hb dX0_endWeek_51 rfl (lv_at hl 1 rfl) ?_
      exact xf_i (pc := 52) hx hb hr rfl hlocks h hR hK hS dX0_endWeek_52
    · have h := xneg c1 h
      refine lv_aload_n (pc := 22) hx hb dX0_endWeek_22 rfl (lv_at hl 0 rfl) ?_
      refine xr_getR (pc := 23) (ci := 4) hx hb hts inX0 hown hK hR rfl k0.1 0 (Nat.le_of_ble_eq_true rfl) rfl k0.2.1.1 (hts _ q_f_X0_11) (fun _ h9 => h9) dX0_endWeek_23 ?_
      refine lv_iload_n (pc := 26) hx hb dX0_endWeek_26 rfl (lv_at hl 2 rfl) ?_
      obtain ⟨c2, h⟩ := xk_inv h
      refine xr_aald (pc := 27) hx hb hK hR 2 (by decide) k0.2.1.2.1 rfl k0.2.1.2.2.1 c2 (k0.2.1.2.2.2 _ (xlt c2)).1 dX0_endWeek_27 ?_
      refine lv_aload_n (pc := 28) hx hb dX0_endWeek_28 rfl (lv_at hl 0 rfl) ?_
      refine xr_getI (pc := 29) (ci := 4) hx hb hts inX0 hown hK hR rfl k0.1 4 (Nat.le_of_ble_eq_true rfl) rfl (hts _ q_f_X0_29) (fun _ h9 => h9) dX0_endWeek_29 ?_
      refine lv_aload_n (pc := 32) hx hb dX0_endWeek_32 rfl (lv_at hl 0 rfl) ?_
      refine xr_getI (pc := 33) (ci := 4) hx hb hts inX0 hown hK hR rfl k0.1 6 (Nat.le_of_ble_eq_true rfl) rfl (hts _ q_f_X0_35) (fun _ h9 => h9) dX0_endWeek_33 ?_
      obtain ⟨r3, m3, c3, h⟩ := xb_inv h
      refine xc_iV (pc := 36) (As := [.int _, .int _]) (rest := []) ⟨hx, hb, hml, hown, hts⟩ (mX5_becomesLotAtEndOf hF _ _ _ ((k0.2.1.2.2.2 _ (xlt c2)).2) c3) (xcwV 2 hts fdX5_becomesLotAtEndOf q_m_X0_98 ⟨Nat.le_of_ble_eq_true rfl, Nat.le_of_ble_eq_true rfl⟩) (xRecv hK hR (ci := 9) rfl ((k0.2.1.2.2.2 _ (xlt c2)).2)) hR hK hE hS rfl hl.1 rfl (Nat.le_of_ble_eq_true rfl) dX0_endWeek_36 ⟨Nat.zero_le _, Nat.zero_le _⟩ (fun H locs hR hS => ?_)
      refine lv_if_eq (pc := 39) (tgt := 45) hx hb dX0_endWeek_39 (by decide) (fun c4 => ?_) (fun c4 => ?_)
      · have h := xpos c4 h
        refine lv_iinc (pc := 45) (lv' := [(2, .int _), (0, .ref _), (1, .int _)]) hx hb dX0_endWeek_45 hl (k := 2) rfl (xinc kc_1) (Nat.le_of_ble_eq_true rfl) rfl (fun ls hl => ?_)
        refine lv_goto (pc := 48) (tgt := 14) hx hb dX0_endWeek_48 (by decide) ?_
        exact ih _ _ _ _ _ _ h hR hS (lv_sub hl [1, 2, 0] rfl)
      · have h := xneg c4 h
        refine lv_iinc (pc := 42) (lv' := [(1, .int _), (0, .ref _), (2, .int _)]) hx hb dX0_endWeek_42 hl (k := 1) rfl (xinc kc_1) (Nat.le_of_ble_eq_true rfl) rfl (fun ls hl => ?_)
        refine lv_iinc (pc := 45) (lv' := [(2, .int _), (1, .int _), (0, .ref _)]) hx hb dX0_endWeek_45 hl (k := 2) rfl (xinc kc_1) (Nat.le_of_ble_eq_true rfl) rfl (fun ls hl => ?_)
        refine lv_goto (pc := 48) (tgt := 14) hx hb dX0_endWeek_48 (by decide) ?_
        exact ih _ _ _ _ _ _ h hR hS (lv_sub hl [2, 1, 0] rfl)
set_option maxHeartbeats 1000000 in
set_option maxRecDepth 20000 in
theorem mX0_endWeek {l : Launch} {D : va_G} {ca : Nat → ClassId} {z : Nat} {G : xG} {X : va_W} {ad av : Nat → Nat} (hF : xFix z G X) (h0 : Nat) (k0 : xI_Bank G h0) {μ μ1 : xM} {r : Int32} (h : fX0_endWeek h0 μ = some (r, μ1)) : xMi l yX0_endWeek (xws yX0_endWeek cX0_endWeek 3 (some .int)) 2 D ca z G X ad av [.ref h0] μ r μ1 := by
  refine xm_i (by decide) rfl (Nat.le_of_ble_eq_true rfl) [(0, .ref h0)] rfl ?_
  intro p e s m args below meth c ls hx hb hr hml hlocks hts hown hK hE hR hS hl
  have hts : ∀ w ∈ xAll, w.before args s = true := fun w hw => hts w (List.mem_cons_of_mem _ hw)
  rw [fX0_endWeek] at h
  refine lv_iconst (pc := 0) hx hb dX0_endWeek_0 kc_0 ?_
  refine lv_istore_n (pc := 1) (lv' := [(1, .int _), (0, .ref _)]) hx hb dX0_endWeek_1 rfl hl (Nat.le_of_ble_eq_true rfl) rfl (fun ls hl => ?_)
  refine lv_aload_n (pc := 2) hx hb dX0_endWeek_2 rfl (lv_at hl 1 rfl) ?_
  refine lv_dup (pc := 3) hx hb dX0_endWeek_3 rfl ?_
  refine xr_getI (pc := 4) (ci := 4) hx hb hts inX0 hown hK hR rfl k0.1 4 (Nat.le_of_ble_eq_true rfl) rfl (hts _ q_f_X0_29) (fun _ h9 => h9) dX0_endWeek_4 ?_
  refine lv_iconst (pc := 7) hx hb dX0_endWeek_7 kc_1 ?_
  refine lv_iadd (pc := 8) hx hb dX0_endWeek_8 ?_
  refine xr_putI (pc := 9) (ci := 4) (ty := .int) hx hb hts inX0 tyX0 tyX0_ok nmX0 hown hK hR hF hS rfl k0.1 4 (Nat.le_of_ble_eq_true rfl) rfl (hts _ q_f_X0_29) (fun _ h9 => h9) rfl rfl rfl rfl dX0_endWeek_9 (fun H locs hR hS => ?_)
  refine lv_iconst (pc := 12) hx hb dX0_endWeek_12 kc_0 ?_
  refine lv_istore_n (pc := 13) (lv' := [(2, .int _), (1, .int _), (0, .ref _)]) hx hb dX0_endWeek_13 rfl hl (Nat.le_of_ble_eq_true rfl) rfl (fun ls hl => ?_)
  exact wX0_endWeek_14 hF h0 k0 hx hb hr hml hlocks hts hown hK hE _ _ _ _ _ _ _ h hR hS (lv_sub hl [2, 1, 0] rfl)
set_option maxHeartbeats 1000000 in
set_option maxRecDepth 20000 in
theorem wX0_endWeeks_4 {p : Program} {l : Launch} {e : Env} {s : State} {m : MethodId} {args : Array Value} {below : List Frame} {meth : Method} {c : Code} {D : va_G} {ca : Nat → ClassId} {z : Nat} {G : xG} {X : va_W} {ad av : Nat → Nat} (hF : xFix z G X) (h0 : Nat) (p1 : Int32) (k0 : xI_Bank G h0) (hx : p.tables.exec = Jvm.exec) (hb : c.code = cX0_endWeeks) (hr : meth.sig.returnType = (some .int)) (hml : c.maxLocals = 4) (hlocks : meth.locks = false) (hts : ∀ w ∈ xAll, w.before args s = true) (hown : s.vm.findClass RX0 = some m.cls) (hK : va_K D vwCl (xT ca) s) (hE : xEv z ad av s s.heap) {μ1 : xM} {r : Int32} :
    ∀ (n : Nat) (x2 : Int32) (x3 : Int32) (μ : xM) (H : Heap) (locs : List Loc) (ls : Array Slot), lX0_endWeeks_4 h0 p1 n x2 x3 μ = some (r, μ1) → xRep D ca G X μ H → va_S (fun q => z ≤ q) s.heap H locs → lv_has ls 4 [(0, .ref h0), (1, .int p1), (2, .int x2), (3, .int x3)] → W p l e (xRm 3 0 0) s m args below meth c H locs 0 0 (MQ below (va_Qi (fun (r' : Int32) (_ : Unit) => r' = r) (fun _ t => xB D ca G X μ1 t) (fun q => z ≤ q)) args s 0 0 (fun q => z ≤ q)) (F0 m 4 ls []) := by
  intro n
  induction n with
  | zero => intro x2 x3 μ H locs ls h; cases h
  | succ n ih =>
    intro x2 x3 μ H locs ls h hR hS hl
    rw [lX0_endWeeks_4] at h
    refine lv_iload_n (pc := 4) hx hb dX0_endWeeks_4 rfl (lv_at hl 3 rfl) ?_
    refine lv_iload_n (pc := 5) hx hb dX0_endWeeks_5 rfl (lv_at hl 1 rfl) ?_
    refine lv_icmp_ge (pc := 6) (tgt := 22) hx hb dX0_endWeeks_6 (by decide) (fun c1 => ?_) (fun c1 => ?_)
    · have h := xpos c1 h
      refine lv_iload_n (pc := 22) hx hb dX0_endWeeks_22 rfl (lv_at hl 2 rfl) ?_
      exact xf_i (pc := 23) hx hb hr rfl hlocks h hR hK hS dX0_endWeeks_23
    · have h := xneg c1 h
      refine lv_iload_n (pc := 9) hx hb dX0_endWeeks_9 rfl (lv_at hl 2 rfl) ?_
      refine lv_aload_n (pc := 10) hx hb dX0_endWeeks_10 rfl (lv_at hl 0 rfl) ?_
      obtain ⟨r2, m2, c2, h⟩ := xb_inv h
      refine xc_iV (pc := 11) (As := []) (rest := [.int _]) ⟨hx, hb, hml, hown, hts⟩ (mX0_endWeek hF _ k0 c2) (xcwV 0 hts fdX0_endWeek q_m_X0_94 ⟨Nat.le_of_ble_eq_true rfl, Nat.le_of_ble_eq_true rfl⟩) (xRecv hK hR (ci := 4) rfl k0.1) hR hK hE hS rfl hl.1 rfl (Nat.le_of_ble_eq_true rfl) dX0_endWeeks_11 ⟨Nat.zero_le _, Nat.zero_le _⟩ (fun H locs hR hS => ?_)
      refine lv_iadd (pc := 14) hx hb dX0_endWeeks_14 ?_
      refine lv_istore_n (pc := 15) (lv' := [(2, .int _), (0, .ref _), (1, .int _), (3, .int _)]) hx hb dX0_endWeeks_15 rfl hl (Nat.le_of_ble_eq_true rfl) rfl (fun ls hl => ?_)
      refine lv_iinc (pc := 16) (lv' := [(3, .int _), (2, .int _), (0, .ref _), (1, .int _)]) hx hb dX0_endWeeks_16 hl (k := 3) rfl (xinc kc_1) (Nat.le_of_ble_eq_true rfl) rfl (fun ls hl => ?_)
      refine lv_goto (pc := 19) (tgt := 4) hx hb dX0_endWeeks_19 (by decide) ?_
      exact ih _ _ _ _ _ _ h hR hS (lv_sub hl [2, 3, 1, 0] rfl)
set_option maxHeartbeats 1000000 in
set_option maxRecDepth 20000 in
theorem mX0_endWeeks {l : Launch} {D : va_G} {ca : Nat → ClassId} {z : Nat} {G : xG} {X : va_W} {ad av : Nat → Nat} (hF : xFix z G X) (h0 : Nat) (p1 : Int32) (k0 : xI_Bank G h0) {μ μ1 : xM} {r : Int32} (h : fX0_endWeeks h0 p1 μ = some (r, μ1)) : xMi l yX0_endWeeks (xws yX0_endWeeks cX0_endWeeks 4 (some .int)) 3 D ca z G X ad av [.ref h0, .int p1] μ r μ1 := by
  refine xm_i (by decide) rfl (Nat.le_of_ble_eq_true rfl) [(0, .ref h0), (1, .int p1)] rfl ?_
  intro p e s m args below meth c ls hx hb hr hml hlocks hts hown hK hE hR hS hl
  have hts : ∀ w ∈ xAll, w.before args s = true := fun w hw => hts w (List.mem_cons_of_mem _ hw)
  rw [fX0_endWeeks] at h
  refine lv_iconst (pc := 0) hx hb dX0_endWeeks_0 kc_0 ?_
  refine lv_istore_n (pc := 1) (lv' := [(2, .int _), (0, .ref _), (1, .int _)]) hx hb dX0_endWeeks_1 rfl hl (Nat.le_of_ble_eq_true rfl) rfl (fun ls hl => ?_)
  refine lv_iconst (pc := 2) hx hb dX0_endWeeks_2 kc_0 ?_
  refine lv_istore_n (pc := 3) (lv' := [(3, .int _), (2, .int _), (0, .ref _), (1, .int _)]) hx hb dX0_endWeeks_3 rfl hl (Nat.le_of_ble_eq_true rfl) rfl (fun ls hl => ?_)
  exact wX0_endWeeks_4 hF h0 p1 k0 hx hb hr hml hlocks hts hown hK hE _ _ _ _ _ _ _ h hR hS (lv_sub hl [2, 3, 1, 0] rfl)
set_option maxHeartbeats 1000000 in
set_option maxRecDepth 20000 in
theorem mX0_giveBack {l : Launch} {D : va_G} {ca : Nat → ClassId} {z : Nat} {G : xG} {X : va_W} {ad av : Nat → Nat} (hF : xFix z G X) (h0 : Nat) (p1 : Int32) (k0 : xI_Bank G h0) {μ μ1 : xM} {r : Int32} (h : fX0_giveBack h0 p1 μ = some (r, μ1)) : xMi l yX0_giveBack (xws yX0_giveBack cX0_giveBack 3 (some .int)) 2 D ca z G X ad av [.ref h0, .int p1] μ r μ1 := by
  refine xm_i (by decide) rfl (Nat.le_of_ble_eq_true rfl) [(0, .ref h0), (1, .int p1)] rfl ?_
  intro p e s m args below meth c ls hx hb hr hml hlocks hts hown hK hE hR hS hl
  have hts : ∀ w ∈ xAll, w.before args s = true := fun w hw => hts w (List.mem_cons_of_mem _ hw)
  rw [fX0_giveBack] at h
  refine lv_aload_n (pc := 0) hx hb dX0_giveBack_0 rfl (lv_at hl 0 rfl) ?_
  refine xr_getR (pc := 1) (ci := 4) hx hb hts inX0 hown hK hR rfl k0.1 0 (Nat.le_of_ble_eq_true rfl) rfl k0.2.1.1 (hts _ q_f_X0_11) (fun _ h9 => h9) dX0_giveBack_1 ?_
  refine lv_iload_n (pc := 4) hx hb dX0_giveBack_4 rfl (lv_at hl 1 rfl) ?_
  obtain ⟨c1, h⟩ := xk_inv h
  refine xr_aald (pc := 5) hx hb hK hR 2 (by decide) k0.2.1.2.1 rfl k0.2.1.2.2.1 c1 (k0.2.1.2.2.2 _ (xlt c1)).1 dX0_giveBack_5 ?_
  obtain ⟨r2, m2, c2, h⟩ := xb_inv h
  refine xc_iV (pc := 6) (As := []) (rest := []) ⟨hx, hb, hml, hown, hts⟩ (mX5_owed hF _ ((k0.2.1.2.2.2 _ (xlt c1)).2) c2) (xcwV 0 hts fdX5_owed q_m_X0_102 ⟨Nat.le_of_ble_eq_true rfl, Nat.le_of_ble_eq_true rfl⟩) (xRecv hK hR (ci := 9) rfl ((k0.2.1.2.2.2 _ (xlt c1)).2)) hR hK hE hS rfl hl.1 rfl (Nat.le_of_ble_eq_true rfl) dX0_giveBack_6 ⟨Nat.zero_le _, Nat.zero_le _⟩ (fun H locs hR hS => ?_)
  refine lv_istore_n (pc := 9) (lv' := [(2, .int _), (0, .ref _), (1, .int _)]) hx hb dX0_giveBack_9 rfl hl (Nat.le_of_ble_eq_true rfl) rfl (fun ls hl => ?_)
  refine lv_aload_n (pc := 10) hx hb dX0_giveBack_10 rfl (lv_at hl 1 rfl) ?_
  refine xr_getR (pc := 11) (ci := 4) hx hb hts inX0 hown hK hR rfl k0.1 0 (Nat.le_of_ble_eq_true rfl) rfl k0.2.1.1 (hts _ q_f_X0_11) (fun _ h9 => h9) dX0_giveBack_11 ?_
  refine lv_iload_n (pc := 14) hx hb dX0_giveBack_14 rfl (lv_at hl 2 rfl) ?_
  obtain ⟨c3, h⟩ := xk_inv h
  refine xr_aald (pc := 15) hx hb hK hR 2 (by decide) k0.2.1.2.1 rfl k0.2.1.2.2.1 c3 (k0.2.1.2.2.2 _ (xlt c3)).1 dX0_giveBack_15 ?_
  refine lv_iload_n (pc := 16) hx hb dX0_giveBack_16 rfl (lv_at hl 0 rfl) ?_
  obtain ⟨r4, m4, c4, h⟩ := xb_inv h
  refine xc_iV (pc := 17) (As := [.int _]) (rest := []) ⟨hx, hb, hml, hown, hts⟩ (mX5_payBack hF _ _ ((k0.2.1.2.2.2 _ (xlt c3)).2) c4) (xcwV 1 hts fdX5_payBack q_m_X0_105 ⟨Nat.le_of_ble_eq_true rfl, Nat.le_of_ble_eq_true rfl⟩) (xRecv hK hR (ci := 9) rfl ((k0.2.1.2.2.2 _ (xlt c3)).2)) hR hK hE hS rfl hl.1 rfl (Nat.le_of_ble_eq_true rfl) dX0_giveBack_17 ⟨Nat.zero_le _, Nat.zero_le _⟩ (fun H locs hR hS => ?_)
  refine lv_pop (pc := 20) hx hb dX0_giveBack_20 rfl ?_
  refine lv_aload_n (pc := 21) hx hb dX0_giveBack_21 rfl (lv_at hl 1 rfl) ?_
  refine xr_getR (pc := 22) (ci := 4) hx hb hts inX0 hown hK hR rfl k0.1 0 (Nat.le_of_ble_eq_true rfl) rfl k0.2.1.1 (hts _ q_f_X0_11) (fun _ h9 => h9) dX0_giveBack_22 ?_
  refine lv_iload_n (pc := 25) hx hb dX0_giveBack_25 rfl (lv_at hl 2 rfl) ?_
  obtain ⟨c5, h⟩ := xk_inv h
  refine xr_aald (pc := 26) hx hb hK hR 2 (by decide) k0.2.1.2.1 rfl k0.2.1.2.2.1 c5 (k0.2.1.2.2.2 _ (xlt c5)).1 dX0_giveBack_26 ?_
  refine lv_iconst (pc := 27) hx hb dX0_giveBack_27 kc_2 ?_
  refine xr_putI (pc := 28) (ci := 9) (ty := .int) hx hb hts inX5 tyX5 tyX5_ok nmX5 hown hK hR hF hS rfl ((k0.2.1.2.2.2 _ (xlt c5)).2) 5 (Nat.le_of_ble_eq_true rfl) rfl (hts _ q_f_X0_108) (fun _ h9 => h9) rfl rfl rfl rfl dX0_giveBack_28 (fun H locs hR hS => ?_)
  refine lv_aload_n (pc := 31) hx hb dX0_giveBack_31 rfl (lv_at hl 1 rfl) ?_
  refine lv_dup (pc := 32) hx hb dX0_giveBack_32 rfl ?_
  refine xr_getI (pc := 33) (ci := 4) hx hb hts inX0 hown hK hR rfl k0.1 7 (Nat.le_of_ble_eq_true rfl) rfl (hts _ q_f_X0_38) (fun _ h9 => h9) dX0_giveBack_33 ?_
  refine lv_iload_n (pc := 36) hx hb dX0_giveBack_36 rfl (lv_at hl 0 rfl) ?_
  refine lv_iadd (pc := 37) hx hb dX0_giveBack_37 ?_
  refine xr_putI (pc := 38) (ci := 4) (ty := .int) hx hb hts inX0 tyX0 tyX0_ok nmX0 hown hK hR hF hS rfl k0.1 7 (Nat.le_of_ble_eq_true rfl) rfl (hts _ q_f_X0_38) (fun _ h9 => h9) rfl rfl rfl rfl dX0_giveBack_38 (fun H locs hR hS => ?_)
  refine lv_iload_n (pc := 41) hx hb dX0_giveBack_41 rfl (lv_at hl 0 rfl) ?_
  exact xf_i (pc := 42) hx hb hr rfl hlocks h hR hK hS dX0_giveBack_42
set_option maxHeartbeats 1000000 in
set_option maxRecDepth 20000 in
theorem mX0_takePart {l : Launch} {D : va_G} {ca : Nat → ClassId} {z : Nat} {G : xG} {X : va_W} {ad av : Nat → Nat} (hF : xFix z G X) (h0 : Nat) (p1 : Int32) (p2 : Int32) (k0 : xI_Bank G h0) {μ μ1 : xM} {r : Int32} (h : fX0_takePart h0 p1 p2 μ = some (r, μ1)) : xMi l yX0_takePart (xws yX0_takePart cX0_takePart 3 (some .int)) 2 D ca z G X ad av [.ref h0, .int p1, .int p2] μ r μ1 := by
  refine xm_i (by decide) rfl (Nat.le_of_ble_eq_true rfl) [(0, .ref h0), (1, .int p1), (2, .int p2)] rfl ?_
  intro p e s m args below meth c ls hx hb hr hml hlocks hts hown hK hE hR hS hl
  have hts : ∀ w ∈ xAll, w.before args s = true := fun w hw => hts w (List.mem_cons_of_mem _ hw)
  rw [fX0_takePart] at h
  refine lv_aload_n (pc := 0) hx hb dX0_takePart_0 rfl (lv_at hl 0 rfl) ?_
  refine lv_dup (pc := 1) hx hb dX0_takePart_1 rfl ?_
  refine xr_getI (pc := 2) (ci := 4) hx hb hts inX0 hown hK hR rfl k0.1 7 (Nat.le_of_ble_eq_true rfl) rfl (hts _ q_f_X0_38) (fun _ h9 => h9) dX0_takePart_2 ?_
  refine lv_iload_n (pc := 5) hx hb dX0_takePart_5 rfl (lv_at hl 2 rfl) ?_
  refine lv_iadd (pc := 6) hx hb dX0_takePart_6 ?_
  refine xr_putI (pc := 7) (ci := 4) (ty := .int) hx hb hts inX0 tyX0 tyX0_ok nmX0 hown hK hR hF hS rfl k0.1 7 (Nat.le_of_ble_eq_true rfl) rfl (hts _ q_f_X0_38) (fun _ h9 => h9) rfl rfl rfl rfl dX0_takePart_7 (fun H locs hR hS => ?_)
  refine lv_aload_n (pc := 10) hx hb dX0_takePart_10 rfl (lv_at hl 0 rfl) ?_
  refine xr_getR (pc := 11) (ci := 4) hx hb hts inX0 hown hK hR rfl k0.1 0 (Nat.le_of_ble_eq_true rfl) rfl k0.2.1.1 (hts _ q_f_X0_11) (fun _ h9 => h9) dX0_takePart_11 ?_
  refine lv_iload_n (pc := 14) hx hb dX0_takePart_14 rfl (lv_at hl 1 rfl) ?_
  obtain ⟨c1, h⟩ := xk_inv h
  refine xr_aald (pc := 15) hx hb hK hR 2 (by decide) k0.2.1.2.1 rfl k0.2.1.2.2.1 c1 (k0.2.1.2.2.2 _ (xlt c1)).1 dX0_takePart_15 ?_
  refine lv_iload_n (pc := 16) hx hb dX0_takePart_16 rfl (lv_at hl 2 rfl) ?_
  obtain ⟨r2, m2, c2, h⟩ := xb_inv h
  refine xc_iV (pc := 17) (As := [.int _]) (rest := []) ⟨hx, hb, hml, hown, hts⟩ (mX5_payBack hF _ _ ((k0.2.1.2.2.2 _ (xlt c1)).2) c2) (xcwV 1 hts fdX5_payBack q_m_X0_105 ⟨Nat.le_of_ble_eq_true rfl, Nat.le_of_ble_eq_true rfl⟩) (xRecv hK hR (ci := 9) rfl ((k0.2.1.2.2.2 _ (xlt c1)).2)) hR hK hE hS rfl hl.1 rfl (Nat.le_of_ble_eq_true rfl) dX0_takePart_17 ⟨Nat.zero_le _, Nat.zero_le _⟩ (fun H locs hR hS => ?_)
  exact xf_i (pc := 20) hx hb hr rfl hlocks h hR hK hS dX0_takePart_20
set_option maxHeartbeats 1000000 in
set_option maxRecDepth 20000 in
theorem mX0_beginAnew {l : Launch} {D : va_G} {ca : Nat → ClassId} {z : Nat} {G : xG} {X : va_W} {ad av : Nat → Nat} (hF : xFix z G X) (h0 : Nat) (p1 : Int32) (k0 : xI_Bank G h0) {μ μ1 : xM} {r : Int32} (h : fX0_beginAnew h0 p1 μ = some (r, μ1)) : xMi l yX0_beginAnew (xws yX0_beginAnew cX0_beginAnew 3 (some .int)) 3 D ca z G X ad av [.ref h0, .int p1] μ r μ1 := by
  refine xm_i (by decide) rfl (Nat.le_of_ble_eq_true rfl) [(0, .ref h0), (1, .int p1)] rfl ?_
  intro p e s m args below meth c ls hx hb hr hml hlocks hts hown hK hE hR hS hl
  have hts : ∀ w ∈ xAll, w.before args s = true := fun w hw => hts w (List.mem_cons_of_mem _ hw)
  rw [fX0_beginAnew] at h
  refine lv_aload_n (pc := 0) hx hb dX0_beginAnew_0 rfl (lv_at hl 0 rfl) ?_
  refine xr_getR (pc := 1) (ci := 4) hx hb hts inX0 hown hK hR rfl k0.1 0 (Nat.le_of_ble_eq_true rfl) rfl k0.2.1.1 (hts _ q_f_X0_11) (fun _ h9 => h9) dX0_beginAnew_1 ?_
  refine lv_iload_n (pc := 4) hx hb dX0_beginAnew_4 rfl (lv_at hl 1 rfl) ?_
  obtain ⟨c1, h⟩ := xk_inv h
  refine xr_aald (pc := 5) hx hb hK hR 2 (by decide) k0.2.1.2.1 rfl k0.2.1.2.2.1 c1 (k0.2.1.2.2.2 _ (xlt c1)).1 dX0_beginAnew_5 ?_
  refine xr_getI (pc := 6) (ci := 9) hx hb hts inX5 hown hK hR rfl ((k0.2.1.2.2.2 _ (xlt c1)).2) 4 (Nat.le_of_ble_eq_true rfl) rfl (hts _ q_f_X0_111) (fun _ h9 => h9) dX0_beginAnew_6 ?_
  refine lv_istore_n (pc := 9) (lv' := [(2, .int _), (0, .ref _), (1, .int _)]) hx hb dX0_beginAnew_9 rfl hl (Nat.le_of_ble_eq_true rfl) rfl (fun ls hl => ?_)
  refine lv_aload_n (pc := 10) hx hb dX0_beginAnew_10 rfl (lv_at hl 1 rfl) ?_
  refine lv_iload_n (pc := 11) hx hb dX0_beginAnew_11 rfl (lv_at hl 2 rfl) ?_
  refine lv_iload_n (pc := 12) hx hb dX0_beginAnew_12 rfl (lv_at hl 0 rfl) ?_
  obtain ⟨r2, m2, c2, h⟩ := xb_inv h
  refine xc_iV (pc := 13) (As := [.int _, .int _]) (rest := []) ⟨hx, hb, hml, hown, hts⟩ (mX0_takePart hF _ _ _ k0 c2) (xcwV 2 hts fdX0_takePart q_m_X0_74 ⟨Nat.le_of_ble_eq_true rfl, Nat.le_of_ble_eq_true rfl⟩) (xRecv hK hR (ci := 4) rfl k0.1) hR hK hE hS rfl hl.1 rfl (Nat.le_of_ble_eq_true rfl) dX0_beginAnew_13 ⟨Nat.zero_le _, Nat.zero_le _⟩ (fun H locs hR hS => ?_)
  refine lv_pop (pc := 16) hx hb dX0_beginAnew_16 rfl ?_
  refine lv_aload_n (pc := 17) hx hb dX0_beginAnew_17 rfl (lv_at hl 1 rfl) ?_
  refine xr_getR (pc := 18) (ci := 4) hx hb hts inX0 hown hK hR rfl k0.1 0 (Nat.le_of_ble_eq_true rfl) rfl k0.2.1.1 (hts _ q_f_X0_11) (fun _ h9 => h9) dX0_beginAnew_18 ?_
  refine lv_iload_n (pc := 21) hx hb dX0_beginAnew_21 rfl (lv_at hl 2 rfl) ?_
  obtain ⟨c3, h⟩ := xk_inv h
  refine xr_aald (pc := 22) hx hb hK hR 2 (by decide) k0.2.1.2.1 rfl k0.2.1.2.2.1 c3 (k0.2.1.2.2.2 _ (xlt c3)).1 dX0_beginAnew_22 ?_
  refine lv_aload_n (pc := 23) hx hb dX0_beginAnew_23 rfl (lv_at hl 1 rfl) ?_
  refine xr_getI (pc := 24) (ci := 4) hx hb hts inX0 hown hK hR rfl k0.1 4 (Nat.le_of_ble_eq_true rfl) rfl (hts _ q_f_X0_29) (fun _ h9 => h9) dX0_beginAnew_24 ?_
  refine xr_putI (pc := 27) (ci := 9) (ty := .int) hx hb hts inX5 tyX5 tyX5_ok nmX5 hown hK hR hF hS rfl ((k0.2.1.2.2.2 _ (xlt c3)).2) 6 (Nat.le_of_ble_eq_true rfl) rfl (hts _ q_f_X0_114) (fun _ h9 => h9) rfl rfl rfl rfl dX0_beginAnew_27 (fun H locs hR hS => ?_)
  refine lv_iload_n (pc := 30) hx hb dX0_beginAnew_30 rfl (lv_at hl 0 rfl) ?_
  exact xf_i (pc := 31) hx hb hr rfl hlocks h hR hK hS dX0_beginAnew_31
set_option maxHeartbeats 1000000 in
set_option maxRecDepth 20000 in
theorem mX0_sellLot {l : Launch} {D : va_G} {ca : Nat → ClassId} {z : Nat} {G : xG} {X : va_W} {ad av : Nat → Nat} (hF : xFix z G X) (h0 : Nat) (p1 : Int32) (p2 : Int32) (k0 : xI_Bank G h0) {μ μ1 : xM} {r : Int32} (h : fX0_sellLot h0 p1 p2 μ = some (r, μ1)) : xMi l yX0_sellLot (xws yX0_sellLot cX0_sellLot 4 (some .int)) 1 D ca z G X ad av [.ref h0, .int p1, .int p2] μ r μ1 := by
  refine xm_i (by decide) rfl (Nat.le_of_ble_eq_true rfl) [(0, .ref h0), (1, .int p1), (2, .int p2)] rfl ?_
  intro p e s m args below meth c ls hx hb hr hml hlocks hts hown hK hE hR hS hl
  have hts : ∀ w ∈ xAll, w.before args s = true := fun w hw => hts w (List.mem_cons_of_mem _ hw)
  rw [fX0_sellLot] at h
  refine lv_aload_n (pc := 0) hx hb dX0_sellLot_0 rfl (lv_at hl 0 rfl) ?_
  refine xr_getR (pc := 1) (ci := 4) hx hb hts inX0 hown hK hR rfl k0.1 0 (Nat.le_of_ble_eq_true rfl) rfl k0.2.1.1 (hts _ q_f_X0_11) (fun _ h9 => h9) dX0_sellLot_1 ?_
  refine lv_iload_n (pc := 4) hx hb dX0_sellLot_4 rfl (lv_at hl 1 rfl) ?_
  obtain ⟨c1, h⟩ := xk_inv h
  refine xr_aald (pc := 5) hx hb hK hR 2 (by decide) k0.2.1.2.1 rfl k0.2.1.2.2.1 c1 (k0.2.1.2.2.2 _ (xlt c1)).1 dX0_sellLot_5 ?_
  refine lv_iload_n (pc := 6) hx hb dX0_sellLot_6 rfl (lv_at hl 2 rfl) ?_
  obtain ⟨r2, m2, c2, h⟩ := xb_inv h
  refine xc_iV (pc := 7) (As := [.int _]) (rest := []) ⟨hx, hb, hml, hown, hts⟩ (mX5_sellFor hF _ _ ((k0.2.1.2.2.2 _ (xlt c1)).2) c2) (xcwV 1 hts fdX5_sellFor q_m_X0_117 ⟨Nat.le_of_ble_eq_true rfl, Nat.le_of_ble_eq_true rfl⟩) (xRecv hK hR (ci := 9) rfl ((k0.2.1.2.2.2 _ (xlt c1)).2)) hR hK hE hS rfl hl.1 rfl (Nat.le_of_ble_eq_true rfl) dX0_sellLot_7 ⟨Nat.zero_le _, Nat.zero_le _⟩ (fun H locs hR hS => ?_)
  refine lv_istore_n (pc := 10) (lv' := [(3, .int _), (0, .ref _), (1, .int _), (2, .int _)]) hx hb dX0_sellLot_10 rfl hl (Nat.le_of_ble_eq_true rfl) rfl (fun ls hl => ?_)
  refine lv_aload_n (pc := 11) hx hb dX0_sellLot_11 rfl (lv_at hl 1 rfl) ?_
  refine xr_getR (pc := 12) (ci := 4) hx hb hts inX0 hown hK hR rfl k0.1 1 (Nat.le_of_ble_eq_true rfl) rfl k0.2.2.1.1 (hts _ q_f_X0_18) (fun _ h9 => h9) dX0_sellLot_12 ?_
  refine lv_aload_n (pc := 15) hx hb dX0_sellLot_15 rfl (lv_at hl 1 rfl) ?_
  refine xr_getR (pc := 16) (ci := 4) hx hb hts inX0 hown hK hR rfl k0.1 0 (Nat.le_of_ble_eq_true rfl) rfl k0.2.1.1 (hts _ q_f_X0_11) (fun _ h9 => h9) dX0_sellLot_16 ?_
  refine lv_iload_n (pc := 19) hx hb dX0_sellLot_19 rfl (lv_at hl 2 rfl) ?_
  obtain ⟨c3, h⟩ := xk_inv h
  refine xr_aald (pc := 20) hx hb hK hR 2 (by decide) k0.2.1.2.1 rfl k0.2.1.2.2.1 c3 (k0.2.1.2.2.2 _ (xlt c3)).1 dX0_sellLot_20 ?_
  refine xr_getI (pc := 21) (ci := 9) hx hb hts inX5 hown hK hR rfl ((k0.2.1.2.2.2 _ (xlt c3)).2) 0 (Nat.le_of_ble_eq_true rfl) rfl (hts _ q_f_X0_120) (fun _ h9 => h9) dX0_sellLot_21 ?_
  refine lv_dup2_11 (pc := 24) hx hb dX0_sellLot_24 rfl rfl ?_
  obtain ⟨c4, h⟩ := xk_inv h
  refine xr_ialdk (pc := 25) (Int32.toNatClampNeg ((m2 (((h0 + 1) + 1 + (Int32.toNatClampNeg p1))) 0))) hx hb hK hR k0.2.2.1.2.1 k0.2.2.1.2.2 rfl c4 dX0_sellLot_25 ?_
  refine lv_iload_n (pc := 26) hx hb dX0_sellLot_26 rfl (lv_at hl 0 rfl) ?_
  refine lv_iadd (pc := 27) hx hb dX0_sellLot_27 ?_
  obtain ⟨c5, h⟩ := xk_inv h
  refine xr_iastk (pc := 28) (Int32.toNatClampNeg ((m2 (((h0 + 1) + 1 + (Int32.toNatClampNeg p1))) 0))) hx hb hK hR hF hS k0.2.2.1.2.1 k0.2.2.1.2.2 rfl c5 dX0_sellLot_28 (fun H locs hR hS => ?_)
  refine lv_aload_n (pc := 29) hx hb dX0_sellLot_29 rfl (lv_at hl 1 rfl) ?_
  refine lv_dup (pc := 30) hx hb dX0_sellLot_30 rfl ?_
  refine xr_getI (pc := 31) (ci := 4) hx hb hts inX0 hown hK hR rfl k0.1 7 (Nat.le_of_ble_eq_true rfl) rfl (hts _ q_f_X0_38) (fun _ h9 => h9) dX0_sellLot_31 ?_
  refine lv_iload_n (pc := 34) hx hb dX0_sellLot_34 rfl (lv_at hl 3 rfl) ?_
  refine lv_iadd (pc := 35) hx hb dX0_sellLot_35 ?_
  refine xr_putI (pc := 36) (ci := 4) (ty := .int) hx hb hts inX0 tyX0 tyX0_ok nmX0 hown hK hR hF hS rfl k0.1 7 (Nat.le_of_ble_eq_true rfl) rfl (hts _ q_f_X0_38) (fun _ h9 => h9) rfl rfl rfl rfl dX0_sellLot_36 (fun H locs hR hS => ?_)
  refine lv_iload_n (pc := 39) hx hb dX0_sellLot_39 rfl (lv_at hl 0 rfl) ?_
  exact xf_i (pc := 40) hx hb hr rfl hlocks h hR hK hS dX0_sellLot_40
set_option maxHeartbeats 1000000 in
set_option maxRecDepth 20000 in
theorem mX0_payOut {l : Launch} {D : va_G} {ca : Nat → ClassId} {z : Nat} {G : xG} {X : va_W} {ad av : Nat → Nat} (hF : xFix z G X) (h0 : Nat) (p1 : Int32) (k0 : xI_Bank G h0) {μ μ1 : xM} {r : Int32} (h : fX0_payOut h0 p1 μ = some (r, μ1)) : xMi l yX0_payOut (xws yX0_payOut cX0_payOut 3 (some .int)) 0 D ca z G X ad av [.ref h0, .int p1] μ r μ1 := by
  refine xm_i (by decide) rfl (Nat.le_of_ble_eq_true rfl) [(0, .ref h0), (1, .int p1)] rfl ?_
  intro p e s m args below meth c ls hx hb hr hml hlocks hts hown hK hE hR hS hl
  have hts : ∀ w ∈ xAll, w.before args s = true := fun w hw => hts w (List.mem_cons_of_mem _ hw)
  rw [fX0_payOut] at h
  refine lv_aload_n (pc := 0) hx hb dX0_payOut_0 rfl (lv_at hl 0 rfl) ?_
  refine xr_getR (pc := 1) (ci := 4) hx hb hts inX0 hown hK hR rfl k0.1 1 (Nat.le_of_ble_eq_true rfl) rfl k0.2.2.1.1 (hts _ q_f_X0_18) (fun _ h9 => h9) dX0_payOut_1 ?_
  refine lv_iload_n (pc := 4) hx hb dX0_payOut_4 rfl (lv_at hl 1 rfl) ?_
  obtain ⟨c1, h⟩ := xk_inv h
  refine xr_ialdk (pc := 5) (Int32.toNatClampNeg p1) hx hb hK hR k0.2.2.1.2.1 k0.2.2.1.2.2 rfl c1 dX0_payOut_5 ?_
  refine lv_istore_n (pc := 6) (lv' := [(2, .int _), (0, .ref _), (1, .int _)]) hx hb dX0_payOut_6 rfl hl (Nat.le_of_ble_eq_true rfl) rfl (fun ls hl => ?_)
  refine lv_aload_n (pc := 7) hx hb dX0_payOut_7 rfl (lv_at hl 1 rfl) ?_
  refine xr_getR (pc := 8) (ci := 4) hx hb hts inX0 hown hK hR rfl k0.1 1 (Nat.le_of_ble_eq_true rfl) rfl k0.2.2.1.1 (hts _ q_f_X0_18) (fun _ h9 => h9) dX0_payOut_8 ?_
  refine lv_iload_n (pc := 11) hx hb dX0_payOut_11 rfl (lv_at hl 2 rfl) ?_
  refine lv_iconst (pc := 12) hx hb dX0_payOut_12 kc_0 ?_
  obtain ⟨c2, h⟩ := xk_inv h
  refine xr_iastk (pc := 13) (Int32.toNatClampNeg p1) hx hb hK hR hF hS k0.2.2.1.2.1 k0.2.2.1.2.2 rfl c2 dX0_payOut_13 (fun H locs hR hS => ?_)
  refine lv_aload_n (pc := 14) hx hb dX0_payOut_14 rfl (lv_at hl 1 rfl) ?_
  refine xr_getR (pc := 15) (ci := 4) hx hb hts inX0 hown hK hR rfl k0.1 2 (Nat.le_of_ble_eq_true rfl) rfl k0.2.2.2.1 (hts _ q_f_X0_22) (fun _ h9 => h9) dX0_payOut_15 ?_
  refine lv_iload_n (pc := 18) hx hb dX0_payOut_18 rfl (lv_at hl 2 rfl) ?_
  refine lv_dup2_11 (pc := 19) hx hb dX0_payOut_19 rfl rfl ?_
  obtain ⟨c3, h⟩ := xk_inv h
  refine xr_ialdk (pc := 20) (Int32.toNatClampNeg p1) hx hb hK hR k0.2.2.2.2.1 k0.2.2.2.2.2 rfl c3 dX0_payOut_20 ?_
  refine lv_iload_n (pc := 21) hx hb dX0_payOut_21 rfl (lv_at hl 0 rfl) ?_
  refine lv_iadd (pc := 22) hx hb dX0_payOut_22 ?_
  obtain ⟨c4, h⟩ := xk_inv h
  refine xr_iastk (pc := 23) (Int32.toNatClampNeg p1) hx hb hK hR hF hS k0.2.2.2.2.1 k0.2.2.2.2.2 rfl c4 dX0_payOut_23 (fun H locs hR hS => ?_)
  refine lv_aload_n (pc := 24) hx hb dX0_payOut_24 rfl (lv_at hl 1 rfl) ?_
  refine lv_dup (pc := 25) hx hb dX0_payOut_25 rfl ?_
  refine xr_getI (pc := 26) (ci := 4) hx hb hts inX0 hown hK hR rfl k0.1 7 (Nat.le_of_ble_eq_true rfl) rfl (hts _ q_f_X0_38) (fun _ h9 => h9) dX0_payOut_26 ?_
  refine lv_iload_n (pc := 29) hx hb dX0_payOut_29 rfl (lv_at hl 0 rfl) ?_
  refine lv_isub (pc := 30) hx hb dX0_payOut_30 ?_
  refine xr_putI (pc := 31) (ci := 4) (ty := .int) hx hb hts inX0 tyX0 tyX0_ok nmX0 hown hK hR hF hS rfl k0.1 7 (Nat.le_of_ble_eq_true rfl) rfl (hts _ q_f_X0_38) (fun _ h9 => h9) rfl rfl rfl rfl dX0_payOut_31 (fun H locs hR hS => ?_)
  refine lv_iload_n (pc := 34) hx hb dX0_payOut_34 rfl (lv_at hl 0 rfl) ?_
  exact xf_i (pc := 35) hx hb hr rfl hlocks h hR hK hS dX0_payOut_35
set_option maxHeartbeats 1000000 in
set_option maxRecDepth 20000 in
theorem mX0_isAhead {l : Launch} {D : va_G} {ca : Nat → ClassId} {z : Nat} {G : xG} {X : va_W} {ad av : Nat → Nat} (hF : xFix z G X) (h0 : Nat) (p1 : Int32) (p2 : Int32) (p3 : Int32) (k0 : xI_Bank G h0) {μ μ1 : xM} {r : Int32} (h : fX0_isAhead h0 p1 p2 p3 μ = some (r, μ1)) : xMi l yX0_isAhead (xws yX0_isAhead cX0_isAhead 5 (some .boolean)) 0 D ca z G X ad av [.ref h0, .int p1, .int p2, .int p3] μ r μ1 := by
  refine xm_i (by decide) rfl (Nat.le_of_ble_eq_true rfl) [(0, .ref h0), (1, .int p1), (2, .int p2), (3, .int p3)] rfl ?_
  intro p e s m args below meth c ls hx hb hr hml hlocks hts hown hK hE hR hS hl
  have hts : ∀ w ∈ xAll, w.before args s = true := fun w hw => hts w (List.mem_cons_of_mem _ hw)
  rw [fX0_isAhead] at h
  refine lv_iload_n (pc := 0) hx hb dX0_isAhead_0 rfl (lv_at hl 3 rfl) ?_
  refine lv_if_eq (pc := 1) (tgt := 26) hx hb dX0_isAhead_1 (by decide) (fun c1 => ?_) (fun c1 => ?_)
  · have h := xpos c1 h
    refine lv_aload_n (pc := 26) hx hb dX0_isAhead_26 rfl (lv_at hl 0 rfl) ?_
    refine xr_getR (pc := 27) (ci := 4) hx hb hts inX0 hown hK hR rfl k0.1 0 (Nat.le_of_ble_eq_true rfl) rfl k0.2.1.1 (hts _ q_f_X0_11) (fun _ h9 => h9) dX0_isAhead_27 ?_
    refine lv_iload_n (pc := 30) hx hb dX0_isAhead_30 rfl (lv_at hl 2 rfl) ?_
    obtain ⟨c2, h⟩ := xk_inv h
    refine xr_aald (pc := 31) hx hb hK hR 2 (by decide) k0.2.1.2.1 rfl k0.2.1.2.2.1 c2 (k0.2.1.2.2.2 _ (xlt c2)).1 dX0_isAhead_31 ?_
    refine xr_getI (pc := 32) (ci := 9) hx hb hts inX5 hown hK hR rfl ((k0.2.1.2.2.2 _ (xlt c2)).2) 6 (Nat.le_of_ble_eq_true rfl) rfl (hts _ q_f_X0_114) (fun _ h9 => h9) dX0_isAhead_32 ?_
    refine lv_aload_n (pc := 35) hx hb dX0_isAhead_35 rfl (lv_at hl 0 rfl) ?_
    refine xr_getR (pc := 36) (ci := 4) hx hb hts inX0 hown hK hR rfl k0.1 0 (Nat.le_of_ble_eq_true rfl) rfl k0.2.1.1 (hts _ q_f_X0_11) (fun _ h9 => h9) dX0_isAhead_36 ?_
    refine lv_iload_n (pc := 39) hx hb dX0_isAhead_39 rfl (lv_at hl 1 rfl) ?_
    obtain ⟨c3, h⟩ := xk_inv h
    refine xr_aald (pc := 40) hx hb hK hR 2 (by decide) k0.2.1.2.1 rfl k0.2.1.2.2.1 c3 (k0.2.1.2.2.2 _ (xlt c3)).1 dX0_isAhead_40 ?_
    refine xr_getI (pc := 41) (ci := 9) hx hb hts inX5 hown hK hR rfl ((k0.2.1.2.2.2 _ (xlt c3)).2) 6 (Nat.le_of_ble_eq_true rfl) rfl (hts _ q_f_X0_114) (fun _ h9 => h9) dX0_isAhead_41 ?_
    refine lv_isub (pc := 44) hx hb dX0_isAhead_44 ?_
    refine lv_istore (pc := 45) (lv' := [(4, .int _), (0, .ref _), (1, .int _), (2, .int _), (3, .int _)]) hx hb dX0_isAhead_45 hl (Nat.le_of_ble_eq_true rfl) rfl (fun ls hl => ?_)
    refine lv_iload (pc := 47) hx hb dX0_isAhead_47 (lv_at hl 0 rfl) ?_
    refine lv_if_gt (pc := 49) (tgt := 62) hx hb dX0_isAhead_49 (by decide) (fun c4 => ?_) (fun c4 => ?_)
    · have h := xpos c4 h
      refine lv_iconst (pc := 62) hx hb dX0_isAhead_62 kc_1 ?_
      refine lv_goto (pc := 63) (tgt := 67) hx hb dX0_isAhead_63 (by decide) ?_
      exact xf_i (pc := 67) hx hb hr rfl hlocks h hR hK hS dX0_isAhead_67
    · have h := xneg c4 h
      refine lv_iload (pc := 52) hx hb dX0_isAhead_52 (lv_at hl 0 rfl) ?_
      refine lv_if_ne (pc := 54) (tgt := 66) hx hb dX0_isAhead_54 (by decide) (fun c5 => ?_) (fun c5 => ?_)
      · have h := xneg c5 h
        refine lv_iconst (pc := 66) hx hb dX0_isAhead_66 kc_0 ?_
        exact xf_i (pc := 67) hx hb hr rfl hlocks h hR hK hS dX0_isAhead_67
      · have h := xpos c5 h
        refine lv_iload_n (pc := 57) hx hb dX0_isAhead_57 rfl (lv_at hl 2 rfl) ?_
        refine lv_iload_n (pc := 58) hx hb dX0_isAhead_58 rfl (lv_at hl 3 rfl) ?_
        refine lv_icmp_ge (pc := 59) (tgt := 66) hx hb dX0_isAhead_59 (by decide) (fun c6 => ?_) (fun c6 => ?_)
        · have h := xpos c6 h
          refine lv_iconst (pc := 66) hx hb dX0_isAhead_66 kc_0 ?_
          exact xf_i (pc := 67) hx hb hr rfl hlocks h hR hK hS dX0_isAhead_67
        · have h := xneg c6 h
          refine lv_iconst (pc := 62) hx hb dX0_isAhead_62 kc_1 ?_
          refine lv_goto (pc := 63) (tgt := 67) hx hb dX0_isAhead_63 (by decide) ?_
          exact xf_i (pc := 67) hx hb hr rfl hlocks h hR hK hS dX0_isAhead_67
  · have h := xneg c1 h
    refine lv_aload_n (pc := 4) hx hb dX0_isAhead_4 rfl (lv_at hl 0 rfl) ?_
    refine xr_getR (pc := 5) (ci := 4) hx hb hts inX0 hown hK hR rfl k0.1 0 (Nat.le_of_ble_eq_true rfl) rfl k0.2.1.1 (hts _ q_f_X0_11) (fun _ h9 => h9) dX0_isAhead_5 ?_
    refine lv_iload_n (pc := 8) hx hb dX0_isAhead_8 rfl (lv_at hl 1 rfl) ?_
    obtain ⟨c7, h⟩ := xk_inv h
    refine xr_aald (pc := 9) hx hb hK hR 2 (by decide) k0.2.1.2.1 rfl k0.2.1.2.2.1 c7 (k0.2.1.2.2.2 _ (xlt c7)).1 dX0_isAhead_9 ?_
    refine xr_getI (pc := 10) (ci := 9) hx hb hts inX5 hown hK hR rfl ((k0.2.1.2.2.2 _ (xlt c7)).2) 8 (Nat.le_of_ble_eq_true rfl) rfl (hts _ q_f_X0_131) (fun _ h9 => h9) dX0_isAhead_10 ?_
    refine lv_aload_n (pc := 13) hx hb dX0_isAhead_13 rfl (lv_at hl 0 rfl) ?_
    refine xr_getR (pc := 14) (ci := 4) hx hb hts inX0 hown hK hR rfl k0.1 0 (Nat.le_of_ble_eq_true rfl) rfl k0.2.1.1 (hts _ q_f_X0_11) (fun _ h9 => h9) dX0_isAhead_14 ?_
    refine lv_iload_n (pc := 17) hx hb dX0_isAhead_17 rfl (lv_at hl 2 rfl) ?_
    obtain ⟨c8, h⟩ := xk_inv h
    refine xr_aald (pc := 18) hx hb hK hR 2 (by decide) k0.2.1.2.1 rfl k0.2.1.2.2.1 c8 (k0.2.1.2.2.2 _ (xlt c8)).1 dX0_isAhead_18 ?_
    refine xr_getI (pc := 19) (ci := 9) hx hb hts inX5 hown hK hR rfl ((k0.2.1.2.2.2 _ (xlt c8)).2) 8 (Nat.le_of_ble_eq_true rfl) rfl (hts _ q_f_X0_131) (fun _ h9 => h9) dX0_isAhead_19 ?_
    refine lv_isub (pc := 22) hx hb dX0_isAhead_22 ?_
    refine lv_goto (pc := 23) (tgt := 45) hx hb dX0_isAhead_23 (by decide) ?_
    refine lv_istore (pc := 45) (lv' := [(4, .int _), (0, .ref _), (1, .int _), (2, .int _), (3, .int _)]) hx hb dX0_isAhead_45 hl (Nat.le_of_ble_eq_true rfl) rfl (fun ls hl => ?_)
    refine lv_iload (pc := 47) hx hb dX0_isAhead_47 (lv_at hl 0 rfl) ?_
    refine lv_if_gt (pc := 49) (tgt := 62) hx hb dX0_isAhead_49 (by decide) (fun c9 => ?_) (fun c9 => ?_)
    · have h := xpos c9 h
      refine lv_iconst (pc := 62) hx hb dX0_isAhead_62 kc_1 ?_
      refine lv_goto (pc := 63) (tgt := 67) hx hb dX0_isAhead_63 (by decide) ?_
      exact xf_i (pc := 67) hx hb hr rfl hlocks h hR hK hS dX0_isAhead_67
    · have h := xneg c9 h
      refine lv_iload (pc := 52) hx hb dX0_isAhead_52 (lv_at hl 0 rfl) ?_
      refine lv_if_ne (pc := 54) (tgt := 66) hx hb dX0_isAhead_54 (by decide) (fun c10 => ?_) (fun c10 => ?_)
      · have h := xneg c10 h
        refine lv_iconst (pc := 66) hx hb dX0_isAhead_66 kc_0 ?_
        exact xf_i (pc := 67) hx hb hr rfl hlocks h hR hK hS dX0_isAhead_67
      · have h := xpos c10 h
        refine lv_iload_n (pc := 57) hx hb dX0_isAhead_57 rfl (lv_at hl 2 rfl) ?_
        refine lv_iload_n (pc := 58) hx hb dX0_isAhead_58 rfl (lv_at hl 3 rfl) ?_
        refine lv_icmp_ge (pc := 59) (tgt := 66) hx hb dX0_isAhead_59 (by decide) (fun c11 => ?_) (fun c11 => ?_)
        · have h := xpos c11 h
          refine lv_iconst (pc := 66) hx hb dX0_isAhead_66 kc_0 ?_
          exact xf_i (pc := 67) hx hb hr rfl hlocks h hR hK hS dX0_isAhead_67
        · have h := xneg c11 h
          refine lv_iconst (pc := 62) hx hb dX0_isAhead_62 kc_1 ?_
          refine lv_goto (pc := 63) (tgt := 67) hx hb dX0_isAhead_63 (by decide) ?_
          exact xf_i (pc := 67) hx hb hr rfl hlocks h hR hK hS dX0_isAhead_67
set_option maxHeartbeats 1000000 in
set_option maxRecDepth 20000 in
theorem wX0_lotsAheadOf_5 {p : Program} {l : Launch} {e : Env} {s : State} {m : MethodId} {args : Array Value} {below : List Frame} {meth : Method} {c : Code} {D : va_G} {ca : Nat → ClassId} {z : Nat} {G : xG} {X : va_W} {ad av : Nat → Nat} (hF : xFix z G X) (h0 : Nat) (p1 : Int32) (p2 : Int32) (k0 : xI_Bank G h0) (hx : p.tables.exec = Jvm.exec) (hb : c.code = cX0_lotsAheadOf) (hr : meth.sig.returnType = (some .int)) (hml : c.maxLocals = 5) (hlocks : meth.locks = false) (hts : ∀ w ∈ xAll, w.before args s = true) (hown : s.vm.findClass RX0 = some m.cls) (hK : va_K D vwCl (xT ca) s) (hE : xEv z ad av s s.heap) {μ1 : xM} {r : Int32} :
    ∀ (n : Nat) (x3 : Int32) (x4 : Int32) (μ : xM) (H : Heap) (locs : List Loc) (ls : Array Slot), lX0_lotsAheadOf_5 h0 p1 p2 n x3 x4 μ = some (r, μ1) → xRep D ca G X μ H → va_S (fun q => z ≤ q) s.heap H locs → lv_has ls 5 [(0, .ref h0), (1, .int p1), (2, .int p2), (3, .int x3), (4, .int x4)] → W p l e (xRm 1 0 0) s m args below meth c H locs 0 0 (MQ below (va_Qi (fun (r' : Int32) (_ : Unit) => r' = r) (fun _ t => xB D ca G X μ1 t) (fun q => z ≤ q)) args s 0 0 (fun q => z ≤ q)) (F0 m 5 ls []) := by
  intro n
  induction n with
  | zero => intro x3 x4 μ H locs ls h; cases h
  | succ n ih =>
    intro x3 x4 μ H locs ls h hR hS hl
    rw [lX0_lotsAheadOf_5] at h
    refine lv_iload (pc := 5) hx hb dX0_lotsAheadOf_5 (lv_at hl 4 rfl) ?_
    refine lv_aload_n (pc := 7) hx hb dX0_lotsAheadOf_7 rfl (lv_at hl 0 rfl) ?_
    refine xr_getI (pc := 8) (ci := 4) hx hb hts inX0 hown hK hR rfl k0.1 3 (Nat.le_of_ble_eq_true rfl) rfl (hts _ q_f_X0_25) (fun _ h9 => h9) dX0_lotsAheadOf_8 ?_
    refine lv_icmp_ge (pc := 11) (tgt := 48) hx hb dX0_lotsAheadOf_11 (by decide) (fun c1 => ?_) (fun c1 => ?_)
    · have h := xpos c1 h
      refine lv_iload_n (pc := 48) hx hb dX0_lotsAheadOf_48 rfl (lv_at hl 3 rfl) ?_
      exact xf_i (pc := 49) hx hb hr rfl hlocks h hR hK hS dX0_lotsAheadOf_49
    · have h := xneg c1 h
      refine lv_aload_n (pc := 14) hx hb dX0_lotsAheadOf_14 rfl (lv_at hl 0 rfl) ?_
      refine xr_getR (pc := 15) (ci := 4) hx hb hts inX0 hown hK hR rfl k0.1 0 (Nat.le_of_ble_eq_true rfl) rfl k0.2.1.1 (hts _ q_f_X0_11) (fun _ h9 => h9) dX0_lotsAheadOf_15 ?_
      refine lv_iload (pc := 18) hx hb dX0_lotsAheadOf_18 (lv_at hl 4 rfl) ?_
      obtain ⟨c2, h⟩ := xk_inv h
      refine xr_aald (pc := 20) hx hb hK hR 2 (by decide) k0.2.1.2.1 rfl k0.2.1.2.2.1 c2 (k0.2.1.2.2.2 _ (xlt c2)).1 dX0_lotsAheadOf_20 ?_
      refine xr_getI (pc := 21) (ci := 9) hx hb hts inX5 hown hK hR rfl ((k0.2.1.2.2.2 _ (xlt c2)).2) 5 (Nat.le_of_ble_eq_true rfl) rfl (hts _ q_f_X0_108) (fun _ h9 => h9) dX0_lotsAheadOf_21 ?_
      refine lv_iconst (pc := 24) hx hb dX0_lotsAheadOf_24 kc_1 ?_
      refine lv_icmp_ne (pc := 25) (tgt := 42) hx hb dX0_lotsAheadOf_25 (by decide) (fun c3 => ?_) (fun c3 => ?_)
      · have h := xneg c3 h
        refine lv_iinc (pc := 42) (lv' := [(4, .int _), (0, .ref _), (1, .int _), (2, .int _), (3, .int _)]) hx hb dX0_lotsAheadOf_42 hl (k := 4) rfl (xinc kc_1) (Nat.le_of_ble_eq_true rfl) rfl (fun ls hl => ?_)
        refine lv_goto (pc := 45) (tgt := 5) hx hb dX0_lotsAheadOf_45 (by decide) ?_
        exact ih _ _ _ _ _ _ h hR hS (lv_sub hl [1, 2, 3, 4, 0] rfl)
      · have h := xpos c3 h
        refine lv_aload_n (pc := 28) hx hb dX0_lotsAheadOf_28 rfl (lv_at hl 0 rfl) ?_
        refine lv_iload (pc := 29) hx hb dX0_lotsAheadOf_29 (lv_at hl 4 rfl) ?_
        refine lv_iload_n (pc := 31) hx hb dX0_lotsAheadOf_31 rfl (lv_at hl 1 rfl) ?_
        refine lv_iload_n (pc := 32) hx hb dX0_lotsAheadOf_32 rfl (lv_at hl 2 rfl) ?_
        obtain ⟨r4, m4, c4, h⟩ := xb_inv h
        refine xc_iV (pc := 33) (As := [.int _, .int _, .int _]) (rest := []) ⟨hx, hb, hml, hown, hts⟩ (mX0_isAhead hF _ _ _ _ k0 c4) (xcwV 3 hts fdX0_isAhead q_m_X0_127 ⟨Nat.le_of_ble_eq_true rfl, Nat.le_of_ble_eq_true rfl⟩) (xRecv hK hR (ci := 4) rfl k0.1) hR hK hE hS rfl hl.1 rfl (Nat.le_of_ble_eq_true rfl) dX0_lotsAheadOf_33 ⟨Nat.zero_le _, Nat.zero_le _⟩ (fun H locs hR hS => ?_)
        refine lv_if_eq (pc := 36) (tgt := 42) hx hb dX0_lotsAheadOf_36 (by decide) (fun c5 => ?_) (fun c5 => ?_)
        · have h := xpos c5 h
          refine lv_iinc (pc := 42) (lv' := [(4, .int _), (0, .ref _), (1, .int _), (2, .int _), (3, .int _)]) hx hb dX0_lotsAheadOf_42 hl (k := 4) rfl (xinc kc_1) (Nat.le_of_ble_eq_true rfl) rfl (fun ls hl => ?_)
          refine lv_goto (pc := 45) (tgt := 5) hx hb dX0_lotsAheadOf_45 (by decide) ?_
          exact ih _ _ _ _ _ _ h hR hS (lv_sub hl [1, 2, 3, 4, 0] rfl)
        · have h := xneg c5 h
          refine lv_iinc (pc := 39) (lv' := [(3, .int _), (0, .ref _), (1, .int _), (2, .int _), (4, .int _)]) hx hb dX0_lotsAheadOf_39 hl (k := 3) rfl (xinc kc_1) (Nat.le_of_ble_eq_true rfl) rfl (fun ls hl => ?_)
          refine lv_iinc (pc := 42) (lv' := [(4, .int _), (3, .int _), (0, .ref _), (1, .int _), (2, .int _)]) hx hb dX0_lotsAheadOf_42 hl (k := 4) rfl (xinc kc_1) (Nat.le_of_ble_eq_true rfl) rfl (fun ls hl => ?_)
          refine lv_goto (pc := 45) (tgt := 5) hx hb dX0_lotsAheadOf_45 (by decide) ?_
          exact ih _ _ _ _ _ _ h hR hS (lv_sub hl [2, 3, 4, 1, 0] rfl)
set_option maxHeartbeats 1000000 in
set_option maxRecDepth 20000 in
theorem mX0_lotsAheadOf {l : Launch} {D : va_G} {ca : Nat → ClassId} {z : Nat} {G : xG} {X : va_W} {ad av : Nat → Nat} (hF : xFix z G X) (h0 : Nat) (p1 : Int32) (p2 : Int32) (k0 : xI_Bank G h0) {μ μ1 : xM} {r : Int32} (h : fX0_lotsAheadOf h0 p1 p2 μ = some (r, μ1)) : xMi l yX0_lotsAheadOf (xws yX0_lotsAheadOf cX0_lotsAheadOf 5 (some .int)) 1 D ca z G X ad av [.ref h0, .int p1, .int p2] μ r μ1 := by
  refine xm_i (by decide) rfl (Nat.le_of_ble_eq_true rfl) [(0, .ref h0), (1, .int p1), (2, .int p2)] rfl ?_
  intro p e s m args below meth c ls hx hb hr hml hlocks hts hown hK hE hR hS hl
  have hts : ∀ w ∈ xAll, w.before args s = true := fun w hw => hts w (List.mem_cons_of_mem _ hw)
  rw [fX0_lotsAheadOf] at h
  refine lv_iconst (pc := 0) hx hb dX0_lotsAheadOf_0 kc_0 ?_
  refine lv_istore_n (pc := 1) (lv' := [(3, .int _), (0, .ref _), (1, .int _), (2, .int _)]) hx hb dX0_lotsAheadOf_1 rfl hl (Nat.le_of_ble_eq_true rfl) rfl (fun ls hl => ?_)
  refine lv_iconst (pc := 2) hx hb dX0_lotsAheadOf_2 kc_0 ?_
  refine lv_istore (pc := 3) (lv' := [(4, .int _), (3, .int _), (0, .ref _), (1, .int _), (2, .int _)]) hx hb dX0_lotsAheadOf_3 hl (Nat.le_of_ble_eq_true rfl) rfl (fun ls hl => ?_)
  exact wX0_lotsAheadOf_5 hF h0 p1 p2 k0 hx hb hr hml hlocks hts hown hK hE _ _ _ _ _ _ _ h hR hS (lv_sub hl [2, 3, 4, 1, 0] rfl)
set_option maxHeartbeats 1000000 in
set_option maxRecDepth 20000 in
theorem wX0_lotInPlace_2 {p : Program} {l : Launch} {e : Env} {s : State} {m : MethodId} {args : Array Value} {below : List Frame} {meth : Method} {c : Code} {D : va_G} {ca : Nat → ClassId} {z : Nat} {G : xG} {X : va_W} {ad av : Nat → Nat} (hF : xFix z G X) (h0 : Nat) (p1 : Int32) (p2 : Int32) (k0 : xI_Bank G h0) (hx : p.tables.exec = Jvm.exec) (hb : c.code = cX0_lotInPlace) (hr : meth.sig.returnType = (some .int)) (hml : c.maxLocals = 4) (hlocks : meth.locks = false) (hts : ∀ w ∈ xAll, w.before args s = true) (hown : s.vm.findClass RX0 = some m.cls) (hK : va_K D vwCl (xT ca) s) (hE : xEv z ad av s s.heap) {μ1 : xM} {r : Int32} :
    ∀ (n : Nat) (x3 : Int32) (μ : xM) (H : Heap) (locs : List Loc) (ls : Array Slot), lX0_lotInPlace_2 h0 p1 p2 n x3 μ = some (r, μ1) → xRep D ca G X μ H → va_S (fun q => z ≤ q) s.heap H locs → lv_has ls 4 [(0, .ref h0), (1, .int p1), (2, .int p2), (3, .int x3)] → W p l e (xRm 2 0 0) s m args below meth c H locs 0 0 (MQ below (va_Qi (fun (r' : Int32) (_ : Unit) => r' = r) (fun _ t => xB D ca G X μ1 t) (fun q => z ≤ q)) args s 0 0 (fun q => z ≤ q)) (F0 m 2 ls []) := by
  intro n
  induction n with
  | zero => intro x3 μ H locs ls h; cases h
  | succ n ih =>
    intro x3 μ H locs ls h hR hS hl
    rw [lX0_lotInPlace_2] at h
    refine lv_iload_n (pc := 2) hx hb dX0_lotInPlace_2 rfl (lv_at hl 3 rfl) ?_
    refine lv_aload_n (pc := 3) hx hb dX0_lotInPlace_3 rfl (lv_at hl 0 rfl) ?_
    refine xr_getI (pc := 4) (ci := 4) hx hb hts inX0 hown hK hR rfl k0.1 3 (Nat.le_of_ble_eq_true rfl) rfl (hts _ q_f_X0_25) (fun _ h9 => h9) dX0_lotInPlace_4 ?_
    refine lv_icmp_ge (pc := 7) (tgt := 41) hx hb dX0_lotInPlace_7 (by decide) (fun c1 => ?_) (fun c1 => ?_)
    · have h := xpos c1 h
      refine lv_iconst (pc := 41) hx hb dX0_lotInPlace_41 kc_m1 ?_
      exact xf_i (pc := 42) hx hb hr rfl hlocks h hR hK hS dX0_lotInPlace_42
    · have h := xneg c1 h
      refine lv_aload_n (pc := 10) hx hb dX0_lotInPlace_10 rfl (lv_at hl 0 rfl) ?_
      refine xr_getR (pc := 11) (ci := 4) hx hb hts inX0 hown hK hR rfl k0.1 0 (Nat.le_of_ble_eq_true rfl) rfl k0.2.1.1 (hts _ q_f_X0_11) (fun _ h9 => h9) dX0_lotInPlace_11 ?_
      refine lv_iload_n (pc := 14) hx hb dX0_lotInPlace_14 rfl (lv_at hl 3 rfl) ?_
      obtain ⟨c2, h⟩ := xk_inv h
      refine xr_aald (pc := 15) hx hb hK hR 2 (by decide) k0.2.1.2.1 rfl k0.2.1.2.2.1 c2 (k0.2.1.2.2.2 _ (xlt c2)).1 dX0_lotInPlace_15 ?_
      refine xr_getI (pc := 16) (ci := 9) hx hb hts inX5 hown hK hR rfl ((k0.2.1.2.2.2 _ (xlt c2)).2) 5 (Nat.le_of_ble_eq_true rfl) rfl (hts _ q_f_X0_108) (fun _ h9 => h9) dX0_lotInPlace_16 ?_
      refine lv_iconst (pc := 19) hx hb dX0_lotInPlace_19 kc_1 ?_
      refine lv_icmp_ne (pc := 20) (tgt := 35) hx hb dX0_lotInPlace_20 (by decide) (fun c3 => ?_) (fun c3 => ?_)
      · have h := xneg c3 h
        refine lv_iinc (pc := 35) (lv' := [(3, .int _), (0, .ref _), (1, .int _), (2, .int _)]) hx hb dX0_lotInPlace_35 hl (k := 3) rfl (xinc kc_1) (Nat.le_of_ble_eq_true rfl) rfl (fun ls hl => ?_)
        refine lv_goto (pc := 38) (tgt := 2) hx hb dX0_lotInPlace_38 (by decide) ?_
        exact ih _ _ _ _ _ h hR hS (lv_sub hl [1, 2, 3, 0] rfl)
      · have h := xpos c3 h
        refine lv_aload_n (pc := 23) hx hb dX0_lotInPlace_23 rfl (lv_at hl 0 rfl) ?_
        refine lv_iload_n (pc := 24) hx hb dX0_lotInPlace_24 rfl (lv_at hl 3 rfl) ?_
        refine lv_iload_n (pc := 25) hx hb dX0_lotInPlace_25 rfl (lv_at hl 2 rfl) ?_
        obtain ⟨r4, m4, c4, h⟩ := xb_inv h
        refine xc_iV (pc := 26) (As := [.int _, .int _]) (rest := []) ⟨hx, hb, hml, hown, hts⟩ (mX0_lotsAheadOf hF _ _ _ k0 c4) (xcwV 2 hts fdX0_lotsAheadOf q_m_X0_123 ⟨Nat.le_of_ble_eq_true rfl, Nat.le_of_ble_eq_true rfl⟩) (xRecv hK hR (ci := 4) rfl k0.1) hR hK hE hS rfl hl.1 rfl (Nat.le_of_ble_eq_true rfl) dX0_lotInPlace_26 ⟨Nat.zero_le _, Nat.zero_le _⟩ (fun H locs hR hS => ?_)
        refine lv_iload_n (pc := 29) hx hb dX0_lotInPlace_29 rfl (lv_at hl 1 rfl) ?_
        refine lv_icmp_ne (pc := 30) (tgt := 35) hx hb dX0_lotInPlace_30 (by decide) (fun c5 => ?_) (fun c5 => ?_)
        · have h := xneg c5 h
          refine lv_iinc (pc := 35) (lv' := [(3, .int _), (0, .ref _), (1, .int _), (2, .int _)]) hx hb dX0_lotInPlace_35 hl (k := 3) rfl (xinc kc_1) (Nat.le_of_ble_eq_true rfl) rfl (fun ls hl => ?_)
          refine lv_goto (pc := 38) (tgt := 2) hx hb dX0_lotInPlace_38 (by decide) ?_
          exact ih _ _ _ _ _ h hR hS (lv_sub hl [1, 2, 3, 0] rfl)
        · have h := xpos c5 h
          refine lv_iload_n (pc := 33) hx hb dX0_lotInPlace_33 rfl (lv_at hl 3 rfl) ?_
          exact xf_i (pc := 34) hx hb hr rfl hlocks h hR hK hS dX0_lotInPlace_34
set_option maxHeartbeats 1000000 in
set_option maxRecDepth 20000 in
theorem mX0_lotInPlace {l : Launch} {D : va_G} {ca : Nat → ClassId} {z : Nat} {G : xG} {X : va_W} {ad av : Nat → Nat} (hF : xFix z G X) (h0 : Nat) (p1 : Int32) (p2 : Int32) (k0 : xI_Bank G h0) {μ μ1 : xM} {r : Int32} (h : fX0_lotInPlace h0 p1 p2 μ = some (r, μ1)) : xMi l yX0_lotInPlace (xws yX0_lotInPlace cX0_lotInPlace 4 (some .int)) 2 D ca z G X ad av [.ref h0, .int p1, .int p2] μ r μ1 := by
  refine xm_i (by decide) rfl (Nat.le_of_ble_eq_true rfl) [(0, .ref h0), (1, .int p1), (2, .int p2)] rfl ?_
  intro p e s m args below meth c ls hx hb hr hml hlocks hts hown hK hE hR hS hl
  have hts : ∀ w ∈ xAll, w.before args s = true := fun w hw => hts w (List.mem_cons_of_mem _ hw)
  rw [fX0_lotInPlace] at h
  refine lv_iconst (pc := 0) hx hb dX0_lotInPlace_0 kc_0 ?_
  refine lv_istore_n (pc := 1) (lv' := [(3, .int _), (0, .ref _), (1, .int _), (2, .int _)]) hx hb dX0_lotInPlace_1 rfl hl (Nat.le_of_ble_eq_true rfl) rfl (fun ls hl => ?_)
  exact wX0_lotInPlace_2 hF h0 p1 p2 k0 hx hb hr hml hlocks hts hown hK hE _ _ _ _ _ _ h hR hS (lv_sub hl [1, 2, 3, 0] rfl)
set_option maxHeartbeats 1000000 in
set_option maxRecDepth 20000 in
theorem wX0_lotsByTerms_4 {p : Program} {l : Launch} {e : Env} {s : State} {m : MethodId} {args : Array Value} {below : List Frame} {meth : Method} {c : Code} {D : va_G} {ca : Nat → ClassId} {z : Nat} {G : xG} {X : va_W} {ad av : Nat → Nat} (hF : xFix z G X) (h0 : Nat) (p1 : Int32) (k0 : xI_Bank G h0) (hx : p.tables.exec = Jvm.exec) (hb : c.code = cX0_lotsByTerms) (hr : meth.sig.returnType = (some .int)) (hml : c.maxLocals = 4) (hlocks : meth.locks = false) (hts : ∀ w ∈ xAll, w.before args s = true) (hown : s.vm.findClass RX0 = some m.cls) (hK : va_K D vwCl (xT ca) s) (hE : xEv z ad av s s.heap) {μ1 : xM} {r : Int32} :
    ∀ (n : Nat) (x2 : Int32) (x3 : Int32) (μ : xM) (H : Heap) (locs : List Loc) (ls : Array Slot), lX0_lotsByTerms_4 h0 p1 n x2 x3 μ = some (r, μ1) → xRep D ca G X μ H → va_S (fun q => z ≤ q) s.heap H locs → lv_has ls 4 [(0, .ref h0), (1, .int p1), (2, .int x2), (3, .int x3)] → W p l e (xRm 1 0 0) s m args below meth c H locs 0 0 (MQ below (va_Qi (fun (r' : Int32) (_ : Unit) => r' = r) (fun _ t => xB D ca G X μ1 t) (fun q => z ≤ q)) args s 0 0 (fun q => z ≤ q)) (F0 m 4 ls []) := by
  intro n
  induction n with
  | zero => intro x2 x3 μ H locs ls h; cases h
  | succ n ih =>
    intro x2 x3 μ H locs ls h hR hS hl
    rw [lX0_lotsByTerms_4] at h
    refine lv_iload_n (pc := 4) hx hb dX0_lotsByTerms_4 rfl (lv_at hl 3 rfl) ?_
    refine lv_aload_n (pc := 5) hx hb dX0_lotsByTerms_5 rfl (lv_at hl 0 rfl) ?_
    refine xr_getI (pc := 6) (ci := 4) hx hb hts inX0 hown hK hR rfl k0.1 3 (Nat.le_of_ble_eq_true rfl) rfl (hts _ q_f_X0_25) (fun _ h9 => h9) dX0_lotsByTerms_6 ?_
    refine lv_icmp_ge (pc := 9) (tgt := 51) hx hb dX0_lotsByTerms_9 (by decide) (fun c1 => ?_) (fun c1 => ?_)
    · have h := xpos c1 h
      refine lv_iload_n (pc := 51) hx hb dX0_lotsByTerms_51 rfl (lv_at hl 2 rfl) ?_
      exact xf_i (pc := 52) hx hb hr rfl hlocks h hR hK hS dX0_lotsByTerms_52
    · have h := xneg c1 h
      refine lv_aload_n (pc := 12) hx hb dX0_lotsByTerms_12 rfl (lv_at hl 0 rfl) ?_
      refine xr_getR (pc := 13) (ci := 4) hx hb hts inX0 hown hK hR rfl k0.1 0 (Nat.le_of_ble_eq_true rfl) rfl k0.2.1.1 (hts _ q_f_X0_11) (fun _ h9 => h9) dX0_lotsByTerms_13 ?_
      refine lv_iload_n (pc := 16) hx hb dX0_lotsByTerms_16 rfl (lv_at hl 3 rfl) ?_
      obtain ⟨c2, h⟩ := xk_inv h
      refine xr_aald (pc := 17) hx hb hK hR 2 (by decide) k0.2.1.2.1 rfl k0.2.1.2.2.1 c2 (k0.2.1.2.2.2 _ (xlt c2)).1 dX0_lotsByTerms_17 ?_
      refine xr_getI (pc := 18) (ci := 9) hx hb hts inX5 hown hK hR rfl ((k0.2.1.2.2.2 _ (xlt c2)).2) 5 (Nat.le_of_ble_eq_true rfl) rfl (hts _ q_f_X0_108) (fun _ h9 => h9) dX0_lotsByTerms_18 ?_
      refine lv_if_ne (pc := 21) (tgt := 45) hx hb dX0_lotsByTerms_21 (by decide) (fun c3 => ?_) (fun c3 => ?_)
      · have h := xneg c3 h
        refine lv_iinc (pc := 45) (lv' := [(3, .int _), (0, .ref _), (1, .int _), (2, .int _)]) hx hb dX0_lotsByTerms_45 hl (k := 3) rfl (xinc kc_1) (Nat.le_of_ble_eq_true rfl) rfl (fun ls hl => ?_)
        refine lv_goto (pc := 48) (tgt := 4) hx hb dX0_lotsByTerms_48 (by decide) ?_
        exact ih _ _ _ _ _ _ h hR hS (lv_sub hl [1, 2, 3, 0] rfl)
      · have h := xpos c3 h
        refine lv_aload_n (pc := 24) hx hb dX0_lotsByTerms_24 rfl (lv_at hl 0 rfl) ?_
        refine xr_getR (pc := 25) (ci := 4) hx hb hts inX0 hown hK hR rfl k0.1 0 (Nat.le_of_ble_eq_true rfl) rfl k0.2.1.1 (hts _ q_f_X0_11) (fun _ h9 => h9) dX0_lotsByTerms_25 ?_
        refine lv_iload_n (pc := 28) hx hb dX0_lotsByTerms_28 rfl (lv_at hl 3 rfl) ?_
        obtain ⟨c4, h⟩ := xk_inv h
        refine xr_aald (pc := 29) hx hb hK hR 2 (by decide) k0.2.1.2.1 rfl k0.2.1.2.2.1 c4 (k0.2.1.2.2.2 _ (xlt c4)).1 dX0_lotsByTerms_29 ?_
        refine lv_aload_n (pc := 30) hx hb dX0_lotsByTerms_30 rfl (lv_at hl 0 rfl) ?_
        refine xr_getI (pc := 31) (ci := 4) hx hb hts inX0 hown hK hR rfl k0.1 4 (Nat.le_of_ble_eq_true rfl) rfl (hts _ q_f_X0_29) (fun _ h9 => h9) dX0_lotsByTerms_31 ?_
        refine lv_iload_n (pc := 34) hx hb dX0_lotsByTerms_34 rfl (lv_at hl 1 rfl) ?_
        refine lv_iadd (pc := 35) hx hb dX0_lotsByTerms_35 ?_
        obtain ⟨r5, m5, c5, h⟩ := xb_inv h
        refine xc_iV (pc := 36) (As := [.int _]) (rest := []) ⟨hx, hb, hml, hown, hts⟩ (mX5_isRunningIn hF _ _ ((k0.2.1.2.2.2 _ (xlt c4)).2) c5) (xcwV 1 hts fdX5_isRunningIn q_m_X0_134 ⟨Nat.le_of_ble_eq_true rfl, Nat.le_of_ble_eq_true rfl⟩) (xRecv hK hR (ci := 9) rfl ((k0.2.1.2.2.2 _ (xlt c4)).2)) hR hK hE hS rfl hl.1 rfl (Nat.le_of_ble_eq_true rfl) dX0_lotsByTerms_36 ⟨Nat.zero_le _, Nat.zero_le _⟩ (fun H locs hR hS => ?_)
        refine lv_if_ne (pc := 39) (tgt := 45) hx hb dX0_lotsByTerms_39 (by decide) (fun c6 => ?_) (fun c6 => ?_)
        · have h := xneg c6 h
          refine lv_iinc (pc := 45) (lv' := [(3, .int _), (0, .ref _), (1, .int _), (2, .int _)]) hx hb dX0_lotsByTerms_45 hl (k := 3) rfl (xinc kc_1) (Nat.le_of_ble_eq_true rfl) rfl (fun ls hl => ?_)
          refine lv_goto (pc := 48) (tgt := 4) hx hb dX0_lotsByTerms_48 (by decide) ?_
          exact ih _ _ _ _ _ _ h hR hS (lv_sub hl [1, 2, 3, 0] rfl)
        · have h := xpos c6 h
          refine lv_iinc (pc := 42) (lv' := [(2, .int _), (0, .ref _), (1, .int _), (3, .int _)]) hx hb dX0_lotsByTerms_42 hl (k := 2) rfl (xinc kc_1) (Nat.le_of_ble_eq_true rfl) rfl (fun ls hl => ?_)
          refine lv_iinc (pc := 45) (lv' := [(3, .int _), (2, .int _), (0, .ref _), (1, .int _)]) hx hb dX0_lotsByTerms_45 hl (k := 3) rfl (xinc kc_1) (Nat.le_of_ble_eq_true rfl) rfl (fun ls hl => ?_)
          refine lv_goto (pc := 48) (tgt := 4) hx hb dX0_lotsByTerms_48 (by decide) ?_
          exact ih _ _ _ _ _ _ h hR hS (lv_sub hl [2, 3, 1, 0] rfl)
set_option maxHeartbeats 1000000 in
set_option maxRecDepth 20000 in
theorem mX0_lotsByTerms {l : Launch} {D : va_G} {ca : Nat → ClassId} {z : Nat} {G : xG} {X : va_W} {ad av : Nat → Nat} (hF : xFix z G X) (h0 : Nat) (p1 : Int32) (k0 : xI_Bank G h0) {μ μ1 : xM} {r : Int32} (h : fX0_lotsByTerms h0 p1 μ = some (r, μ1)) : xMi l yX0_lotsByTerms (xws yX0_lotsByTerms cX0_lotsByTerms 4 (some .int)) 1 D ca z G X ad av [.ref h0, .int p1] μ r μ1 := by
  refine xm_i (by decide) rfl (Nat.le_of_ble_eq_true rfl) [(0, .ref h0), (1, .int p1)] rfl ?_
  intro p e s m args below meth c ls hx hb hr hml hlocks hts hown hK hE hR hS hl
  have hts : ∀ w ∈ xAll, w.before args s = true := fun w hw => hts w (List.mem_cons_of_mem _ hw)
  rw [fX0_lotsByTerms] at h
  refine lv_iconst (pc := 0) hx hb dX0_lotsByTerms_0 kc_0 ?_
  refine lv_istore_n (pc := 1) (lv' := [(2, .int _), (0, .ref _), (1, .int _)]) hx hb dX0_lotsByTerms_1 rfl hl (Nat.le_of_ble_eq_true rfl) rfl (fun ls hl => ?_)
  refine lv_iconst (pc := 2) hx hb dX0_lotsByTerms_2 kc_0 ?_
  refine lv_istore_n (pc := 3) (lv' := [(3, .int _), (2, .int _), (0, .ref _), (1, .int _)]) hx hb dX0_lotsByTerms_3 rfl hl (Nat.le_of_ble_eq_true rfl) rfl (fun ls hl => ?_)
  exact wX0_lotsByTerms_4 hF h0 p1 k0 hx hb hr hml hlocks hts hown hK hE _ _ _ _ _ _ _ h hR hS (lv_sub hl [2, 3, 1, 0] rfl)
set_option maxHeartbeats 1000000 in
set_option maxRecDepth 20000 in
theorem wX0_lotsWeekByWeek_12 {p : Program} {l : Launch} {e : Env} {s : State} {m : MethodId} {args : Array Value} {below : List Frame} {meth : Method} {c : Code} {D : va_G} {ca : Nat → ClassId} {z : Nat} {G : xG} {X : va_W} {ad av : Nat → Nat} {Q : State → Prop} {RT : Option FieldType} (hF : xFix z G X) (h0 : Nat) (p1 : Int32) (k0 : xI_Bank G h0) (hx : p.tables.exec = Jvm.exec) (hb : c.code = cX0_lotsWeekByWeek) (hr : meth.sig.returnType = RT) (hml : c.maxLocals = 5) (hlocks : meth.locks = false) (hts : ∀ w ∈ xAll, w.before args s = true) (hown : s.vm.findClass RX0 = some m.cls) (hK : va_K D vwCl (xT ca) s) (hE : xEv z ad av s s.heap) {q : Int32 × Int32 × xM} :
    ∀ (n : Nat) (x2 : Int32) (x3 : Int32) (x4 : Int32) (μ : xM) (H : Heap) (locs : List Loc) (ls : Array Slot), lX0_lotsWeekByWeek_12 h0 p1 n x2 x3 x4 μ = some q → xRep D ca G X μ H → va_S (fun q => z ≤ q) s.heap H locs → lv_has ls 5 [(0, .ref h0), (1, .int p1), (2, .int x2), (3, .int x3), (4, .int x4)] → (∀ (H : Heap) (locs : List Loc) (ls : Array Slot), xRep D ca G X (q.2.2) H → va_S (fun q => z ≤ q) s.heap H locs → lv_has ls 5 [(0, .ref h0), (1, .int p1), (2, .int (q.1)), (3, .int x3), (4, .int (q.2.1))] → W p l e (xRm 0 0 0) s m args below meth c H locs 0 0 Q (F0 m 65 ls [])) → W p l e (xRm 0 0 0) s m args below meth c H locs 0 0 Q (F0 m 12 ls []) := by
  intro n
  induction n with
  | zero => intro x2 x3 x4 μ H locs ls h; cases h
  | succ n ih =>
    intro x2 x3 x4 μ H locs ls h hR hS hl kk
    rw [lX0_lotsWeekByWeek_12] at h
    refine lv_iload (pc := 12) hx hb dX0_lotsWeekByWeek_12 (lv_at hl 4 rfl) ?_
    refine lv_aload_n (pc := 14) hx hb dX0_lotsWeekByWeek_14 rfl (lv_at hl 0 rfl) ?_
    refine xr_getI (pc := 15) (ci := 4) hx hb hts inX0 hown hK hR rfl k0.1 3 (Nat.le_of_ble_eq_true rfl) rfl (hts _ q_f_X0_25) (fun _ h9 => h9) dX0_lotsWeekByWeek_15 ?_
    refine lv_icmp_ge (pc := 18) (tgt := 65) hx hb dX0_lotsWeekByWeek_18 (by decide) (fun c2 => ?_) (fun c2 => ?_)
    · have h := xpos c2 h
      cases h
      exact kk H locs ls hR hS (lv_sub hl [0, 1, 2, 3, 4] rfl)
    · have h := xneg c2 h
      refine lv_aload_n (pc := 21) hx hb dX0_lotsWeekByWeek_21 rfl (lv_at hl 0 rfl) ?_
      refine xr_getR (pc := 22) (ci := 4) hx hb hts inX0 hown hK hR rfl k0.1 0 (Nat.le_of_ble_eq_true rfl) rfl k0.2.1.1 (hts _ q_f_X0_11) (fun _ h9 => h9) dX0_lotsWeekByWeek_22 ?_
      refine lv_iload (pc := 25) hx hb dX0_lotsWeekByWeek_25 (lv_at hl 4 rfl) ?_
      obtain ⟨c3, h⟩ := xk_inv h
      refine xr_aald (pc := 27) hx hb hK hR 2 (by decide) k0.2.1.2.1 rfl k0.2.1.2.2.1 c3 (k0.2.1.2.2.2 _ (xlt c3)).1 dX0_lotsWeekByWeek_27 ?_
      refine xr_getI (pc := 28) (ci := 9) hx hb hts inX5 hown hK hR rfl ((k0.2.1.2.2.2 _ (xlt c3)).2) 5 (Nat.le_of_ble_eq_true rfl) rfl (hts _ q_f_X0_108) (fun _ h9 => h9) dX0_lotsWeekByWeek_28 ?_
      refine lv_if_ne (pc := 31) (tgt := 59) hx hb dX0_lotsWeekByWeek_31 (by decide) (fun c4 => ?_) (fun c4 => ?_)
      · have h := xneg c4 h
        refine lv_iinc (pc := 59) (lv' := [(4, .int _), (0, .ref _), (1, .int _), (2, .int _), (3, .int _)]) hx hb dX0_lotsWeekByWeek_59 hl (k := 4) rfl (xinc kc_1) (Nat.le_of_ble_eq_true rfl) rfl (fun ls hl => ?_)
        refine lv_goto (pc := 62) (tgt := 12) hx hb dX0_lotsWeekByWeek_62 (by decide) ?_
        exact ih _ _ _ _ _ _ _ h hR hS (lv_sub hl [1, 2, 3, 4, 0] rfl) kk
      · have h := xpos c4 h
        refine lv_aload_n (pc := 34) hx hb dX0_lotsWeekByWeek_34 rfl (lv_at hl 0 rfl) ?_
        refine xr_getI (pc := 35) (ci := 4) hx hb hts inX0 hown hK hR rfl k0.1 4 (Nat.le_of_ble_eq_true rfl) rfl (hts _ q_f_X0_29) (fun _ h9 => h9) dX0_lotsWeekByWeek_35 ?_
        refine lv_iload_n (pc := 38) hx hb dX0_lotsWeekByWeek_38 rfl (lv_at hl 3 rfl) ?_
        refine lv_iadd (pc := 39) hx hb dX0_lotsWeekByWeek_39 ?_
        refine lv_aload_n (pc := 40) hx hb dX0_lotsWeekByWeek_40 rfl (lv_at hl 0 rfl) ?_
        refine xr_getR (pc := 41) (ci := 4) hx hb hts inX0 hown hK hR rfl k0.1 0 (Nat.le_of_ble_eq_true rfl) rfl k0.2.1.1 (hts _ q_f_X0_11) (fun _ h9 => h9) dX0_lotsWeekByWeek_41 ?_
        refine lv_iload (pc := 44) hx hb dX0_lotsWeekByWeek_44 (lv_at hl 4 rfl) ?_
        obtain ⟨c5, h⟩ := xk_inv h
        refine xr_aald (pc := 46) hx hb hK hR 2 (by decide) k0.2.1.2.1 rfl k0.2.1.2.2.1 c5 (k0.2.1.2.2.2 _ (xlt c5)).1 dX0_lotsWeekByWeek_46 ?_
        refine xr_getI (pc := 47) (ci := 9) hx hb hts inX5 hown hK hR rfl ((k0.2.1.2.2.2 _ (xlt c5)).2) 6 (Nat.le_of_ble_eq_true rfl) rfl (hts _ q_f_X0_114) (fun _ h9 => h9) dX0_lotsWeekByWeek_47 ?_
        refine lv_isub (pc := 50) hx hb dX0_lotsWeekByWeek_50 ?_
        refine lv_bipush (pc := 51) hx hb dX0_lotsWeekByWeek_51 kb_9 ?_
        refine lv_icmp_ne (pc := 53) (tgt := 59) hx hb dX0_lotsWeekByWeek_53 (by decide) (fun c6 => ?_) (fun c6 => ?_)
        · have h := xneg c6 h
          refine lv_iinc (pc := 59) (lv' := [(4, .int _), (0, .ref _), (1, .int _), (2, .int _), (3, .int _)]) hx hb dX0_lotsWeekByWeek_59 hl (k := 4) rfl (xinc kc_1) (Nat.le_of_ble_eq_true rfl) rfl (fun ls hl => ?_)
          refine lv_goto (pc := 62) (tgt := 12) hx hb dX0_lotsWeekByWeek_62 (by decide) ?_
          exact ih _ _ _ _ _ _ _ h hR hS (lv_sub hl [1, 2, 3, 4, 0] rfl) kk
        · have h := xpos c6 h
          refine lv_iinc (pc := 56) (lv' := [(2, .int _), (0, .ref _), (1, .int _), (3, .int _), (4, .int _)]) hx hb dX0_lotsWeekByWeek_56 hl (k := 2) rfl (xinc kc_1) (Nat.le_of_ble_eq_true rfl) rfl (fun ls hl => ?_)
          refine lv_iinc (pc := 59) (lv' := [(4, .int _), (2, .int _), (0, .ref _), (1, .int _), (3, .int _)]) hx hb dX0_lotsWeekByWeek_59 hl (k := 4) rfl (xinc kc_1) (Nat.le_of_ble_eq_true rfl) rfl (fun ls hl => ?_)
          refine lv_goto (pc := 62) (tgt := 12) hx hb dX0_lotsWeekByWeek_62 (by decide) ?_
          exact ih _ _ _ _ _ _ _ h hR hS (lv_sub hl [2, 3, 1, 4, 0] rfl) kk
set_option maxHeartbeats 1000000 in
set_option maxRecDepth 20000 in
theorem wX0_lotsWeekByWeek_4 {p : Program} {l : Launch} {e : Env} {s : State} {m : MethodId} {args : Array Value} {below : List Frame} {meth : Method} {c : Code} {D : va_G} {ca : Nat → ClassId} {z : Nat} {G : xG} {X : va_W} {ad av : Nat → Nat} (hF : xFix z G X) (h0 : Nat) (p1 : Int32) (k0 : xI_Bank G h0) (hx : p.tables.exec = Jvm.exec) (hb : c.code = cX0_lotsWeekByWeek) (hr : meth.sig.returnType = (some .int)) (hml : c.maxLocals = 5) (hlocks : meth.locks = false) (hts : ∀ w ∈ xAll, w.before args s = true) (hown : s.vm.findClass RX0 = some m.cls) (hK : va_K D vwCl (xT ca) s) (hE : xEv z ad av s s.heap) {μ1 : xM} {r : Int32} :
    ∀ (n : Nat) (x2 : Int32) (x3 : Int32) (μ : xM) (H : Heap) (locs : List Loc) (ls : Array Slot), lX0_lotsWeekByWeek_4 h0 p1 n x2 x3 μ = some (r, μ1) → xRep D ca G X μ H → va_S (fun q => z ≤ q) s.heap H locs → lv_has ls 5 [(0, .ref h0), (1, .int p1), (2, .int x2), (3, .int x3)] → W p l e (xRm 0 0 0) s m args below meth c H locs 0 0 (MQ below (va_Qi (fun (r' : Int32) (_ : Unit) => r' = r) (fun _ t => xB D ca G X μ1 t) (fun q => z ≤ q)) args s 0 0 (fun q => z ≤ q)) (F0 m 4 ls []) := by
  intro n
  induction n with
  | zero => intro x2 x3 μ H locs ls h; cases h
  | succ n ih =>
    intro x2 x3 μ H locs ls h hR hS hl
    rw [lX0_lotsWeekByWeek_4] at h
    refine lv_iload_n (pc := 4) hx hb dX0_lotsWeekByWeek_4 rfl (lv_at hl 3 rfl) ?_
    refine lv_iload_n (pc := 5) hx hb dX0_lotsWeekByWeek_5 rfl (lv_at hl 1 rfl) ?_
    refine lv_icmp_gt (pc := 6) (tgt := 71) hx hb dX0_lotsWeekByWeek_6 (by decide) (fun c1 => ?_) (fun c1 => ?_)
    · have h := xpos c1 h
      refine lv_iload_n (pc := 71) hx hb dX0_lotsWeekByWeek_71 rfl (lv_at hl 2 rfl) ?_
      exact xf_i (pc := 72) hx hb hr rfl hlocks h hR hK hS dX0_lotsWeekByWeek_72
    · have h := xneg c1 h
      refine lv_iconst (pc := 9) hx hb dX0_lotsWeekByWeek_9 kc_0 ?_
      refine lv_istore (pc := 10) (lv' := [(4, .int _), (0, .ref _), (1, .int _), (2, .int _), (3, .int _)]) hx hb dX0_lotsWeekByWeek_10 hl (Nat.le_of_ble_eq_true rfl) rfl (fun ls hl => ?_)
      obtain ⟨q7, c7, h⟩ := xbt_inv h
      refine wX0_lotsWeekByWeek_12 hF h0 p1 k0 hx hb hr hml hlocks hts hown hK hE _ _ _ _ _ _ _ _ c7 hR hS (lv_sub hl [1, 2, 3, 4, 0] rfl) (fun H locs ls hR hS hl => ?_)
      refine lv_iinc (pc := 65) (lv' := [(3, .int _), (0, .ref _), (1, .int _), (2, .int _), (4, .int _)]) hx hb dX0_lotsWeekByWeek_65 hl (k := 3) rfl (xinc kc_1) (Nat.le_of_ble_eq_true rfl) rfl (fun ls hl => ?_)
      refine lv_goto (pc := 68) (tgt := 4) hx hb dX0_lotsWeekByWeek_68 (by decide) ?_
      exact ih _ _ _ _ _ _ h hR hS (lv_sub hl [1, 2, 3, 0] rfl)
set_option maxHeartbeats 1000000 in
set_option maxRecDepth 20000 in
theorem mX0_lotsWeekByWeek {l : Launch} {D : va_G} {ca : Nat → ClassId} {z : Nat} {G : xG} {X : va_W} {ad av : Nat → Nat} (hF : xFix z G X) (h0 : Nat) (p1 : Int32) (k0 : xI_Bank G h0) {μ μ1 : xM} {r : Int32} (h : fX0_lotsWeekByWeek h0 p1 μ = some (r, μ1)) : xMi l yX0_lotsWeekByWeek (xws yX0_lotsWeekByWeek cX0_lotsWeekByWeek 5 (some .int)) 0 D ca z G X ad av [.ref h0, .int p1] μ r μ1 := by
  refine xm_i (by decide) rfl (Nat.le_of_ble_eq_true rfl) [(0, .ref h0), (1, .int p1)] rfl ?_
  intro p e s m args below meth c ls hx hb hr hml hlocks hts hown hK hE hR hS hl
  have hts : ∀ w ∈ xAll, w.before args s = true := fun w hw => hts w (List.mem_cons_of_mem _ hw)
  rw [fX0_lotsWeekByWeek] at h
  refine lv_iconst (pc := 0) hx hb dX0_lotsWeekByWeek_0 kc_0 ?_
  refine lv_istore_n (pc := 1) (lv' := [(2, .int _), (0, .ref _), (1, .int _)]) hx hb dX0_lotsWeekByWeek_1 rfl hl (Nat.le_of_ble_eq_true rfl) rfl (fun ls hl => ?_)
  refine lv_iconst (pc := 2) hx hb dX0_lotsWeekByWeek_2 kc_1 ?_
  refine lv_istore_n (pc := 3) (lv' := [(3, .int _), (2, .int _), (0, .ref _), (1, .int _)]) hx hb dX0_lotsWeekByWeek_3 rfl hl (Nat.le_of_ble_eq_true rfl) rfl (fun ls hl => ?_)
  exact wX0_lotsWeekByWeek_4 hF h0 p1 k0 hx hb hr hml hlocks hts hown hK hE _ _ _ _ _ _ _ h hR hS (lv_sub hl [2, 3, 1, 0] rfl)
set_option maxHeartbeats 1000000 in
set_option maxRecDepth 20000 in
theorem wX0_isCostTheSame_2 {p : Program} {l : Launch} {e : Env} {s : State} {m : MethodId} {args : Array Value} {below : List Frame} {meth : Method} {c : Code} {D : va_G} {ca : Nat → ClassId} {z : Nat} {G : xG} {X : va_W} {ad av : Nat → Nat} (hF : xFix z G X) (h0 : Nat) (p1 : Int32) (k0 : xI_Bank G h0) (hx : p.tables.exec = Jvm.exec) (hb : c.code = cX0_isCostTheSame) (hr : meth.sig.returnType = (some .boolean)) (hml : c.maxLocals = 3) (hlocks : meth.locks = false) (hts : ∀ w ∈ xAll, w.before args s = true) (hown : s.vm.findClass RX0 = some m.cls) (hK : va_K D vwCl (xT ca) s) (hE : xEv z ad av s s.heap) {μ1 : xM} {r : Int32} :
    ∀ (n : Nat) (x2 : Int32) (μ : xM) (H : Heap) (locs : List Loc) (ls : Array Slot), lX0_isCostTheSame_2 h0 p1 n x2 μ = some (r, μ1) → xRep D ca G X μ H → va_S (fun q => z ≤ q) s.heap H locs → lv_has ls 3 [(0, .ref h0), (1, .int p1), (2, .int x2)] → W p l e (xRm 2 0 0) s m args below meth c H locs 0 0 (MQ below (va_Qi (fun (r' : Int32) (_ : Unit) => r' = r) (fun _ t => xB D ca G X μ1 t) (fun q => z ≤ q)) args s 0 0 (fun q => z ≤ q)) (F0 m 2 ls []) := by
  intro n
  induction n with
  | zero => intro x2 μ H locs ls h; cases h
  | succ n ih =>
    intro x2 μ H locs ls h hR hS hl
    rw [lX0_isCostTheSame_2] at h
    refine lv_iload_n (pc := 2) hx hb dX0_isCostTheSame_2 rfl (lv_at hl 2 rfl) ?_
    refine lv_aload_n (pc := 3) hx hb dX0_isCostTheSame_3 rfl (lv_at hl 0 rfl) ?_
    refine xr_getI (pc := 4) (ci := 4) hx hb hts inX0 hown hK hR rfl k0.1 3 (Nat.le_of_ble_eq_true rfl) rfl (hts _ q_f_X0_25) (fun _ h9 => h9) dX0_isCostTheSame_4 ?_
    refine lv_icmp_ge (pc := 7) (tgt := 63) hx hb dX0_isCostTheSame_7 (by decide) (fun c1 => ?_) (fun c1 => ?_)
    · have h := xpos c1 h
      refine lv_iconst (pc := 63) hx hb dX0_isCostTheSame_63 kc_1 ?_
      exact xf_i (pc := 64) hx hb hr rfl hlocks h hR hK hS dX0_isCostTheSame_64
    · have h := xneg c1 h
      refine lv_aload_n (pc := 10) hx hb dX0_isCostTheSame_10 rfl (lv_at hl 0 rfl) ?_
      refine xr_getR (pc := 11) (ci := 4) hx hb hts inX0 hown hK hR rfl k0.1 0 (Nat.le_of_ble_eq_true rfl) rfl k0.2.1.1 (hts _ q_f_X0_11) (fun _ h9 => h9) dX0_isCostTheSame_11 ?_
      refine lv_iload_n (pc := 14) hx hb dX0_isCostTheSame_14 rfl (lv_at hl 2 rfl) ?_
      obtain ⟨c2, h⟩ := xk_inv h
      refine xr_aald (pc := 15) hx hb hK hR 2 (by decide) k0.2.1.2.1 rfl k0.2.1.2.2.1 c2 (k0.2.1.2.2.2 _ (xlt c2)).1 dX0_isCostTheSame_15 ?_
      refine lv_aload_n (pc := 16) hx hb dX0_isCostTheSame_16 rfl (lv_at hl 0 rfl) ?_
      refine xr_getI (pc := 17) (ci := 4) hx hb hts inX0 hown hK hR rfl k0.1 4 (Nat.le_of_ble_eq_true rfl) rfl (hts _ q_f_X0_29) (fun _ h9 => h9) dX0_isCostTheSame_17 ?_
      refine lv_iload_n (pc := 20) hx hb dX0_isCostTheSame_20 rfl (lv_at hl 1 rfl) ?_
      refine lv_iadd (pc := 21) hx hb dX0_isCostTheSame_21 ?_
      obtain ⟨r3, m3, c3, h⟩ := xb_inv h
      refine xc_iV (pc := 22) (As := [.int _]) (rest := []) ⟨hx, hb, hml, hown, hts⟩ (mX5_isRunningIn hF _ _ ((k0.2.1.2.2.2 _ (xlt c2)).2) c3) (xcwV 1 hts fdX5_isRunningIn q_m_X0_134 ⟨Nat.le_of_ble_eq_true rfl, Nat.le_of_ble_eq_true rfl⟩) (xRecv hK hR (ci := 9) rfl ((k0.2.1.2.2.2 _ (xlt c2)).2)) hR hK hE hS rfl hl.1 rfl (Nat.le_of_ble_eq_true rfl) dX0_isCostTheSame_22 ⟨Nat.zero_le _, Nat.zero_le _⟩ (fun H locs hR hS => ?_)
      refine lv_if_eq (pc := 25) (tgt := 57) hx hb dX0_isCostTheSame_25 (by decide) (fun c4 => ?_) (fun c4 => ?_)
      · have h := xpos c4 h
        refine lv_iinc (pc := 57) (lv' := [(2, .int _), (0, .ref _), (1, .int _)]) hx hb dX0_isCostTheSame_57 hl (k := 2) rfl (xinc kc_1) (Nat.le_of_ble_eq_true rfl) rfl (fun ls hl => ?_)
        refine lv_goto (pc := 60) (tgt := 2) hx hb dX0_isCostTheSame_60 (by decide) ?_
        exact ih _ _ _ _ _ h hR hS (lv_sub hl [1, 2, 0] rfl)
      · have h := xneg c4 h
        refine lv_aload_n (pc := 28) hx hb dX0_isCostTheSame_28 rfl (lv_at hl 0 rfl) ?_
        refine xr_getR (pc := 29) (ci := 4) hx hb hts inX0 hown hK hR rfl k0.1 0 (Nat.le_of_ble_eq_true rfl) rfl k0.2.1.1 (hts _ q_f_X0_11) (fun _ h9 => h9) dX0_isCostTheSame_29 ?_
        refine lv_iload_n (pc := 32) hx hb dX0_isCostTheSame_32 rfl (lv_at hl 2 rfl) ?_
        obtain ⟨c5, h⟩ := xk_inv h
        refine xr_aald (pc := 33) hx hb hK hR 2 (by decide) k0.2.1.2.1 rfl k0.2.1.2.2.1 c5 (k0.2.1.2.2.2 _ (xlt c5)).1 dX0_isCostTheSame_33 ?_
        refine lv_iload_n (pc := 34) hx hb dX0_isCostTheSame_34 rfl (lv_at hl 1 rfl) ?_
        obtain ⟨r6, m6, c6, h⟩ := xb_inv h
        refine xc_iV (pc := 35) (As := [.int _]) (rest := []) ⟨hx, hb, hml, hown, hts⟩ (mX5_costBehind hF _ _ ((k0.2.1.2.2.2 _ (xlt c5)).2) c6) (xcwV 1 hts fdX5_costBehind q_m_X0_138 ⟨Nat.le_of_ble_eq_true rfl, Nat.le_of_ble_eq_true rfl⟩) (xRecv hK hR (ci := 9) rfl ((k0.2.1.2.2.2 _ (xlt c5)).2)) hR hK hE hS rfl hl.1 rfl (Nat.le_of_ble_eq_true rfl) dX0_isCostTheSame_35 ⟨Nat.zero_le _, Nat.zero_le _⟩ (fun H locs hR hS => ?_)
        refine lv_aload_n (pc := 38) hx hb dX0_isCostTheSame_38 rfl (lv_at hl 0 rfl) ?_
        refine xr_getR (pc := 39) (ci := 4) hx hb hts inX0 hown hK hR rfl k0.1 0 (Nat.le_of_ble_eq_true rfl) rfl k0.2.1.1 (hts _ q_f_X0_11) (fun _ h9 => h9) dX0_isCostTheSame_39 ?_
        refine lv_iload_n (pc := 42) hx hb dX0_isCostTheSame_42 rfl (lv_at hl 2 rfl) ?_
        obtain ⟨c7, h⟩ := xk_inv h
        refine xr_aald (pc := 43) hx hb hK hR 2 (by decide) k0.2.1.2.1 rfl k0.2.1.2.2.1 c7 (k0.2.1.2.2.2 _ (xlt c7)).1 dX0_isCostTheSame_43 ?_
        refine lv_aload_n (pc := 44) hx hb dX0_isCostTheSame_44 rfl (lv_at hl 0 rfl) ?_
        refine xr_getI (pc := 45) (ci := 4) hx hb hts inX0 hown hK hR rfl k0.1 4 (Nat.le_of_ble_eq_true rfl) rfl (hts _ q_f_X0_29) (fun _ h9 => h9) dX0_isCostTheSame_45 ?_
        refine lv_iload_n (pc := 48) hx hb dX0_isCostTheSame_48 rfl (lv_at hl 1 rfl) ?_
        obtain ⟨r8, m8, c8, h⟩ := xb_inv h
        refine xc_iV (pc := 49) (As := [.int _, .int _]) (rest := [.int _]) ⟨hx, hb, hml, hown, hts⟩ (mX5_costWeekByWeek hF _ _ _ ((k0.2.1.2.2.2 _ (xlt c7)).2) c8) (xcwV 2 hts fdX5_costWeekByWeek q_m_X0_141 ⟨Nat.le_of_ble_eq_true rfl, Nat.le_of_ble_eq_true rfl⟩) (xRecv hK hR (ci := 9) rfl ((k0.2.1.2.2.2 _ (xlt c7)).2)) hR hK hE hS rfl hl.1 rfl (Nat.le_of_ble_eq_true rfl) dX0_isCostTheSame_49 ⟨Nat.zero_le _, Nat.zero_le _⟩ (fun H locs hR hS => ?_)
        refine lv_icmp_eq (pc := 52) (tgt := 57) hx hb dX0_isCostTheSame_52 (by decide) (fun c9 => ?_) (fun c9 => ?_)
        · have h := xpos c9 h
          refine lv_iinc (pc := 57) (lv' := [(2, .int _), (0, .ref _), (1, .int _)]) hx hb dX0_isCostTheSame_57 hl (k := 2) rfl (xinc kc_1) (Nat.le_of_ble_eq_true rfl) rfl (fun ls hl => ?_)
          refine lv_goto (pc := 60) (tgt := 2) hx hb dX0_isCostTheSame_60 (by decide) ?_
          exact ih _ _ _ _ _ h hR hS (lv_sub hl [1, 2, 0] rfl)
        · have h := xneg c9 h
          refine lv_iconst (pc := 55) hx hb dX0_isCostTheSame_55 kc_0 ?_
          exact xf_i (pc := 56) hx hb hr rfl hlocks h hR hK hS dX0_isCostTheSame_56
set_option maxHeartbeats 1000000 in
set_option maxRecDepth 20000 in
theorem mX0_isCostTheSame {l : Launch} {D : va_G} {ca : Nat → ClassId} {z : Nat} {G : xG} {X : va_W} {ad av : Nat → Nat} (hF : xFix z G X) (h0 : Nat) (p1 : Int32) (k0 : xI_Bank G h0) {μ μ1 : xM} {r : Int32} (h : fX0_isCostTheSame h0 p1 μ = some (r, μ1)) : xMi l yX0_isCostTheSame (xws yX0_isCostTheSame cX0_isCostTheSame 3 (some .boolean)) 2 D ca z G X ad av [.ref h0, .int p1] μ r μ1 := by
  refine xm_i (by decide) rfl (Nat.le_of_ble_eq_true rfl) [(0, .ref h0), (1, .int p1)] rfl ?_
  intro p e s m args below meth c ls hx hb hr hml hlocks hts hown hK hE hR hS hl
  have hts : ∀ w ∈ xAll, w.before args s = true := fun w hw => hts w (List.mem_cons_of_mem _ hw)
  rw [fX0_isCostTheSame] at h
  refine lv_iconst (pc := 0) hx hb dX0_isCostTheSame_0 kc_0 ?_
  refine lv_istore_n (pc := 1) (lv' := [(2, .int _), (0, .ref _), (1, .int _)]) hx hb dX0_isCostTheSame_1 rfl hl (Nat.le_of_ble_eq_true rfl) rfl (fun ls hl => ?_)
  exact wX0_isCostTheSame_2 hF h0 p1 k0 hx hb hr hml hlocks hts hown hK hE _ _ _ _ _ _ h hR hS (lv_sub hl [1, 2, 0] rfl)
set_option maxHeartbeats 1000000 in
set_option maxRecDepth 20000 in
theorem wX0_sumOfRunningLoans_4 {p : Program} {l : Launch} {e : Env} {s : State} {m : MethodId} {args : Array Value} {below : List Frame} {meth : Method} {c : Code} {D : va_G} {ca : Nat → ClassId} {z : Nat} {G : xG} {X : va_W} {ad av : Nat → Nat} (hF : xFix z G X) (h0 : Nat) (k0 : xI_Bank G h0) (hx : p.tables.exec = Jvm.exec) (hb : c.code = cX0_sumOfRunningLoans) (hr : meth.sig.returnType = (some .int)) (hml : c.maxLocals = 3) (hlocks : meth.locks = false) (hts : ∀ w ∈ xAll, w.before args s = true) (hown : s.vm.findClass RX0 = some m.cls) (hK : va_K D vwCl (xT ca) s) (hE : xEv z ad av s s.heap) {μ1 : xM} {r : Int32} :
    ∀ (n : Nat) (x1 : Int32) (x2 : Int32) (μ : xM) (H : Heap) (locs : List Loc) (ls : Array Slot), lX0_sumOfRunningLoans_4 h0 n x1 x2 μ = some (r, μ1) → xRep D ca G X μ H → va_S (fun q => z ≤ q) s.heap H locs → lv_has ls 3 [(0, .ref h0), (1, .int x1), (2, .int x2)] → W p l e (xRm 0 0 0) s m args below meth c H locs 0 0 (MQ below (va_Qi (fun (r' : Int32) (_ : Unit) => r' = r) (fun _ t => xB D ca G X μ1 t) (fun q => z ≤ q)) args s 0 0 (fun q => z ≤ q)) (F0 m 4 ls []) := by
  intro n
  induction n with
  | zero => intro x1 x2 μ H locs ls h; cases h
  | succ n ih =>
    intro x1 x2 μ H locs ls h hR hS hl
    rw [lX0_sumOfRunningLoans_4] at h
    refine lv_iload_n (pc := 4) hx hb dX0_sumOfRunningLoans_4 rfl (lv_at hl 2 rfl) ?_
    refine lv_aload_n (pc := 5) hx hb dX0_sumOfRunningLoans_5 rfl (lv_at hl 0 rfl) ?_
    refine xr_getI (pc := 6) (ci := 4) hx hb hts inX0 hown hK hR rfl k0.1 3 (Nat.le_of_ble_eq_true rfl) rfl (hts _ q_f_X0_25) (fun _ h9 => h9) dX0_sumOfRunningLoans_6 ?_
    refine lv_icmp_ge (pc := 9) (tgt := 42) hx hb dX0_sumOfRunningLoans_9 (by decide) (fun c1 => ?_) (fun c1 => ?_)
    · have h := xpos c1 h
      refine lv_iload_n (pc := 42) hx hb dX0_sumOfRunningLoans_42 rfl (lv_at hl 1 rfl) ?_
      exact xf_i (pc := 43) hx hb hr rfl hlocks h hR hK hS dX0_sumOfRunningLoans_43
    · have h := xneg c1 h
      refine lv_aload_n (pc := 12) hx hb dX0_sumOfRunningLoans_12 rfl (lv_at hl 0 rfl) ?_
      refine xr_getR (pc := 13) (ci := 4) hx hb hts inX0 hown hK hR rfl k0.1 0 (Nat.le_of_ble_eq_true rfl) rfl k0.2.1.1 (hts _ q_f_X0_11) (fun _ h9 => h9) dX0_sumOfRunningLoans_13 ?_
      refine lv_iload_n (pc := 16) hx hb dX0_sumOfRunningLoans_16 rfl (lv_at hl 2 rfl) ?_
      obtain ⟨c2, h⟩ := xk_inv h
      refine xr_aald (pc := 17) hx hb hK hR 2 (by decide) k0.2.1.2.1 rfl k0.2.1.2.2.1 c2 (k0.2.1.2.2.2 _ (xlt c2)).1 dX0_sumOfRunningLoans_17 ?_
      refine xr_getI (pc := 18) (ci := 9) hx hb hts inX5 hown hK hR rfl ((k0.2.1.2.2.2 _ (xlt c2)).2) 5 (Nat.le_of_ble_eq_true rfl) rfl (hts _ q_f_X0_108) (fun _ h9 => h9) dX0_sumOfRunningLoans_18 ?_
      refine lv_if_ne (pc := 21) (tgt := 36) hx hb dX0_sumOfRunningLoans_21 (by decide) (fun c3 => ?_) (fun c3 => ?_)
      · have h := xneg c3 h
        refine lv_iinc (pc := 36) (lv' := [(2, .int _), (0, .ref _), (1, .int _)]) hx hb dX0_sumOfRunningLoans_36 hl (k := 2) rfl (xinc kc_1) (Nat.le_of_ble_eq_true rfl) rfl (fun ls hl => ?_)
        refine lv_goto (pc := 39) (tgt := 4) hx hb dX0_sumOfRunningLoans_39 (by decide) ?_
        exact ih _ _ _ _ _ _ h hR hS (lv_sub hl [1, 2, 0] rfl)
      · have h := xpos c3 h
        refine lv_iload_n (pc := 24) hx hb dX0_sumOfRunningLoans_24 rfl (lv_at hl 1 rfl) ?_
        refine lv_aload_n (pc := 25) hx hb dX0_sumOfRunningLoans_25 rfl (lv_at hl 0 rfl) ?_
        refine xr_getR (pc := 26) (ci := 4) hx hb hts inX0 hown hK hR rfl k0.1 0 (Nat.le_of_ble_eq_true rfl) rfl k0.2.1.1 (hts _ q_f_X0_11) (fun _ h9 => h9) dX0_sumOfRunningLoans_26 ?_
        refine lv_iload_n (pc := 29) hx hb dX0_sumOfRunningLoans_29 rfl (lv_at hl 2 rfl) ?_
        obtain ⟨c4, h⟩ := xk_inv h
        refine xr_aald (pc := 30) hx hb hK hR 2 (by decide) k0.2.1.2.1 rfl k0.2.1.2.2.1 c4 (k0.2.1.2.2.2 _ (xlt c4)).1 dX0_sumOfRunningLoans_30 ?_
        refine xr_getI (pc := 31) (ci := 9) hx hb hts inX5 hown hK hR rfl ((k0.2.1.2.2.2 _ (xlt c4)).2) 3 (Nat.le_of_ble_eq_true rfl) rfl (hts _ q_f_X0_156) (fun _ h9 => h9) dX0_sumOfRunningLoans_31 ?_
        refine lv_iadd (pc := 34) hx hb dX0_sumOfRunningLoans_34 ?_
        refine lv_istore_n (pc := 35) (lv' := [(1, .int _), (0, .ref _), (2, .int _)]) hx hb dX0_sumOfRunningLoans_35 rfl hl (Nat.le_of_ble_eq_true rfl) rfl (fun ls hl => ?_)
        refine lv_iinc (pc := 36) (lv' := [(2, .int _), (1, .int _), (0, .ref _)]) hx hb dX0_sumOfRunningLoans_36 hl (k := 2) rfl (xinc kc_1) (Nat.le_of_ble_eq_true rfl) rfl (fun ls hl => ?_)
        refine lv_goto (pc := 39) (tgt := 4) hx hb dX0_sumOfRunningLoans_39 (by decide) ?_
        exact ih _ _ _ _ _ _ h hR hS (lv_sub hl [2, 1, 0] rfl)
set_option maxHeartbeats 1000000 in
set_option maxRecDepth 20000 in
theorem mX0_sumOfRunningLoans {l : Launch} {D : va_G} {ca : Nat → ClassId} {z : Nat} {G : xG} {X : va_W} {ad av : Nat → Nat} (hF : xFix z G X) (h0 : Nat) (k0 : xI_Bank G h0) {μ μ1 : xM} {r : Int32} (h : fX0_sumOfRunningLoans h0 μ = some (r, μ1)) : xMi l yX0_sumOfRunningLoans (xws yX0_sumOfRunningLoans cX0_sumOfRunningLoans 3 (some .int)) 0 D ca z G X ad av [.ref h0] μ r μ1 := by
  refine xm_i (by decide) rfl (Nat.le_of_ble_eq_true rfl) [(0, .ref h0)] rfl ?_
  intro p e s m args below meth c ls hx hb hr hml hlocks hts hown hK hE hR hS hl
  have hts : ∀ w ∈ xAll, w.before args s = true := fun w hw => hts w (List.mem_cons_of_mem _ hw)
  rw [fX0_sumOfRunningLoans] at h
  refine lv_iconst (pc := 0) hx hb dX0_sumOfRunningLoans_0 kc_0 ?_
  refine lv_istore_n (pc := 1) (lv' := [(1, .int _), (0, .ref _)]) hx hb dX0_sumOfRunningLoans_1 rfl hl (Nat.le_of_ble_eq_true rfl) rfl (fun ls hl => ?_)
  refine lv_iconst (pc := 2) hx hb dX0_sumOfRunningLoans_2 kc_0 ?_
  refine lv_istore_n (pc := 3) (lv' := [(2, .int _), (1, .int _), (0, .ref _)]) hx hb dX0_sumOfRunningLoans_3 rfl hl (Nat.le_of_ble_eq_true rfl) rfl (fun ls hl => ?_)
  exact wX0_sumOfRunningLoans_4 hF h0 k0 hx hb hr hml hlocks hts hown hK hE _ _ _ _ _ _ _ h hR hS (lv_sub hl [2, 1, 0] rfl)
set_option maxHeartbeats 1000000 in
set_option maxRecDepth 20000 in
theorem wX0_sumOfLent_4 {p : Program} {l : Launch} {e : Env} {s : State} {m : MethodId} {args : Array Value} {below : List Frame} {meth : Method} {c : Code} {D : va_G} {ca : Nat → ClassId} {z : Nat} {G : xG} {X : va_W} {ad av : Nat → Nat} (hF : xFix z G X) (h0 : Nat) (k0 : xI_Bank G h0) (hx : p.tables.exec = Jvm.exec) (hb : c.code = cX0_sumOfLent) (hr : meth.sig.returnType = (some .int)) (hml : c.maxLocals = 3) (hlocks : meth.locks = false) (hts : ∀ w ∈ xAll, w.before args s = true) (hown : s.vm.findClass RX0 = some m.cls) (hK : va_K D vwCl (xT ca) s) (hE : xEv z ad av s s.heap) {μ1 : xM} {r : Int32} :
    ∀ (n : Nat) (x1 : Int32) (x2 : Int32) (μ : xM) (H : Heap) (locs : List Loc) (ls : Array Slot), lX0_sumOfLent_4 h0 n x1 x2 μ = some (r, μ1) → xRep D ca G X μ H → va_S (fun q => z ≤ q) s.heap H locs → lv_has ls 3 [(0, .ref h0), (1, .int x1), (2, .int x2)] → W p l e (xRm 0 0 0) s m args below meth c H locs 0 0 (MQ below (va_Qi (fun (r' : Int32) (_ : Unit) => r' = r) (fun _ t => xB D ca G X μ1 t) (fun q => z ≤ q)) args s 0 0 (fun q => z ≤ q)) (F0 m 4 ls []) := by
  intro n
  induction n with
  | zero => intro x1 x2 μ H locs ls h; cases h
  | succ n ih =>
    intro x1 x2 μ H locs ls h hR hS hl
    rw [lX0_sumOfLent_4] at h
    refine lv_iload_n (pc := 4) hx hb dX0_sumOfLent_4 rfl (lv_at hl 2 rfl) ?_
    refine lv_aload_n (pc := 5) hx hb dX0_sumOfLent_5 rfl (lv_at hl 0 rfl) ?_
    refine xr_getI (pc := 6) (ci := 4) hx hb hts inX0 hown hK hR rfl k0.1 3 (Nat.le_of_ble_eq_true rfl) rfl (hts _ q_f_X0_25) (fun _ h9 => h9) dX0_sumOfLent_6 ?_
    refine lv_icmp_ge (pc := 9) (tgt := 30) hx hb dX0_sumOfLent_9 (by decide) (fun c1 => ?_) (fun c1 => ?_)
    · have h := xpos c1 h
      refine lv_iload_n (pc := 30) hx hb dX0_sumOfLent_30 rfl (lv_at hl 1 rfl) ?_
      exact xf_i (pc := 31) hx hb hr rfl hlocks h hR hK hS dX0_sumOfLent_31
    · have h := xneg c1 h
      refine lv_iload_n (pc := 12) hx hb dX0_sumOfLent_12 rfl (lv_at hl 1 rfl) ?_
      refine lv_aload_n (pc := 13) hx hb dX0_sumOfLent_13 rfl (lv_at hl 0 rfl) ?_
      refine xr_getR (pc := 14) (ci := 4) hx hb hts inX0 hown hK hR rfl k0.1 0 (Nat.le_of_ble_eq_true rfl) rfl k0.2.1.1 (hts _ q_f_X0_11) (fun _ h9 => h9) dX0_sumOfLent_14 ?_
      refine lv_iload_n (pc := 17) hx hb dX0_sumOfLent_17 rfl (lv_at hl 2 rfl) ?_
      obtain ⟨c2, h⟩ := xk_inv h
      refine xr_aald (pc := 18) hx hb hK hR 2 (by decide) k0.2.1.2.1 rfl k0.2.1.2.2.1 c2 (k0.2.1.2.2.2 _ (xlt c2)).1 dX0_sumOfLent_18 ?_
      refine xr_getI (pc := 19) (ci := 9) hx hb hts inX5 hown hK hR rfl ((k0.2.1.2.2.2 _ (xlt c2)).2) 2 (Nat.le_of_ble_eq_true rfl) rfl (hts _ q_f_X0_159) (fun _ h9 => h9) dX0_sumOfLent_19 ?_
      refine lv_iadd (pc := 22) hx hb dX0_sumOfLent_22 ?_
      refine lv_istore_n (pc := 23) (lv' := [(1, .int _), (0, .ref _), (2, .int _)]) hx hb dX0_sumOfLent_23 rfl hl (Nat.le_of_ble_eq_true rfl) rfl (fun ls hl => ?_)
      refine lv_iinc (pc := 24) (lv' := [(2, .int _), (1, .int _), (0, .ref _)]) hx hb dX0_sumOfLent_24 hl (k := 2) rfl (xinc kc_1) (Nat.le_of_ble_eq_true rfl) rfl (fun ls hl => ?_)
      refine lv_goto (pc := 27) (tgt := 4) hx hb dX0_sumOfLent_27 (by decide) ?_
      exact ih _ _ _ _ _ _ h hR hS (lv_sub hl [2, 1, 0] rfl)
set_option maxHeartbeats 1000000 in
set_option maxRecDepth 20000 in
theorem mX0_sumOfLent {l : Launch} {D : va_G} {ca : Nat → ClassId} {z : Nat} {G : xG} {X : va_W} {ad av : Nat → Nat} (hF : xFix z G X) (h0 : Nat) (k0 : xI_Bank G h0) {μ μ1 : xM} {r : Int32} (h : fX0_sumOfLent h0 μ = some (r, μ1)) : xMi l yX0_sumOfLent (xws yX0_sumOfLent cX0_sumOfLent 3 (some .int)) 0 D ca z G X ad av [.ref h0] μ r μ1 := by
  refine xm_i (by decide) rfl (Nat.le_of_ble_eq_true rfl) [(0, .ref h0)] rfl ?_
  intro p e s m args below meth c ls hx hb hr hml hlocks hts hown hK hE hR hS hl
  have hts : ∀ w ∈ xAll, w.before args s = true := fun w hw => hts w (List.mem_cons_of_mem _ hw)
  rw [fX0_sumOfLent] at h
  refine lv_iconst (pc := 0) hx hb dX0_sumOfLent_0 kc_0 ?_
  refine lv_istore_n (pc := 1) (lv' := [(1, .int _), (0, .ref _)]) hx hb dX0_sumOfLent_1 rfl hl (Nat.le_of_ble_eq_true rfl) rfl (fun ls hl => ?_)
  refine lv_iconst (pc := 2) hx hb dX0_sumOfLent_2 kc_0 ?_
  refine lv_istore_n (pc := 3) (lv' := [(2, .int _), (1, .int _), (0, .ref _)]) hx hb dX0_sumOfLent_3 rfl hl (Nat.le_of_ble_eq_true rfl) rfl (fun ls hl => ?_)
  exact wX0_sumOfLent_4 hF h0 k0 hx hb hr hml hlocks hts hown hK hE _ _ _ _ _ _ _ h hR hS (lv_sub hl [2, 1, 0] rfl)
set_option maxHeartbeats 1000000 in
set_option maxRecDepth 20000 in
theorem wX0_sumOfPaid_4 {p : Program} {l : Launch} {e : Env} {s : State} {m : MethodId} {args : Array Value} {below : List Frame} {meth : Method} {c : Code} {D : va_G} {ca : Nat → ClassId} {z : Nat} {G : xG} {X : va_W} {ad av : Nat → Nat} (hF : xFix z G X) (h0 : Nat) (k0 : xI_Bank G h0) (hx : p.tables.exec = Jvm.exec) (hb : c.code = cX0_sumOfPaid) (hr : meth.sig.returnType = (some .int)) (hml : c.maxLocals = 3) (hlocks : meth.locks = false) (hts : ∀ w ∈ xAll, w.before args s = true) (hown : s.vm.findClass RX0 = some m.cls) (hK : va_K D vwCl (xT ca) s) (hE : xEv z ad av s s.heap) {μ1 : xM} {r : Int32} :
    ∀ (n : Nat) (x1 : Int32) (x2 : Int32) (μ : xM) (H : Heap) (locs : List Loc) (ls : Array Slot), lX0_sumOfPaid_4 h0 n x1 x2 μ = some (r, μ1) → xRep D ca G X μ H → va_S (fun q => z ≤ q) s.heap H locs → lv_has ls 3 [(0, .ref h0), (1, .int x1), (2, .int x2)] → W p l e (xRm 0 0 0) s m args below meth c H locs 0 0 (MQ below (va_Qi (fun (r' : Int32) (_ : Unit) => r' = r) (fun _ t => xB D ca G X μ1 t) (fun q => z ≤ q)) args s 0 0 (fun q => z ≤ q)) (F0 m 4 ls []) := by
  intro n
  induction n with
  | zero => intro x1 x2 μ H locs ls h; cases h
  | succ n ih =>
    intro x1 x2 μ H locs ls h hR hS hl
    rw [lX0_sumOfPaid_4] at h
    refine lv_iload_n (pc := 4) hx hb dX0_sumOfPaid_4 rfl (lv_at hl 2 rfl) ?_
    refine lv_aload_n (pc := 5) hx hb dX0_sumOfPaid_5 rfl (lv_at hl 0 rfl) ?_
    refine xr_getI (pc := 6) (ci := 4) hx hb hts inX0 hown hK hR rfl k0.1 3 (Nat.le_of_ble_eq_true rfl) rfl (hts _ q_f_X0_25) (fun _ h9 => h9) dX0_sumOfPaid_6 ?_
    refine lv_icmp_ge (pc := 9) (tgt := 30) hx hb dX0_sumOfPaid_9 (by decide) (fun c1 => ?_) (fun c1 => ?_)
    · have h := xpos c1 h
      refine lv_iload_n (pc := 30) hx hb dX0_sumOfPaid_30 rfl (lv_at hl 1 rfl) ?_
      exact xf_i (pc := 31) hx hb hr rfl hlocks h hR hK hS dX0_sumOfPaid_31
    · have h := xneg c1 h
      refine lv_iload_n (pc := 12) hx hb dX0_sumOfPaid_12 rfl (lv_at hl 1 rfl) ?_
      refine lv_aload_n (pc := 13) hx hb dX0_sumOfPaid_13 rfl (lv_at hl 0 rfl) ?_
      refine xr_getR (pc := 14) (ci := 4) hx hb hts inX0 hown hK hR rfl k0.1 0 (Nat.le_of_ble_eq_true rfl) rfl k0.2.1.1 (hts _ q_f_X0_11) (fun _ h9 => h9) dX0_sumOfPaid_14 ?_
      refine lv_iload_n (pc := 17) hx hb dX0_sumOfPaid_17 rfl (lv_at hl 2 rfl) ?_
      obtain ⟨c2, h⟩ := xk_inv h
      refine xr_aald (pc := 18) hx hb hK hR 2 (by decide) k0.2.1.2.1 rfl k0.2.1.2.2.1 c2 (k0.2.1.2.2.2 _ (xlt c2)).1 dX0_sumOfPaid_18 ?_
      refine xr_getI (pc := 19) (ci := 9) hx hb hts inX5 hown hK hR rfl ((k0.2.1.2.2.2 _ (xlt c2)).2) 9 (Nat.le_of_ble_eq_true rfl) rfl (hts _ q_f_X0_162) (fun _ h9 => h9) dX0_sumOfPaid_19 ?_
      refine lv_iadd (pc := 22) hx hb dX0_sumOfPaid_22 ?_
      refine lv_istore_n (pc := 23) (lv' := [(1, .int _), (0, .ref _), (2, .int _)]) hx hb dX0_sumOfPaid_23 rfl hl (Nat.le_of_ble_eq_true rfl) rfl (fun ls hl => ?_)
      refine lv_iinc (pc := 24) (lv' := [(2, .int _), (1, .int _), (0, .ref _)]) hx hb dX0_sumOfPaid_24 hl (k := 2) rfl (xinc kc_1) (Nat.le_of_ble_eq_true rfl) rfl (fun ls hl => ?_)
      refine lv_goto (pc := 27) (tgt := 4) hx hb dX0_sumOfPaid_27 (by decide) ?_
      exact ih _ _ _ _ _ _ h hR hS (lv_sub hl [2, 1, 0] rfl)
set_option maxHeartbeats 1000000 in
set_option maxRecDepth 20000 in
theorem mX0_sumOfPaid {l : Launch} {D : va_G} {ca : Nat → ClassId} {z : Nat} {G : xG} {X : va_W} {ad av : Nat → Nat} (hF : xFix z G X) (h0 : Nat) (k0 : xI_Bank G h0) {μ μ1 : xM} {r : Int32} (h : fX0_sumOfPaid h0 μ = some (r, μ1)) : xMi l yX0_sumOfPaid (xws yX0_sumOfPaid cX0_sumOfPaid 3 (some .int)) 0 D ca z G X ad av [.ref h0] μ r μ1 := by
  refine xm_i (by decide) rfl (Nat.le_of_ble_eq_true rfl) [(0, .ref h0)] rfl ?_
  intro p e s m args below meth c ls hx hb hr hml hlocks hts hown hK hE hR hS hl
  have hts : ∀ w ∈ xAll, w.before args s = true := fun w hw => hts w (List.mem_cons_of_mem _ hw)
  rw [fX0_sumOfPaid] at h
  refine lv_iconst (pc := 0) hx hb dX0_sumOfPaid_0 kc_0 ?_
  refine lv_istore_n (pc := 1) (lv' := [(1, .int _), (0, .ref _)]) hx hb dX0_sumOfPaid_1 rfl hl (Nat.le_of_ble_eq_true rfl) rfl (fun ls hl => ?_)
  refine lv_iconst (pc := 2) hx hb dX0_sumOfPaid_2 kc_0 ?_
  refine lv_istore_n (pc := 3) (lv' := [(2, .int _), (1, .int _), (0, .ref _)]) hx hb dX0_sumOfPaid_3 rfl hl (Nat.le_of_ble_eq_true rfl) rfl (fun ls hl => ?_)
  exact wX0_sumOfPaid_4 hF h0 k0 hx hb hr hml hlocks hts hown hK hE _ _ _ _ _ _ _ h hR hS (lv_sub hl [2, 1, 0] rfl)
set_option maxHeartbeats 1000000 in
set_option maxRecDepth 20000 in
theorem wX0_sumOfPrices_4 {p : Program} {l : Launch} {e : Env} {s : State} {m : MethodId} {args : Array Value} {below : List Frame} {meth : Method} {c : Code} {D : va_G} {ca : Nat → ClassId} {z : Nat} {G : xG} {X : va_W} {ad av : Nat → Nat} (hF : xFix z G X) (h0 : Nat) (k0 : xI_Bank G h0) (hx : p.tables.exec = Jvm.exec) (hb : c.code = cX0_sumOfPrices) (hr : meth.sig.returnType = (some .int)) (hml : c.maxLocals = 3) (hlocks : meth.locks = false) (hts : ∀ w ∈ xAll, w.before args s = true) (hown : s.vm.findClass RX0 = some m.cls) (hK : va_K D vwCl (xT ca) s) (hE : xEv z ad av s s.heap) {μ1 : xM} {r : Int32} :
    ∀ (n : Nat) (x1 : Int32) (x2 : Int32) (μ : xM) (H : Heap) (locs : List Loc) (ls : Array Slot), lX0_sumOfPrices_4 h0 n x1 x2 μ = some (r, μ1) → xRep D ca G X μ H → va_S (fun q => z ≤ q) s.heap H locs → lv_has ls 3 [(0, .ref h0), (1, .int x1), (2, .int x2)] → W p l e (xRm 0 0 0) s m args below meth c H locs 0 0 (MQ below (va_Qi (fun (r' : Int32) (_ : Unit) => r' = r) (fun _ t => xB D ca G X μ1 t) (fun q => z ≤ q)) args s 0 0 (fun q => z ≤ q)) (F0 m 4 ls []) := by
  intro n
  induction n with
  | zero => intro x1 x2 μ H locs ls h; cases h
  | succ n ih =>
    intro x1 x2 μ H locs ls h hR hS hl
    rw [lX0_sumOfPrices_4] at h
    refine lv_iload_n (pc := 4) hx hb dX0_sumOfPrices_4 rfl (lv_at hl 2 rfl) ?_
    refine lv_aload_n (pc := 5) hx hb dX0_sumOfPrices_5 rfl (lv_at hl 0 rfl) ?_
    refine xr_getI (pc := 6) (ci := 4) hx hb hts inX0 hown hK hR rfl k0.1 3 (Nat.le_of_ble_eq_true rfl) rfl (hts _ q_f_X0_25) (fun _ h9 => h9) dX0_sumOfPrices_6 ?_
    refine lv_icmp_ge (pc := 9) (tgt := 30) hx hb dX0_sumOfPrices_9 (by decide) (fun c1 => ?_) (fun c1 => ?_)
    · have h := xpos c1 h
      refine lv_iload_n (pc := 30) hx hb dX0_sumOfPrices_30 rfl (lv_at hl 1 rfl) ?_
      exact xf_i (pc := 31) hx hb hr rfl hlocks h hR hK hS dX0_sumOfPrices_31
    · have h := xneg c1 h
      refine lv_iload_n (pc := 12) hx hb dX0_sumOfPrices_12 rfl (lv_at hl 1 rfl) ?_
      refine lv_aload_n (pc := 13) hx hb dX0_sumOfPrices_13 rfl (lv_at hl 0 rfl) ?_
      refine xr_getR (pc := 14) (ci := 4) hx hb hts inX0 hown hK hR rfl k0.1 0 (Nat.le_of_ble_eq_true rfl) rfl k0.2.1.1 (hts _ q_f_X0_11) (fun _ h9 => h9) dX0_sumOfPrices_14 ?_
      refine lv_iload_n (pc := 17) hx hb dX0_sumOfPrices_17 rfl (lv_at hl 2 rfl) ?_
      obtain ⟨c2, h⟩ := xk_inv h
      refine xr_aald (pc := 18) hx hb hK hR 2 (by decide) k0.2.1.2.1 rfl k0.2.1.2.2.1 c2 (k0.2.1.2.2.2 _ (xlt c2)).1 dX0_sumOfPrices_18 ?_
      refine xr_getI (pc := 19) (ci := 9) hx hb hts inX5 hown hK hR rfl ((k0.2.1.2.2.2 _ (xlt c2)).2) 11 (Nat.le_of_ble_eq_true rfl) rfl (hts _ q_f_X0_165) (fun _ h9 => h9) dX0_sumOfPrices_19 ?_
      refine lv_iadd (pc := 22) hx hb dX0_sumOfPrices_22 ?_
      refine lv_istore_n (pc := 23) (lv' := [(1, .int _), (0, .ref _), (2, .int _)]) hx hb dX0_sumOfPrices_23 rfl hl (Nat.le_of_ble_eq_true rfl) rfl (fun ls hl => ?_)
      refine lv_iinc (pc := 24) (lv' := [(2, .int _), (1, .int _), (0, .ref _)]) hx hb dX0_sumOfPrices_24 hl (k := 2) rfl (xinc kc_1) (Nat.le_of_ble_eq_true rfl) rfl (fun ls hl => ?_)
      refine lv_goto (pc := 27) (tgt := 4) hx hb dX0_sumOfPrices_27 (by decide) ?_
      exact ih _ _ _ _ _ _ h hR hS (lv_sub hl [2, 1, 0] rfl)
set_option maxHeartbeats 1000000 in
set_option maxRecDepth 20000 in
theorem mX0_sumOfPrices {l : Launch} {D : va_G} {ca : Nat → ClassId} {z : Nat} {G : xG} {X : va_W} {ad av : Nat → Nat} (hF : xFix z G X) (h0 : Nat) (k0 : xI_Bank G h0) {μ μ1 : xM} {r : Int32} (h : fX0_sumOfPrices h0 μ = some (r, μ1)) : xMi l yX0_sumOfPrices (xws yX0_sumOfPrices cX0_sumOfPrices 3 (some .int)) 0 D ca z G X ad av [.ref h0] μ r μ1 := by
  refine xm_i (by decide) rfl (Nat.le_of_ble_eq_true rfl) [(0, .ref h0)] rfl ?_
  intro p e s m args below meth c ls hx hb hr hml hlocks hts hown hK hE hR hS hl
  have hts : ∀ w ∈ xAll, w.before args s = true := fun w hw => hts w (List.mem_cons_of_mem _ hw)
  rw [fX0_sumOfPrices] at h
  refine lv_iconst (pc := 0) hx hb dX0_sumOfPrices_0 kc_0 ?_
  refine lv_istore_n (pc := 1) (lv' := [(1, .int _), (0, .ref _)]) hx hb dX0_sumOfPrices_1 rfl hl (Nat.le_of_ble_eq_true rfl) rfl (fun ls hl => ?_)
  refine lv_iconst (pc := 2) hx hb dX0_sumOfPrices_2 kc_0 ?_
  refine lv_istore_n (pc := 3) (lv' := [(2, .int _), (1, .int _), (0, .ref _)]) hx hb dX0_sumOfPrices_3 rfl hl (Nat.le_of_ble_eq_true rfl) rfl (fun ls hl => ?_)
  exact wX0_sumOfPrices_4 hF h0 k0 hx hb hr hml hlocks hts hown hK hE _ _ _ _ _ _ _ h hR hS (lv_sub hl [2, 1, 0] rfl)
set_option maxHeartbeats 1000000 in
set_option maxRecDepth 20000 in
theorem wX0_sumOfLosses_4 {p : Program} {l : Launch} {e : Env} {s : State} {m : MethodId} {args : Array Value} {below : List Frame} {meth : Method} {c : Code} {D : va_G} {ca : Nat → ClassId} {z : Nat} {G : xG} {X : va_W} {ad av : Nat → Nat} (hF : xFix z G X) (h0 : Nat) (k0 : xI_Bank G h0) (hx : p.tables.exec = Jvm.exec) (hb : c.code = cX0_sumOfLosses) (hr : meth.sig.returnType = (some .int)) (hml : c.maxLocals = 3) (hlocks : meth.locks = false) (hts : ∀ w ∈ xAll, w.before args s = true) (hown : s.vm.findClass RX0 = some m.cls) (hK : va_K D vwCl (xT ca) s) (hE : xEv z ad av s s.heap) {μ1 : xM} {r : Int32} :
    ∀ (n : Nat) (x1 : Int32) (x2 : Int32) (μ : xM) (H : Heap) (locs : List Loc) (ls : Array Slot), lX0_sumOfLosses_4 h0 n x1 x2 μ = some (r, μ1) → xRep D ca G X μ H → va_S (fun q => z ≤ q) s.heap H locs → lv_has ls 3 [(0, .ref h0), (1, .int x1), (2, .int x2)] → W p l e (xRm 1 0 0) s m args below meth c H locs 0 0 (MQ below (va_Qi (fun (r' : Int32) (_ : Unit) => r' = r) (fun _ t => xB D ca G X μ1 t) (fun q => z ≤ q)) args s 0 0 (fun q => z ≤ q)) (F0 m 4 ls []) := by
  intro n
  induction n with
  | zero => intro x1 x2 μ H locs ls h; cases h
  | succ n ih =>
    intro x1 x2 μ H locs ls h hR hS hl
    rw [lX0_sumOfLosses_4] at h
    refine lv_iload_n (pc := 4) hx hb dX0_sumOfLosses_4 rfl (lv_at hl 2 rfl) ?_
    refine lv_aload_n (pc := 5) hx hb dX0_sumOfLosses_5 rfl (lv_at hl 0 rfl) ?_
    refine xr_getI (pc := 6) (ci := 4) hx hb hts inX0 hown hK hR rfl k0.1 3 (Nat.le_of_ble_eq_true rfl) rfl (hts _ q_f_X0_25) (fun _ h9 => h9) dX0_sumOfLosses_6 ?_
    refine lv_icmp_ge (pc := 9) (tgt := 30) hx hb dX0_sumOfLosses_9 (by decide) (fun c1 => ?_) (fun c1 => ?_)
    · have h := xpos c1 h
      refine lv_iload_n (pc := 30) hx hb dX0_sumOfLosses_30 rfl (lv_at hl 1 rfl) ?_
      exact xf_i (pc := 31) hx hb hr rfl hlocks h hR hK hS dX0_sumOfLosses_31
    · have h := xneg c1 h
      refine lv_iload_n (pc := 12) hx hb dX0_sumOfLosses_12 rfl (lv_at hl 1 rfl) ?_
      refine lv_aload_n (pc := 13) hx hb dX0_sumOfLosses_13 rfl (lv_at hl 0 rfl) ?_
      refine xr_getR (pc := 14) (ci := 4) hx hb hts inX0 hown hK hR rfl k0.1 0 (Nat.le_of_ble_eq_true rfl) rfl k0.2.1.1 (hts _ q_f_X0_11) (fun _ h9 => h9) dX0_sumOfLosses_14 ?_
      refine lv_iload_n (pc := 17) hx hb dX0_sumOfLosses_17 rfl (lv_at hl 2 rfl) ?_
      obtain ⟨c2, h⟩ := xk_inv h
      refine xr_aald (pc := 18) hx hb hK hR 2 (by decide) k0.2.1.2.1 rfl k0.2.1.2.2.1 c2 (k0.2.1.2.2.2 _ (xlt c2)).1 dX0_sumOfLosses_18 ?_
      obtain ⟨r3, m3, c3, h⟩ := xb_inv h
      refine xc_iV (pc := 19) (As := []) (rest := [.int _]) ⟨hx, hb, hml, hown, hts⟩ (mX5_loss hF _ ((k0.2.1.2.2.2 _ (xlt c2)).2) c3) (xcwV 0 hts fdX5_loss q_m_X0_168 ⟨Nat.le_of_ble_eq_true rfl, Nat.le_of_ble_eq_true rfl⟩) (xRecv hK hR (ci := 9) rfl ((k0.2.1.2.2.2 _ (xlt c2)).2)) hR hK hE hS rfl hl.1 rfl (Nat.le_of_ble_eq_true rfl) dX0_sumOfLosses_19 ⟨Nat.zero_le _, Nat.zero_le _⟩ (fun H locs hR hS => ?_)
      refine lv_iadd (pc := 22) hx hb dX0_sumOfLosses_22 ?_
      refine lv_istore_n (pc := 23) (lv' := [(1, .int _), (0, .ref _), (2, .int _)]) hx hb dX0_sumOfLosses_23 rfl hl (Nat.le_of_ble_eq_true rfl) rfl (fun ls hl => ?_)
      refine lv_iinc (pc := 24) (lv' := [(2, .int _), (1, .int _), (0, .ref _)]) hx hb dX0_sumOfLosses_24 hl (k := 2) rfl (xinc kc_1) (Nat.le_of_ble_eq_true rfl) rfl (fun ls hl => ?_)
      refine lv_goto (pc := 27) (tgt := 4) hx hb dX0_sumOfLosses_27 (by decide) ?_
      exact ih _ _ _ _ _ _ h hR hS (lv_sub hl [2, 1, 0] rfl)
set_option maxHeartbeats 1000000 in
set_option maxRecDepth 20000 in
theorem mX0_sumOfLosses {l : Launch} {D : va_G} {ca : Nat → ClassId} {z : Nat} {G : xG} {X : va_W} {ad av : Nat → Nat} (hF : xFix z G X) (h0 : Nat) (k0 : xI_Bank G h0) {μ μ1 : xM} {r : Int32} (h : fX0_sumOfLosses h0 μ = some (r, μ1)) : xMi l yX0_sumOfLosses (xws yX0_sumOfLosses cX0_sumOfLosses 3 (some .int)) 1 D ca z G X ad av [.ref h0] μ r μ1 := by
  refine xm_i (by decide) rfl (Nat.le_of_ble_eq_true rfl) [(0, .ref h0)] rfl ?_
  intro p e s m args below meth c ls hx hb hr hml hlocks hts hown hK hE hR hS hl
  have hts : ∀ w ∈ xAll, w.before args s = true := fun w hw => hts w (List.mem_cons_of_mem _ hw)
  rw [fX0_sumOfLosses] at h
  refine lv_iconst (pc := 0) hx hb dX0_sumOfLosses_0 kc_0 ?_
  refine lv_istore_n (pc := 1) (lv' := [(1, .int _), (0, .ref _)]) hx hb dX0_sumOfLosses_1 rfl hl (Nat.le_of_ble_eq_true rfl) rfl (fun ls hl => ?_)
  refine lv_iconst (pc := 2) hx hb dX0_sumOfLosses_2 kc_0 ?_
  refine lv_istore_n (pc := 3) (lv' := [(2, .int _), (1, .int _), (0, .ref _)]) hx hb dX0_sumOfLosses_3 rfl hl (Nat.le_of_ble_eq_true rfl) rfl (fun ls hl => ?_)
  exact wX0_sumOfLosses_4 hF h0 k0 hx hb hr hml hlocks hts hown hK hE _ _ _ _ _ _ _ h hR hS (lv_sub hl [2, 1, 0] rfl)
set_option maxHeartbeats 1000000 in
set_option maxRecDepth 20000 in
theorem wX0_sumOfClaimed_4 {p : Program} {l : Launch} {e : Env} {s : State} {m : MethodId} {args : Array Value} {below : List Frame} {meth : Method} {c : Code} {D : va_G} {ca : Nat → ClassId} {z : Nat} {G : xG} {X : va_W} {ad av : Nat → Nat} (hF : xFix z G X) (h0 : Nat) (k0 : xI_Bank G h0) (hx : p.tables.exec = Jvm.exec) (hb : c.code = cX0_sumOfClaimed) (hr : meth.sig.returnType = (some .int)) (hml : c.maxLocals = 3) (hlocks : meth.locks = false) (hts : ∀ w ∈ xAll, w.before args s = true) (hown : s.vm.findClass RX0 = some m.cls) (hK : va_K D vwCl (xT ca) s) (hE : xEv z ad av s s.heap) {μ1 : xM} {r : Int32} :
    ∀ (n : Nat) (x1 : Int32) (x2 : Int32) (μ : xM) (H : Heap) (locs : List Loc) (ls : Array Slot), lX0_sumOfClaimed_4 h0 n x1 x2 μ = some (r, μ1) → xRep D ca G X μ H → va_S (fun q => z ≤ q) s.heap H locs → lv_has ls 3 [(0, .ref h0), (1, .int x1), (2, .int x2)] → W p l e (xRm 0 0 0) s m args below meth c H locs 0 0 (MQ below (va_Qi (fun (r' : Int32) (_ : Unit) => r' = r) (fun _ t => xB D ca G X μ1 t) (fun q => z ≤ q)) args s 0 0 (fun q => z ≤ q)) (F0 m 4 ls []) := by
  intro n
  induction n with
  | zero => intro x1 x2 μ H locs ls h; cases h
  | succ n ih =>
    intro x1 x2 μ H locs ls h hR hS hl
    rw [lX0_sumOfClaimed_4] at h
    refine lv_iload_n (pc := 4) hx hb dX0_sumOfClaimed_4 rfl (lv_at hl 2 rfl) ?_
    refine lv_bipush (pc := 5) hx hb dX0_sumOfClaimed_5 kb_6 ?_
    refine lv_icmp_ge (pc := 7) (tgt := 25) hx hb dX0_sumOfClaimed_7 (by decide) (fun c1 => ?_) (fun c1 => ?_)
    · have h := xpos c1 h
      refine lv_iload_n (pc := 25) hx hb dX0_sumOfClaimed_25 rfl (lv_at hl 1 rfl) ?_
      exact xf_i (pc := 26) hx hb hr rfl hlocks h hR hK hS dX0_sumOfClaimed_26
    · have h := xneg c1 h
      refine lv_iload_n (pc := 10) hx hb dX0_sumOfClaimed_10 rfl (lv_at hl 1 rfl) ?_
      refine lv_aload_n (pc := 11) hx hb dX0_sumOfClaimed_11 rfl (lv_at hl 0 rfl) ?_
      refine xr_getR (pc := 12) (ci := 4) hx hb hts inX0 hown hK hR rfl k0.1 2 (Nat.le_of_ble_eq_true rfl) rfl k0.2.2.2.1 (hts _ q_f_X0_22) (fun _ h9 => h9) dX0_sumOfClaimed_12 ?_
      refine lv_iload_n (pc := 15) hx hb dX0_sumOfClaimed_15 rfl (lv_at hl 2 rfl) ?_
      obtain ⟨c2, h⟩ := xk_inv h
      refine xr_ialdk (pc := 16) (Int32.toNatClampNeg x2) hx hb hK hR k0.2.2.2.2.1 k0.2.2.2.2.2 rfl c2 dX0_sumOfClaimed_16 ?_
      refine lv_iadd (pc := 17) hx hb dX0_sumOfClaimed_17 ?_
      refine lv_istore_n (pc := 18) (lv' := [(1, .int _), (0, .ref _), (2, .int _)]) hx hb dX0_sumOfClaimed_18 rfl hl (Nat.le_of_ble_eq_true rfl) rfl (fun ls hl => ?_)
      refine lv_iinc (pc := 19) (lv' := [(2, .int _), (1, .int _), (0, .ref _)]) hx hb dX0_sumOfClaimed_19 hl (k := 2) rfl (xinc kc_1) (Nat.le_of_ble_eq_true rfl) rfl (fun ls hl => ?_)
      refine lv_goto (pc := 22) (tgt := 4) hx hb dX0_sumOfClaimed_22 (by decide) ?_
      exact ih _ _ _ _ _ _ h hR hS (lv_sub hl [2, 1, 0] rfl)
set_option maxHeartbeats 1000000 in
set_option maxRecDepth 20000 in
theorem mX0_sumOfClaimed {l : Launch} {D : va_G} {ca : Nat → ClassId} {z : Nat} {G : xG} {X : va_W} {ad av : Nat → Nat} (hF : xFix z G X) (h0 : Nat) (k0 : xI_Bank G h0) {μ μ1 : xM} {r : Int32} (h : fX0_sumOfClaimed h0 μ = some (r, μ1)) : xMi l yX0_sumOfClaimed (xws yX0_sumOfClaimed cX0_sumOfClaimed 3 (some .int)) 0 D ca z G X ad av [.ref h0] μ r μ1 := by
  refine xm_i (by decide) rfl (Nat.le_of_ble_eq_true rfl) [(0, .ref h0)] rfl ?_
  intro p e s m args below meth c ls hx hb hr hml hlocks hts hown hK hE hR hS hl
  have hts : ∀ w ∈ xAll, w.before args s = true := fun w hw => hts w (List.mem_cons_of_mem _ hw)
  rw [fX0_sumOfClaimed] at h
  refine lv_iconst (pc := 0) hx hb dX0_sumOfClaimed_0 kc_0 ?_
  refine lv_istore_n (pc := 1) (lv' := [(1, .int _), (0, .ref _)]) hx hb dX0_sumOfClaimed_1 rfl hl (Nat.le_of_ble_eq_true rfl) rfl (fun ls hl => ?_)
  refine lv_iconst (pc := 2) hx hb dX0_sumOfClaimed_2 kc_0 ?_
  refine lv_istore_n (pc := 3) (lv' := [(2, .int _), (1, .int _), (0, .ref _)]) hx hb dX0_sumOfClaimed_3 rfl hl (Nat.le_of_ble_eq_true rfl) rfl (fun ls hl => ?_)
  exact wX0_sumOfClaimed_4 hF h0 k0 hx hb hr hml hlocks hts hown hK hE _ _ _ _ _ _ _ h hR hS (lv_sub hl [2, 1, 0] rfl)
set_option maxHeartbeats 1000000 in
set_option maxRecDepth 20000 in
theorem wX0_sumOfLeft_4 {p : Program} {l : Launch} {e : Env} {s : State} {m : MethodId} {args : Array Value} {below : List Frame} {meth : Method} {c : Code} {D : va_G} {ca : Nat → ClassId} {z : Nat} {G : xG} {X : va_W} {ad av : Nat → Nat} (hF : xFix z G X) (h0 : Nat) (k0 : xI_Bank G h0) (hx : p.tables.exec = Jvm.exec) (hb : c.code = cX0_sumOfLeft) (hr : meth.sig.returnType = (some .int)) (hml : c.maxLocals = 3) (hlocks : meth.locks = false) (hts : ∀ w ∈ xAll, w.before args s = true) (hown : s.vm.findClass RX0 = some m.cls) (hK : va_K D vwCl (xT ca) s) (hE : xEv z ad av s s.heap) {μ1 : xM} {r : Int32} :
    ∀ (n : Nat) (x1 : Int32) (x2 : Int32) (μ : xM) (H : Heap) (locs : List Loc) (ls : Array Slot), lX0_sumOfLeft_4 h0 n x1 x2 μ = some (r, μ1) → xRep D ca G X μ H → va_S (fun q => z ≤ q) s.heap H locs → lv_has ls 3 [(0, .ref h0), (1, .int x1), (2, .int x2)] → W p l e (xRm 0 0 0) s m args below meth c H locs 0 0 (MQ below (va_Qi (fun (r' : Int32) (_ : Unit) => r' = r) (fun _ t => xB D ca G X μ1 t) (fun q => z ≤ q)) args s 0 0 (fun q => z ≤ q)) (F0 m 4 ls []) := by
  intro n
  induction n with
  | zero => intro x1 x2 μ H locs ls h; cases h
  | succ n ih =>
    intro x1 x2 μ H locs ls h hR hS hl
    rw [lX0_sumOfLeft_4] at h
    refine lv_iload_n (pc := 4) hx hb dX0_sumOfLeft_4 rfl (lv_at hl 2 rfl) ?_
    refine lv_bipush (pc := 5) hx hb dX0_sumOfLeft_5 kb_6 ?_
    refine lv_icmp_ge (pc := 7) (tgt := 25) hx hb dX0_sumOfLeft_7 (by decide) (fun c1 => ?_) (fun c1 => ?_)
    · have h := xpos c1 h
      refine lv_iload_n (pc := 25) hx hb dX0_sumOfLeft_25 rfl (lv_at hl 1 rfl) ?_
      exact xf_i (pc := 26) hx hb hr rfl hlocks h hR hK hS dX0_sumOfLeft_26
    · have h := xneg c1 h
      refine lv_iload_n (pc := 10) hx hb dX0_sumOfLeft_10 rfl (lv_at hl 1 rfl) ?_
      refine lv_aload_n (pc := 11) hx hb dX0_sumOfLeft_11 rfl (lv_at hl 0 rfl) ?_
      refine xr_getR (pc := 12) (ci := 4) hx hb hts inX0 hown hK hR rfl k0.1 1 (Nat.le_of_ble_eq_true rfl) rfl k0.2.2.1.1 (hts _ q_f_X0_18) (fun _ h9 => h9) dX0_sumOfLeft_12 ?_
      refine lv_iload_n (pc := 15) hx hb dX0_sumOfLeft_15 rfl (lv_at hl 2 rfl) ?_
      obtain ⟨c2, h⟩ := xk_inv h
      refine xr_ialdk (pc := 16) (Int32.toNatClampNeg x2) hx hb hK hR k0.2.2.1.2.1 k0.2.2.1.2.2 rfl c2 dX0_sumOfLeft_16 ?_
      refine lv_iadd (pc := 17) hx hb dX0_sumOfLeft_17 ?_
      refine lv_istore_n (pc := 18) (lv' := [(1, .int _), (0, .ref _), (2, .int _)]) hx hb dX0_sumOfLeft_18 rfl hl (Nat.le_of_ble_eq_true rfl) rfl (fun ls hl => ?_)
      refine lv_iinc (pc := 19) (lv' := [(2, .int _), (1, .int _), (0, .ref _)]) hx hb dX0_sumOfLeft_19 hl (k := 2) rfl (xinc kc_1) (Nat.le_of_ble_eq_true rfl) rfl (fun ls hl => ?_)
      refine lv_goto (pc := 22) (tgt := 4) hx hb dX0_sumOfLeft_22 (by decide) ?_
      exact ih _ _ _ _ _ _ h hR hS (lv_sub hl [2, 1, 0] rfl)
set_option maxHeartbeats 1000000 in
set_option maxRecDepth 20000 in
theorem mX0_sumOfLeft {l : Launch} {D : va_G} {ca : Nat → ClassId} {z : Nat} {G : xG} {X : va_W} {ad av : Nat → Nat} (hF : xFix z G X) (h0 : Nat) (k0 : xI_Bank G h0) {μ μ1 : xM} {r : Int32} (h : fX0_sumOfLeft h0 μ = some (r, μ1)) : xMi l yX0_sumOfLeft (xws yX0_sumOfLeft cX0_sumOfLeft 3 (some .int)) 0 D ca z G X ad av [.ref h0] μ r μ1 := by
  refine xm_i (by decide) rfl (Nat.le_of_ble_eq_true rfl) [(0, .ref h0)] rfl ?_
  intro p e s m args below meth c ls hx hb hr hml hlocks hts hown hK hE hR hS hl
  have hts : ∀ w ∈ xAll, w.before args s = true := fun w hw => hts w (List.mem_cons_of_mem _ hw)
  rw [fX0_sumOfLeft] at h
  refine lv_iconst (pc := 0) hx hb dX0_sumOfLeft_0 kc_0 ?_
  refine lv_istore_n (pc := 1) (lv' := [(1, .int _), (0, .ref _)]) hx hb dX0_sumOfLeft_1 rfl hl (Nat.le_of_ble_eq_true rfl) rfl (fun ls hl => ?_)
  refine lv_iconst (pc := 2) hx hb dX0_sumOfLeft_2 kc_0 ?_
  refine lv_istore_n (pc := 3) (lv' := [(2, .int _), (1, .int _), (0, .ref _)]) hx hb dX0_sumOfLeft_3 rfl hl (Nat.le_of_ble_eq_true rfl) rfl (fun ls hl => ?_)
  exact wX0_sumOfLeft_4 hF h0 k0 hx hb hr hml hlocks hts hown hK hE _ _ _ _ _ _ _ h hR hS (lv_sub hl [2, 1, 0] rfl)
set_option maxHeartbeats 1000000 in
set_option maxRecDepth 20000 in
theorem mX0_cashFromAccounts {l : Launch} {D : va_G} {ca : Nat → ClassId} {z : Nat} {G : xG} {X : va_W} {ad av : Nat → Nat} (hF : xFix z G X) (h0 : Nat) (k0 : xI_Bank G h0) {μ μ1 : xM} {r : Int32} (h : fX0_cashFromAccounts h0 μ = some (r, μ1)) : xMi l yX0_cashFromAccounts (xws yX0_cashFromAccounts cX0_cashFromAccounts 1 (some .int)) 1 D ca z G X ad av [.ref h0] μ r μ1 := by
  refine xm_i (by decide) rfl (Nat.le_of_ble_eq_true rfl) [(0, .ref h0)] rfl ?_
  intro p e s m args below meth c ls hx hb hr hml hlocks hts hown hK hE hR hS hl
  have hts : ∀ w ∈ xAll, w.before args s = true := fun w hw => hts w (List.mem_cons_of_mem _ hw)
  rw [fX0_cashFromAccounts] at h
  refine lv_sipush (pc := 0) hx hb dX0_cashFromAccounts_0 ks_2000 ?_
  refine lv_aload_n (pc := 3) hx hb dX0_cashFromAccounts_3 rfl (lv_at hl 0 rfl) ?_
  obtain ⟨r1, m1, c1, h⟩ := xb_inv h
  refine xc_iV (pc := 4) (As := []) (rest := [.int _]) ⟨hx, hb, hml, hown, hts⟩ (mX0_sumOfLent hF _ k0 c1) (xcwV 0 hts fdX0_sumOfLent q_m_X0_144 ⟨Nat.le_of_ble_eq_true rfl, Nat.le_of_ble_eq_true rfl⟩) (xRecv hK hR (ci := 4) rfl k0.1) hR hK hE hS rfl hl.1 rfl (Nat.le_of_ble_eq_true rfl) dX0_cashFromAccounts_4 ⟨Nat.zero_le _, Nat.zero_le _⟩ (fun H locs hR hS => ?_)
  refine lv_isub (pc := 7) hx hb dX0_cashFromAccounts_7 ?_
  refine lv_aload_n (pc := 8) hx hb dX0_cashFromAccounts_8 rfl (lv_at hl 0 rfl) ?_
  obtain ⟨r2, m2, c2, h⟩ := xb_inv h
  refine xc_iV (pc := 9) (As := []) (rest := [.int _]) ⟨hx, hb, hml, hown, hts⟩ (mX0_sumOfPaid hF _ k0 c2) (xcwV 0 hts fdX0_sumOfPaid q_m_X0_147 ⟨Nat.le_of_ble_eq_true rfl, Nat.le_of_ble_eq_true rfl⟩) (xRecv hK hR (ci := 4) rfl k0.1) hR hK hE hS rfl hl.1 rfl (Nat.le_of_ble_eq_true rfl) dX0_cashFromAccounts_9 ⟨Nat.zero_le _, Nat.zero_le _⟩ (fun H locs hR hS => ?_)
  refine lv_iadd (pc := 12) hx hb dX0_cashFromAccounts_12 ?_
  refine lv_aload_n (pc := 13) hx hb dX0_cashFromAccounts_13 rfl (lv_at hl 0 rfl) ?_
  obtain ⟨r3, m3, c3, h⟩ := xb_inv h
  refine xc_iV (pc := 14) (As := []) (rest := [.int _]) ⟨hx, hb, hml, hown, hts⟩ (mX0_sumOfPrices hF _ k0 c3) (xcwV 0 hts fdX0_sumOfPrices q_m_X0_150 ⟨Nat.le_of_ble_eq_true rfl, Nat.le_of_ble_eq_true rfl⟩) (xRecv hK hR (ci := 4) rfl k0.1) hR hK hE hS rfl hl.1 rfl (Nat.le_of_ble_eq_true rfl) dX0_cashFromAccounts_14 ⟨Nat.zero_le _, Nat.zero_le _⟩ (fun H locs hR hS => ?_)
  refine lv_iadd (pc := 17) hx hb dX0_cashFromAccounts_17 ?_
  refine lv_aload_n (pc := 18) hx hb dX0_cashFromAccounts_18 rfl (lv_at hl 0 rfl) ?_
  obtain ⟨r4, m4, c4, h⟩ := xb_inv h
  refine xc_iV (pc := 19) (As := []) (rest := [.int _]) ⟨hx, hb, hml, hown, hts⟩ (mX0_sumOfClaimed hF _ k0 c4) (xcwV 0 hts fdX0_sumOfClaimed q_m_X0_153 ⟨Nat.le_of_ble_eq_true rfl, Nat.le_of_ble_eq_true rfl⟩) (xRecv hK hR (ci := 4) rfl k0.1) hR hK hE hS rfl hl.1 rfl (Nat.le_of_ble_eq_true rfl) dX0_cashFromAccounts_19 ⟨Nat.zero_le _, Nat.zero_le _⟩ (fun H locs hR hS => ?_)
  refine lv_isub (pc := 22) hx hb dX0_cashFromAccounts_22 ?_
  exact xf_i (pc := 23) hx hb hr rfl hlocks h hR hK hS dX0_cashFromAccounts_23
set_option maxHeartbeats 1000000 in
set_option maxRecDepth 20000 in
theorem wX0_countOf_5 {p : Program} {l : Launch} {e : Env} {s : State} {m : MethodId} {args : Array Value} {below : List Frame} {meth : Method} {c : Code} {D : va_G} {ca : Nat → ClassId} {z : Nat} {G : xG} {X : va_W} {ad av : Nat → Nat} (hF : xFix z G X) (h0 : Nat) (p1 : Int32) (p2 : Int32) (k0 : xI_Bank G h0) (hx : p.tables.exec = Jvm.exec) (hb : c.code = cX0_countOf) (hr : meth.sig.returnType = (some .int)) (hml : c.maxLocals = 5) (hlocks : meth.locks = false) (hts : ∀ w ∈ xAll, w.before args s = true) (hown : s.vm.findClass RX0 = some m.cls) (hK : va_K D vwCl (xT ca) s) (hE : xEv z ad av s s.heap) {μ1 : xM} {r : Int32} :
    ∀ (n : Nat) (x3 : Int32) (x4 : Int32) (μ : xM) (H : Heap) (locs : List Loc) (ls : Array Slot), lX0_countOf_5 h0 p1 p2 n x3 x4 μ = some (r, μ1) → xRep D ca G X μ H → va_S (fun q => z ≤ q) s.heap H locs → lv_has ls 5 [(0, .ref h0), (1, .int p1), (2, .int p2), (3, .int x3), (4, .int x4)] → W p l e (xRm 0 0 0) s m args below meth c H locs 0 0 (MQ below (va_Qi (fun (r' : Int32) (_ : Unit) => r' = r) (fun _ t => xB D ca G X μ1 t) (fun q => z ≤ q)) args s 0 0 (fun q => z ≤ q)) (F0 m 5 ls []) := by
  intro n
  induction n with
  | zero => intro x3 x4 μ H locs ls h; cases h
  | succ n ih =>
    intro x3 x4 μ H locs ls h hR hS hl
    rw [lX0_countOf_5] at h
    refine lv_iload (pc := 5) hx hb dX0_countOf_5 (lv_at hl 4 rfl) ?_
    refine lv_aload_n (pc := 7) hx hb dX0_countOf_7 rfl (lv_at hl 0 rfl) ?_
    refine xr_getI (pc := 8) (ci := 4) hx hb hts inX0 hown hK hR rfl k0.1 3 (Nat.le_of_ble_eq_true rfl) rfl (hts _ q_f_X0_25) (fun _ h9 => h9) dX0_countOf_8 ?_
    refine lv_icmp_ge (pc := 11) (tgt := 56) hx hb dX0_countOf_11 (by decide) (fun c1 => ?_) (fun c1 => ?_)
    · have h := xpos c1 h
      refine lv_iload_n (pc := 56) hx hb dX0_countOf_56 rfl (lv_at hl 3 rfl) ?_
      exact xf_i (pc := 57) hx hb hr rfl hlocks h hR hK hS dX0_countOf_57
    · have h := xneg c1 h
      refine lv_aload_n (pc := 14) hx hb dX0_countOf_14 rfl (lv_at hl 0 rfl) ?_
      refine xr_getR (pc := 15) (ci := 4) hx hb hts inX0 hown hK hR rfl k0.1 0 (Nat.le_of_ble_eq_true rfl) rfl k0.2.1.1 (hts _ q_f_X0_11) (fun _ h9 => h9) dX0_countOf_15 ?_
      refine lv_iload (pc := 18) hx hb dX0_countOf_18 (lv_at hl 4 rfl) ?_
      obtain ⟨c2, h⟩ := xk_inv h
      refine xr_aald (pc := 20) hx hb hK hR 2 (by decide) k0.2.1.2.1 rfl k0.2.1.2.2.1 c2 (k0.2.1.2.2.2 _ (xlt c2)).1 dX0_countOf_20 ?_
      refine xr_getI (pc := 21) (ci := 9) hx hb hts inX5 hown hK hR rfl ((k0.2.1.2.2.2 _ (xlt c2)).2) 5 (Nat.le_of_ble_eq_true rfl) rfl (hts _ q_f_X0_108) (fun _ h9 => h9) dX0_countOf_21 ?_
      refine lv_iload_n (pc := 24) hx hb dX0_countOf_24 rfl (lv_at hl 2 rfl) ?_
      refine lv_icmp_ne (pc := 25) (tgt := 50) hx hb dX0_countOf_25 (by decide) (fun c3 => ?_) (fun c3 => ?_)
      · have h := xneg c3 h
        refine lv_iinc (pc := 50) (lv' := [(4, .int _), (0, .ref _), (1, .int _), (2, .int _), (3, .int _)]) hx hb dX0_countOf_50 hl (k := 4) rfl (xinc kc_1) (Nat.le_of_ble_eq_true rfl) rfl (fun ls hl => ?_)
        refine lv_goto (pc := 53) (tgt := 5) hx hb dX0_countOf_53 (by decide) ?_
        exact ih _ _ _ _ _ _ h hR hS (lv_sub hl [1, 2, 3, 4, 0] rfl)
      · have h := xpos c3 h
        refine lv_iload_n (pc := 28) hx hb dX0_countOf_28 rfl (lv_at hl 1 rfl) ?_
        refine lv_iconst (pc := 29) hx hb dX0_countOf_29 kc_m1 ?_
        refine lv_icmp_eq (pc := 30) (tgt := 47) hx hb dX0_countOf_30 (by decide) (fun c4 => ?_) (fun c4 => ?_)
        · have h := xpos c4 h
          refine lv_iinc (pc := 47) (lv' := [(3, .int _), (0, .ref _), (1, .int _), (2, .int _), (4, .int _)]) hx hb dX0_countOf_47 hl (k := 3) rfl (xinc kc_1) (Nat.le_of_ble_eq_true rfl) rfl (fun ls hl => ?_)
          refine lv_iinc (pc := 50) (lv' := [(4, .int _), (3, .int _), (0, .ref _), (1, .int _), (2, .int _)]) hx hb dX0_countOf_50 hl (k := 4) rfl (xinc kc_1) (Nat.le_of_ble_eq_true rfl) rfl (fun ls hl => ?_)
          refine lv_goto (pc := 53) (tgt := 5) hx hb dX0_countOf_53 (by decide) ?_
          exact ih _ _ _ _ _ _ h hR hS (lv_sub hl [2, 3, 4, 1, 0] rfl)
        · have h := xneg c4 h
          refine lv_aload_n (pc := 33) hx hb dX0_countOf_33 rfl (lv_at hl 0 rfl) ?_
          refine xr_getR (pc := 34) (ci := 4) hx hb hts inX0 hown hK hR rfl k0.1 0 (Nat.le_of_ble_eq_true rfl) rfl k0.2.1.1 (hts _ q_f_X0_11) (fun _ h9 => h9) dX0_countOf_34 ?_
          refine lv_iload (pc := 37) hx hb dX0_countOf_37 (lv_at hl 4 rfl) ?_
          obtain ⟨c5, h⟩ := xk_inv h
          refine xr_aald (pc := 39) hx hb hK hR 2 (by decide) k0.2.1.2.1 rfl k0.2.1.2.2.1 c5 (k0.2.1.2.2.2 _ (xlt c5)).1 dX0_countOf_39 ?_
          refine xr_getI (pc := 40) (ci := 9) hx hb hts inX5 hown hK hR rfl ((k0.2.1.2.2.2 _ (xlt c5)).2) 0 (Nat.le_of_ble_eq_true rfl) rfl (hts _ q_f_X0_120) (fun _ h9 => h9) dX0_countOf_40 ?_
          refine lv_iload_n (pc := 43) hx hb dX0_countOf_43 rfl (lv_at hl 1 rfl) ?_
          refine lv_icmp_ne (pc := 44) (tgt := 50) hx hb dX0_countOf_44 (by decide) (fun c6 => ?_) (fun c6 => ?_)
          · have h := xneg c6 h
            refine lv_iinc (pc := 50) (lv' := [(4, .int _), (0, .ref _), (1, .int _), (2, .int _), (3, .int _)]) hx hb dX0_countOf_50 hl (k := 4) rfl (xinc kc_1) (Nat.le_of_ble_eq_true rfl) rfl (fun ls hl => ?_)
            refine lv_goto (pc := 53) (tgt := 5) hx hb dX0_countOf_53 (by decide) ?_
            exact ih _ _ _ _ _ _ h hR hS (lv_sub hl [1, 2, 3, 4, 0] rfl)
          · have h := xpos c6 h
            refine lv_iinc (pc := 47) (lv' := [(3, .int _), (0, .ref _), (1, .int _), (2, .int _), (4, .int _)]) hx hb dX0_countOf_47 hl (k := 3) rfl (xinc kc_1) (Nat.le_of_ble_eq_true rfl) rfl (fun ls hl => ?_)
            refine lv_iinc (pc := 50) (lv' := [(4, .int _), (3, .int _), (0, .ref _), (1, .int _), (2, .int _)]) hx hb dX0_countOf_50 hl (k := 4) rfl (xinc kc_1) (Nat.le_of_ble_eq_true rfl) rfl (fun ls hl => ?_)
            refine lv_goto (pc := 53) (tgt := 5) hx hb dX0_countOf_53 (by decide) ?_
            exact ih _ _ _ _ _ _ h hR hS (lv_sub hl [2, 3, 4, 1, 0] rfl)
set_option maxHeartbeats 1000000 in
set_option maxRecDepth 20000 in
theorem mX0_countOf {l : Launch} {D : va_G} {ca : Nat → ClassId} {z : Nat} {G : xG} {X : va_W} {ad av : Nat → Nat} (hF : xFix z G X) (h0 : Nat) (p1 : Int32) (p2 : Int32) (k0 : xI_Bank G h0) {μ μ1 : xM} {r : Int32} (h : fX0_countOf h0 p1 p2 μ = some (r, μ1)) : xMi l yX0_countOf (xws yX0_countOf cX0_countOf 5 (some .int)) 0 D ca z G X ad av [.ref h0, .int p1, .int p2] μ r μ1 := by
  refine xm_i (by decide) rfl (Nat.le_of_ble_eq_true rfl) [(0, .ref h0), (1, .int p1), (2, .int p2)] rfl ?_
  intro p e s m args below meth c ls hx hb hr hml hlocks hts hown hK hE hR hS hl
  have hts : ∀ w ∈ xAll, w.before args s = true := fun w hw => hts w (List.mem_cons_of_mem _ hw)
  rw [fX0_countOf] at h
  refine lv_iconst (pc := 0) hx hb dX0_countOf_0 kc_0 ?_
  refine lv_istore_n (pc := 1) (lv' := [(3, .int _), (0, .ref _), (1, .int _), (2, .int _)]) hx hb dX0_countOf_1 rfl hl (Nat.le_of_ble_eq_true rfl) rfl (fun ls hl => ?_)
  refine lv_iconst (pc := 2) hx hb dX0_countOf_2 kc_0 ?_
  refine lv_istore (pc := 3) (lv' := [(4, .int _), (3, .int _), (0, .ref _), (1, .int _), (2, .int _)]) hx hb dX0_countOf_3 hl (Nat.le_of_ble_eq_true rfl) rfl (fun ls hl => ?_)
  exact wX0_countOf_5 hF h0 p1 p2 k0 hx hb hr hml hlocks hts hown hK hE _ _ _ _ _ _ _ h hR hS (lv_sub hl [2, 3, 4, 1, 0] rfl)
set_option maxHeartbeats 1000000 in
set_option maxRecDepth 20000 in
theorem wX0_owedBy_4 {p : Program} {l : Launch} {e : Env} {s : State} {m : MethodId} {args : Array Value} {below : List Frame} {meth : Method} {c : Code} {D : va_G} {ca : Nat → ClassId} {z : Nat} {G : xG} {X : va_W} {ad av : Nat → Nat} (hF : xFix z G X) (h0 : Nat) (p1 : Int32) (k0 : xI_Bank G h0) (hx : p.tables.exec = Jvm.exec) (hb : c.code = cX0_owedBy) (hr : meth.sig.returnType = (some .int)) (hml : c.maxLocals = 4) (hlocks : meth.locks = false) (hts : ∀ w ∈ xAll, w.before args s = true) (hown : s.vm.findClass RX0 = some m.cls) (hK : va_K D vwCl (xT ca) s) (hE : xEv z ad av s s.heap) {μ1 : xM} {r : Int32} :
    ∀ (n : Nat) (x2 : Int32) (x3 : Int32) (μ : xM) (H : Heap) (locs : List Loc) (ls : Array Slot), lX0_owedBy_4 h0 p1 n x2 x3 μ = some (r, μ1) → xRep D ca G X μ H → va_S (fun q => z ≤ q) s.heap H locs → lv_has ls 4 [(0, .ref h0), (1, .int p1), (2, .int x2), (3, .int x3)] → W p l e (xRm 1 0 0) s m args below meth c H locs 0 0 (MQ below (va_Qi (fun (r' : Int32) (_ : Unit) => r' = r) (fun _ t => xB D ca G X μ1 t) (fun q => z ≤ q)) args s 0 0 (fun q => z ≤ q)) (F0 m 4 ls []) := by
  intro n
  induction n with
  | zero => intro x2 x3 μ H locs ls h; cases h
  | succ n ih =>
    intro x2 x3 μ H locs ls h hR hS hl
    rw [lX0_owedBy_4] at h
    refine lv_iload_n (pc := 4) hx hb dX0_owedBy_4 rfl (lv_at hl 3 rfl) ?_
    refine lv_aload_n (pc := 5) hx hb dX0_owedBy_5 rfl (lv_at hl 0 rfl) ?_
    refine xr_getI (pc := 6) (ci := 4) hx hb hts inX0 hown hK hR rfl k0.1 3 (Nat.le_of_ble_eq_true rfl) rfl (hts _ q_f_X0_25) (fun _ h9 => h9) dX0_owedBy_6 ?_
    refine lv_icmp_ge (pc := 9) (tgt := 55) hx hb dX0_owedBy_9 (by decide) (fun c1 => ?_) (fun c1 => ?_)
    · have h := xpos c1 h
      refine lv_iload_n (pc := 55) hx hb dX0_owedBy_55 rfl (lv_at hl 2 rfl) ?_
      exact xf_i (pc := 56) hx hb hr rfl hlocks h hR hK hS dX0_owedBy_56
    · have h := xneg c1 h
      refine lv_aload_n (pc := 12) hx hb dX0_owedBy_12 rfl (lv_at hl 0 rfl) ?_
      refine xr_getR (pc := 13) (ci := 4) hx hb hts inX0 hown hK hR rfl k0.1 0 (Nat.le_of_ble_eq_true rfl) rfl k0.2.1.1 (hts _ q_f_X0_11) (fun _ h9 => h9) dX0_owedBy_13 ?_
      refine lv_iload_n (pc := 16) hx hb dX0_owedBy_16 rfl (lv_at hl 3 rfl) ?_
      obtain ⟨c2, h⟩ := xk_inv h
      refine xr_aald (pc := 17) hx hb hK hR 2 (by decide) k0.2.1.2.1 rfl k0.2.1.2.2.1 c2 (k0.2.1.2.2.2 _ (xlt c2)).1 dX0_owedBy_17 ?_
      refine xr_getI (pc := 18) (ci := 9) hx hb hts inX5 hown hK hR rfl ((k0.2.1.2.2.2 _ (xlt c2)).2) 5 (Nat.le_of_ble_eq_true rfl) rfl (hts _ q_f_X0_108) (fun _ h9 => h9) dX0_owedBy_18 ?_
      refine lv_if_ne (pc := 21) (tgt := 49) hx hb dX0_owedBy_21 (by decide) (fun c3 => ?_) (fun c3 => ?_)
      · have h := xneg c3 h
        refine lv_iinc (pc := 49) (lv' := [(3, .int _), (0, .ref _), (1, .int _), (2, .int _)]) hx hb dX0_owedBy_49 hl (k := 3) rfl (xinc kc_1) (Nat.le_of_ble_eq_true rfl) rfl (fun ls hl => ?_)
        refine lv_goto (pc := 52) (tgt := 4) hx hb dX0_owedBy_52 (by decide) ?_
        exact ih _ _ _ _ _ _ h hR hS (lv_sub hl [1, 2, 3, 0] rfl)
      · have h := xpos c3 h
        refine lv_aload_n (pc := 24) hx hb dX0_owedBy_24 rfl (lv_at hl 0 rfl) ?_
        refine xr_getR (pc := 25) (ci := 4) hx hb hts inX0 hown hK hR rfl k0.1 0 (Nat.le_of_ble_eq_true rfl) rfl k0.2.1.1 (hts _ q_f_X0_11) (fun _ h9 => h9) dX0_owedBy_25 ?_
        refine lv_iload_n (pc := 28) hx hb dX0_owedBy_28 rfl (lv_at hl 3 rfl) ?_
        obtain ⟨c4, h⟩ := xk_inv h
        refine xr_aald (pc := 29) hx hb hK hR 2 (by decide) k0.2.1.2.1 rfl k0.2.1.2.2.1 c4 (k0.2.1.2.2.2 _ (xlt c4)).1 dX0_owedBy_29 ?_
        refine xr_getI (pc := 30) (ci := 9) hx hb hts inX5 hown hK hR rfl ((k0.2.1.2.2.2 _ (xlt c4)).2) 0 (Nat.le_of_ble_eq_true rfl) rfl (hts _ q_f_X0_120) (fun _ h9 => h9) dX0_owedBy_30 ?_
        refine lv_iload_n (pc := 33) hx hb dX0_owedBy_33 rfl (lv_at hl 1 rfl) ?_
        refine lv_icmp_ne (pc := 34) (tgt := 49) hx hb dX0_owedBy_34 (by decide) (fun c5 => ?_) (fun c5 => ?_)
        · have h := xneg c5 h
          refine lv_iinc (pc := 49) (lv' := [(3, .int _), (0, .ref _), (1, .int _), (2, .int _)]) hx hb dX0_owedBy_49 hl (k := 3) rfl (xinc kc_1) (Nat.le_of_ble_eq_true rfl) rfl (fun ls hl => ?_)
          refine lv_goto (pc := 52) (tgt := 4) hx hb dX0_owedBy_52 (by decide) ?_
          exact ih _ _ _ _ _ _ h hR hS (lv_sub hl [1, 2, 3, 0] rfl)
        · have h := xpos c5 h
          refine lv_iload_n (pc := 37) hx hb dX0_owedBy_37 rfl (lv_at hl 2 rfl) ?_
          refine lv_aload_n (pc := 38) hx hb dX0_owedBy_38 rfl (lv_at hl 0 rfl) ?_
          refine xr_getR (pc := 39) (ci := 4) hx hb hts inX0 hown hK hR rfl k0.1 0 (Nat.le_of_ble_eq_true rfl) rfl k0.2.1.1 (hts _ q_f_X0_11) (fun _ h9 => h9) dX0_owedBy_39 ?_
          refine lv_iload_n (pc := 42) hx hb dX0_owedBy_42 rfl (lv_at hl 3 rfl) ?_
          obtain ⟨c6, h⟩ := xk_inv h
          refine xr_aald (pc := 43) hx hb hK hR 2 (by decide) k0.2.1.2.1 rfl k0.2.1.2.2.1 c6 (k0.2.1.2.2.2 _ (xlt c6)).1 dX0_owedBy_43 ?_
          obtain ⟨r7, m7, c7, h⟩ := xb_inv h
          refine xc_iV (pc := 44) (As := []) (rest := [.int _]) ⟨hx, hb, hml, hown, hts⟩ (mX5_owed hF _ ((k0.2.1.2.2.2 _ (xlt c6)).2) c7) (xcwV 0 hts fdX5_owed q_m_X0_102 ⟨Nat.le_of_ble_eq_true rfl, Nat.le_of_ble_eq_true rfl⟩) (xRecv hK hR (ci := 9) rfl ((k0.2.1.2.2.2 _ (xlt c6)).2)) hR hK hE hS rfl hl.1 rfl (Nat.le_of_ble_eq_true rfl) dX0_owedBy_44 ⟨Nat.zero_le _, Nat.zero_le _⟩ (fun H locs hR hS => ?_)
          refine lv_iadd (pc := 47) hx hb dX0_owedBy_47 ?_
          refine lv_istore_n (pc := 48) (lv' := [(2, .int _), (0, .ref _), (1, .int _), (3, .int _)]) hx hb dX0_owedBy_48 rfl hl (Nat.le_of_ble_eq_true rfl) rfl (fun ls hl => ?_)
          refine lv_iinc (pc := 49) (lv' := [(3, .int _), (2, .int _), (0, .ref _), (1, .int _)]) hx hb dX0_owedBy_49 hl (k := 3) rfl (xinc kc_1) (Nat.le_of_ble_eq_true rfl) rfl (fun ls hl => ?_)
          refine lv_goto (pc := 52) (tgt := 4) hx hb dX0_owedBy_52 (by decide) ?_
          exact ih _ _ _ _ _ _ h hR hS (lv_sub hl [2, 3, 1, 0] rfl)
set_option maxHeartbeats 1000000 in
set_option maxRecDepth 20000 in
theorem mX0_owedBy {l : Launch} {D : va_G} {ca : Nat → ClassId} {z : Nat} {G : xG} {X : va_W} {ad av : Nat → Nat} (hF : xFix z G X) (h0 : Nat) (p1 : Int32) (k0 : xI_Bank G h0) {μ μ1 : xM} {r : Int32} (h : fX0_owedBy h0 p1 μ = some (r, μ1)) : xMi l yX0_owedBy (xws yX0_owedBy cX0_owedBy 4 (some .int)) 1 D ca z G X ad av [.ref h0, .int p1] μ r μ1 := by
  refine xm_i (by decide) rfl (Nat.le_of_ble_eq_true rfl) [(0, .ref h0), (1, .int p1)] rfl ?_
  intro p e s m args below meth c ls hx hb hr hml hlocks hts hown hK hE hR hS hl
  have hts : ∀ w ∈ xAll, w.before args s = true := fun w hw => hts w (List.mem_cons_of_mem _ hw)
  rw [fX0_owedBy] at h
  refine lv_iconst (pc := 0) hx hb dX0_owedBy_0 kc_0 ?_
  refine lv_istore_n (pc := 1) (lv' := [(2, .int _), (0, .ref _), (1, .int _)]) hx hb dX0_owedBy_1 rfl hl (Nat.le_of_ble_eq_true rfl) rfl (fun ls hl => ?_)
  refine lv_iconst (pc := 2) hx hb dX0_owedBy_2 kc_0 ?_
  refine lv_istore_n (pc := 3) (lv' := [(3, .int _), (2, .int _), (0, .ref _), (1, .int _)]) hx hb dX0_owedBy_3 rfl hl (Nat.le_of_ble_eq_true rfl) rfl (fun ls hl => ?_)
  exact wX0_owedBy_4 hF h0 p1 k0 hx hb hr hml hlocks hts hown hK hE _ _ _ _ _ _ _ h hR hS (lv_sub hl [2, 3, 1, 0] rfl)
set_option maxHeartbeats 1000000 in
set_option maxRecDepth 20000 in
theorem mX0_carryOut {l : Launch} {D : va_G} {ca : Nat → ClassId} {z : Nat} {G : xG} {X : va_W} {ad av : Nat → Nat} (hF : xFix z G X) (h0 : Nat) (h1 : Nat) (k0 : xI_Bank G h0) (k1 : xI_Order G h1) {μ μ1 : xM} {r : Int32} (h : fX0_carryOut h0 h1 μ = some (r, μ1)) : xMi l yX0_carryOut (xws yX0_carryOut cX0_carryOut 2 (some .int)) 4 D ca z G X ad av [.ref h0, .ref h1] μ r μ1 := by
  refine xm_i (by decide) rfl (Nat.le_of_ble_eq_true rfl) [(0, .ref h0), (1, .ref h1)] rfl ?_
  intro p e s m args below meth c ls hx hb hr hml hlocks hts hown hK hE hR hS hl
  have hts : ∀ w ∈ xAll, w.before args s = true := fun w hw => hts w (List.mem_cons_of_mem _ hw)
  rw [fX0_carryOut] at h
  refine lv_aload_n (pc := 0) hx hb dX0_carryOut_0 rfl (lv_at hl 1 rfl) ?_
  refine xr_getI (pc := 1) (ci := 8) hx hb hts inX4 hown hK hR rfl k1 0 (Nat.le_of_ble_eq_true rfl) rfl (hts _ q_f_X0_45) (fun _ h9 => h9) dX0_carryOut_1 ?_
  by_cases c1 : (μ h1 0) = (37 : Int32)
  · have h := xpos c1 h
    refine lv_lookup (pc := 4) (tgt := 86) hx hb dX0_carryOut_4 (by decide) (by rw [c1]; first | done | rfl) (by decide) ?_
    refine lv_aload_n (pc := 86) hx hb dX0_carryOut_86 rfl (lv_at hl 0 rfl) ?_
    refine lv_aload_n (pc := 87) hx hb dX0_carryOut_87 rfl (lv_at hl 1 rfl) ?_
    refine xr_getI (pc := 88) (ci := 8) hx hb hts inX4 hown hK hR rfl k1 1 (Nat.le_of_ble_eq_true rfl) rfl (hts _ q_f_X0_55) (fun _ h9 => h9) dX0_carryOut_88 ?_
    obtain ⟨r2, m2, c2, h⟩ := xb_inv h
    refine xc_iV (pc := 91) (As := [.int _]) (rest := []) ⟨hx, hb, hml, hown, hts⟩ (mX0_changeRate hF _ _ k0 c2) (xcwV 1 hts fdX0_changeRate q_m_X0_58 ⟨Nat.le_of_ble_eq_true rfl, Nat.le_of_ble_eq_true rfl⟩) (xRecv hK hR (ci := 4) rfl k0.1) hR hK hE hS rfl hl.1 rfl (Nat.le_of_ble_eq_true rfl) dX0_carryOut_91 ⟨Nat.zero_le _, Nat.zero_le _⟩ (fun H locs hR hS => ?_)
    exact xf_i (pc := 94) hx hb hr rfl hlocks h hR hK hS dX0_carryOut_94
  have h := xneg c1 h
  by_cases c3 : (μ h1 0) = (102 : Int32)
  · have h := xpos c3 h
    refine lv_lookup (pc := 4) (tgt := 95) hx hb dX0_carryOut_4 (by decide) (by rw [c3]; first | done | rfl) (by decide) ?_
    refine lv_aload_n (pc := 95) hx hb dX0_carryOut_95 rfl (lv_at hl 0 rfl) ?_
    refine lv_aload_n (pc := 96) hx hb dX0_carryOut_96 rfl (lv_at hl 1 rfl) ?_
    refine xr_getI (pc := 97) (ci := 8) hx hb hts inX4 hown hK hR rfl k1 1 (Nat.le_of_ble_eq_true rfl) rfl (hts _ q_f_X0_55) (fun _ h9 => h9) dX0_carryOut_97 ?_
    obtain ⟨r4, m4, c4, h⟩ := xb_inv h
    refine xc_iV (pc := 100) (As := [.int _]) (rest := []) ⟨hx, hb, hml, hown, hts⟩ (mX0_changeFee hF _ _ k0 c4) (xcwV 1 hts fdX0_changeFee q_m_X0_62 ⟨Nat.le_of_ble_eq_true rfl, Nat.le_of_ble_eq_true rfl⟩) (xRecv hK hR (ci := 4) rfl k0.1) hR hK hE hS rfl hl.1 rfl (Nat.le_of_ble_eq_true rfl) dX0_carryOut_100 ⟨Nat.zero_le _, Nat.zero_le _⟩ (fun H locs hR hS => ?_)
    exact xf_i (pc := 103) hx hb hr rfl hlocks h hR hK hS dX0_carryOut_103
  have h := xneg c3 h
  by_cases c5 : (μ h1 0) = (110 : Int32)
  · have h := xpos c5 h
    refine lv_lookup (pc := 4) (tgt := 135) hx hb dX0_carryOut_4 (by decide) (by rw [c5]; first | done | rfl) (by decide) ?_
    refine lv_aload_n (pc := 135) hx hb dX0_carryOut_135 rfl (lv_at hl 0 rfl) ?_
    refine lv_aload_n (pc := 136) hx hb dX0_carryOut_136 rfl (lv_at hl 1 rfl) ?_
    refine xr_getI (pc := 137) (ci := 8) hx hb hts inX4 hown hK hR rfl k1 1 (Nat.le_of_ble_eq_true rfl) rfl (hts _ q_f_X0_55) (fun _ h9 => h9) dX0_carryOut_137 ?_
    obtain ⟨r6, m6, c6, h⟩ := xb_inv h
    refine xc_iV (pc := 140) (As := [.int _]) (rest := []) ⟨hx, hb, hml, hown, hts⟩ (mX0_beginAnew hF _ _ k0 c6) (xcwV 1 hts fdX0_beginAnew q_m_X0_78 ⟨Nat.le_of_ble_eq_true rfl, Nat.le_of_ble_eq_true rfl⟩) (xRecv hK hR (ci := 4) rfl k0.1) hR hK hE hS rfl hl.1 rfl (Nat.le_of_ble_eq_true rfl) dX0_carryOut_140 ⟨Nat.zero_le _, Nat.zero_le _⟩ (fun H locs hR hS => ?_)
    exact xf_i (pc := 143) hx hb hr rfl hlocks h hR hK hS dX0_carryOut_143
  have h := xneg c5 h
  by_cases c7 : (μ h1 0) = (112 : Int32)
  · have h := xpos c7 h
    refine lv_lookup (pc := 4) (tgt := 80) hx hb dX0_carryOut_4 (by decide) (by rw [c7]; first | done | rfl) (by decide) ?_
    refine lv_aload_n (pc := 80) hx hb dX0_carryOut_80 rfl (lv_at hl 0 rfl) ?_
    refine lv_aload_n (pc := 81) hx hb dX0_carryOut_81 rfl (lv_at hl 1 rfl) ?_
    obtain ⟨r8, m8, c8, h⟩ := xb_inv h
    refine xc_iV (pc := 82) (As := [.ref _]) (rest := []) ⟨hx, hb, hml, hown, hts⟩ (mX0_lend hF _ _ k0 k1 c8) (xcwV 1 hts fdX0_lend q_m_X0_51 ⟨Nat.le_of_ble_eq_true rfl, Nat.le_of_ble_eq_true rfl⟩) (xRecv hK hR (ci := 4) rfl k0.1) hR hK hE hS rfl hl.1 rfl (Nat.le_of_ble_eq_true rfl) dX0_carryOut_82 ⟨Nat.zero_le _, Nat.zero_le _⟩ (fun H locs hR hS => ?_)
    exact xf_i (pc := 85) hx hb hr rfl hlocks h hR hK hS dX0_carryOut_85
  have h := xneg c7 h
  by_cases c9 : (μ h1 0) = (114 : Int32)
  · have h := xpos c9 h
    refine lv_lookup (pc := 4) (tgt := 113) hx hb dX0_carryOut_4 (by decide) (by rw [c9]; first | done | rfl) (by decide) ?_
    refine lv_aload_n (pc := 113) hx hb dX0_carryOut_113 rfl (lv_at hl 0 rfl) ?_
    refine lv_aload_n (pc := 114) hx hb dX0_carryOut_114 rfl (lv_at hl 1 rfl) ?_
    refine xr_getI (pc := 115) (ci := 8) hx hb hts inX4 hown hK hR rfl k1 1 (Nat.le_of_ble_eq_true rfl) rfl (hts _ q_f_X0_55) (fun _ h9 => h9) dX0_carryOut_115 ?_
    obtain ⟨r10, m10, c10, h⟩ := xb_inv h
    refine xc_iV (pc := 118) (As := [.int _]) (rest := []) ⟨hx, hb, hml, hown, hts⟩ (mX0_giveBack hF _ _ k0 c10) (xcwV 1 hts fdX0_giveBack q_m_X0_68 ⟨Nat.le_of_ble_eq_true rfl, Nat.le_of_ble_eq_true rfl⟩) (xRecv hK hR (ci := 4) rfl k0.1) hR hK hE hS rfl hl.1 rfl (Nat.le_of_ble_eq_true rfl) dX0_carryOut_118 ⟨Nat.zero_le _, Nat.zero_le _⟩ (fun H locs hR hS => ?_)
    exact xf_i (pc := 121) hx hb hr rfl hlocks h hR hK hS dX0_carryOut_121
  have h := xneg c9 h
  by_cases c11 : (μ h1 0) = (115 : Int32)
  · have h := xpos c11 h
    refine lv_lookup (pc := 4) (tgt := 144) hx hb dX0_carryOut_4 (by decide) (by rw [c11]; first | done | rfl) (by decide) ?_
    refine lv_aload_n (pc := 144) hx hb dX0_carryOut_144 rfl (lv_at hl 0 rfl) ?_
    refine lv_aload_n (pc := 145) hx hb dX0_carryOut_145 rfl (lv_at hl 1 rfl) ?_
    refine xr_getI (pc := 146) (ci := 8) hx hb hts inX4 hown hK hR rfl k1 1 (Nat.le_of_ble_eq_true rfl) rfl (hts _ q_f_X0_55) (fun _ h9 => h9) dX0_carryOut_146 ?_
    refine lv_aload_n (pc := 149) hx hb dX0_carryOut_149 rfl (lv_at hl 1 rfl) ?_
    refine xr_getI (pc := 150) (ci := 8) hx hb hts inX4 hown hK hR rfl k1 2 (Nat.le_of_ble_eq_true rfl) rfl (hts _ q_f_X0_71) (fun _ h9 => h9) dX0_carryOut_150 ?_
    obtain ⟨r12, m12, c12, h⟩ := xb_inv h
    refine xc_iV (pc := 153) (As := [.int _, .int _]) (rest := []) ⟨hx, hb, hml, hown, hts⟩ (mX0_sellLot hF _ _ _ k0 c12) (xcwV 2 hts fdX0_sellLot q_m_X0_81 ⟨Nat.le_of_ble_eq_true rfl, Nat.le_of_ble_eq_true rfl⟩) (xRecv hK hR (ci := 4) rfl k0.1) hR hK hE hS rfl hl.1 rfl (Nat.le_of_ble_eq_true rfl) dX0_carryOut_153 ⟨Nat.zero_le _, Nat.zero_le _⟩ (fun H locs hR hS => ?_)
    exact xf_i (pc := 156) hx hb hr rfl hlocks h hR hK hS dX0_carryOut_156
  have h := xneg c11 h
  by_cases c13 : (μ h1 0) = (119 : Int32)
  · have h := xpos c13 h
    refine lv_lookup (pc := 4) (tgt := 104) hx hb dX0_carryOut_4 (by decide) (by rw [c13]; first | done | rfl) (by decide) ?_
    refine lv_aload_n (pc := 104) hx hb dX0_carryOut_104 rfl (lv_at hl 0 rfl) ?_
    refine lv_aload_n (pc := 105) hx hb dX0_carryOut_105 rfl (lv_at hl 1 rfl) ?_
    refine xr_getI (pc := 106) (ci := 8) hx hb hts inX4 hown hK hR rfl k1 1 (Nat.le_of_ble_eq_true rfl) rfl (hts _ q_f_X0_55) (fun _ h9 => h9) dX0_carryOut_106 ?_
    obtain ⟨r14, m14, c14, h⟩ := xb_inv h
    refine xc_iV (pc := 109) (As := [.int _]) (rest := []) ⟨hx, hb, hml, hown, hts⟩ (mX0_endWeeks hF _ _ k0 c14) (xcwV 1 hts fdX0_endWeeks q_m_X0_65 ⟨Nat.le_of_ble_eq_true rfl, Nat.le_of_ble_eq_true rfl⟩) (xRecv hK hR (ci := 4) rfl k0.1) hR hK hE hS rfl hl.1 rfl (Nat.le_of_ble_eq_true rfl) dX0_carryOut_109 ⟨Nat.zero_le _, Nat.zero_le _⟩ (fun H locs hR hS => ?_)
    exact xf_i (pc := 112) hx hb hr rfl hlocks h hR hK hS dX0_carryOut_112
  have h := xneg c13 h
  by_cases c15 : (μ h1 0) = (121 : Int32)
  · have h := xpos c15 h
    refine lv_lookup (pc := 4) (tgt := 122) hx hb dX0_carryOut_4 (by decide) (by rw [c15]; first | done | rfl) (by decide) ?_
    refine lv_aload_n (pc := 122) hx hb dX0_carryOut_122 rfl (lv_at hl 0 rfl) ?_
    refine lv_aload_n (pc := 123) hx hb dX0_carryOut_123 rfl (lv_at hl 1 rfl) ?_
    refine xr_getI (pc := 124) (ci := 8) hx hb hts inX4 hown hK hR rfl k1 1 (Nat.le_of_ble_eq_true rfl) rfl (hts _ q_f_X0_55) (fun _ h9 => h9) dX0_carryOut_124 ?_
    refine lv_aload_n (pc := 127) hx hb dX0_carryOut_127 rfl (lv_at hl 1 rfl) ?_
    refine xr_getI (pc := 128) (ci := 8) hx hb hts inX4 hown hK hR rfl k1 2 (Nat.le_of_ble_eq_true rfl) rfl (hts _ q_f_X0_71) (fun _ h9 => h9) dX0_carryOut_128 ?_
    obtain ⟨r16, m16, c16, h⟩ := xb_inv h
    refine xc_iV (pc := 131) (As := [.int _, .int _]) (rest := []) ⟨hx, hb, hml, hown, hts⟩ (mX0_takePart hF _ _ _ k0 c16) (xcwV 2 hts fdX0_takePart q_m_X0_74 ⟨Nat.le_of_ble_eq_true rfl, Nat.le_of_ble_eq_true rfl⟩) (xRecv hK hR (ci := 4) rfl k0.1) hR hK hE hS rfl hl.1 rfl (Nat.le_of_ble_eq_true rfl) dX0_carryOut_131 ⟨Nat.zero_le _, Nat.zero_le _⟩ (fun H locs hR hS => ?_)
    exact xf_i (pc := 134) hx hb hr rfl hlocks h hR hK hS dX0_carryOut_134
  have h := xneg c15 h
  refine lv_lookup (pc := 4) (tgt := 157) (off := 153) hx hb dX0_carryOut_4 (by decide) (xlook _ _ _ (by have z1 := xnek ti_37 c1; have z3 := xnek ti_102 c3; have z5 := xnek ti_110 c5; have z7 := xnek ti_112 c7; have z9 := xnek ti_114 c9; have z11 := xnek ti_115 c11; have z13 := xnek ti_119 c13; have z15 := xnek ti_121 c15; intro q hq; simp at hq; rcases hq with rfl | rfl | rfl | rfl | rfl | rfl | rfl | rfl <;> (simp; omega))) (by decide) ?_
  refine lv_aload_n (pc := 157) hx hb dX0_carryOut_157 rfl (lv_at hl 0 rfl) ?_
  refine lv_aload_n (pc := 158) hx hb dX0_carryOut_158 rfl (lv_at hl 1 rfl) ?_
  refine xr_getI (pc := 159) (ci := 8) hx hb hts inX4 hown hK hR rfl k1 1 (Nat.le_of_ble_eq_true rfl) rfl (hts _ q_f_X0_55) (fun _ h9 => h9) dX0_carryOut_159 ?_
  obtain ⟨r17, m17, c17, h⟩ := xb_inv h
  refine xc_iV (pc := 162) (As := [.int _]) (rest := []) ⟨hx, hb, hml, hown, hts⟩ (mX0_payOut hF _ _ k0 c17) (xcwV 1 hts fdX0_payOut q_m_X0_84 ⟨Nat.le_of_ble_eq_true rfl, Nat.le_of_ble_eq_true rfl⟩) (xRecv hK hR (ci := 4) rfl k0.1) hR hK hE hS rfl hl.1 rfl (Nat.le_of_ble_eq_true rfl) dX0_carryOut_162 ⟨Nat.zero_le _, Nat.zero_le _⟩ (fun H locs hR hS => ?_)
  exact xf_i (pc := 165) hx hb hr rfl hlocks h hR hK hS dX0_carryOut_165
