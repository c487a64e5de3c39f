set_option maxHeartbeats 1000000 in
set_option maxRecDepth 20000 in
theorem mX3_take {l : Launch} {D : va_G} {ca : Nat → ClassId} {z : Nat} {G : xG} {X : va_W} {ad av : Nat → Nat} (hF : xFix z G X) (h0 : Nat) (p1 : Int32) (k0 : xI_Input G h0) {μ μ1 : xM} {r : Int32} (h : fX3_take h0 p1 μ = some (r, μ1)) : xMi l yX3_take (xws yX3_take cX3_take 2 (some .boolean)) 0 D ca z G X ad av [.ref h0, .int p1] μ r μ1 := by
  refine xm_i (by decide) rfl (Nat.le_of_ble_eq_true rfl) [(0, .ref h0), (1, .int p1)] rfl ?_
  intro p e s m args below meth c ls hx hb hr hml hlocks hts hown hK hE hR hS hl
  have hts : ∀ w ∈ xAll, w.before args s = true := fun w hw => hts w (List.mem_cons_of_mem _ hw)
  rw [fX3_take] at h
  refine lv_aload_n (pc := 0) hx hb dX3_take_0 rfl (lv_at hl 0 rfl) ?_
  refine xr_getI (pc := 1) (ci := 7) hx hb hts inX3 hown hK hR rfl k0.1 2 (Nat.le_of_ble_eq_true rfl) rfl (hts _ q_f_X3_22) (fun _ h9 => h9) dX3_take_1 ?_
  refine lv_bipush (pc := 4) hx hb dX3_take_4 kb_60 ?_
  refine lv_icmp_lt (pc := 6) (tgt := 11) hx hb dX3_take_6 (by decide) (fun c1 => ?_) (fun c1 => ?_)
  · have h := xpos c1 h
    refine lv_aload_n (pc := 11) hx hb dX3_take_11 rfl (lv_at hl 0 rfl) ?_
    refine xr_getR (pc := 12) (ci := 7) hx hb hts inX3 hown hK hR rfl k0.1 0 (Nat.le_of_ble_eq_true rfl) rfl k0.2.1.1 (hts _ q_f_X3_9) (fun _ h9 => h9) dX3_take_12 ?_
    refine lv_aload_n (pc := 15) hx hb dX3_take_15 rfl (lv_at hl 0 rfl) ?_
    refine xr_getI (pc := 16) (ci := 7) hx hb hts inX3 hown hK hR rfl k0.1 2 (Nat.le_of_ble_eq_true rfl) rfl (hts _ q_f_X3_22) (fun _ h9 => h9) dX3_take_16 ?_
    refine lv_iload_n (pc := 19) hx hb dX3_take_19 rfl (lv_at hl 1 rfl) ?_
    obtain ⟨c2, h⟩ := xk_inv h
    refine xr_castk (pc := 20) (Int32.toNatClampNeg ((μ h0 2))) hx hb hK hR hF hS k0.2.1.2.1 k0.2.1.2.2 rfl c2 dX3_take_20 (fun H locs hR hS => ?_)
    refine lv_aload_n (pc := 21) hx hb dX3_take_21 rfl (lv_at hl 0 rfl) ?_
    refine lv_dup (pc := 22) hx hb dX3_take_22 rfl ?_
    refine xr_getI (pc := 23) (ci := 7) hx hb hts inX3 hown hK hR rfl k0.1 2 (Nat.le_of_ble_eq_true rfl) rfl (hts _ q_f_X3_22) (fun _ h9 => h9) dX3_take_23 ?_
    refine lv_iconst (pc := 26) hx hb dX3_take_26 kc_1 ?_
    refine lv_iadd (pc := 27) hx hb dX3_take_27 ?_
    refine xr_putI (pc := 28) (ci := 7) (ty := .int) hx hb hts inX3 tyX3 tyX3_ok nmX3 hown hK hR hF hS rfl k0.1 2 (Nat.le_of_ble_eq_true rfl) rfl (hts _ q_f_X3_22) (fun _ h9 => h9) rfl rfl rfl rfl dX3_take_28 (fun H locs hR hS => ?_)
    refine lv_iconst (pc := 31) hx hb dX3_take_31 kc_1 ?_
    exact xf_i (pc := 32) hx hb hr rfl hlocks h hR hK hS dX3_take_32
  · have h := xneg c1 h
    refine lv_iconst (pc := 9) hx hb dX3_take_9 kc_0 ?_
    exact xf_i (pc := 10) hx hb hr rfl hlocks h hR hK hS dX3_take_10
set_option maxHeartbeats 1000000 in
set_option maxRecDepth 20000 in
theorem mX3_empty {l : Launch} {D : va_G} {ca : Nat → ClassId} {z : Nat} {G : xG} {X : va_W} {ad av : Nat → Nat} (hF : xFix z G X) (h0 : Nat) (k0 : xI_Input G h0) {μ μ1 : xM} (h : fX3_empty h0 μ = some μ1) : xMv l yX3_empty (xws yX3_empty cX3_empty 1 none) 0 D ca z G X ad av [.ref h0] μ μ1 := by
  refine xm_v (by decide) rfl (Nat.le_of_ble_eq_true rfl) [(0, .ref h0)] rfl ?_
  intro p e s m args below meth c ls hx hb hr hml hlocks hts hown hK hE hR hS hl
  have hts : ∀ w ∈ xAll, w.before args s = true := fun w hw => hts w (List.mem_cons_of_mem _ hw)
  rw [fX3_empty] at h
  refine lv_aload_n (pc := 0) hx hb dX3_empty_0 rfl (lv_at hl 0 rfl) ?_
  refine lv_iconst (pc := 1) hx hb dX3_empty_1 kc_0 ?_
  refine xr_putI (pc := 2) (ci := 7) (ty := .int) hx hb hts inX3 tyX3 tyX3_ok nmX3 hown hK hR hF hS rfl k0.1 2 (Nat.le_of_ble_eq_true rfl) rfl (hts _ q_f_X3_22) (fun _ h9 => h9) rfl rfl rfl rfl dX3_empty_2 (fun H locs hR hS => ?_)
  exact xf_v (pc := 5) hx hb hr hlocks h hR hK hS dX3_empty_5
set_option maxHeartbeats 1000000 in
set_option maxRecDepth 20000 in
theorem mX3_isDigit {l : Launch} {D : va_G} {ca : Nat → ClassId} {z : Nat} {G : xG} {X : va_W} {ad av : Nat → Nat} (hF : xFix z G X) (p0 : Int32)  {μ μ1 : xM} {r : Int32} (h : fX3_isDigit p0 μ = some (r, μ1)) : xMi l yX3_isDigit (xws yX3_isDigit cX3_isDigit 1 (some .boolean)) 0 D ca z G X ad av [.int p0] μ r μ1 := by
  refine xm_i (by decide) rfl (Nat.le_of_ble_eq_true rfl) [(0, .int p0)] rfl ?_
  intro p e s m args below meth c ls hx hb hr hml hlocks hts hown hK hE hR hS hl
  have hts : ∀ w ∈ xAll, w.before args s = true := fun w hw => hts w (List.mem_cons_of_mem _ hw)
  rw [fX3_isDigit] at h
  refine lv_iload_n (pc := 0) hx hb dX3_isDigit_0 rfl (lv_at hl 0 rfl) ?_
  refine lv_bipush (pc := 1) hx hb dX3_isDigit_1 kb_48 ?_
  refine lv_icmp_lt (pc := 3) (tgt := 16) hx hb dX3_isDigit_3 (by decide) (fun c1 => ?_) (fun c1 => ?_)
  · have h := xpos c1 h
    refine lv_iconst (pc := 16) hx hb dX3_isDigit_16 kc_0 ?_
    exact xf_i (pc := 17) hx hb hr rfl hlocks h hR hK hS dX3_isDigit_17
  · have h := xneg c1 h
    refine lv_iload_n (pc := 6) hx hb dX3_isDigit_6 rfl (lv_at hl 0 rfl) ?_
    refine lv_bipush (pc := 7) hx hb dX3_isDigit_7 kb_57 ?_
    refine lv_icmp_gt (pc := 9) (tgt := 16) hx hb dX3_isDigit_9 (by decide) (fun c2 => ?_) (fun c2 => ?_)
    · have h := xpos c2 h
      refine lv_iconst (pc := 16) hx hb dX3_isDigit_16 kc_0 ?_
      exact xf_i (pc := 17) hx hb hr rfl hlocks h hR hK hS dX3_isDigit_17
    · have h := xneg c2 h
      refine lv_iconst (pc := 12) hx hb dX3_isDigit_12 kc_1 ?_
      refine lv_goto (pc := 13) (tgt := 17) hx hb dX3_isDigit_13 (by decide) ?_
      exact xf_i (pc := 17) hx hb hr rfl hlocks h hR hK hS dX3_isDigit_17
set_option maxHeartbeats 1000000 in
set_option maxRecDepth 20000 in
theorem mX3_readSign {l : Launch} {D : va_G} {ca : Nat → ClassId} {z : Nat} {G : xG} {X : va_W} {ad av : Nat → Nat} (hF : xFix z G X) (h0 : Nat) (p1 : Int32) (k0 : xI_Input G h0) {μ μ1 : xM} {r : Int32} (h : fX3_readSign h0 p1 μ = some (r, μ1)) : xMi l yX3_readSign (xws yX3_readSign cX3_readSign 2 (some .boolean)) 0 D ca z G X ad av [.ref h0, .int p1] μ r μ1 := by
  refine xm_i (by decide) rfl (Nat.le_of_ble_eq_true rfl) [(0, .ref h0), (1, .int p1)] rfl ?_
  intro p e s m args below meth c ls hx hb hr hml hlocks hts hown hK hE hR hS hl
  have hts : ∀ w ∈ xAll, w.before args s = true := fun w hw => hts w (List.mem_cons_of_mem _ hw)
  rw [fX3_readSign] at h
  refine lv_aload_n (pc := 0) hx hb dX3_readSign_0 rfl (lv_at hl 0 rfl) ?_
  refine xr_getI (pc := 1) (ci := 7) hx hb hts inX3 hown hK hR rfl k0.1 4 (Nat.le_of_ble_eq_true rfl) rfl (hts _ q_f_X3_29) (fun _ h9 => h9) dX3_readSign_1 ?_
  refine lv_aload_n (pc := 4) hx hb dX3_readSign_4 rfl (lv_at hl 0 rfl) ?_
  refine xr_getI (pc := 5) (ci := 7) hx hb hts inX3 hown hK hR rfl k0.1 2 (Nat.le_of_ble_eq_true rfl) rfl (hts _ q_f_X3_22) (fun _ h9 => h9) dX3_readSign_5 ?_
  refine lv_icmp_ge (pc := 8) (tgt := 24) hx hb dX3_readSign_8 (by decide) (fun c1 => ?_) (fun c1 => ?_)
  · have h := xpos c1 h
    refine lv_iconst (pc := 24) hx hb dX3_readSign_24 kc_0 ?_
    exact xf_i (pc := 25) hx hb hr rfl hlocks h hR hK hS dX3_readSign_25
  · have h := xneg c1 h
    refine lv_aload_n (pc := 11) hx hb dX3_readSign_11 rfl (lv_at hl 0 rfl) ?_
    refine xr_getR (pc := 12) (ci := 7) hx hb hts inX3 hown hK hR rfl k0.1 0 (Nat.le_of_ble_eq_true rfl) rfl k0.2.1.1 (hts _ q_f_X3_9) (fun _ h9 => h9) dX3_readSign_12 ?_
    refine lv_aload_n (pc := 15) hx hb dX3_readSign_15 rfl (lv_at hl 0 rfl) ?_
    refine xr_getI (pc := 16) (ci := 7) hx hb hts inX3 hown hK hR rfl k0.1 4 (Nat.le_of_ble_eq_true rfl) rfl (hts _ q_f_X3_29) (fun _ h9 => h9) dX3_readSign_16 ?_
    obtain ⟨c2, h⟩ := xk_inv h
    refine xr_caldk (pc := 19) (Int32.toNatClampNeg ((μ h0 4))) hx hb hK hR k0.2.1.2.1 k0.2.1.2.2 rfl c2 dX3_readSign_19 ?_
    refine lv_iload_n (pc := 20) hx hb dX3_readSign_20 rfl (lv_at hl 1 rfl) ?_
    refine lv_icmp_eq (pc := 21) (tgt := 26) hx hb dX3_readSign_21 (by decide) (fun c3 => ?_) (fun c3 => ?_)
    · have h := xpos c3 h
      refine lv_aload_n (pc := 26) hx hb dX3_readSign_26 rfl (lv_at hl 0 rfl) ?_
      refine lv_dup (pc := 27) hx hb dX3_readSign_27 rfl ?_
      refine xr_getI (pc := 28) (ci := 7) hx hb hts inX3 hown hK hR rfl k0.1 4 (Nat.le_of_ble_eq_true rfl) rfl (hts _ q_f_X3_29) (fun _ h9 => h9) dX3_readSign_28 ?_
      refine lv_iconst (pc := 31) hx hb dX3_readSign_31 kc_1 ?_
      refine lv_iadd (pc := 32) hx hb dX3_readSign_32 ?_
      refine xr_putI (pc := 33) (ci := 7) (ty := .int) hx hb hts inX3 tyX3 tyX3_ok nmX3 hown hK hR hF hS rfl k0.1 4 (Nat.le_of_ble_eq_true rfl) rfl (hts _ q_f_X3_29) (fun _ h9 => h9) rfl rfl rfl rfl dX3_readSign_33 (fun H locs hR hS => ?_)
      refine lv_iconst (pc := 36) hx hb dX3_readSign_36 kc_1 ?_
      exact xf_i (pc := 37) hx hb hr rfl hlocks h hR hK hS dX3_readSign_37
    · have h := xneg c3 h
      refine lv_iconst (pc := 24) hx hb dX3_readSign_24 kc_0 ?_
      exact xf_i (pc := 25) hx hb hr rfl hlocks h hR hK hS dX3_readSign_25
set_option maxHeartbeats 1000000 in
set_option maxRecDepth 20000 in
theorem wX3_readNumber_4 {p : Program} {l : Launch} {e : Env} {s : State} {m : MethodId} {args : Array Value} {below : List Frame} {meth : Method} {c : Code} {D : va_G} {ca : Nat → ClassId} {z : Nat} {G : xG} {X : va_W} {ad av : Nat → Nat} (hF : xFix z G X) (h0 : Nat) (p1 : Int32) (k0 : xI_Input G h0) (hx : p.tables.exec = Jvm.exec) (hb : c.code = cX3_readNumber) (hr : meth.sig.returnType = (some .int)) (hml : c.maxLocals = 4) (hlocks : meth.locks = false) (hts : ∀ w ∈ xAll, w.before args s = true) (hown : s.vm.findClass RX3 = some m.cls) (hK : va_K D vwCl (xT ca) s) (hE : xEv z ad av s s.heap) {μ1 : xM} {r : Int32} :
    ∀ (n : Nat) (x2 : Int32) (x3 : Int32) (μ : xM) (H : Heap) (locs : List Loc) (ls : Array Slot), lX3_readNumber_4 h0 p1 n x2 x3 μ = some (r, μ1) → xRep D ca G X μ H → va_S (fun q => z ≤ q) s.heap H locs → lv_has ls 4 [(0, .ref h0), (1, .int p1), (2, .int x2), (3, .int x3)] → W p l e (xRm 1 0 0) s m args below meth c H locs 0 0 (MQ below (va_Qi (fun (r' : Int32) (_ : Unit) => r' = r) (fun _ t => xB D ca G X μ1 t) (fun q => z ≤ q)) args s 0 0 (fun q => z ≤ q)) (F0 m 4 ls []) := by
  intro n
  induction n with
  | zero => intro x2 x3 μ H locs ls h; cases h
  | succ n ih =>
    intro x2 x3 μ H locs ls h hR hS hl
    rw [lX3_readNumber_4] at h
    refine lv_iload_n (pc := 4) hx hb dX3_readNumber_4 rfl (lv_at hl 3 rfl) ?_
    refine lv_iload_n (pc := 5) hx hb dX3_readNumber_5 rfl (lv_at hl 1 rfl) ?_
    refine lv_icmp_ge (pc := 6) (tgt := 77) hx hb dX3_readNumber_6 (by decide) (fun c1 => ?_) (fun c1 => ?_)
    · have h := xpos c1 h
      refine lv_iload_n (pc := 77) hx hb dX3_readNumber_77 rfl (lv_at hl 2 rfl) ?_
      exact xf_i (pc := 78) hx hb hr rfl hlocks h hR hK hS dX3_readNumber_78
    · have h := xneg c1 h
      refine lv_aload_n (pc := 9) hx hb dX3_readNumber_9 rfl (lv_at hl 0 rfl) ?_
      refine xr_getI (pc := 10) (ci := 7) hx hb hts inX3 hown hK hR rfl k0.1 4 (Nat.le_of_ble_eq_true rfl) rfl (hts _ q_f_X3_29) (fun _ h9 => h9) dX3_readNumber_10 ?_
      refine lv_aload_n (pc := 13) hx hb dX3_readNumber_13 rfl (lv_at hl 0 rfl) ?_
      refine xr_getI (pc := 14) (ci := 7) hx hb hts inX3 hown hK hR rfl k0.1 2 (Nat.le_of_ble_eq_true rfl) rfl (hts _ q_f_X3_22) (fun _ h9 => h9) dX3_readNumber_14 ?_
      refine lv_icmp_ge (pc := 17) (tgt := 77) hx hb dX3_readNumber_17 (by decide) (fun c2 => ?_) (fun c2 => ?_)
      · have h := xpos c2 h
        refine lv_iload_n (pc := 77) hx hb dX3_readNumber_77 rfl (lv_at hl 2 rfl) ?_
        exact xf_i (pc := 78) hx hb hr rfl hlocks h hR hK hS dX3_readNumber_78
      · have h := xneg c2 h
        refine lv_aload_n (pc := 20) hx hb dX3_readNumber_20 rfl (lv_at hl 0 rfl) ?_
        refine xr_getR (pc := 21) (ci := 7) hx hb hts inX3 hown hK hR rfl k0.1 0 (Nat.le_of_ble_eq_true rfl) rfl k0.2.1.1 (hts _ q_f_X3_9) (fun _ h9 => h9) dX3_readNumber_21 ?_
        refine lv_aload_n (pc := 24) hx hb dX3_readNumber_24 rfl (lv_at hl 0 rfl) ?_
        refine xr_getI (pc := 25) (ci := 7) hx hb hts inX3 hown hK hR rfl k0.1 4 (Nat.le_of_ble_eq_true rfl) rfl (hts _ q_f_X3_29) (fun _ h9 => h9) dX3_readNumber_25 ?_
        obtain ⟨c3, h⟩ := xk_inv h
        refine xr_caldk (pc := 28) (Int32.toNatClampNeg ((μ h0 4))) hx hb hK hR k0.2.1.2.1 k0.2.1.2.2 rfl c3 dX3_readNumber_28 ?_
        obtain ⟨r4, m4, c4, h⟩ := xb_inv h
        refine xc_iS (pc := 29) (As := [.int _]) (rest := []) ⟨hx, hb, hml, hown, hts⟩ (mX3_isDigit hF _  c4) (xcwS 1 hts fdX3_isDigit q_m_X3_77 ⟨Nat.le_of_ble_eq_true rfl, Nat.le_of_ble_eq_true rfl⟩) hR hK hE hS rfl hl.1 rfl (Nat.le_of_ble_eq_true rfl) dX3_readNumber_29 ⟨Nat.zero_le _, Nat.zero_le _⟩ (fun H locs hR hS => ?_)
        refine lv_if_eq (pc := 32) (tgt := 77) hx hb dX3_readNumber_32 (by decide) (fun c5 => ?_) (fun c5 => ?_)
        · have h := xpos c5 h
          refine lv_iload_n (pc := 77) hx hb dX3_readNumber_77 rfl (lv_at hl 2 rfl) ?_
          exact xf_i (pc := 78) hx hb hr rfl hlocks h hR hK hS dX3_readNumber_78
        · have h := xneg c5 h
          refine lv_iload_n (pc := 35) hx hb dX3_readNumber_35 rfl (lv_at hl 3 rfl) ?_
          refine lv_if_ne (pc := 36) (tgt := 43) hx hb dX3_readNumber_36 (by decide) (fun c6 => ?_) (fun c6 => ?_)
          · have h := xneg c6 h
            refine lv_iload_n (pc := 43) hx hb dX3_readNumber_43 rfl (lv_at hl 2 rfl) ?_
            refine lv_bipush (pc := 44) hx hb dX3_readNumber_44 kb_10 ?_
            refine lv_imul (pc := 46) hx hb dX3_readNumber_46 ?_
            refine lv_aload_n (pc := 47) hx hb dX3_readNumber_47 rfl (lv_at hl 0 rfl) ?_
            refine xr_getR (pc := 48) (ci := 7) hx hb hts inX3 hown hK hR rfl k0.1 0 (Nat.le_of_ble_eq_true rfl) rfl k0.2.1.1 (hts _ q_f_X3_9) (fun _ h9 => h9) dX3_readNumber_48 ?_
            refine lv_aload_n (pc := 51) hx hb dX3_readNumber_51 rfl (lv_at hl 0 rfl) ?_
            refine xr_getI (pc := 52) (ci := 7) hx hb hts inX3 hown hK hR rfl k0.1 4 (Nat.le_of_ble_eq_true rfl) rfl (hts _ q_f_X3_29) (fun _ h9 => h9) dX3_readNumber_52 ?_
            obtain ⟨c7, h⟩ := xk_inv h
            refine xr_caldk (pc := 55) (Int32.toNatClampNeg ((m4 h0 4))) hx hb hK hR k0.2.1.2.1 k0.2.1.2.2 rfl c7 dX3_readNumber_55 ?_
            refine lv_bipush (pc := 56) hx hb dX3_readNumber_56 kb_48 ?_
            refine lv_isub (pc := 58) hx hb dX3_readNumber_58 ?_
            refine lv_iadd (pc := 59) hx hb dX3_readNumber_59 ?_
            refine lv_istore_n (pc := 60) (lv' := [(2, .int _), (0, .ref _), (1, .int _), (3, .int _)]) hx hb dX3_readNumber_60 rfl hl (Nat.le_of_ble_eq_true rfl) rfl (fun ls hl => ?_)
            refine lv_aload_n (pc := 61) hx hb dX3_readNumber_61 rfl (lv_at hl 1 rfl) ?_
            refine lv_dup (pc := 62) hx hb dX3_readNumber_62 rfl ?_
            refine xr_getI (pc := 63) (ci := 7) hx hb hts inX3 hown hK hR rfl k0.1 4 (Nat.le_of_ble_eq_true rfl) rfl (hts _ q_f_X3_29) (fun _ h9 => h9) dX3_readNumber_63 ?_
            refine lv_iconst (pc := 66) hx hb dX3_readNumber_66 kc_1 ?_
            refine lv_iadd (pc := 67) hx hb dX3_readNumber_67 ?_
            refine xr_putI (pc := 68) (ci := 7) (ty := .int) hx hb hts inX3 tyX3 tyX3_ok nmX3 hown hK hR hF hS rfl k0.1 4 (Nat.le_of_ble_eq_true rfl) rfl (hts _ q_f_X3_29) (fun _ h9 => h9) rfl rfl rfl rfl dX3_readNumber_68 (fun H locs hR hS => ?_)
            refine lv_iinc (pc := 71) (lv' := [(3, .int _), (2, .int _), (0, .ref _), (1, .int _)]) hx hb dX3_readNumber_71 hl (k := 3) rfl (xinc kc_1) (Nat.le_of_ble_eq_true rfl) rfl (fun ls hl => ?_)
            refine lv_goto (pc := 74) (tgt := 4) hx hb dX3_readNumber_74 (by decide) ?_
            exact ih _ _ _ _ _ _ h hR hS (lv_sub hl [2, 3, 1, 0] rfl)
          · have h := xpos c6 h
            refine lv_iconst (pc := 39) hx hb dX3_readNumber_39 kc_0 ?_
            refine lv_goto (pc := 40) (tgt := 47) hx hb dX3_readNumber_40 (by decide) ?_
            refine lv_aload_n (pc := 47) hx hb dX3_readNumber_47 rfl (lv_at hl 0 rfl) ?_
            refine xr_getR (pc := 48) (ci := 7) hx hb hts inX3 hown hK hR rfl k0.1 0 (Nat.le_of_ble_eq_true rfl) rfl k0.2.1.1 (hts _ q_f_X3_9) (fun _ h9 => h9) dX3_readNumber_48 ?_
            refine lv_aload_n (pc := 51) hx hb dX3_readNumber_51 rfl (lv_at hl 0 rfl) ?_
            refine xr_getI (pc := 52) (ci := 7) hx hb hts inX3 hown hK hR rfl k0.1 4 (Nat.le_of_ble_eq_true rfl) rfl (hts _ q_f_X3_29) (fun _ h9 => h9) dX3_readNumber_52 ?_
            obtain ⟨c8, h⟩ := xk_inv h
            refine xr_caldk (pc := 55) (Int32.toNatClampNeg ((m4 h0 4))) hx hb hK hR k0.2.1.2.1 k0.2.1.2.2 rfl c8 dX3_readNumber_55 ?_
            refine lv_bipush (pc := 56) hx hb dX3_readNumber_56 kb_48 ?_
            refine lv_isub (pc := 58) hx hb dX3_readNumber_58 ?_
            refine lv_iadd (pc := 59) hx hb dX3_readNumber_59 ?_
            refine lv_istore_n (pc := 60) (lv' := [(2, .int _), (0, .ref _), (1, .int _), (3, .int _)]) hx hb dX3_readNumber_60 rfl hl (Nat.le_of_ble_eq_true rfl) rfl (fun ls hl => ?_)
            refine lv_aload_n (pc := 61) hx hb dX3_readNumber_61 rfl (lv_at hl 1 rfl) ?_
            refine lv_dup (pc := 62) hx hb dX3_readNumber_62 rfl ?_
            refine xr_getI (pc := 63) (ci := 7) hx hb hts inX3 hown hK hR rfl k0.1 4 (Nat.le_of_ble_eq_true rfl) rfl (hts _ q_f_X3_29) (fun _ h9 => h9) dX3_readNumber_63 ?_
            refine lv_iconst (pc := 66) hx hb dX3_readNumber_66 kc_1 ?_
            refine lv_iadd (pc := 67) hx hb dX3_readNumber_67 ?_
            refine xr_putI (pc := 68) (ci := 7) (ty := .int) hx hb hts inX3 tyX3 tyX3_ok nmX3 hown hK hR hF hS rfl k0.1 4 (Nat.le_of_ble_eq_true rfl) rfl (hts _ q_f_X3_29) (fun _ h9 => h9) rfl rfl rfl rfl dX3_readNumber_68 (fun H locs hR hS => ?_)
            refine lv_iinc (pc := 71) (lv' := [(3, .int _), (2, .int _), (0, .ref _), (1, .int _)]) hx hb dX3_readNumber_71 hl (k := 3) rfl (xinc kc_1) (Nat.le_of_ble_eq_true rfl) rfl (fun ls hl => ?_)
            refine lv_goto (pc := 74) (tgt := 4) hx hb dX3_readNumber_74 (by decide) ?_
            exact ih _ _ _ _ _ _ h hR hS (lv_sub hl [2, 3, 1, 0] rfl)
set_option maxHeartbeats 1000000 in
set_option maxRecDepth 20000 in
theorem mX3_readNumber {l : Launch} {D : va_G} {ca : Nat → ClassId} {z : Nat} {G : xG} {X : va_W} {ad av : Nat → Nat} (hF : xFix z G X) (h0 : Nat) (p1 : Int32) (k0 : xI_Input G h0) {μ μ1 : xM} {r : Int32} (h : fX3_readNumber h0 p1 μ = some (r, μ1)) : xMi l yX3_readNumber (xws yX3_readNumber cX3_readNumber 4 (some .int)) 1 D ca z G X ad av [.ref h0, .int p1] μ r μ1 := by
  refine xm_i (by decide) rfl (Nat.le_of_ble_eq_true rfl) [(0, .ref h0), (1, .int p1)] rfl ?_
  intro p e s m args below meth c ls hx hb hr hml hlocks hts hown hK hE hR hS hl
  have hts : ∀ w ∈ xAll, w.before args s = true := fun w hw => hts w (List.mem_cons_of_mem _ hw)
  rw [fX3_readNumber] at h
  refine lv_iconst (pc := 0) hx hb dX3_readNumber_0 kc_m1 ?_
  refine lv_istore_n (pc := 1) (lv' := [(2, .int _), (0, .ref _), (1, .int _)]) hx hb dX3_readNumber_1 rfl hl (Nat.le_of_ble_eq_true rfl) rfl (fun ls hl => ?_)
  refine lv_iconst (pc := 2) hx hb dX3_readNumber_2 kc_0 ?_
  refine lv_istore_n (pc := 3) (lv' := [(3, .int _), (2, .int _), (0, .ref _), (1, .int _)]) hx hb dX3_readNumber_3 rfl hl (Nat.le_of_ble_eq_true rfl) rfl (fun ls hl => ?_)
  exact wX3_readNumber_4 hF h0 p1 k0 hx hb hr hml hlocks hts hown hK hE _ _ _ _ _ _ _ h hR hS (lv_sub hl [2, 3, 1, 0] rfl)
set_option maxHeartbeats 1000000 in
set_option maxRecDepth 20000 in
theorem mX3_readPart {l : Launch} {D : va_G} {ca : Nat → ClassId} {z : Nat} {G : xG} {X : va_W} {ad av : Nat → Nat} (hF : xFix z G X) (h0 : Nat) (h1 : Nat) (p2 : Int32) (k0 : xI_Input G h0) (k1 : xI_Order G h1) {μ μ1 : xM} {r : Int32} (h : fX3_readPart h0 h1 p2 μ = some (r, μ1)) : xMi l yX3_readPart (xws yX3_readPart cX3_readPart 4 (some .boolean)) 2 D ca z G X ad av [.ref h0, .ref h1, .int p2] μ r μ1 := by
  refine xm_i (by decide) rfl (Nat.le_of_ble_eq_true rfl) [(0, .ref h0), (1, .ref h1), (2, .int p2)] rfl ?_
  intro p e s m args below meth c ls hx hb hr hml hlocks hts hown hK hE hR hS hl
  have hts : ∀ w ∈ xAll, w.before args s = true := fun w hw => hts w (List.mem_cons_of_mem _ hw)
  rw [fX3_readPart] at h
  refine lv_iload_n (pc := 0) hx hb dX3_readPart_0 rfl (lv_at hl 2 rfl) ?_
  obtain ⟨r1, m1, c1, h⟩ := xb_inv h
  refine xc_iS (pc := 1) (As := [.int _]) (rest := []) ⟨hx, hb, hml, hown, hts⟩ (mX3_isDigit hF _  c1) (xcwS 1 hts fdX3_isDigit q_m_X3_77 ⟨Nat.le_of_ble_eq_true rfl, Nat.le_of_ble_eq_true rfl⟩) hR hK hE hS rfl hl.1 rfl (Nat.le_of_ble_eq_true rfl) dX3_readPart_1 ⟨Nat.zero_le _, Nat.zero_le _⟩ (fun H locs hR hS => ?_)
  refine lv_if_ne (pc := 4) (tgt := 13) hx hb dX3_readPart_4 (by decide) (fun c2 => ?_) (fun c2 => ?_)
  · have h := xneg c2 h
    refine lv_aload_n (pc := 13) hx hb dX3_readPart_13 rfl (lv_at hl 0 rfl) ?_
    refine lv_iload_n (pc := 14) hx hb dX3_readPart_14 rfl (lv_at hl 2 rfl) ?_
    refine lv_bipush (pc := 15) hx hb dX3_readPart_15 kb_48 ?_
    refine lv_isub (pc := 17) hx hb dX3_readPart_17 ?_
    obtain ⟨r3, m3, c3, h⟩ := xb_inv h
    refine xc_iV (pc := 18) (As := [.int _]) (rest := []) ⟨hx, hb, hml, hown, hts⟩ (mX3_readNumber hF _ _ k0 c3) (xcwV 1 hts fdX3_readNumber q_m_X3_80 ⟨Nat.le_of_ble_eq_true rfl, Nat.le_of_ble_eq_true rfl⟩) (xRecv hK hR (ci := 7) rfl k0.1) hR hK hE hS rfl hl.1 rfl (Nat.le_of_ble_eq_true rfl) dX3_readPart_18 ⟨Nat.zero_le _, Nat.zero_le _⟩ (fun H locs hR hS => ?_)
    refine lv_istore_n (pc := 21) (lv' := [(3, .int _), (0, .ref _), (1, .ref _), (2, .int _)]) hx hb dX3_readPart_21 rfl hl (Nat.le_of_ble_eq_true rfl) rfl (fun ls hl => ?_)
    refine lv_iload_n (pc := 22) hx hb dX3_readPart_22 rfl (lv_at hl 0 rfl) ?_
    refine lv_iconst (pc := 23) hx hb dX3_readPart_23 kc_m1 ?_
    refine lv_icmp_ne (pc := 24) (tgt := 29) hx hb dX3_readPart_24 (by decide) (fun c4 => ?_) (fun c4 => ?_)
    · have h := xneg c4 h
      refine lv_aload_n (pc := 29) hx hb dX3_readPart_29 rfl (lv_at hl 2 rfl) ?_
      refine lv_iload_n (pc := 30) hx hb dX3_readPart_30 rfl (lv_at hl 0 rfl) ?_
      obtain ⟨m5, c5, h⟩ := xbv_inv h
      refine xc_vV (pc := 31) (As := [.int _]) (rest := []) ⟨hx, hb, hml, hown, hts⟩ (mX4_add hF _ _ k1 c5) (xcwV 1 hts fdX4_add q_m_X3_84 ⟨Nat.le_of_ble_eq_true rfl, Nat.le_of_ble_eq_true rfl⟩) (xRecv hK hR (ci := 8) rfl k1) hR hK hE hS rfl hl.1 rfl (Nat.le_of_ble_eq_true rfl) dX3_readPart_31 ⟨Nat.zero_le _, Nat.zero_le _⟩ (fun H locs hR hS => ?_)
      refine lv_iconst (pc := 34) hx hb dX3_readPart_34 kc_1 ?_
      exact xf_i (pc := 35) hx hb hr rfl hlocks h hR hK hS dX3_readPart_35
    · have h := xpos c4 h
      refine lv_iconst (pc := 27) hx hb dX3_readPart_27 kc_0 ?_
      exact xf_i (pc := 28) hx hb hr rfl hlocks h hR hK hS dX3_readPart_28
  · have h := xpos c2 h
    refine lv_aload_n (pc := 7) hx hb dX3_readPart_7 rfl (lv_at hl 0 rfl) ?_
    refine lv_iload_n (pc := 8) hx hb dX3_readPart_8 rfl (lv_at hl 2 rfl) ?_
    obtain ⟨r6, m6, c6, h⟩ := xb_inv h
    refine xc_iV (pc := 9) (As := [.int _]) (rest := []) ⟨hx, hb, hml, hown, hts⟩ (mX3_readSign hF _ _ k0 c6) (xcwV 1 hts fdX3_readSign q_m_X3_36 ⟨Nat.le_of_ble_eq_true rfl, Nat.le_of_ble_eq_true rfl⟩) (xRecv hK hR (ci := 7) rfl k0.1) hR hK hE hS rfl hl.1 rfl (Nat.le_of_ble_eq_true rfl) dX3_readPart_9 ⟨Nat.zero_le _, Nat.zero_le _⟩ (fun H locs hR hS => ?_)
    obtain ⟨c7, h⟩ := xk_inv h
    exact xf_i (pc := 12) hx hb hr c7.1 hlocks h hR hK hS dX3_readPart_12
set_option maxHeartbeats 1000000 in
set_option maxRecDepth 20000 in
theorem mX2_keep {l : Launch} {D : va_G} {ca : Nat → ClassId} {z : Nat} {G : xG} {X : va_W} {ad av : Nat → Nat} (hF : xFix z G X) (h0 : Nat) (h1 : Nat) (k0 : xI_History G h0) (k1 : xI_Bank G h1) {μ μ1 : xM} (h : fX2_keep h0 h1 μ = some μ1) : xMv l yX2_keep (xws yX2_keep cX2_keep 2 none) 2 D ca z G X ad av [.ref h0, .ref h1] μ μ1 := by
  refine xm_v (by decide) rfl (Nat.le_of_ble_eq_true rfl) [(0, .ref h0), (1, .ref h1)] rfl ?_
  intro p e s m args below meth c ls hx hb hr hml hlocks hts hown hK hE hR hS hl
  have hts : ∀ w ∈ xAll, w.before args s = true := fun w hw => hts w (List.mem_cons_of_mem _ hw)
  rw [fX2_keep] at h
  refine lv_aload_n (pc := 0) hx hb dX2_keep_0 rfl (lv_at hl 0 rfl) ?_
  refine xr_getR (pc := 1) (ci := 6) hx hb hts inX2 hown hK hR rfl k0.1 0 (Nat.le_of_ble_eq_true rfl) rfl k0.2.1 (hts _ q_f_X2_11) (fun _ h9 => h9) dX2_keep_1 ?_
  refine lv_aload_n (pc := 4) hx hb dX2_keep_4 rfl (lv_at hl 0 rfl) ?_
  refine xr_getI (pc := 5) (ci := 6) hx hb hts inX2 hown hK hR rfl k0.1 1 (Nat.le_of_ble_eq_true rfl) rfl (hts _ q_f_X2_18) (fun _ h9 => h9) dX2_keep_5 ?_
  obtain ⟨c1, h⟩ := xk_inv h
  refine xr_aald (pc := 8) hx hb hK hR 0 (by decide) k0.2.2.1 rfl k0.2.2.2.1 c1 (k0.2.2.2.2 _ (xlt c1)).1 dX2_keep_8 ?_
  refine lv_aload_n (pc := 9) hx hb dX2_keep_9 rfl (lv_at hl 1 rfl) ?_
  obtain ⟨m2, c2, h⟩ := xbv_inv h
  refine xc_vV (pc := 10) (As := [.ref _]) (rest := []) ⟨hx, hb, hml, hown, hts⟩ (mX0_copyFrom hF _ _ ((k0.2.2.2.2 _ (xlt c1)).2) k1 c2) (xcwV 1 hts fdX0_copyFrom q_m_X2_25 ⟨Nat.le_of_ble_eq_true rfl, Nat.le_of_ble_eq_true rfl⟩) (xRecv hK hR (ci := 4) rfl ((k0.2.2.2.2 _ (xlt c1)).2.1)) hR hK hE hS rfl hl.1 rfl (Nat.le_of_ble_eq_true rfl) dX2_keep_10 ⟨Nat.zero_le _, Nat.zero_le _⟩ (fun H locs hR hS => ?_)
  refine lv_aload_n (pc := 13) hx hb dX2_keep_13 rfl (lv_at hl 0 rfl) ?_
  refine lv_aload_n (pc := 14) hx hb dX2_keep_14 rfl (lv_at hl 0 rfl) ?_
  refine xr_getI (pc := 15) (ci := 6) hx hb hts inX2 hown hK hR rfl k0.1 1 (Nat.le_of_ble_eq_true rfl) rfl (hts _ q_f_X2_18) (fun _ h9 => h9) dX2_keep_15 ?_
  refine lv_iconst (pc := 18) hx hb dX2_keep_18 kc_1 ?_
  refine lv_iadd (pc := 19) hx hb dX2_keep_19 ?_
  refine lv_bipush (pc := 20) hx hb dX2_keep_20 kb_8 ?_
  refine lv_icmp_ge (pc := 22) (tgt := 34) hx hb dX2_keep_22 (by decide) (fun c3 => ?_) (fun c3 => ?_)
  · have h := xpos c3 h
    refine lv_iconst (pc := 34) hx hb dX2_keep_34 kc_0 ?_
    refine xr_putI (pc := 35) (ci := 6) (ty := .int) hx hb hts inX2 tyX2 tyX2_ok nmX2 hown hK hR hF hS rfl k0.1 1 (Nat.le_of_ble_eq_true rfl) rfl (hts _ q_f_X2_18) (fun _ h9 => h9) rfl rfl rfl rfl dX2_keep_35 (fun H locs hR hS => ?_)
    refine lv_aload_n (pc := 38) hx hb dX2_keep_38 rfl (lv_at hl 0 rfl) ?_
    refine xr_getI (pc := 39) (ci := 6) hx hb hts inX2 hown hK hR rfl k0.1 2 (Nat.le_of_ble_eq_true rfl) rfl (hts _ q_f_X2_22) (fun _ h9 => h9) dX2_keep_39 ?_
    refine lv_bipush (pc := 42) hx hb dX2_keep_42 kb_8 ?_
    refine lv_icmp_ge (pc := 44) (tgt := 57) hx hb dX2_keep_44 (by decide) (fun c4 => ?_) (fun c4 => ?_)
    · have h := xpos c4 h
      exact xf_v (pc := 57) hx hb hr hlocks h hR hK hS dX2_keep_57
    · have h := xneg c4 h
      refine lv_aload_n (pc := 47) hx hb dX2_keep_47 rfl (lv_at hl 0 rfl) ?_
      refine lv_dup (pc := 48) hx hb dX2_keep_48 rfl ?_
      refine xr_getI (pc := 49) (ci := 6) hx hb hts inX2 hown hK hR rfl k0.1 2 (Nat.le_of_ble_eq_true rfl) rfl (hts _ q_f_X2_22) (fun _ h9 => h9) dX2_keep_49 ?_
      refine lv_iconst (pc := 52) hx hb dX2_keep_52 kc_1 ?_
      refine lv_iadd (pc := 53) hx hb dX2_keep_53 ?_
      refine xr_putI (pc := 54) (ci := 6) (ty := .int) hx hb hts inX2 tyX2 tyX2_ok nmX2 hown hK hR hF hS rfl k0.1 2 (Nat.le_of_ble_eq_true rfl) rfl (hts _ q_f_X2_22) (fun _ h9 => h9) rfl rfl rfl rfl dX2_keep_54 (fun H locs hR hS => ?_)
      exact xf_v (pc := 57) hx hb hr hlocks h hR hK hS dX2_keep_57
  · have h := xneg c3 h
    refine lv_aload_n (pc := 25) hx hb dX2_keep_25 rfl (lv_at hl 0 rfl) ?_
    refine xr_getI (pc := 26) (ci := 6) hx hb hts inX2 hown hK hR rfl k0.1 1 (Nat.le_of_ble_eq_true rfl) rfl (hts _ q_f_X2_18) (fun _ h9 => h9) dX2_keep_26 ?_
    refine lv_iconst (pc := 29) hx hb dX2_keep_29 kc_1 ?_
    refine lv_iadd (pc := 30) hx hb dX2_keep_30 ?_
    refine lv_goto (pc := 31) (tgt := 35) hx hb dX2_keep_31 (by decide) ?_
    refine xr_putI (pc := 35) (ci := 6) (ty := .int) hx hb hts inX2 tyX2 tyX2_ok nmX2 hown hK hR hF hS rfl k0.1 1 (Nat.le_of_ble_eq_true rfl) rfl (hts _ q_f_X2_18) (fun _ h9 => h9) rfl rfl rfl rfl dX2_keep_35 (fun H locs hR hS => ?_)
    refine lv_aload_n (pc := 38) hx hb dX2_keep_38 rfl (lv_at hl 0 rfl) ?_
    refine xr_getI (pc := 39) (ci := 6) hx hb hts inX2 hown hK hR rfl k0.1 2 (Nat.le_of_ble_eq_true rfl) rfl (hts _ q_f_X2_22) (fun _ h9 => h9) dX2_keep_39 ?_
    refine lv_bipush (pc := 42) hx hb dX2_keep_42 kb_8 ?_
    refine lv_icmp_ge (pc := 44) (tgt := 57) hx hb dX2_keep_44 (by decide) (fun c5 => ?_) (fun c5 => ?_)
    · have h := xpos c5 h
      exact xf_v (pc := 57) hx hb hr hlocks h hR hK hS dX2_keep_57
    · have h := xneg c5 h
      refine lv_aload_n (pc := 47) hx hb dX2_keep_47 rfl (lv_at hl 0 rfl) ?_
      refine lv_dup (pc := 48) hx hb dX2_keep_48 rfl ?_
      refine xr_getI (pc := 49) (ci := 6) hx hb hts inX2 hown hK hR rfl k0.1 2 (Nat.le_of_ble_eq_true rfl) rfl (hts _ q_f_X2_22) (fun _ h9 => h9) dX2_keep_49 ?_
      refine lv_iconst (pc := 52) hx hb dX2_keep_52 kc_1 ?_
      refine lv_iadd (pc := 53) hx hb dX2_keep_53 ?_
      refine xr_putI (pc := 54) (ci := 6) (ty := .int) hx hb hts inX2 tyX2 tyX2_ok nmX2 hown hK hR hF hS rfl k0.1 2 (Nat.le_of_ble_eq_true rfl) rfl (hts _ q_f_X2_22) (fun _ h9 => h9) rfl rfl rfl rfl dX2_keep_54 (fun H locs hR hS => ?_)
      exact xf_v (pc := 57) hx hb hr hlocks h hR hK hS dX2_keep_57
set_option maxHeartbeats 1000000 in
set_option maxRecDepth 20000 in
theorem mX2_takeBack {l : Launch} {D : va_G} {ca : Nat → ClassId} {z : Nat} {G : xG} {X : va_W} {ad av : Nat → Nat} (hF : xFix z G X) (h0 : Nat) (h1 : Nat) (k0 : xI_History G h0) (k1 : xI_Bank G h1) {μ μ1 : xM} (h : fX2_takeBack h0 h1 μ = some μ1) : xMv l yX2_takeBack (xws yX2_takeBack cX2_takeBack 2 none) 2 D ca z G X ad av [.ref h0, .ref h1] μ μ1 := by
  refine xm_v (by decide) rfl (Nat.le_of_ble_eq_true rfl) [(0, .ref h0), (1, .ref h1)] rfl ?_
  intro p e s m args below meth c ls hx hb hr hml hlocks hts hown hK hE hR hS hl
  have hts : ∀ w ∈ xAll, w.before args s = true := fun w hw => hts w (List.mem_cons_of_mem _ hw)
  rw [fX2_takeBack] at h
  refine lv_aload_n (pc := 0) hx hb dX2_takeBack_0 rfl (lv_at hl 0 rfl) ?_
  refine lv_aload_n (pc := 1) hx hb dX2_takeBack_1 rfl (lv_at hl 0 rfl) ?_
  refine xr_getI (pc := 2) (ci := 6) hx hb hts inX2 hown hK hR rfl k0.1 1 (Nat.le_of_ble_eq_true rfl) rfl (hts _ q_f_X2_18) (fun _ h9 => h9) dX2_takeBack_2 ?_
  refine lv_if_le (pc := 5) (tgt := 17) hx hb dX2_takeBack_5 (by decide) (fun c1 => ?_) (fun c1 => ?_)
  · have h := xpos c1 h
    refine lv_bipush (pc := 17) hx hb dX2_takeBack_17 kb_7 ?_
    refine xr_putI (pc := 19) (ci := 6) (ty := .int) hx hb hts inX2 tyX2 tyX2_ok nmX2 hown hK hR hF hS rfl k0.1 1 (Nat.le_of_ble_eq_true rfl) rfl (hts _ q_f_X2_18) (fun _ h9 => h9) rfl rfl rfl rfl dX2_takeBack_19 (fun H locs hR hS => ?_)
    refine lv_aload_n (pc := 22) hx hb dX2_takeBack_22 rfl (lv_at hl 1 rfl) ?_
    refine lv_aload_n (pc := 23) hx hb dX2_takeBack_23 rfl (lv_at hl 0 rfl) ?_
    refine xr_getR (pc := 24) (ci := 6) hx hb hts inX2 hown hK hR rfl k0.1 0 (Nat.le_of_ble_eq_true rfl) rfl k0.2.1 (hts _ q_f_X2_11) (fun _ h9 => h9) dX2_takeBack_24 ?_
    refine lv_aload_n (pc := 27) hx hb dX2_takeBack_27 rfl (lv_at hl 0 rfl) ?_
    refine xr_getI (pc := 28) (ci := 6) hx hb hts inX2 hown hK hR rfl k0.1 1 (Nat.le_of_ble_eq_true rfl) rfl (hts _ q_f_X2_18) (fun _ h9 => h9) dX2_takeBack_28 ?_
    obtain ⟨c2, h⟩ := xk_inv h
    refine xr_aald (pc := 31) hx hb hK hR 0 (by decide) k0.2.2.1 rfl k0.2.2.2.1 c2 (k0.2.2.2.2 _ (xlt c2)).1 dX2_takeBack_31 ?_
    obtain ⟨m3, c3, h⟩ := xbv_inv h
    refine xc_vV (pc := 32) (As := [.ref _]) (rest := []) ⟨hx, hb, hml, hown, hts⟩ (mX0_copyFrom hF _ _ k1 ((k0.2.2.2.2 _ (xlt c2)).2) c3) (xcwV 1 hts fdX0_copyFrom q_m_X2_25 ⟨Nat.le_of_ble_eq_true rfl, Nat.le_of_ble_eq_true rfl⟩) (xRecv hK hR (ci := 4) rfl k1.1) hR hK hE hS rfl hl.1 rfl (Nat.le_of_ble_eq_true rfl) dX2_takeBack_32 ⟨Nat.zero_le _, Nat.zero_le _⟩ (fun H locs hR hS => ?_)
    refine lv_aload_n (pc := 35) hx hb dX2_takeBack_35 rfl (lv_at hl 0 rfl) ?_
    refine lv_dup (pc := 36) hx hb dX2_takeBack_36 rfl ?_
    refine xr_getI (pc := 37) (ci := 6) hx hb hts inX2 hown hK hR rfl k0.1 2 (Nat.le_of_ble_eq_true rfl) rfl (hts _ q_f_X2_22) (fun _ h9 => h9) dX2_takeBack_37 ?_
    refine lv_iconst (pc := 40) hx hb dX2_takeBack_40 kc_1 ?_
    refine lv_isub (pc := 41) hx hb dX2_takeBack_41 ?_
    refine xr_putI (pc := 42) (ci := 6) (ty := .int) hx hb hts inX2 tyX2 tyX2_ok nmX2 hown hK hR hF hS rfl k0.1 2 (Nat.le_of_ble_eq_true rfl) rfl (hts _ q_f_X2_22) (fun _ h9 => h9) rfl rfl rfl rfl dX2_takeBack_42 (fun H locs hR hS => ?_)
    exact xf_v (pc := 45) hx hb hr hlocks h hR hK hS dX2_takeBack_45
  · have h := xneg c1 h
    refine lv_aload_n (pc := 8) hx hb dX2_takeBack_8 rfl (lv_at hl 0 rfl) ?_
    refine xr_getI (pc := 9) (ci := 6) hx hb hts inX2 hown hK hR rfl k0.1 1 (Nat.le_of_ble_eq_true rfl) rfl (hts _ q_f_X2_18) (fun _ h9 => h9) dX2_takeBack_9 ?_
    refine lv_iconst (pc := 12) hx hb dX2_takeBack_12 kc_1 ?_
    refine lv_isub (pc := 13) hx hb dX2_takeBack_13 ?_
    refine lv_goto (pc := 14) (tgt := 19) hx hb dX2_takeBack_14 (by decide) ?_
    refine xr_putI (pc := 19) (ci := 6) (ty := .int) hx hb hts inX2 tyX2 tyX2_ok nmX2 hown hK hR hF hS rfl k0.1 1 (Nat.le_of_ble_eq_true rfl) rfl (hts _ q_f_X2_18) (fun _ h9 => h9) rfl rfl rfl rfl dX2_takeBack_19 (fun H locs hR hS => ?_)
    refine lv_aload_n (pc := 22) hx hb dX2_takeBack_22 rfl (lv_at hl 1 rfl) ?_
    refine lv_aload_n (pc := 23) hx hb dX2_takeBack_23 rfl (lv_at hl 0 rfl) ?_
    refine xr_getR (pc := 24) (ci := 6) hx hb hts inX2 hown hK hR rfl k0.1 0 (Nat.le_of_ble_eq_true rfl) rfl k0.2.1 (hts _ q_f_X2_11) (fun _ h9 => h9) dX2_takeBack_24 ?_
    refine lv_aload_n (pc := 27) hx hb dX2_takeBack_27 rfl (lv_at hl 0 rfl) ?_
    refine xr_getI (pc := 28) (ci := 6) hx hb hts inX2 hown hK hR rfl k0.1 1 (Nat.le_of_ble_eq_true rfl) rfl (hts _ q_f_X2_18) (fun _ h9 => h9) dX2_takeBack_28 ?_
    obtain ⟨c4, h⟩ := xk_inv h
    refine xr_aald (pc := 31) hx hb hK hR 0 (by decide) k0.2.2.1 rfl k0.2.2.2.1 c4 (k0.2.2.2.2 _ (xlt c4)).1 dX2_takeBack_31 ?_
    obtain ⟨m5, c5, h⟩ := xbv_inv h
    refine xc_vV (pc := 32) (As := [.ref _]) (rest := []) ⟨hx, hb, hml, hown, hts⟩ (mX0_copyFrom hF _ _ k1 ((k0.2.2.2.2 _ (xlt c4)).2) c5) (xcwV 1 hts fdX0_copyFrom q_m_X2_25 ⟨Nat.le_of_ble_eq_true rfl, Nat.le_of_ble_eq_true rfl⟩) (xRecv hK hR (ci := 4) rfl k1.1) hR hK hE hS rfl hl.1 rfl (Nat.le_of_ble_eq_true rfl) dX2_takeBack_32 ⟨Nat.zero_le _, Nat.zero_le _⟩ (fun H locs hR hS => ?_)
    refine lv_aload_n (pc := 35) hx hb dX2_takeBack_35 rfl (lv_at hl 0 rfl) ?_
    refine lv_dup (pc := 36) hx hb dX2_takeBack_36 rfl ?_
    refine xr_getI (pc := 37) (ci := 6) hx hb hts inX2 hown hK hR rfl k0.1 2 (Nat.le_of_ble_eq_true rfl) rfl (hts _ q_f_X2_22) (fun _ h9 => h9) dX2_takeBack_37 ?_
    refine lv_iconst (pc := 40) hx hb dX2_takeBack_40 kc_1 ?_
    refine lv_isub (pc := 41) hx hb dX2_takeBack_41 ?_
    refine xr_putI (pc := 42) (ci := 6) (ty := .int) hx hb hts inX2 tyX2 tyX2_ok nmX2 hown hK hR hF hS rfl k0.1 2 (Nat.le_of_ble_eq_true rfl) rfl (hts _ q_f_X2_22) (fun _ h9 => h9) rfl rfl rfl rfl dX2_takeBack_42 (fun H locs hR hS => ?_)
    exact xf_v (pc := 45) hx hb hr hlocks h hR hK hS dX2_takeBack_45
set_option maxHeartbeats 1000000 in
set_option maxRecDepth 20000 in
theorem mX2_forget {l : Launch} {D : va_G} {ca : Nat → ClassId} {z : Nat} {G : xG} {X : va_W} {ad av : Nat → Nat} (hF : xFix z G X) (h0 : Nat) (k0 : xI_History G h0) {μ μ1 : xM} (h : fX2_forget h0 μ = some μ1) : xMv l yX2_forget (xws yX2_forget cX2_forget 1 none) 0 D ca z G X ad av [.ref h0] μ μ1 := by
  refine xm_v (by decide) rfl (Nat.le_of_ble_eq_true rfl) [(0, .ref h0)] rfl ?_
  intro p e s m args below meth c ls hx hb hr hml hlocks hts hown hK hE hR hS hl
  have hts : ∀ w ∈ xAll, w.before args s = true := fun w hw => hts w (List.mem_cons_of_mem _ hw)
  rw [fX2_forget] at h
  refine lv_aload_n (pc := 0) hx hb dX2_forget_0 rfl (lv_at hl 0 rfl) ?_
  refine lv_iconst (pc := 1) hx hb dX2_forget_1 kc_0 ?_
  refine xr_putI (pc := 2) (ci := 6) (ty := .int) hx hb hts inX2 tyX2 tyX2_ok nmX2 hown hK hR hF hS rfl k0.1 2 (Nat.le_of_ble_eq_true rfl) rfl (hts _ q_f_X2_22) (fun _ h9 => h9) rfl rfl rfl rfl dX2_forget_2 (fun H locs hR hS => ?_)
  exact xf_v (pc := 5) hx hb hr hlocks h hR hK hS dX2_forget_5
set_option maxHeartbeats 1000000 in
set_option maxRecDepth 20000 in
theorem mX7_isOwner {l : Launch} {D : va_G} {ca : Nat → ClassId} {z : Nat} {G : xG} {X : va_W} {ad av : Nat → Nat} (hF : xFix z G X) (p0 : Int32)  {μ μ1 : xM} {r : Int32} (h : fX7_isOwner p0 μ = some (r, μ1)) : xMi l yX7_isOwner (xws yX7_isOwner cX7_isOwner 1 (some .boolean)) 0 D ca z G X ad av [.int p0] μ r μ1 := by
  refine xm_i (by decide) rfl (Nat.le_of_ble_eq_true rfl) [(0, .int p0)] rfl ?_
  intro p e s m args below meth c ls hx hb hr hml hlocks hts hown hK hE hR hS hl
  have hts : ∀ w ∈ xAll, w.before args s = true := fun w hw => hts w (List.mem_cons_of_mem _ hw)
  rw [fX7_isOwner] at h
  refine lv_iload_n (pc := 0) hx hb dX7_isOwner_0 rfl (lv_at hl 0 rfl) ?_
  refine lv_if_lt (pc := 1) (tgt := 14) hx hb dX7_isOwner_1 (by decide) (fun c1 => ?_) (fun c1 => ?_)
  · have h := xpos c1 h
    refine lv_iconst (pc := 14) hx hb dX7_isOwner_14 kc_0 ?_
    exact xf_i (pc := 15) hx hb hr rfl hlocks h hR hK hS dX7_isOwner_15
  · have h := xneg c1 h
    refine lv_iload_n (pc := 4) hx hb dX7_isOwner_4 rfl (lv_at hl 0 rfl) ?_
    refine lv_bipush (pc := 5) hx hb dX7_isOwner_5 kb_6 ?_
    refine lv_icmp_ge (pc := 7) (tgt := 14) hx hb dX7_isOwner_7 (by decide) (fun c2 => ?_) (fun c2 => ?_)
    · have h := xpos c2 h
      refine lv_iconst (pc := 14) hx hb dX7_isOwner_14 kc_0 ?_
      exact xf_i (pc := 15) hx hb hr rfl hlocks h hR hK hS dX7_isOwner_15
    · have h := xneg c2 h
      refine lv_iconst (pc := 10) hx hb dX7_isOwner_10 kc_1 ?_
      refine lv_goto (pc := 11) (tgt := 15) hx hb dX7_isOwner_11 (by decide) ?_
      exact xf_i (pc := 15) hx hb hr rfl hlocks h hR hK hS dX7_isOwner_15
set_option maxHeartbeats 1000000 in
set_option maxRecDepth 20000 in
theorem mX1_refuse {l : Launch} {D : va_G} {ca : Nat → ClassId} {z : Nat} {G : xG} {X : va_W} {ad av : Nat → Nat} (hF : xFix z G X) (h0 : Nat) (p1 : Int32) (p2 : Int32) (k0 : xI_Clerk G h0) {μ μ1 : xM} {r : Int32} (h : fX1_refuse h0 p1 p2 μ = some (r, μ1)) : xMi l yX1_refuse (xws yX1_refuse cX1_refuse 3 (some .int)) 0 D ca z G X ad av [.ref h0, .int p1, .int p2] μ r μ1 := by
  refine xm_i (by decide) rfl (Nat.le_of_ble_eq_true rfl) [(0, .ref h0), (1, .int p1), (2, .int p2)] rfl ?_
  intro p e s m args below meth c ls hx hb hr hml hlocks hts hown hK hE hR hS hl
  have hts : ∀ w ∈ xAll, w.before args s = true := fun w hw => hts w (List.mem_cons_of_mem _ hw)
  rw [fX1_refuse] at h
  refine lv_aload_n (pc := 0) hx hb dX1_refuse_0 rfl (lv_at hl 0 rfl) ?_
  refine lv_iload_n (pc := 1) hx hb dX1_refuse_1 rfl (lv_at hl 2 rfl) ?_
  refine xr_putI (pc := 2) (ci := 5) (ty := .int) hx hb hts inX1 tyX1 tyX1_ok nmX1 hown hK hR hF hS rfl k0 0 (Nat.le_of_ble_eq_true rfl) rfl (hts _ q_f_X1_9) (fun _ h9 => h9) rfl rfl rfl rfl dX1_refuse_2 (fun H locs hR hS => ?_)
  refine lv_iload_n (pc := 5) hx hb dX1_refuse_5 rfl (lv_at hl 1 rfl) ?_
  exact xf_i (pc := 6) hx hb hr rfl hlocks h hR hK hS dX1_refuse_6
set_option maxHeartbeats 1000000 in
set_option maxRecDepth 20000 in
theorem mX1_examineSetting {l : Launch} {D : va_G} {ca : Nat → ClassId} {z : Nat} {G : xG} {X : va_W} {ad av : Nat → Nat} (hF : xFix z G X) (h0 : Nat) (p1 : Int32) (p2 : Int32) (p3 : Int32) (p4 : Int32) (k0 : xI_Clerk G h0) {μ μ1 : xM} {r : Int32} (h : fX1_examineSetting h0 p1 p2 p3 p4 μ = some (r, μ1)) : xMi l yX1_examineSetting (xws yX1_examineSetting cX1_examineSetting 5 (some .int)) 1 D ca z G X ad av [.ref h0, .int p1, .int p2, .int p3, .int p4] μ r μ1 := by
  refine xm_i (by decide) rfl (Nat.le_of_ble_eq_true rfl) [(0, .ref h0), (1, .int p1), (2, .int p2), (3, .int p3), (4, .int p4)] rfl ?_
  intro p e s m args below meth c ls hx hb hr hml hlocks hts hown hK hE hR hS hl
  have hts : ∀ w ∈ xAll, w.before args s = true := fun w hw => hts w (List.mem_cons_of_mem _ hw)
  rw [fX1_examineSetting] at h
  refine lv_iload_n (pc := 0) hx hb dX1_examineSetting_0 rfl (lv_at hl 1 rfl) ?_
  refine lv_iload_n (pc := 1) hx hb dX1_examineSetting_1 rfl (lv_at hl 2 rfl) ?_
  refine lv_icmp_lt (pc := 2) (tgt := 10) hx hb dX1_examineSetting_2 (by decide) (fun c1 => ?_) (fun c1 => ?_)
  · have h := xpos c1 h
    refine lv_bipush (pc := 10) hx hb dX1_examineSetting_10 kb_m2 ?_
    exact xf_i (pc := 12) hx hb hr rfl hlocks h hR hK hS dX1_examineSetting_12
  · have h := xneg c1 h
    refine lv_iload_n (pc := 5) hx hb dX1_examineSetting_5 rfl (lv_at hl 1 rfl) ?_
    refine lv_iload_n (pc := 6) hx hb dX1_examineSetting_6 rfl (lv_at hl 3 rfl) ?_
    refine lv_icmp_le (pc := 7) (tgt := 13) hx hb dX1_examineSetting_7 (by decide) (fun c2 => ?_) (fun c2 => ?_)
    · have h := xpos c2 h
      refine lv_iload_n (pc := 13) hx hb dX1_examineSetting_13 rfl (lv_at hl 1 rfl) ?_
      refine lv_iload (pc := 14) hx hb dX1_examineSetting_14 (lv_at hl 4 rfl) ?_
      refine lv_icmp_ne (pc := 16) (tgt := 30) hx hb dX1_examineSetting_16 (by decide) (fun c3 => ?_) (fun c3 => ?_)
      · have h := xneg c3 h
        refine lv_iconst (pc := 30) hx hb dX1_examineSetting_30 kc_0 ?_
        exact xf_i (pc := 31) hx hb hr rfl hlocks h hR hK hS dX1_examineSetting_31
      · have h := xpos c3 h
        refine lv_aload_n (pc := 19) hx hb dX1_examineSetting_19 rfl (lv_at hl 0 rfl) ?_
        refine lv_bipush (pc := 20) hx hb dX1_examineSetting_20 kb_10 ?_
        refine lv_iload (pc := 22) hx hb dX1_examineSetting_22 (lv_at hl 4 rfl) ?_
        obtain ⟨r4, m4, c4, h⟩ := xb_inv h
        refine xc_iV (pc := 24) (As := [.int _, .int _]) (rest := []) ⟨hx, hb, hml, hown, hts⟩ (mX1_refuse hF _ _ _ k0 c4) (xcwV 2 hts fdX1_refuse q_m_X1_57 ⟨Nat.le_of_ble_eq_true rfl, Nat.le_of_ble_eq_true rfl⟩) (xRecv hK hR (ci := 5) rfl k0) hR hK hE hS rfl hl.1 rfl (Nat.le_of_ble_eq_true rfl) dX1_examineSetting_24 ⟨Nat.zero_le _, Nat.zero_le _⟩ (fun H locs hR hS => ?_)
        refine lv_goto (pc := 27) (tgt := 31) hx hb dX1_examineSetting_27 (by decide) ?_
        exact xf_i (pc := 31) hx hb hr rfl hlocks h hR hK hS dX1_examineSetting_31
    · have h := xneg c2 h
      refine lv_bipush (pc := 10) hx hb dX1_examineSetting_10 kb_m2 ?_
      exact xf_i (pc := 12) hx hb hr rfl hlocks h hR hK hS dX1_examineSetting_12
set_option maxHeartbeats 1000000 in
set_option maxRecDepth 20000 in
theorem mX1_examineSale {l : Launch} {D : va_G} {ca : Nat → ClassId} {z : Nat} {G : xG} {X : va_W} {ad av : Nat → Nat} (hF : xFix z G X) (h0 : Nat) (h1 : Nat) (p2 : Int32) (k0 : xI_Clerk G h0) (k1 : xI_Pledge G h1) {μ μ1 : xM} {r : Int32} (h : fX1_examineSale h0 h1 p2 μ = some (r, μ1)) : xMi l yX1_examineSale (xws yX1_examineSale cX1_examineSale 3 (some .int)) 1 D ca z G X ad av [.ref h0, .ref h1, .int p2] μ r μ1 := by
  refine xm_i (by decide) rfl (Nat.le_of_ble_eq_true rfl) [(0, .ref h0), (1, .ref h1), (2, .int p2)] rfl ?_
  intro p e s m args below meth c ls hx hb hr hml hlocks hts hown hK hE hR hS hl
  have hts : ∀ w ∈ xAll, w.before args s = true := fun w hw => hts w (List.mem_cons_of_mem _ hw)
  rw [fX1_examineSale] at h
  refine lv_iload_n (pc := 0) hx hb dX1_examineSale_0 rfl (lv_at hl 2 rfl) ?_
  refine lv_iconst (pc := 1) hx hb dX1_examineSale_1 kc_1 ?_
  refine lv_icmp_lt (pc := 2) (tgt := 12) hx hb dX1_examineSale_2 (by decide) (fun c1 => ?_) (fun c1 => ?_)
  · have h := xpos c1 h
    refine lv_bipush (pc := 12) hx hb dX1_examineSale_12 kb_m2 ?_
    exact xf_i (pc := 14) hx hb hr rfl hlocks h hR hK hS dX1_examineSale_14
  · have h := xneg c1 h
    refine lv_iload_n (pc := 5) hx hb dX1_examineSale_5 rfl (lv_at hl 2 rfl) ?_
    refine lv_sipush (pc := 6) hx hb dX1_examineSale_6 ks_9999 ?_
    refine lv_icmp_le (pc := 9) (tgt := 15) hx hb dX1_examineSale_9 (by decide) (fun c2 => ?_) (fun c2 => ?_)
    · have h := xpos c2 h
      refine lv_aload_n (pc := 15) hx hb dX1_examineSale_15 rfl (lv_at hl 1 rfl) ?_
      refine xr_getI (pc := 16) (ci := 9) hx hb hts inX5 hown hK hR rfl k1 5 (Nat.le_of_ble_eq_true rfl) rfl (hts _ q_f_X1_85) (fun _ h9 => h9) dX1_examineSale_16 ?_
      refine lv_iconst (pc := 19) hx hb dX1_examineSale_19 kc_1 ?_
      refine lv_icmp_eq (pc := 20) (tgt := 34) hx hb dX1_examineSale_20 (by decide) (fun c3 => ?_) (fun c3 => ?_)
      · have h := xpos c3 h
        refine lv_iload_n (pc := 34) hx hb dX1_examineSale_34 rfl (lv_at hl 2 rfl) ?_
        refine lv_aload_n (pc := 35) hx hb dX1_examineSale_35 rfl (lv_at hl 1 rfl) ?_
        refine xr_getI (pc := 36) (ci := 9) hx hb hts inX5 hown hK hR rfl k1 8 (Nat.le_of_ble_eq_true rfl) rfl (hts _ q_f_X1_100) (fun _ h9 => h9) dX1_examineSale_36 ?_
        refine lv_icmp_ge (pc := 39) (tgt := 55) hx hb dX1_examineSale_39 (by decide) (fun c4 => ?_) (fun c4 => ?_)
        · have h := xpos c4 h
          refine lv_iconst (pc := 55) hx hb dX1_examineSale_55 kc_0 ?_
          exact xf_i (pc := 56) hx hb hr rfl hlocks h hR hK hS dX1_examineSale_56
        · have h := xneg c4 h
          refine lv_aload_n (pc := 42) hx hb dX1_examineSale_42 rfl (lv_at hl 0 rfl) ?_
          refine lv_bipush (pc := 43) hx hb dX1_examineSale_43 kb_8 ?_
          refine lv_aload_n (pc := 45) hx hb dX1_examineSale_45 rfl (lv_at hl 1 rfl) ?_
          refine xr_getI (pc := 46) (ci := 9) hx hb hts inX5 hown hK hR rfl k1 8 (Nat.le_of_ble_eq_true rfl) rfl (hts _ q_f_X1_100) (fun _ h9 => h9) dX1_examineSale_46 ?_
          obtain ⟨r5, m5, c5, h⟩ := xb_inv h
          refine xc_iV (pc := 49) (As := [.int _, .int _]) (rest := []) ⟨hx, hb, hml, hown, hts⟩ (mX1_refuse hF _ _ _ k0 c5) (xcwV 2 hts fdX1_refuse q_m_X1_57 ⟨Nat.le_of_ble_eq_true rfl, Nat.le_of_ble_eq_true rfl⟩) (xRecv hK hR (ci := 5) rfl k0) hR hK hE hS rfl hl.1 rfl (Nat.le_of_ble_eq_true rfl) dX1_examineSale_49 ⟨Nat.zero_le _, Nat.zero_le _⟩ (fun H locs hR hS => ?_)
          refine lv_goto (pc := 52) (tgt := 56) hx hb dX1_examineSale_52 (by decide) ?_
          exact xf_i (pc := 56) hx hb hr rfl hlocks h hR hK hS dX1_examineSale_56
      · have h := xneg c3 h
        refine lv_aload_n (pc := 23) hx hb dX1_examineSale_23 rfl (lv_at hl 0 rfl) ?_
        refine lv_bipush (pc := 24) hx hb dX1_examineSale_24 kb_7 ?_
        refine lv_aload_n (pc := 26) hx hb dX1_examineSale_26 rfl (lv_at hl 1 rfl) ?_
        refine xr_getI (pc := 27) (ci := 9) hx hb hts inX5 hown hK hR rfl k1 5 (Nat.le_of_ble_eq_true rfl) rfl (hts _ q_f_X1_85) (fun _ h9 => h9) dX1_examineSale_27 ?_
        obtain ⟨r6, m6, c6, h⟩ := xb_inv h
        refine xc_iV (pc := 30) (As := [.int _, .int _]) (rest := []) ⟨hx, hb, hml, hown, hts⟩ (mX1_refuse hF _ _ _ k0 c6) (xcwV 2 hts fdX1_refuse q_m_X1_57 ⟨Nat.le_of_ble_eq_true rfl, Nat.le_of_ble_eq_true rfl⟩) (xRecv hK hR (ci := 5) rfl k0) hR hK hE hS rfl hl.1 rfl (Nat.le_of_ble_eq_true rfl) dX1_examineSale_30 ⟨Nat.zero_le _, Nat.zero_le _⟩ (fun H locs hR hS => ?_)
        exact xf_i (pc := 33) hx hb hr rfl hlocks h hR hK hS dX1_examineSale_33
    · have h := xneg c2 h
      refine lv_bipush (pc := 12) hx hb dX1_examineSale_12 kb_m2 ?_
      exact xf_i (pc := 14) hx hb hr rfl hlocks h hR hK hS dX1_examineSale_14
set_option maxHeartbeats 1000000 in
set_option maxRecDepth 20000 in
theorem mX1_examinePledge {l : Launch} {D : va_G} {ca : Nat → ClassId} {z : Nat} {G : xG} {X : va_W} {ad av : Nat → Nat} (hF : xFix z G X) (h0 : Nat) (h1 : Nat) (h2 : Nat) (k0 : xI_Clerk G h0) (k1 : xI_Bank G h1) (k2 : xI_Order G h2) {μ μ1 : xM} {r : Int32} (h : fX1_examinePledge h0 h1 h2 μ = some (r, μ1)) : xMi l yX1_examinePledge (xws yX1_examinePledge cX1_examinePledge 4 (some .int)) 1 D ca z G X ad av [.ref h0, .ref h1, .ref h2] μ r μ1 := by
  refine xm_i (by decide) rfl (Nat.le_of_ble_eq_true rfl) [(0, .ref h0), (1, .ref h1), (2, .ref h2)] rfl ?_
  intro p e s m args below meth c ls hx hb hr hml hlocks hts hown hK hE hR hS hl
  have hts : ∀ w ∈ xAll, w.before args s = true := fun w hw => hts w (List.mem_cons_of_mem _ hw)
  rw [fX1_examinePledge] at h
  refine lv_aload_n (pc := 0) hx hb dX1_examinePledge_0 rfl (lv_at hl 2 rfl) ?_
  refine xr_getI (pc := 1) (ci := 8) hx hb hts inX4 hown hK hR rfl k2 1 (Nat.le_of_ble_eq_true rfl) rfl (hts _ q_f_X1_25) (fun _ h9 => h9) dX1_examinePledge_1 ?_
  obtain ⟨r1, m1, c1, h⟩ := xb_inv h
  refine xc_iSN (pc := 4) (As := [.int _]) (rest := []) ⟨hx, hb, hml, hown, hts⟩ (mX7_isOwner hF _  c1) (xcnS 1 hts fdX7_isOwner ⟨Nat.le_of_ble_eq_true rfl, Nat.le_of_ble_eq_true rfl⟩) (xNest hE) hR hK hE hS rfl hl.1 rfl (Nat.le_of_ble_eq_true rfl) dX1_examinePledge_4 ⟨Nat.zero_le _, Nat.zero_le _⟩ (fun H locs hR hS => ?_)
  refine lv_if_ne (pc := 7) (tgt := 12) hx hb dX1_examinePledge_7 (by decide) (fun c2 => ?_) (fun c2 => ?_)
  · have h := xneg c2 h
    refine lv_aload_n (pc := 12) hx hb dX1_examinePledge_12 rfl (lv_at hl 2 rfl) ?_
    refine xr_getI (pc := 13) (ci := 8) hx hb hts inX4 hown hK hR rfl k2 2 (Nat.le_of_ble_eq_true rfl) rfl (hts _ q_f_X1_51) (fun _ h9 => h9) dX1_examinePledge_13 ?_
    refine lv_iconst (pc := 16) hx hb dX1_examinePledge_16 kc_1 ?_
    refine lv_icmp_lt (pc := 17) (tgt := 38) hx hb dX1_examinePledge_17 (by decide) (fun c3 => ?_) (fun c3 => ?_)
    · have h := xpos c3 h
      refine lv_bipush (pc := 38) hx hb dX1_examinePledge_38 kb_m2 ?_
      exact xf_i (pc := 40) hx hb hr rfl hlocks h hR hK hS dX1_examinePledge_40
    · have h := xneg c3 h
      refine lv_aload_n (pc := 20) hx hb dX1_examinePledge_20 rfl (lv_at hl 2 rfl) ?_
      refine xr_getI (pc := 21) (ci := 8) hx hb hts inX4 hown hK hR rfl k2 2 (Nat.le_of_ble_eq_true rfl) rfl (hts _ q_f_X1_51) (fun _ h9 => h9) dX1_examinePledge_21 ?_
      refine lv_sipush (pc := 24) hx hb dX1_examinePledge_24 ks_999 ?_
      refine lv_icmp_gt (pc := 27) (tgt := 38) hx hb dX1_examinePledge_27 (by decide) (fun c4 => ?_) (fun c4 => ?_)
      · have h := xpos c4 h
        refine lv_bipush (pc := 38) hx hb dX1_examinePledge_38 kb_m2 ?_
        exact xf_i (pc := 40) hx hb hr rfl hlocks h hR hK hS dX1_examinePledge_40
      · have h := xneg c4 h
        refine lv_aload_n (pc := 30) hx hb dX1_examinePledge_30 rfl (lv_at hl 2 rfl) ?_
        refine xr_getI (pc := 31) (ci := 8) hx hb hts inX4 hown hK hR rfl k2 3 (Nat.le_of_ble_eq_true rfl) rfl (hts _ q_f_X1_54) (fun _ h9 => h9) dX1_examinePledge_31 ?_
        refine lv_iconst (pc := 34) hx hb dX1_examinePledge_34 kc_1 ?_
        refine lv_icmp_ge (pc := 35) (tgt := 41) hx hb dX1_examinePledge_35 (by decide) (fun c5 => ?_) (fun c5 => ?_)
        · have h := xpos c5 h
          refine lv_aload_n (pc := 41) hx hb dX1_examinePledge_41 rfl (lv_at hl 2 rfl) ?_
          refine xr_getI (pc := 42) (ci := 8) hx hb hts inX4 hown hK hR rfl k2 2 (Nat.le_of_ble_eq_true rfl) rfl (hts _ q_f_X1_51) (fun _ h9 => h9) dX1_examinePledge_42 ?_
          refine lv_bipush (pc := 45) hx hb dX1_examinePledge_45 kb_60 ?_
          refine lv_imul (pc := 47) hx hb dX1_examinePledge_47 ?_
          refine lv_bipush (pc := 48) hx hb dX1_examinePledge_48 kb_100 ?_
          refine lv_idiv (pc := 50) hx hb dX1_examinePledge_50 (by decide) ?_
          refine lv_istore_n (pc := 51) (lv' := [(3, .int _), (0, .ref _), (1, .ref _), (2, .ref _)]) hx hb dX1_examinePledge_51 rfl hl (Nat.le_of_ble_eq_true rfl) rfl (fun ls hl => ?_)
          refine lv_aload_n (pc := 52) hx hb dX1_examinePledge_52 rfl (lv_at hl 3 rfl) ?_
          refine xr_getI (pc := 53) (ci := 8) hx hb hts inX4 hown hK hR rfl k2 3 (Nat.le_of_ble_eq_true rfl) rfl (hts _ q_f_X1_54) (fun _ h9 => h9) dX1_examinePledge_53 ?_
          refine lv_iload_n (pc := 56) hx hb dX1_examinePledge_56 rfl (lv_at hl 0 rfl) ?_
          refine lv_icmp_le (pc := 57) (tgt := 67) hx hb dX1_examinePledge_57 (by decide) (fun c6 => ?_) (fun c6 => ?_)
          · have h := xpos c6 h
            refine lv_aload_n (pc := 67) hx hb dX1_examinePledge_67 rfl (lv_at hl 2 rfl) ?_
            refine xr_getI (pc := 68) (ci := 4) hx hb hts inX0 hown hK hR rfl k1.1 3 (Nat.le_of_ble_eq_true rfl) rfl (hts _ q_f_X1_61) (fun _ h9 => h9) dX1_examinePledge_68 ?_
            refine lv_bipush (pc := 71) hx hb dX1_examinePledge_71 kb_16 ?_
            refine lv_icmp_lt (pc := 73) (tgt := 84) hx hb dX1_examinePledge_73 (by decide) (fun c7 => ?_) (fun c7 => ?_)
            · have h := xpos c7 h
              refine lv_aload_n (pc := 84) hx hb dX1_examinePledge_84 rfl (lv_at hl 3 rfl) ?_
              refine xr_getI (pc := 85) (ci := 8) hx hb hts inX4 hown hK hR rfl k2 3 (Nat.le_of_ble_eq_true rfl) rfl (hts _ q_f_X1_54) (fun _ h9 => h9) dX1_examinePledge_85 ?_
              refine lv_aload_n (pc := 88) hx hb dX1_examinePledge_88 rfl (lv_at hl 2 rfl) ?_
              refine xr_getI (pc := 89) (ci := 4) hx hb hts inX0 hown hK hR rfl k1.1 7 (Nat.le_of_ble_eq_true rfl) rfl (hts _ q_f_X1_64) (fun _ h9 => h9) dX1_examinePledge_89 ?_
              refine lv_icmp_le (pc := 92) (tgt := 107) hx hb dX1_examinePledge_92 (by decide) (fun c8 => ?_) (fun c8 => ?_)
              · have h := xpos c8 h
                refine lv_iconst (pc := 107) hx hb dX1_examinePledge_107 kc_0 ?_
                exact xf_i (pc := 108) hx hb hr rfl hlocks h hR hK hS dX1_examinePledge_108
              · have h := xneg c8 h
                refine lv_aload_n (pc := 95) hx hb dX1_examinePledge_95 rfl (lv_at hl 1 rfl) ?_
                refine lv_iconst (pc := 96) hx hb dX1_examinePledge_96 kc_3 ?_
                refine lv_aload_n (pc := 97) hx hb dX1_examinePledge_97 rfl (lv_at hl 2 rfl) ?_
                refine xr_getI (pc := 98) (ci := 4) hx hb hts inX0 hown hK hR rfl k1.1 7 (Nat.le_of_ble_eq_true rfl) rfl (hts _ q_f_X1_64) (fun _ h9 => h9) dX1_examinePledge_98 ?_
                obtain ⟨r9, m9, c9, h⟩ := xb_inv h
                refine xc_iV (pc := 101) (As := [.int _, .int _]) (rest := []) ⟨hx, hb, hml, hown, hts⟩ (mX1_refuse hF _ _ _ k0 c9) (xcwV 2 hts fdX1_refuse q_m_X1_57 ⟨Nat.le_of_ble_eq_true rfl, Nat.le_of_ble_eq_true rfl⟩) (xRecv hK hR (ci := 5) rfl k0) hR hK hE hS rfl hl.1 rfl (Nat.le_of_ble_eq_true rfl) dX1_examinePledge_101 ⟨Nat.zero_le _, Nat.zero_le _⟩ (fun H locs hR hS => ?_)
                refine lv_goto (pc := 104) (tgt := 108) hx hb dX1_examinePledge_104 (by decide) ?_
                exact xf_i (pc := 108) hx hb hr rfl hlocks h hR hK hS dX1_examinePledge_108
            · have h := xneg c7 h
              refine lv_aload_n (pc := 76) hx hb dX1_examinePledge_76 rfl (lv_at hl 1 rfl) ?_
              refine lv_iconst (pc := 77) hx hb dX1_examinePledge_77 kc_1 ?_
              refine lv_bipush (pc := 78) hx hb dX1_examinePledge_78 kb_16 ?_
              obtain ⟨r10, m10, c10, h⟩ := xb_inv h
              refine xc_iV (pc := 80) (As := [.int _, .int _]) (rest := []) ⟨hx, hb, hml, hown, hts⟩ (mX1_refuse hF _ _ _ k0 c10) (xcwV 2 hts fdX1_refuse q_m_X1_57 ⟨Nat.le_of_ble_eq_true rfl, Nat.le_of_ble_eq_true rfl⟩) (xRecv hK hR (ci := 5) rfl k0) hR hK hE hS rfl hl.1 rfl (Nat.le_of_ble_eq_true rfl) dX1_examinePledge_80 ⟨Nat.zero_le _, Nat.zero_le _⟩ (fun H locs hR hS => ?_)
              exact xf_i (pc := 83) hx hb hr rfl hlocks h hR hK hS dX1_examinePledge_83
          · have h := xneg c6 h
            refine lv_aload_n (pc := 60) hx hb dX1_examinePledge_60 rfl (lv_at hl 1 rfl) ?_
            refine lv_iconst (pc := 61) hx hb dX1_examinePledge_61 kc_2 ?_
            refine lv_iload_n (pc := 62) hx hb dX1_examinePledge_62 rfl (lv_at hl 0 rfl) ?_
            obtain ⟨r11, m11, c11, h⟩ := xb_inv h
            refine xc_iV (pc := 63) (As := [.int _, .int _]) (rest := []) ⟨hx, hb, hml, hown, hts⟩ (mX1_refuse hF _ _ _ k0 c11) (xcwV 2 hts fdX1_refuse q_m_X1_57 ⟨Nat.le_of_ble_eq_true rfl, Nat.le_of_ble_eq_true rfl⟩) (xRecv hK hR (ci := 5) rfl k0) hR hK hE hS rfl hl.1 rfl (Nat.le_of_ble_eq_true rfl) dX1_examinePledge_63 ⟨Nat.zero_le _, Nat.zero_le _⟩ (fun H locs hR hS => ?_)
            exact xf_i (pc := 66) hx hb hr rfl hlocks h hR hK hS dX1_examinePledge_66
        · have h := xneg c5 h
          refine lv_bipush (pc := 38) hx hb dX1_examinePledge_38 kb_m2 ?_
          exact xf_i (pc := 40) hx hb hr rfl hlocks h hR hK hS dX1_examinePledge_40
  · have h := xpos c2 h
    refine lv_iconst (pc := 10) hx hb dX1_examinePledge_10 kc_m1 ?_
    exact xf_i (pc := 11) hx hb hr rfl hlocks h hR hK hS dX1_examinePledge_11
set_option maxHeartbeats 1000000 in
set_option maxRecDepth 20000 in
theorem mX1_examineClaim {l : Launch} {D : va_G} {ca : Nat → ClassId} {z : Nat} {G : xG} {X : va_W} {ad av : Nat → Nat} (hF : xFix z G X) (h0 : Nat) (h1 : Nat) (p2 : Int32) (k0 : xI_Clerk G h0) (k1 : xI_Bank G h1) {μ μ1 : xM} {r : Int32} (h : fX1_examineClaim h0 h1 p2 μ = some (r, μ1)) : xMi l yX1_examineClaim (xws yX1_examineClaim cX1_examineClaim 3 (some .int)) 1 D ca z G X ad av [.ref h0, .ref h1, .int p2] μ r μ1 := by
  refine xm_i (by decide) rfl (Nat.le_of_ble_eq_true rfl) [(0, .ref h0), (1, .ref h1), (2, .int p2)] rfl ?_
  intro p e s m args below meth c ls hx hb hr hml hlocks hts hown hK hE hR hS hl
  have hts : ∀ w ∈ xAll, w.before args s = true := fun w hw => hts w (List.mem_cons_of_mem _ hw)
  rw [fX1_examineClaim] at h
  refine lv_iload_n (pc := 0) hx hb dX1_examineClaim_0 rfl (lv_at hl 2 rfl) ?_
  obtain ⟨r1, m1, c1, h⟩ := xb_inv h
  refine xc_iSN (pc := 1) (As := [.int _]) (rest := []) ⟨hx, hb, hml, hown, hts⟩ (mX7_isOwner hF _  c1) (xcnS 1 hts fdX7_isOwner ⟨Nat.le_of_ble_eq_true rfl, Nat.le_of_ble_eq_true rfl⟩) (xNest hE) hR hK hE hS rfl hl.1 rfl (Nat.le_of_ble_eq_true rfl) dX1_examineClaim_1 ⟨Nat.zero_le _, Nat.zero_le _⟩ (fun H locs hR hS => ?_)
  refine lv_if_ne (pc := 4) (tgt := 9) hx hb dX1_examineClaim_4 (by decide) (fun c2 => ?_) (fun c2 => ?_)
  · have h := xneg c2 h
    refine lv_aload_n (pc := 9) hx hb dX1_examineClaim_9 rfl (lv_at hl 1 rfl) ?_
    refine xr_getR (pc := 10) (ci := 4) hx hb hts inX0 hown hK hR rfl k1.1 1 (Nat.le_of_ble_eq_true rfl) rfl k1.2.2.1.1 (hts _ q_f_X1_67) (fun _ h9 => h9) dX1_examineClaim_10 ?_
    refine lv_iload_n (pc := 13) hx hb dX1_examineClaim_13 rfl (lv_at hl 2 rfl) ?_
    obtain ⟨c3, h⟩ := xk_inv h
    refine xr_ialdk (pc := 14) (Int32.toNatClampNeg p2) hx hb hK hR k1.2.2.1.2.1 k1.2.2.1.2.2 rfl c3 dX1_examineClaim_14 ?_
    refine lv_if_ne (pc := 15) (tgt := 31) hx hb dX1_examineClaim_15 (by decide) (fun c4 => ?_) (fun c4 => ?_)
    · have h := xneg c4 h
      refine lv_aload_n (pc := 31) hx hb dX1_examineClaim_31 rfl (lv_at hl 1 rfl) ?_
      refine xr_getR (pc := 32) (ci := 4) hx hb hts inX0 hown hK hR rfl k1.1 1 (Nat.le_of_ble_eq_true rfl) rfl k1.2.2.1.1 (hts _ q_f_X1_67) (fun _ h9 => h9) dX1_examineClaim_32 ?_
      refine lv_iload_n (pc := 35) hx hb dX1_examineClaim_35 rfl (lv_at hl 2 rfl) ?_
      obtain ⟨c5, h⟩ := xk_inv h
      refine xr_ialdk (pc := 36) (Int32.toNatClampNeg p2) hx hb hK hR k1.2.2.1.2.1 k1.2.2.1.2.2 rfl c5 dX1_examineClaim_36 ?_
      refine lv_aload_n (pc := 37) hx hb dX1_examineClaim_37 rfl (lv_at hl 1 rfl) ?_
      refine xr_getI (pc := 38) (ci := 4) hx hb hts inX0 hown hK hR rfl k1.1 7 (Nat.le_of_ble_eq_true rfl) rfl (hts _ q_f_X1_64) (fun _ h9 => h9) dX1_examineClaim_38 ?_
      refine lv_icmp_le (pc := 41) (tgt := 56) hx hb dX1_examineClaim_41 (by decide) (fun c6 => ?_) (fun c6 => ?_)
      · have h := xpos c6 h
        refine lv_iconst (pc := 56) hx hb dX1_examineClaim_56 kc_0 ?_
        exact xf_i (pc := 57) hx hb hr rfl hlocks h hR hK hS dX1_examineClaim_57
      · have h := xneg c6 h
        refine lv_aload_n (pc := 44) hx hb dX1_examineClaim_44 rfl (lv_at hl 0 rfl) ?_
        refine lv_iconst (pc := 45) hx hb dX1_examineClaim_45 kc_3 ?_
        refine lv_aload_n (pc := 46) hx hb dX1_examineClaim_46 rfl (lv_at hl 1 rfl) ?_
        refine xr_getI (pc := 47) (ci := 4) hx hb hts inX0 hown hK hR rfl k1.1 7 (Nat.le_of_ble_eq_true rfl) rfl (hts _ q_f_X1_64) (fun _ h9 => h9) dX1_examineClaim_47 ?_
        obtain ⟨r7, m7, c7, h⟩ := xb_inv h
        refine xc_iV (pc := 50) (As := [.int _, .int _]) (rest := []) ⟨hx, hb, hml, hown, hts⟩ (mX1_refuse hF _ _ _ k0 c7) (xcwV 2 hts fdX1_refuse q_m_X1_57 ⟨Nat.le_of_ble_eq_true rfl, Nat.le_of_ble_eq_true rfl⟩) (xRecv hK hR (ci := 5) rfl k0) hR hK hE hS rfl hl.1 rfl (Nat.le_of_ble_eq_true rfl) dX1_examineClaim_50 ⟨Nat.zero_le _, Nat.zero_le _⟩ (fun H locs hR hS => ?_)
        refine lv_goto (pc := 53) (tgt := 57) hx hb dX1_examineClaim_53 (by decide) ?_
        exact xf_i (pc := 57) hx hb hr rfl hlocks h hR hK hS dX1_examineClaim_57
    · have h := xpos c4 h
      refine lv_aload_n (pc := 18) hx hb dX1_examineClaim_18 rfl (lv_at hl 0 rfl) ?_
      refine lv_bipush (pc := 19) hx hb dX1_examineClaim_19 kb_9 ?_
      refine lv_aload_n (pc := 21) hx hb dX1_examineClaim_21 rfl (lv_at hl 1 rfl) ?_
      refine lv_iload_n (pc := 22) hx hb dX1_examineClaim_22 rfl (lv_at hl 2 rfl) ?_
      refine lv_iconst (pc := 23) hx hb dX1_examineClaim_23 kc_3 ?_
      obtain ⟨r8, m8, c8, h⟩ := xb_inv h
      refine xc_iV (pc := 24) (As := [.int _, .int _]) (rest := [.int _, .ref _]) ⟨hx, hb, hml, hown, hts⟩ (mX0_countOf hF _ _ _ k1 c8) (xcwV 2 hts fdX0_countOf q_m_X1_71 ⟨Nat.le_of_ble_eq_true rfl, Nat.le_of_ble_eq_true rfl⟩) (xRecv hK hR (ci := 4) rfl k1.1) hR hK hE hS rfl hl.1 rfl (Nat.le_of_ble_eq_true rfl) dX1_examineClaim_24 ⟨Nat.zero_le _, Nat.zero_le _⟩ (fun H locs hR hS => ?_)
      obtain ⟨r9, m9, c9, h⟩ := xb_inv h
      refine xc_iV (pc := 27) (As := [.int _, .int _]) (rest := []) ⟨hx, hb, hml, hown, hts⟩ (mX1_refuse hF _ _ _ k0 c9) (xcwV 2 hts fdX1_refuse q_m_X1_57 ⟨Nat.le_of_ble_eq_true rfl, Nat.le_of_ble_eq_true rfl⟩) (xRecv hK hR (ci := 5) rfl k0) hR hK hE hS rfl hl.1 rfl (Nat.le_of_ble_eq_true rfl) dX1_examineClaim_27 ⟨Nat.zero_le _, Nat.zero_le _⟩ (fun H locs hR hS => ?_)
      exact xf_i (pc := 30) hx hb hr rfl hlocks h hR hK hS dX1_examineClaim_30
  · have h := xpos c2 h
    refine lv_iconst (pc := 7) hx hb dX1_examineClaim_7 kc_m1 ?_
    exact xf_i (pc := 8) hx hb hr rfl hlocks h hR hK hS dX1_examineClaim_8
set_option maxHeartbeats 1000000 in
set_option maxRecDepth 20000 in
theorem mX1_examineTicket {l : Launch} {D : va_G} {ca : Nat → ClassId} {z : Nat} {G : xG} {X : va_W} {ad av : Nat → Nat} (hF : xFix z G X) (h0 : Nat) (h1 : Nat) (h2 : Nat) (k0 : xI_Clerk G h0) (k1 : xI_Bank G h1) (k2 : xI_Order G h2) {μ μ1 : xM} {r : Int32} (h : fX1_examineTicket h0 h1 h2 μ = some (r, μ1)) : xMi l yX1_examineTicket (xws yX1_examineTicket cX1_examineTicket 4 (some .int)) 2 D ca z G X ad av [.ref h0, .ref h1, .ref h2] μ r μ1 := by
  refine xm_i (by decide) rfl (Nat.le_of_ble_eq_true rfl) [(0, .ref h0), (1, .ref h1), (2, .ref h2)] rfl ?_
  intro p e s m args below meth c ls hx hb hr hml hlocks hts hown hK hE hR hS hl
  have hts : ∀ w ∈ xAll, w.before args s = true := fun w hw => hts w (List.mem_cons_of_mem _ hw)
  rw [fX1_examineTicket] at h
  refine lv_aload_n (pc := 0) hx hb dX1_examineTicket_0 rfl (lv_at hl 1 rfl) ?_
  refine lv_aload_n (pc := 1) hx hb dX1_examineTicket_1 rfl (lv_at hl 2 rfl) ?_
  refine xr_getI (pc := 2) (ci := 8) hx hb hts inX4 hown hK hR rfl k2 1 (Nat.le_of_ble_eq_true rfl) rfl (hts _ q_f_X1_25) (fun _ h9 => h9) dX1_examineTicket_2 ?_
  obtain ⟨r1, m1, c1, h⟩ := xb_inv h
  refine xc_iV (pc := 5) (As := [.int _]) (rest := []) ⟨hx, hb, hml, hown, hts⟩ (mX0_hasTicket hF _ _ k1 c1) (xcwV 1 hts fdX0_hasTicket q_m_X1_74 ⟨Nat.le_of_ble_eq_true rfl, Nat.le_of_ble_eq_true rfl⟩) (xRecv hK hR (ci := 4) rfl k1.1) hR hK hE hS rfl hl.1 rfl (Nat.le_of_ble_eq_true rfl) dX1_examineTicket_5 ⟨Nat.zero_le _, Nat.zero_le _⟩ (fun H locs hR hS => ?_)
  refine lv_if_ne (pc := 8) (tgt := 14) hx hb dX1_examineTicket_8 (by decide) (fun c2 => ?_) (fun c2 => ?_)
  · have h := xneg c2 h
    refine lv_aload_n (pc := 14) hx hb dX1_examineTicket_14 rfl (lv_at hl 1 rfl) ?_
    refine xr_getR (pc := 15) (ci := 4) hx hb hts inX0 hown hK hR rfl k1.1 0 (Nat.le_of_ble_eq_true rfl) rfl k1.2.1.1 (hts _ q_f_X1_77) (fun _ h9 => h9) dX1_examineTicket_15 ?_
    refine lv_aload_n (pc := 18) hx hb dX1_examineTicket_18 rfl (lv_at hl 2 rfl) ?_
    refine xr_getI (pc := 19) (ci := 8) hx hb hts inX4 hown hK hR rfl k2 1 (Nat.le_of_ble_eq_true rfl) rfl (hts _ q_f_X1_25) (fun _ h9 => h9) dX1_examineTicket_19 ?_
    obtain ⟨c3, h⟩ := xk_inv h
    refine xr_aald (pc := 22) hx hb hK hR 2 (by decide) k1.2.1.2.1 rfl k1.2.1.2.2.1 c3 (k1.2.1.2.2.2 _ (xlt c3)).1 dX1_examineTicket_22 ?_
    refine lv_astore_n (pc := 23) (lv' := [(3, .ref _), (0, .ref _), (1, .ref _), (2, .ref _)]) hx hb dX1_examineTicket_23 rfl hl (Nat.le_of_ble_eq_true rfl) rfl (fun ls hl => ?_)
    refine lv_aload_n (pc := 24) hx hb dX1_examineTicket_24 rfl (lv_at hl 3 rfl) ?_
    refine xr_getI (pc := 25) (ci := 8) hx hb hts inX4 hown hK hR rfl k2 0 (Nat.le_of_ble_eq_true rfl) rfl (hts _ q_f_X1_15) (fun _ h9 => h9) dX1_examineTicket_25 ?_
    refine lv_bipush (pc := 28) hx hb dX1_examineTicket_28 kb_115 ?_
    refine lv_icmp_ne (pc := 30) (tgt := 43) hx hb dX1_examineTicket_30 (by decide) (fun c4 => ?_) (fun c4 => ?_)
    · have h := xneg c4 h
      refine lv_aload_n (pc := 43) hx hb dX1_examineTicket_43 rfl (lv_at hl 3 rfl) ?_
      refine xr_getI (pc := 44) (ci := 8) hx hb hts inX4 hown hK hR rfl k2 0 (Nat.le_of_ble_eq_true rfl) rfl (hts _ q_f_X1_15) (fun _ h9 => h9) dX1_examineTicket_44 ?_
      refine lv_bipush (pc := 47) hx hb dX1_examineTicket_47 kb_121 ?_
      refine lv_icmp_ne (pc := 49) (tgt := 63) hx hb dX1_examineTicket_49 (by decide) (fun c5 => ?_) (fun c5 => ?_)
      · have h := xneg c5 h
        refine lv_aload_n (pc := 63) hx hb dX1_examineTicket_63 rfl (lv_at hl 0 rfl) ?_
        refine xr_getI (pc := 64) (ci := 9) hx hb hts inX5 hown hK hR rfl ((k1.2.1.2.2.2 _ (xlt c3)).2) 5 (Nat.le_of_ble_eq_true rfl) rfl (hts _ q_f_X1_85) (fun _ h9 => h9) dX1_examineTicket_64 ?_
        refine lv_if_eq (pc := 67) (tgt := 80) hx hb dX1_examineTicket_67 (by decide) (fun c6 => ?_) (fun c6 => ?_)
        · have h := xpos c6 h
          refine lv_aload_n (pc := 80) hx hb dX1_examineTicket_80 rfl (lv_at hl 3 rfl) ?_
          refine xr_getI (pc := 81) (ci := 8) hx hb hts inX4 hown hK hR rfl k2 0 (Nat.le_of_ble_eq_true rfl) rfl (hts _ q_f_X1_15) (fun _ h9 => h9) dX1_examineTicket_81 ?_
          refine lv_bipush (pc := 84) hx hb dX1_examineTicket_84 kb_121 ?_
          refine lv_icmp_ne (pc := 86) (tgt := 110) hx hb dX1_examineTicket_86 (by decide) (fun c7 => ?_) (fun c7 => ?_)
          · have h := xneg c7 h
            refine lv_aload_n (pc := 110) hx hb dX1_examineTicket_110 rfl (lv_at hl 3 rfl) ?_
            refine xr_getI (pc := 111) (ci := 8) hx hb hts inX4 hown hK hR rfl k2 0 (Nat.le_of_ble_eq_true rfl) rfl (hts _ q_f_X1_15) (fun _ h9 => h9) dX1_examineTicket_111 ?_
            refine lv_bipush (pc := 114) hx hb dX1_examineTicket_114 kb_110 ?_
            refine lv_icmp_ne (pc := 116) (tgt := 137) hx hb dX1_examineTicket_116 (by decide) (fun c8 => ?_) (fun c8 => ?_)
            · have h := xneg c8 h
              refine lv_iconst (pc := 137) hx hb dX1_examineTicket_137 kc_0 ?_
              exact xf_i (pc := 138) hx hb hr rfl hlocks h hR hK hS dX1_examineTicket_138
            · have h := xpos c8 h
              refine lv_aload_n (pc := 119) hx hb dX1_examineTicket_119 rfl (lv_at hl 0 rfl) ?_
              refine xr_getI (pc := 120) (ci := 9) hx hb hts inX5 hown hK hR rfl ((k1.2.1.2.2.2 _ (xlt c3)).2) 4 (Nat.le_of_ble_eq_true rfl) rfl (hts _ q_f_X1_94) (fun _ h9 => h9) dX1_examineTicket_120 ?_
              refine lv_if_ne (pc := 123) (tgt := 137) hx hb dX1_examineTicket_123 (by decide) (fun c9 => ?_) (fun c9 => ?_)
              · have h := xneg c9 h
                refine lv_iconst (pc := 137) hx hb dX1_examineTicket_137 kc_0 ?_
                exact xf_i (pc := 138) hx hb hr rfl hlocks h hR hK hS dX1_examineTicket_138
              · have h := xpos c9 h
                refine lv_aload_n (pc := 126) hx hb dX1_examineTicket_126 rfl (lv_at hl 1 rfl) ?_
                refine lv_bipush (pc := 127) hx hb dX1_examineTicket_127 kb_6 ?_
                refine lv_aload_n (pc := 129) hx hb dX1_examineTicket_129 rfl (lv_at hl 0 rfl) ?_
                refine xr_getI (pc := 130) (ci := 9) hx hb hts inX5 hown hK hR rfl ((k1.2.1.2.2.2 _ (xlt c3)).2) 3 (Nat.le_of_ble_eq_true rfl) rfl (hts _ q_f_X1_97) (fun _ h9 => h9) dX1_examineTicket_130 ?_
                obtain ⟨r10, m10, c10, h⟩ := xb_inv h
                refine xc_iV (pc := 133) (As := [.int _, .int _]) (rest := []) ⟨hx, hb, hml, hown, hts⟩ (mX1_refuse hF _ _ _ k0 c10) (xcwV 2 hts fdX1_refuse q_m_X1_57 ⟨Nat.le_of_ble_eq_true rfl, Nat.le_of_ble_eq_true rfl⟩) (xRecv hK hR (ci := 5) rfl k0) hR hK hE hS rfl hl.1 rfl (Nat.le_of_ble_eq_true rfl) dX1_examineTicket_133 ⟨Nat.zero_le _, Nat.zero_le _⟩ (fun H locs hR hS => ?_)
                exact xf_i (pc := 136) hx hb hr rfl hlocks h hR hK hS dX1_examineTicket_136
          · have h := xpos c7 h
            refine lv_aload_n (pc := 89) hx hb dX1_examineTicket_89 rfl (lv_at hl 3 rfl) ?_
            refine xr_getI (pc := 90) (ci := 8) hx hb hts inX4 hown hK hR rfl k2 2 (Nat.le_of_ble_eq_true rfl) rfl (hts _ q_f_X1_51) (fun _ h9 => h9) dX1_examineTicket_90 ?_
            refine lv_aload_n (pc := 93) hx hb dX1_examineTicket_93 rfl (lv_at hl 0 rfl) ?_
            obtain ⟨r11, m11, c11, h⟩ := xb_inv h
            refine xc_iV (pc := 94) (As := []) (rest := [.int _]) ⟨hx, hb, hml, hown, hts⟩ (mX5_owed hF _ ((k1.2.1.2.2.2 _ (xlt c3)).2) c11) (xcwV 0 hts fdX5_owed q_m_X1_90 ⟨Nat.le_of_ble_eq_true rfl, Nat.le_of_ble_eq_true rfl⟩) (xRecv hK hR (ci := 9) rfl ((k1.2.1.2.2.2 _ (xlt c3)).2)) hR hK hE hS rfl hl.1 rfl (Nat.le_of_ble_eq_true rfl) dX1_examineTicket_94 ⟨Nat.zero_le _, Nat.zero_le _⟩ (fun H locs hR hS => ?_)
            refine lv_icmp_lt (pc := 97) (tgt := 110) hx hb dX1_examineTicket_97 (by decide) (fun c12 => ?_) (fun c12 => ?_)
            · have h := xpos c12 h
              refine lv_aload_n (pc := 110) hx hb dX1_examineTicket_110 rfl (lv_at hl 3 rfl) ?_
              refine xr_getI (pc := 111) (ci := 8) hx hb hts inX4 hown hK hR rfl k2 0 (Nat.le_of_ble_eq_true rfl) rfl (hts _ q_f_X1_15) (fun _ h9 => h9) dX1_examineTicket_111 ?_
              refine lv_bipush (pc := 114) hx hb dX1_examineTicket_114 kb_110 ?_
              refine lv_icmp_ne (pc := 116) (tgt := 137) hx hb dX1_examineTicket_116 (by decide) (fun c13 => ?_) (fun c13 => ?_)
              · have h := xneg c13 h
                refine lv_iconst (pc := 137) hx hb dX1_examineTicket_137 kc_0 ?_
                exact xf_i (pc := 138) hx hb hr rfl hlocks h hR hK hS dX1_examineTicket_138
              · have h := xpos c13 h
                refine lv_aload_n (pc := 119) hx hb dX1_examineTicket_119 rfl (lv_at hl 0 rfl) ?_
                refine xr_getI (pc := 120) (ci := 9) hx hb hts inX5 hown hK hR rfl ((k1.2.1.2.2.2 _ (xlt c3)).2) 4 (Nat.le_of_ble_eq_true rfl) rfl (hts _ q_f_X1_94) (fun _ h9 => h9) dX1_examineTicket_120 ?_
                refine lv_if_ne (pc := 123) (tgt := 137) hx hb dX1_examineTicket_123 (by decide) (fun c14 => ?_) (fun c14 => ?_)
                · have h := xneg c14 h
                  refine lv_iconst (pc := 137) hx hb dX1_examineTicket_137 kc_0 ?_
                  exact xf_i (pc := 138) hx hb hr rfl hlocks h hR hK hS dX1_examineTicket_138
                · have h := xpos c14 h
                  refine lv_aload_n (pc := 126) hx hb dX1_examineTicket_126 rfl (lv_at hl 1 rfl) ?_
                  refine lv_bipush (pc := 127) hx hb dX1_examineTicket_127 kb_6 ?_
                  refine lv_aload_n (pc := 129) hx hb dX1_examineTicket_129 rfl (lv_at hl 0 rfl) ?_
                  refine xr_getI (pc := 130) (ci := 9) hx hb hts inX5 hown hK hR rfl ((k1.2.1.2.2.2 _ (xlt c3)).2) 3 (Nat.le_of_ble_eq_true rfl) rfl (hts _ q_f_X1_97) (fun _ h9 => h9) dX1_examineTicket_130 ?_
                  obtain ⟨r15, m15, c15, h⟩ := xb_inv h
                  refine xc_iV (pc := 133) (As := [.int _, .int _]) (rest := []) ⟨hx, hb, hml, hown, hts⟩ (mX1_refuse hF _ _ _ k0 c15) (xcwV 2 hts fdX1_refuse q_m_X1_57 ⟨Nat.le_of_ble_eq_true rfl, Nat.le_of_ble_eq_true rfl⟩) (xRecv hK hR (ci := 5) rfl k0) hR hK hE hS rfl hl.1 rfl (Nat.le_of_ble_eq_true rfl) dX1_examineTicket_133 ⟨Nat.zero_le _, Nat.zero_le _⟩ (fun H locs hR hS => ?_)
                  exact xf_i (pc := 136) hx hb hr rfl hlocks h hR hK hS dX1_examineTicket_136
            · have h := xneg c12 h
              refine lv_aload_n (pc := 100) hx hb dX1_examineTicket_100 rfl (lv_at hl 1 rfl) ?_
              refine lv_iconst (pc := 101) hx hb dX1_examineTicket_101 kc_5 ?_
              refine lv_aload_n (pc := 102) hx hb dX1_examineTicket_102 rfl (lv_at hl 0 rfl) ?_
              obtain ⟨r16, m16, c16, h⟩ := xb_inv h
              refine xc_iV (pc := 103) (As := []) (rest := [.int _, .ref _]) ⟨hx, hb, hml, hown, hts⟩ (mX5_owed hF _ ((k1.2.1.2.2.2 _ (xlt c3)).2) c16) (xcwV 0 hts fdX5_owed q_m_X1_90 ⟨Nat.le_of_ble_eq_true rfl, Nat.le_of_ble_eq_true rfl⟩) (xRecv hK hR (ci := 9) rfl ((k1.2.1.2.2.2 _ (xlt c3)).2)) hR hK hE hS rfl hl.1 rfl (Nat.le_of_ble_eq_true rfl) dX1_examineTicket_103 ⟨Nat.zero_le _, Nat.zero_le _⟩ (fun H locs hR hS => ?_)
              obtain ⟨r17, m17, c17, h⟩ := xb_inv h
              refine xc_iV (pc := 106) (As := [.int _, .int _]) (rest := []) ⟨hx, hb, hml, hown, hts⟩ (mX1_refuse hF _ _ _ k0 c17) (xcwV 2 hts fdX1_refuse q_m_X1_57 ⟨Nat.le_of_ble_eq_true rfl, Nat.le_of_ble_eq_true rfl⟩) (xRecv hK hR (ci := 5) rfl k0) hR hK hE hS rfl hl.1 rfl (Nat.le_of_ble_eq_true rfl) dX1_examineTicket_106 ⟨Nat.zero_le _, Nat.zero_le _⟩ (fun H locs hR hS => ?_)
              exact xf_i (pc := 109) hx hb hr rfl hlocks h hR hK hS dX1_examineTicket_109
        · have h := xneg c6 h
          refine lv_aload_n (pc := 70) hx hb dX1_examineTicket_70 rfl (lv_at hl 1 rfl) ?_
          refine lv_iconst (pc := 71) hx hb dX1_examineTicket_71 kc_4 ?_
          refine lv_aload_n (pc := 72) hx hb dX1_examineTicket_72 rfl (lv_at hl 0 rfl) ?_
          refine xr_getI (pc := 73) (ci := 9) hx hb hts inX5 hown hK hR rfl ((k1.2.1.2.2.2 _ (xlt c3)).2) 5 (Nat.le_of_ble_eq_true rfl) rfl (hts _ q_f_X1_85) (fun _ h9 => h9) dX1_examineTicket_73 ?_
          obtain ⟨r18, m18, c18, h⟩ := xb_inv h
          refine xc_iV (pc := 76) (As := [.int _, .int _]) (rest := []) ⟨hx, hb, hml, hown, hts⟩ (mX1_refuse hF _ _ _ k0 c18) (xcwV 2 hts fdX1_refuse q_m_X1_57 ⟨Nat.le_of_ble_eq_true rfl, Nat.le_of_ble_eq_true rfl⟩) (xRecv hK hR (ci := 5) rfl k0) hR hK hE hS rfl hl.1 rfl (Nat.le_of_ble_eq_true rfl) dX1_examineTicket_76 ⟨Nat.zero_le _, Nat.zero_le _⟩ (fun H locs hR hS => ?_)
          exact xf_i (pc := 79) hx hb hr rfl hlocks h hR hK hS dX1_examineTicket_79
      · have h := xpos c5 h
        refine lv_aload_n (pc := 52) hx hb dX1_examineTicket_52 rfl (lv_at hl 3 rfl) ?_
        refine xr_getI (pc := 53) (ci := 8) hx hb hts inX4 hown hK hR rfl k2 2 (Nat.le_of_ble_eq_true rfl) rfl (hts _ q_f_X1_51) (fun _ h9 => h9) dX1_examineTicket_53 ?_
        refine lv_iconst (pc := 56) hx hb dX1_examineTicket_56 kc_1 ?_
        refine lv_icmp_ge (pc := 57) (tgt := 63) hx hb dX1_examineTicket_57 (by decide) (fun c19 => ?_) (fun c19 => ?_)
        · have h := xpos c19 h
          refine lv_aload_n (pc := 63) hx hb dX1_examineTicket_63 rfl (lv_at hl 0 rfl) ?_
          refine xr_getI (pc := 64) (ci := 9) hx hb hts inX5 hown hK hR rfl ((k1.2.1.2.2.2 _ (xlt c3)).2) 5 (Nat.le_of_ble_eq_true rfl) rfl (hts _ q_f_X1_85) (fun _ h9 => h9) dX1_examineTicket_64 ?_
          refine lv_if_eq (pc := 67) (tgt := 80) hx hb dX1_examineTicket_67 (by decide) (fun c20 => ?_) (fun c20 => ?_)
          · have h := xpos c20 h
            refine lv_aload_n (pc := 80) hx hb dX1_examineTicket_80 rfl (lv_at hl 3 rfl) ?_
            refine xr_getI (pc := 81) (ci := 8) hx hb hts inX4 hown hK hR rfl k2 0 (Nat.le_of_ble_eq_true rfl) rfl (hts _ q_f_X1_15) (fun _ h9 => h9) dX1_examineTicket_81 ?_
            refine lv_bipush (pc := 84) hx hb dX1_examineTicket_84 kb_121 ?_
            refine lv_icmp_ne (pc := 86) (tgt := 110) hx hb dX1_examineTicket_86 (by decide) (fun c21 => ?_) (fun c21 => ?_)
            · have h := xneg c21 h
              refine lv_aload_n (pc := 110) hx hb dX1_examineTicket_110 rfl (lv_at hl 3 rfl) ?_
              refine xr_getI (pc := 111) (ci := 8) hx hb hts inX4 hown hK hR rfl k2 0 (Nat.le_of_ble_eq_true rfl) rfl (hts _ q_f_X1_15) (fun _ h9 => h9) dX1_examineTicket_111 ?_
              refine lv_bipush (pc := 114) hx hb dX1_examineTicket_114 kb_110 ?_
              refine lv_icmp_ne (pc := 116) (tgt := 137) hx hb dX1_examineTicket_116 (by decide) (fun c22 => ?_) (fun c22 => ?_)
              · have h := xneg c22 h
                refine lv_iconst (pc := 137) hx hb dX1_examineTicket_137 kc_0 ?_
                exact xf_i (pc := 138) hx hb hr rfl hlocks h hR hK hS dX1_examineTicket_138
              · have h := xpos c22 h
                refine lv_aload_n (pc := 119) hx hb dX1_examineTicket_119 rfl (lv_at hl 0 rfl) ?_
                refine xr_getI (pc := 120) (ci := 9) hx hb hts inX5 hown hK hR rfl ((k1.2.1.2.2.2 _ (xlt c3)).2) 4 (Nat.le_of_ble_eq_true rfl) rfl (hts _ q_f_X1_94) (fun _ h9 => h9) dX1_examineTicket_120 ?_
                refine lv_if_ne (pc := 123) (tgt := 137) hx hb dX1_examineTicket_123 (by decide) (fun c23 => ?_) (fun c23 => ?_)
                · have h := xneg c23 h
                  refine lv_iconst (pc := 137) hx hb dX1_examineTicket_137 kc_0 ?_
                  exact xf_i (pc := 138) hx hb hr rfl hlocks h hR hK hS dX1_examineTicket_138
                · have h := xpos c23 h
                  refine lv_aload_n (pc := 126) hx hb dX1_examineTicket_126 rfl (lv_at hl 1 rfl) ?_
                  refine lv_bipush (pc := 127) hx hb dX1_examineTicket_127 kb_6 ?_
                  refine lv_aload_n (pc := 129) hx hb dX1_examineTicket_129 rfl (lv_at hl 0 rfl) ?_
                  refine xr_getI (pc := 130) (ci := 9) hx hb hts inX5 hown hK hR rfl ((k1.2.1.2.2.2 _ (xlt c3)).2) 3 (Nat.le_of_ble_eq_true rfl) rfl (hts _ q_f_X1_97) (fun _ h9 => h9) dX1_examineTicket_130 ?_
                  obtain ⟨r24, m24, c24, h⟩ := xb_inv h
                  refine xc_iV (pc := 133) (As := [.int _, .int _]) (rest := []) ⟨hx, hb, hml, hown, hts⟩ (mX1_refuse hF _ _ _ k0 c24) (xcwV 2 hts fdX1_refuse q_m_X1_57 ⟨Nat.le_of_ble_eq_true rfl, Nat.le_of_ble_eq_true rfl⟩) (xRecv hK hR (ci := 5) rfl k0) hR hK hE hS rfl hl.1 rfl (Nat.le_of_ble_eq_true rfl) dX1_examineTicket_133 ⟨Nat.zero_le _, Nat.zero_le _⟩ (fun H locs hR hS => ?_)
                  exact xf_i (pc := 136) hx hb hr rfl hlocks h hR hK hS dX1_examineTicket_136
            · have h := xpos c21 h
              refine lv_aload_n (pc := 89) hx hb dX1_examineTicket_89 rfl (lv_at hl 3 rfl) ?_
              refine xr_getI (pc := 90) (ci := 8) hx hb hts inX4 hown hK hR rfl k2 2 (Nat.le_of_ble_eq_true rfl) rfl (hts _ q_f_X1_51) (fun _ h9 => h9) dX1_examineTicket_90 ?_
              refine lv_aload_n (pc := 93) hx hb dX1_examineTicket_93 rfl (lv_at hl 0 rfl) ?_
              obtain ⟨r25, m25, c25, h⟩ := xb_inv h
              refine xc_iV (pc := 94) (As := []) (rest := [.int _]) ⟨hx, hb, hml, hown, hts⟩ (mX5_owed hF _ ((k1.2.1.2.2.2 _ (xlt c3)).2) c25) (xcwV 0 hts fdX5_owed q_m_X1_90 ⟨Nat.le_of_ble_eq_true rfl, Nat.le_of_ble_eq_true rfl⟩) (xRecv hK hR (ci := 9) rfl ((k1.2.1.2.2.2 _ (xlt c3)).2)) hR hK hE hS rfl hl.1 rfl (Nat.le_of_ble_eq_true rfl) dX1_examineTicket_94 ⟨Nat.zero_le _, Nat.zero_le _⟩ (fun H locs hR hS => ?_)
              refine lv_icmp_lt (pc := 97) (tgt := 110) hx hb dX1_examineTicket_97 (by decide) (fun c26 => ?_) (fun c26 => ?_)
              · have h := xpos c26 h
                refine lv_aload_n (pc := 110) hx hb dX1_examineTicket_110 rfl (lv_at hl 3 rfl) ?_
                refine xr_getI (pc := 111) (ci := 8) hx hb hts inX4 hown hK hR rfl k2 0 (Nat.le_of_ble_eq_true rfl) rfl (hts _ q_f_X1_15) (fun _ h9 => h9) dX1_examineTicket_111 ?_
                refine lv_bipush (pc := 114) hx hb dX1_examineTicket_114 kb_110 ?_
                refine lv_icmp_ne (pc := 116) (tgt := 137) hx hb dX1_examineTicket_116 (by decide) (fun c27 => ?_) (fun c27 => ?_)
                · have h := xneg c27 h
                  refine lv_iconst (pc := 137) hx hb dX1_examineTicket_137 kc_0 ?_
                  exact xf_i (pc := 138) hx hb hr rfl hlocks h hR hK hS dX1_examineTicket_138
                · have h := xpos c27 h
                  refine lv_aload_n (pc := 119) hx hb dX1_examineTicket_119 rfl (lv_at hl 0 rfl) ?_
                  refine xr_getI (pc := 120) (ci := 9) hx hb hts inX5 hown hK hR rfl ((k1.2.1.2.2.2 _ (xlt c3)).2) 4 (Nat.le_of_ble_eq_true rfl) rfl (hts _ q_f_X1_94) (fun _ h9 => h9) dX1_examineTicket_120 ?_
                  refine lv_if_ne (pc := 123) (tgt := 137) hx hb dX1_examineTicket_123 (by decide) (fun c28 => ?_) (fun c28 => ?_)
                  · have h := xneg c28 h
                    refine lv_iconst (pc := 137) hx hb dX1_examineTicket_137 kc_0 ?_
                    exact xf_i (pc := 138) hx hb hr rfl hlocks h hR hK hS dX1_examineTicket_138
                  · have h := xpos c28 h
                    refine lv_aload_n (pc := 126) hx hb dX1_examineTicket_126 rfl (lv_at hl 1 rfl) ?_
                    refine lv_bipush (pc := 127) hx hb dX1_examineTicket_127 kb_6 ?_
                    refine lv_aload_n (pc := 129) hx hb dX1_examineTicket_129 rfl (lv_at hl 0 rfl) ?_
                    refine xr_getI (pc := 130) (ci := 9) hx hb hts inX5 hown hK hR rfl ((k1.2.1.2.2.2 _ (xlt c3)).2) 3 (Nat.le_of_ble_eq_true rfl) rfl (hts _ q_f_X1_97) (fun _ h9 => h9) dX1_examineTicket_130 ?_
                    obtain ⟨r29, m29, c29, h⟩ := xb_inv h
                    refine xc_iV (pc := 133) (As := [.int _, .int _]) (rest := []) ⟨hx, hb, hml, hown, hts⟩ (mX1_refuse hF _ _ _ k0 c29) (xcwV 2 hts fdX1_refuse q_m_X1_57 ⟨Nat.le_of_ble_eq_true rfl, Nat.le_of_ble_eq_true rfl⟩) (xRecv hK hR (ci := 5) rfl k0) hR hK hE hS rfl hl.1 rfl (Nat.le_of_ble_eq_true rfl) dX1_examineTicket_133 ⟨Nat.zero_le _, Nat.zero_le _⟩ (fun H locs hR hS => ?_)
                    exact xf_i (pc := 136) hx hb hr rfl hlocks h hR hK hS dX1_examineTicket_136
              · have h := xneg c26 h
                refine lv_aload_n (pc := 100) hx hb dX1_examineTicket_100 rfl (lv_at hl 1 rfl) ?_
                refine lv_iconst (pc := 101) hx hb dX1_examineTicket_101 kc_5 ?_
                refine lv_aload_n (pc := 102) hx hb dX1_examineTicket_102 rfl (lv_at hl 0 rfl) ?_
                obtain ⟨r30, m30, c30, h⟩ := xb_inv h
                refine xc_iV (pc := 103) (As := []) (rest := [.int _, .ref _]) ⟨hx, hb, hml, hown, hts⟩ (mX5_owed hF _ ((k1.2.1.2.2.2 _ (xlt c3)).2) c30) (xcwV 0 hts fdX5_owed q_m_X1_90 ⟨Nat.le_of_ble_eq_true rfl, Nat.le_of_ble_eq_true rfl⟩) (xRecv hK hR (ci := 9) rfl ((k1.2.1.2.2.2 _ (xlt c3)).2)) hR hK hE hS rfl hl.1 rfl (Nat.le_of_ble_eq_true rfl) dX1_examineTicket_103 ⟨Nat.zero_le _, Nat.zero_le _⟩ (fun H locs hR hS => ?_)
                obtain ⟨r31, m31, c31, h⟩ := xb_inv h
                refine xc_iV (pc := 106) (As := [.int _, .int _]) (rest := []) ⟨hx, hb, hml, hown, hts⟩ (mX1_refuse hF _ _ _ k0 c31) (xcwV 2 hts fdX1_refuse q_m_X1_57 ⟨Nat.le_of_ble_eq_true rfl, Nat.le_of_ble_eq_true rfl⟩) (xRecv hK hR (ci := 5) rfl k0) hR hK hE hS rfl hl.1 rfl (Nat.le_of_ble_eq_true rfl) dX1_examineTicket_106 ⟨Nat.zero_le _, Nat.zero_le _⟩ (fun H locs hR hS => ?_)
                exact xf_i (pc := 109) hx hb hr rfl hlocks h hR hK hS dX1_examineTicket_109
          · have h := xneg c20 h
            refine lv_aload_n (pc := 70) hx hb dX1_examineTicket_70 rfl (lv_at hl 1 rfl) ?_
            refine lv_iconst (pc := 71) hx hb dX1_examineTicket_71 kc_4 ?_
            refine lv_aload_n (pc := 72) hx hb dX1_examineTicket_72 rfl (lv_at hl 0 rfl) ?_
            refine xr_getI (pc := 73) (ci := 9) hx hb hts inX5 hown hK hR rfl ((k1.2.1.2.2.2 _ (xlt c3)).2) 5 (Nat.le_of_ble_eq_true rfl) rfl (hts _ q_f_X1_85) (fun _ h9 => h9) dX1_examineTicket_73 ?_
            obtain ⟨r32, m32, c32, h⟩ := xb_inv h
            refine xc_iV (pc := 76) (As := [.int _, .int _]) (rest := []) ⟨hx, hb, hml, hown, hts⟩ (mX1_refuse hF _ _ _ k0 c32) (xcwV 2 hts fdX1_refuse q_m_X1_57 ⟨Nat.le_of_ble_eq_true rfl, Nat.le_of_ble_eq_true rfl⟩) (xRecv hK hR (ci := 5) rfl k0) hR hK hE hS rfl hl.1 rfl (Nat.le_of_ble_eq_true rfl) dX1_examineTicket_76 ⟨Nat.zero_le _, Nat.zero_le _⟩ (fun H locs hR hS => ?_)
            exact xf_i (pc := 79) hx hb hr rfl hlocks h hR hK hS dX1_examineTicket_79
        · have h := xneg c19 h
          refine lv_bipush (pc := 60) hx hb dX1_examineTicket_60 kb_m2 ?_
          exact xf_i (pc := 62) hx hb hr rfl hlocks h hR hK hS dX1_examineTicket_62
    · have h := xpos c4 h
      refine lv_aload_n (pc := 33) hx hb dX1_examineTicket_33 rfl (lv_at hl 1 rfl) ?_
      refine lv_aload_n (pc := 34) hx hb dX1_examineTicket_34 rfl (lv_at hl 0 rfl) ?_
      refine lv_aload_n (pc := 35) hx hb dX1_examineTicket_35 rfl (lv_at hl 3 rfl) ?_
      refine xr_getI (pc := 36) (ci := 8) hx hb hts inX4 hown hK hR rfl k2 2 (Nat.le_of_ble_eq_true rfl) rfl (hts _ q_f_X1_51) (fun _ h9 => h9) dX1_examineTicket_36 ?_
      obtain ⟨r33, m33, c33, h⟩ := xb_inv h
      refine xc_iV (pc := 39) (As := [.ref _, .int _]) (rest := []) ⟨hx, hb, hml, hown, hts⟩ (mX1_examineSale hF _ _ _ k0 ((k1.2.1.2.2.2 _ (xlt c3)).2) c33) (xcwV 2 hts fdX1_examineSale q_m_X1_81 ⟨Nat.le_of_ble_eq_true rfl, Nat.le_of_ble_eq_true rfl⟩) (xRecv hK hR (ci := 5) rfl k0) hR hK hE hS rfl hl.1 rfl (Nat.le_of_ble_eq_true rfl) dX1_examineTicket_39 ⟨Nat.zero_le _, Nat.zero_le _⟩ (fun H locs hR hS => ?_)
      exact xf_i (pc := 42) hx hb hr rfl hlocks h hR hK hS dX1_examineTicket_42
  · have h := xpos c2 h
    refine lv_bipush (pc := 11) hx hb dX1_examineTicket_11 kb_m3 ?_
    exact xf_i (pc := 13) hx hb hr rfl hlocks h hR hK hS dX1_examineTicket_13
set_option maxHeartbeats 1000000 in
set_option maxRecDepth 20000 in
theorem mX1_examine {l : Launch} {D : va_G} {ca : Nat → ClassId} {z : Nat} {G : xG} {X : va_W} {ad av : Nat → Nat} (hF : xFix z G X) (h0 : Nat) (h1 : Nat) (h2 : Nat) (k0 : xI_Clerk G h0) (k1 : xI_Bank G h1) (k2 : xI_Order G h2) {μ μ1 : xM} {r : Int32} (h : fX1_examine h0 h1 h2 μ = some (r, μ1)) : xMi l yX1_examine (xws yX1_examine cX1_examine 3 (some .int)) 3 D ca z G X ad av [.ref h0, .ref h1, .ref h2] μ r μ1 := by
  refine xm_i (by decide) rfl (Nat.le_of_ble_eq_true rfl) [(0, .ref h0), (1, .ref h1), (2, .ref h2)] rfl ?_
  intro p e s m args below meth c ls hx hb hr hml hlocks hts hown hK hE hR hS hl
  have hts : ∀ w ∈ xAll, w.before args s = true := fun w hw => hts w (List.mem_cons_of_mem _ hw)
  rw [fX1_examine] at h
  refine lv_aload_n (pc := 0) hx hb dX1_examine_0 rfl (lv_at hl 0 rfl) ?_
  refine lv_iconst (pc := 1) hx hb dX1_examine_1 kc_0 ?_
  refine xr_putI (pc := 2) (ci := 5) (ty := .int) hx hb hts inX1 tyX1 tyX1_ok nmX1 hown hK hR hF hS rfl k0 0 (Nat.le_of_ble_eq_true rfl) rfl (hts _ q_f_X1_9) (fun _ h9 => h9) rfl rfl rfl rfl dX1_examine_2 (fun H locs hR hS => ?_)
  refine lv_aload_n (pc := 5) hx hb dX1_examine_5 rfl (lv_at hl 2 rfl) ?_
  refine xr_getI (pc := 6) (ci := 8) hx hb hts inX4 hown hK hR rfl k2 0 (Nat.le_of_ble_eq_true rfl) rfl (hts _ q_f_X1_15) (fun _ h9 => h9) dX1_examine_6 ?_
  by_cases c1 : (((xw μ h0 0 (0 : Int32))) h2 0) = (37 : Int32)
  · have h := xpos c1 h
    refine lv_lookup (pc := 9) (tgt := 67) hx hb dX1_examine_9 (by decide) (by rw [c1]; first | done | rfl) (by decide) ?_
    refine lv_aload_n (pc := 67) hx hb dX1_examine_67 rfl (lv_at hl 0 rfl) ?_
    refine lv_aload_n (pc := 68) hx hb dX1_examine_68 rfl (lv_at hl 2 rfl) ?_
    refine xr_getI (pc := 69) (ci := 8) hx hb hts inX4 hown hK hR rfl k2 1 (Nat.le_of_ble_eq_true rfl) rfl (hts _ q_f_X1_25) (fun _ h9 => h9) dX1_examine_69 ?_
    refine lv_iconst (pc := 72) hx hb dX1_examine_72 kc_1 ?_
    refine lv_bipush (pc := 73) hx hb dX1_examine_73 kb_60 ?_
    refine lv_aload_n (pc := 75) hx hb dX1_examine_75 rfl (lv_at hl 1 rfl) ?_
    refine xr_getI (pc := 76) (ci := 4) hx hb hts inX0 hown hK hR rfl k1.1 5 (Nat.le_of_ble_eq_true rfl) rfl (hts _ q_f_X1_28) (fun _ h9 => h9) dX1_examine_76 ?_
    obtain ⟨r2, m2, c2, h⟩ := xb_inv h
    refine xc_iV (pc := 79) (As := [.int _, .int _, .int _, .int _]) (rest := []) ⟨hx, hb, hml, hown, hts⟩ (mX1_examineSetting hF _ _ _ _ _ k0 c2) (xcwV 4 hts fdX1_examineSetting q_m_X1_33 ⟨Nat.le_of_ble_eq_true rfl, Nat.le_of_ble_eq_true rfl⟩) (xRecv hK hR (ci := 5) rfl k0) hR hK hE hS rfl hl.1 rfl (Nat.le_of_ble_eq_true rfl) dX1_examine_79 ⟨Nat.zero_le _, Nat.zero_le _⟩ (fun H locs hR hS => ?_)
    exact xf_i (pc := 82) hx hb hr rfl hlocks h hR hK hS dX1_examine_82
  have h := xneg c1 h
  by_cases c3 : (((xw μ h0 0 (0 : Int32))) h2 0) = (99 : Int32)
  · have h := xpos c3 h
    refine lv_lookup (pc := 9) (tgt := 123) hx hb dX1_examine_9 (by decide) (by rw [c3]; first | done | rfl) (by decide) ?_
    refine lv_aload_n (pc := 123) hx hb dX1_examine_123 rfl (lv_at hl 0 rfl) ?_
    refine lv_aload_n (pc := 124) hx hb dX1_examine_124 rfl (lv_at hl 1 rfl) ?_
    refine lv_aload_n (pc := 125) hx hb dX1_examine_125 rfl (lv_at hl 2 rfl) ?_
    refine xr_getI (pc := 126) (ci := 8) hx hb hts inX4 hown hK hR rfl k2 1 (Nat.le_of_ble_eq_true rfl) rfl (hts _ q_f_X1_25) (fun _ h9 => h9) dX1_examine_126 ?_
    obtain ⟨r4, m4, c4, h⟩ := xb_inv h
    refine xc_iV (pc := 129) (As := [.ref _, .int _]) (rest := []) ⟨hx, hb, hml, hown, hts⟩ (mX1_examineClaim hF _ _ _ k0 k1 c4) (xcwV 2 hts fdX1_examineClaim q_m_X1_40 ⟨Nat.le_of_ble_eq_true rfl, Nat.le_of_ble_eq_true rfl⟩) (xRecv hK hR (ci := 5) rfl k0) hR hK hE hS rfl hl.1 rfl (Nat.le_of_ble_eq_true rfl) dX1_examine_129 ⟨Nat.zero_le _, Nat.zero_le _⟩ (fun H locs hR hS => ?_)
    exact xf_i (pc := 132) hx hb hr rfl hlocks h hR hK hS dX1_examine_132
  have h := xneg c3 h
  by_cases c5 : (((xw μ h0 0 (0 : Int32))) h2 0) = (102 : Int32)
  · have h := xpos c5 h
    refine lv_lookup (pc := 9) (tgt := 83) hx hb dX1_examine_9 (by decide) (by rw [c5]; first | done | rfl) (by decide) ?_
    refine lv_aload_n (pc := 83) hx hb dX1_examine_83 rfl (lv_at hl 0 rfl) ?_
    refine lv_aload_n (pc := 84) hx hb dX1_examine_84 rfl (lv_at hl 2 rfl) ?_
    refine xr_getI (pc := 85) (ci := 8) hx hb hts inX4 hown hK hR rfl k2 1 (Nat.le_of_ble_eq_true rfl) rfl (hts _ q_f_X1_25) (fun _ h9 => h9) dX1_examine_85 ?_
    refine lv_iconst (pc := 88) hx hb dX1_examine_88 kc_0 ?_
    refine lv_bipush (pc := 89) hx hb dX1_examine_89 kb_20 ?_
    refine lv_aload_n (pc := 91) hx hb dX1_examine_91 rfl (lv_at hl 1 rfl) ?_
    refine xr_getI (pc := 92) (ci := 4) hx hb hts inX0 hown hK hR rfl k1.1 6 (Nat.le_of_ble_eq_true rfl) rfl (hts _ q_f_X1_37) (fun _ h9 => h9) dX1_examine_92 ?_
    obtain ⟨r6, m6, c6, h⟩ := xb_inv h
    refine xc_iV (pc := 95) (As := [.int _, .int _, .int _, .int _]) (rest := []) ⟨hx, hb, hml, hown, hts⟩ (mX1_examineSetting hF _ _ _ _ _ k0 c6) (xcwV 4 hts fdX1_examineSetting q_m_X1_33 ⟨Nat.le_of_ble_eq_true rfl, Nat.le_of_ble_eq_true rfl⟩) (xRecv hK hR (ci := 5) rfl k0) hR hK hE hS rfl hl.1 rfl (Nat.le_of_ble_eq_true rfl) dX1_examine_95 ⟨Nat.zero_le _, Nat.zero_le _⟩ (fun H locs hR hS => ?_)
    exact xf_i (pc := 98) hx hb hr rfl hlocks h hR hK hS dX1_examine_98
  have h := xneg c5 h
  by_cases c7 : (((xw μ h0 0 (0 : Int32))) h2 0) = (112 : Int32)
  · have h := xpos c7 h
    refine lv_lookup (pc := 9) (tgt := 60) hx hb dX1_examine_9 (by decide) (by rw [c7]; first | done | rfl) (by decide) ?_
    refine lv_aload_n (pc := 60) hx hb dX1_examine_60 rfl (lv_at hl 0 rfl) ?_
    refine lv_aload_n (pc := 61) hx hb dX1_examine_61 rfl (lv_at hl 1 rfl) ?_
    refine lv_aload_n (pc := 62) hx hb dX1_examine_62 rfl (lv_at hl 2 rfl) ?_
    obtain ⟨r8, m8, c8, h⟩ := xb_inv h
    refine xc_iV (pc := 63) (As := [.ref _, .ref _]) (rest := []) ⟨hx, hb, hml, hown, hts⟩ (mX1_examinePledge hF _ _ _ k0 k1 k2 c8) (xcwV 2 hts fdX1_examinePledge q_m_X1_21 ⟨Nat.le_of_ble_eq_true rfl, Nat.le_of_ble_eq_true rfl⟩) (xRecv hK hR (ci := 5) rfl k0) hR hK hE hS rfl hl.1 rfl (Nat.le_of_ble_eq_true rfl) dX1_examine_63 ⟨Nat.zero_le _, Nat.zero_le _⟩ (fun H locs hR hS => ?_)
    exact xf_i (pc := 66) hx hb hr rfl hlocks h hR hK hS dX1_examine_66
  have h := xneg c7 h
  by_cases c9 : (((xw μ h0 0 (0 : Int32))) h2 0) = (119 : Int32)
  · have h := xpos c9 h
    refine lv_lookup (pc := 9) (tgt := 99) hx hb dX1_examine_9 (by decide) (by rw [c9]; first | done | rfl) (by decide) ?_
    refine lv_aload_n (pc := 99) hx hb dX1_examine_99 rfl (lv_at hl 2 rfl) ?_
    refine xr_getI (pc := 100) (ci := 8) hx hb hts inX4 hown hK hR rfl k2 1 (Nat.le_of_ble_eq_true rfl) rfl (hts _ q_f_X1_25) (fun _ h9 => h9) dX1_examine_100 ?_
    refine lv_iconst (pc := 103) hx hb dX1_examine_103 kc_1 ?_
    refine lv_icmp_lt (pc := 104) (tgt := 116) hx hb dX1_examine_104 (by decide) (fun c10 => ?_) (fun c10 => ?_)
    · have h := xpos c10 h
      refine lv_bipush (pc := 116) hx hb dX1_examine_116 kb_m2 ?_
      refine lv_goto (pc := 118) (tgt := 122) hx hb dX1_examine_118 (by decide) ?_
      exact xf_i (pc := 122) hx hb hr rfl hlocks h hR hK hS dX1_examine_122
    · have h := xneg c10 h
      refine lv_aload_n (pc := 107) hx hb dX1_examine_107 rfl (lv_at hl 2 rfl) ?_
      refine xr_getI (pc := 108) (ci := 8) hx hb hts inX4 hown hK hR rfl k2 1 (Nat.le_of_ble_eq_true rfl) rfl (hts _ q_f_X1_25) (fun _ h9 => h9) dX1_examine_108 ?_
      refine lv_bipush (pc := 111) hx hb dX1_examine_111 kb_20 ?_
      refine lv_icmp_le (pc := 113) (tgt := 121) hx hb dX1_examine_113 (by decide) (fun c11 => ?_) (fun c11 => ?_)
      · have h := xpos c11 h
        refine lv_iconst (pc := 121) hx hb dX1_examine_121 kc_0 ?_
        exact xf_i (pc := 122) hx hb hr rfl hlocks h hR hK hS dX1_examine_122
      · have h := xneg c11 h
        refine lv_bipush (pc := 116) hx hb dX1_examine_116 kb_m2 ?_
        refine lv_goto (pc := 118) (tgt := 122) hx hb dX1_examine_118 (by decide) ?_
        exact xf_i (pc := 122) hx hb hr rfl hlocks h hR hK hS dX1_examine_122
  have h := xneg c9 h
  refine lv_lookup (pc := 9) (tgt := 133) (off := 124) hx hb dX1_examine_9 (by decide) (xlook _ _ _ (by have z1 := xnek ti_37 c1; have z3 := xnek ti_99 c3; have z5 := xnek ti_102 c5; have z7 := xnek ti_112 c7; have z9 := xnek ti_119 c9; intro q hq; simp at hq; rcases hq with rfl | rfl | rfl | rfl | rfl <;> (simp; omega))) (by decide) ?_
  refine lv_aload_n (pc := 133) hx hb dX1_examine_133 rfl (lv_at hl 0 rfl) ?_
  refine lv_aload_n (pc := 134) hx hb dX1_examine_134 rfl (lv_at hl 1 rfl) ?_
  refine lv_aload_n (pc := 135) hx hb dX1_examine_135 rfl (lv_at hl 2 rfl) ?_
  obtain ⟨r12, m12, c12, h⟩ := xb_inv h
  refine xc_iV (pc := 136) (As := [.ref _, .ref _]) (rest := []) ⟨hx, hb, hml, hown, hts⟩ (mX1_examineTicket hF _ _ _ k0 k1 k2 c12) (xcwV 2 hts fdX1_examineTicket q_m_X1_44 ⟨Nat.le_of_ble_eq_true rfl, Nat.le_of_ble_eq_true rfl⟩) (xRecv hK hR (ci := 5) rfl k0) hR hK hE hS rfl hl.1 rfl (Nat.le_of_ble_eq_true rfl) dX1_examine_136 ⟨Nat.zero_le _, Nat.zero_le _⟩ (fun H locs hR hS => ?_)
  exact xf_i (pc := 139) hx hb hr rfl hlocks h hR hK hS dX1_examine_139
set_option maxHeartbeats 1000000 in
set_option maxRecDepth 20000 in
theorem wX7_tryOrders_13 {p : Program} {l : Launch} {e : Env} {s : State} {m : MethodId} {args : Array Value} {below : List Frame} {meth : Method} {c : Code} {D : va_G} {ca : Nat → ClassId} {z : Nat} {G : xG} {X : va_W} {ad av : Nat → Nat} (hF : xFix z G X) (h0 : Nat) (k0 : xI_Coat G h0) (hx : p.tables.exec = Jvm.exec) (hb : c.code = cX7_tryOrders) (hr : meth.sig.returnType = (some .int)) (hml : c.maxLocals = 3) (hlocks : meth.locks = false) (hts : ∀ w ∈ xAll, w.before args s = true) (hown : s.vm.findClass RX7 = some m.cls) (hK : va_K D vwCl (xT ca) s) (hE : xEv z ad av s s.heap) {μ1 : xM} {r : Int32} :
    ∀ (n : Nat) (x1 : Int32) (μ : xM) (H : Heap) (locs : List Loc) (ls : Array Slot), lX7_tryOrders_13 h0 n x1 μ = some (r, μ1) → xRep D ca G X μ H → va_S (fun q => z ≤ q) s.heap H locs → lv_has ls 3 [(0, .ref h0), (1, .int x1)] → W p l e (xRm 5 0 0) s m args below meth c H locs 0 0 (MQ below (va_Qi (fun (r' : Int32) (_ : Unit) => r' = r) (fun _ t => xB D ca G X μ1 t) (fun q => z ≤ q)) args s 0 0 (fun q => z ≤ q)) (F0 m 13 ls []) := by
  intro n
  induction n with
  | zero => intro x1 μ H locs ls h; cases h
  | succ n ih =>
    intro x1 μ H locs ls h hR hS hl
    rw [lX7_tryOrders_13] at h
    refine lv_iload_n (pc := 13) hx hb dX7_tryOrders_13 rfl (lv_at hl 1 rfl) ?_
    refine lv_aload_n (pc := 14) hx hb dX7_tryOrders_14 rfl (lv_at hl 0 rfl) ?_
    refine xr_getR (pc := 15) (ci := 11) hx hb hts inX7 hown hK hR rfl k0.1 7 (Nat.le_of_ble_eq_true rfl) rfl k0.2.2.2.2.2.2.2.1.1 (hts _ q_f_X7_50) (fun _ h9 => h9) dX7_tryOrders_15 ?_
    refine xr_getI (pc := 18) (ci := 7) hx hb hts inX3 hown hK hR rfl k0.2.2.2.2.2.2.2.1.2.1 3 (Nat.le_of_ble_eq_true rfl) rfl (hts _ q_f_X7_219) (fun _ h9 => h9) dX7_tryOrders_18 ?_
    refine lv_icmp_ge (pc := 21) (tgt := 115) hx hb dX7_tryOrders_21 (by decide) (fun c2 => ?_) (fun c2 => ?_)
    · have h := xpos c2 h
      refine lv_iconst (pc := 115) hx hb dX7_tryOrders_115 kc_m1 ?_
      exact xf_i (pc := 116) hx hb hr rfl hlocks h hR hK hS dX7_tryOrders_116
    · have h := xneg c2 h
      refine lv_aload_n (pc := 24) hx hb dX7_tryOrders_24 rfl (lv_at hl 0 rfl) ?_
      refine xr_getR (pc := 25) (ci := 11) hx hb hts inX7 hown hK hR rfl k0.1 5 (Nat.le_of_ble_eq_true rfl) rfl k0.2.2.2.2.2.1.1 (hts _ q_f_X7_36) (fun _ h9 => h9) dX7_tryOrders_25 ?_
      refine lv_aload_n (pc := 28) hx hb dX7_tryOrders_28 rfl (lv_at hl 0 rfl) ?_
      refine xr_getR (pc := 29) (ci := 11) hx hb hts inX7 hown hK hR rfl k0.1 2 (Nat.le_of_ble_eq_true rfl) rfl k0.2.2.2.1.1 (hts _ q_f_X7_19) (fun _ h9 => h9) dX7_tryOrders_29 ?_
      refine lv_aload_n (pc := 32) hx hb dX7_tryOrders_32 rfl (lv_at hl 0 rfl) ?_
      refine xr_getR (pc := 33) (ci := 11) hx hb hts inX7 hown hK hR rfl k0.1 7 (Nat.le_of_ble_eq_true rfl) rfl k0.2.2.2.2.2.2.2.1.1 (hts _ q_f_X7_50) (fun _ h9 => h9) dX7_tryOrders_33 ?_
      refine xr_getR (pc := 36) (ci := 7) hx hb hts inX3 hown hK hR rfl k0.2.2.2.2.2.2.2.1.2.1 1 (Nat.le_of_ble_eq_true rfl) rfl k0.2.2.2.2.2.2.2.1.2.2.2.1 (hts _ q_f_X7_313) (fun _ h9 => h9) dX7_tryOrders_36 ?_
      refine lv_iload_n (pc := 39) hx hb dX7_tryOrders_39 rfl (lv_at hl 1 rfl) ?_
      obtain ⟨c3, h⟩ := xk_inv h
      refine xr_aald (pc := 40) hx hb hK hR 1 (by decide) k0.2.2.2.2.2.2.2.1.2.2.2.2.1 rfl k0.2.2.2.2.2.2.2.1.2.2.2.2.2.1 c3 (k0.2.2.2.2.2.2.2.1.2.2.2.2.2.2 _ (xlt c3)).1 dX7_tryOrders_40 ?_
      obtain ⟨r4, m4, c4, h⟩ := xb_inv h
      refine xc_iV (pc := 41) (As := [.ref _, .ref _]) (rest := []) ⟨hx, hb, hml, hown, hts⟩ (mX1_examine hF _ _ _ k0.2.2.2.2.2.1.2 k0.2.2.2.1.2 ((k0.2.2.2.2.2.2.2.1.2.2.2.2.2.2 _ (xlt c3)).2) c4) (xcwV 2 hts fdX1_examine q_m_X7_292 ⟨Nat.le_of_ble_eq_true rfl, Nat.le_of_ble_eq_true rfl⟩) (xRecv hK hR (ci := 5) rfl k0.2.2.2.2.2.1.2) hR hK hE hS rfl hl.1 rfl (Nat.le_of_ble_eq_true rfl) dX7_tryOrders_41 ⟨Nat.zero_le _, Nat.zero_le _⟩ (fun H locs hR hS => ?_)
      refine lv_istore_n (pc := 44) (lv' := [(2, .int _), (0, .ref _), (1, .int _)]) hx hb dX7_tryOrders_44 rfl hl (Nat.le_of_ble_eq_true rfl) rfl (fun ls hl => ?_)
      refine lv_iload_n (pc := 45) hx hb dX7_tryOrders_45 rfl (lv_at hl 0 rfl) ?_
      refine lv_if_eq (pc := 46) (tgt := 92) hx hb dX7_tryOrders_46 (by decide) (fun c5 => ?_) (fun c5 => ?_)
      · have h := xpos c5 h
        refine lv_aload_n (pc := 92) hx hb dX7_tryOrders_92 rfl (lv_at hl 1 rfl) ?_
        refine xr_getR (pc := 93) (ci := 11) hx hb hts inX7 hown hK hR rfl k0.1 2 (Nat.le_of_ble_eq_true rfl) rfl k0.2.2.2.1.1 (hts _ q_f_X7_19) (fun _ h9 => h9) dX7_tryOrders_93 ?_
        refine lv_aload_n (pc := 96) hx hb dX7_tryOrders_96 rfl (lv_at hl 1 rfl) ?_
        refine xr_getR (pc := 97) (ci := 11) hx hb hts inX7 hown hK hR rfl k0.1 7 (Nat.le_of_ble_eq_true rfl) rfl k0.2.2.2.2.2.2.2.1.1 (hts _ q_f_X7_50) (fun _ h9 => h9) dX7_tryOrders_97 ?_
        refine xr_getR (pc := 100) (ci := 7) hx hb hts inX3 hown hK hR rfl k0.2.2.2.2.2.2.2.1.2.1 1 (Nat.le_of_ble_eq_true rfl) rfl k0.2.2.2.2.2.2.2.1.2.2.2.1 (hts _ q_f_X7_313) (fun _ h9 => h9) dX7_tryOrders_100 ?_
        refine lv_iload_n (pc := 103) hx hb dX7_tryOrders_103 rfl (lv_at hl 2 rfl) ?_
        obtain ⟨c6, h⟩ := xk_inv h
        refine xr_aald (pc := 104) hx hb hK hR 1 (by decide) k0.2.2.2.2.2.2.2.1.2.2.2.2.1 rfl k0.2.2.2.2.2.2.2.1.2.2.2.2.2.1 c6 (k0.2.2.2.2.2.2.2.1.2.2.2.2.2.2 _ (xlt c6)).1 dX7_tryOrders_104 ?_
        obtain ⟨r7, m7, c7, h⟩ := xb_inv h
        refine xc_iV (pc := 105) (As := [.ref _]) (rest := []) ⟨hx, hb, hml, hown, hts⟩ (mX0_carryOut hF _ _ k0.2.2.2.1.2 ((k0.2.2.2.2.2.2.2.1.2.2.2.2.2.2 _ (xlt c6)).2) c7) (xcwV 1 hts fdX0_carryOut q_m_X7_299 ⟨Nat.le_of_ble_eq_true rfl, Nat.le_of_ble_eq_true rfl⟩) (xRecv hK hR (ci := 4) rfl k0.2.2.2.1.2.1) hR hK hE hS rfl hl.1 rfl (Nat.le_of_ble_eq_true rfl) dX7_tryOrders_105 ⟨Nat.zero_le _, Nat.zero_le _⟩ (fun H locs hR hS => ?_)
        refine lv_pop (pc := 108) hx hb dX7_tryOrders_108 rfl ?_
        refine lv_iinc (pc := 109) (lv' := [(1, .int _), (2, .int _), (0, .ref _)]) hx hb dX7_tryOrders_109 hl (k := 2) rfl (xinc kc_1) (Nat.le_of_ble_eq_true rfl) rfl (fun ls hl => ?_)
        refine lv_goto (pc := 112) (tgt := 13) hx hb dX7_tryOrders_112 (by decide) ?_
        exact ih _ _ _ _ _ h hR hS (lv_sub hl [2, 0] rfl)
      · have h := xneg c5 h
        refine lv_aload_n (pc := 49) hx hb dX7_tryOrders_49 rfl (lv_at hl 1 rfl) ?_
        refine xr_getR (pc := 50) (ci := 11) hx hb hts inX7 hown hK hR rfl k0.1 8 (Nat.le_of_ble_eq_true rfl) rfl k0.2.2.2.2.2.2.2.2.1.1 (hts _ q_f_X7_57) (fun _ h9 => h9) dX7_tryOrders_50 ?_
        refine lv_bipush (pc := 53) hx hb dX7_tryOrders_53 kb_11 ?_
        refine lv_iload_n (pc := 55) hx hb dX7_tryOrders_55 rfl (lv_at hl 2 rfl) ?_
        obtain ⟨m8, c8, h⟩ := xbv_inv h
        refine xc_vV (pc := 56) (As := [.int _, .int _]) (rest := []) ⟨hx, hb, hml, hown, hts⟩ (mX6_keep hF _ _ _ k0.2.2.2.2.2.2.2.2.1.2 c8) (xcwV 2 hts fdX6_keep q_m_X7_308 ⟨Nat.le_of_ble_eq_true rfl, Nat.le_of_ble_eq_true rfl⟩) (xRecv hK hR (ci := 10) rfl k0.2.2.2.2.2.2.2.2.1.2) hR hK hE hS rfl hl.1 rfl (Nat.le_of_ble_eq_true rfl) dX7_tryOrders_56 ⟨Nat.zero_le _, Nat.zero_le _⟩ (fun H locs hR hS => ?_)
        refine lv_aload_n (pc := 59) hx hb dX7_tryOrders_59 rfl (lv_at hl 1 rfl) ?_
        refine xr_getR (pc := 60) (ci := 11) hx hb hts inX7 hown hK hR rfl k0.1 8 (Nat.le_of_ble_eq_true rfl) rfl k0.2.2.2.2.2.2.2.2.1.1 (hts _ q_f_X7_57) (fun _ h9 => h9) dX7_tryOrders_60 ?_
        refine lv_iload_n (pc := 63) hx hb dX7_tryOrders_63 rfl (lv_at hl 0 rfl) ?_
        refine lv_if_le (pc := 64) (tgt := 71) hx hb dX7_tryOrders_64 (by decide) (fun c9 => ?_) (fun c9 => ?_)
        · have h := xpos c9 h
          refine lv_iconst (pc := 71) hx hb dX7_tryOrders_71 kc_0 ?_
          refine lv_iload_n (pc := 72) hx hb dX7_tryOrders_72 rfl (lv_at hl 0 rfl) ?_
          refine lv_if_le (pc := 73) (tgt := 86) hx hb dX7_tryOrders_73 (by decide) (fun c10 => ?_) (fun c10 => ?_)
          · have h := xpos c10 h
            refine lv_iconst (pc := 86) hx hb dX7_tryOrders_86 kc_0 ?_
            obtain ⟨m11, c11, h⟩ := xbv_inv h
            refine xc_vV (pc := 87) (As := [.int _, .int _]) (rest := []) ⟨hx, hb, hml, hown, hts⟩ (mX6_keepCause hF _ _ _ k0.2.2.2.2.2.2.2.2.1.2 c11) (xcwV 2 hts fdX6_keepCause q_m_X7_317 ⟨Nat.le_of_ble_eq_true rfl, Nat.le_of_ble_eq_true rfl⟩) (xRecv hK hR (ci := 10) rfl k0.2.2.2.2.2.2.2.2.1.2) hR hK hE hS rfl hl.1 rfl (Nat.le_of_ble_eq_true rfl) dX7_tryOrders_87 ⟨Nat.zero_le _, Nat.zero_le _⟩ (fun H locs hR hS => ?_)
            refine lv_iload_n (pc := 90) hx hb dX7_tryOrders_90 rfl (lv_at hl 2 rfl) ?_
            exact xf_i (pc := 91) hx hb hr rfl hlocks h hR hK hS dX7_tryOrders_91
          · have h := xneg c10 h
            refine lv_aload_n (pc := 76) hx hb dX7_tryOrders_76 rfl (lv_at hl 1 rfl) ?_
            refine xr_getR (pc := 77) (ci := 11) hx hb hts inX7 hown hK hR rfl k0.1 5 (Nat.le_of_ble_eq_true rfl) rfl k0.2.2.2.2.2.1.1 (hts _ q_f_X7_36) (fun _ h9 => h9) dX7_tryOrders_77 ?_
            refine xr_getI (pc := 80) (ci := 5) hx hb hts inX1 hown hK hR rfl k0.2.2.2.2.2.1.2 0 (Nat.le_of_ble_eq_true rfl) rfl (hts _ q_f_X7_307) (fun _ h9 => h9) dX7_tryOrders_80 ?_
            refine lv_goto (pc := 83) (tgt := 87) hx hb dX7_tryOrders_83 (by decide) ?_
            obtain ⟨m12, c12, h⟩ := xbv_inv h
            refine xc_vV (pc := 87) (As := [.int _, .int _]) (rest := []) ⟨hx, hb, hml, hown, hts⟩ (mX6_keepCause hF _ _ _ k0.2.2.2.2.2.2.2.2.1.2 c12) (xcwV 2 hts fdX6_keepCause q_m_X7_317 ⟨Nat.le_of_ble_eq_true rfl, Nat.le_of_ble_eq_true rfl⟩) (xRecv hK hR (ci := 10) rfl k0.2.2.2.2.2.2.2.2.1.2) hR hK hE hS rfl hl.1 rfl (Nat.le_of_ble_eq_true rfl) dX7_tryOrders_87 ⟨Nat.zero_le _, Nat.zero_le _⟩ (fun H locs hR hS => ?_)
            refine lv_iload_n (pc := 90) hx hb dX7_tryOrders_90 rfl (lv_at hl 2 rfl) ?_
            exact xf_i (pc := 91) hx hb hr rfl hlocks h hR hK hS dX7_tryOrders_91
        · have h := xneg c9 h
          refine lv_iload_n (pc := 67) hx hb dX7_tryOrders_67 rfl (lv_at hl 0 rfl) ?_
          refine lv_goto (pc := 68) (tgt := 72) hx hb dX7_tryOrders_68 (by decide) ?_
          refine lv_iload_n (pc := 72) hx hb dX7_tryOrders_72 rfl (lv_at hl 0 rfl) ?_
          refine lv_if_le (pc := 73) (tgt := 86) hx hb dX7_tryOrders_73 (by decide) (fun c13 => ?_) (fun c13 => ?_)
          · have h := xpos c13 h
            refine lv_iconst (pc := 86) hx hb dX7_tryOrders_86 kc_0 ?_
            obtain ⟨m14, c14, h⟩ := xbv_inv h
            refine xc_vV (pc := 87) (As := [.int _, .int _]) (rest := []) ⟨hx, hb, hml, hown, hts⟩ (mX6_keepCause hF _ _ _ k0.2.2.2.2.2.2.2.2.1.2 c14) (xcwV 2 hts fdX6_keepCause q_m_X7_317 ⟨Nat.le_of_ble_eq_true rfl, Nat.le_of_ble_eq_true rfl⟩) (xRecv hK hR (ci := 10) rfl k0.2.2.2.2.2.2.2.2.1.2) hR hK hE hS rfl hl.1 rfl (Nat.le_of_ble_eq_true rfl) dX7_tryOrders_87 ⟨Nat.zero_le _, Nat.zero_le _⟩ (fun H locs hR hS => ?_)
            refine lv_iload_n (pc := 90) hx hb dX7_tryOrders_90 rfl (lv_at hl 2 rfl) ?_
            exact xf_i (pc := 91) hx hb hr rfl hlocks h hR hK hS dX7_tryOrders_91
          · have h := xneg c13 h
            refine lv_aload_n (pc := 76) hx hb dX7_tryOrders_76 rfl (lv_at hl 1 rfl) ?_
            refine xr_getR (pc := 77) (ci := 11) hx hb hts inX7 hown hK hR rfl k0.1 5 (Nat.le_of_ble_eq_true rfl) rfl k0.2.2.2.2.2.1.1 (hts _ q_f_X7_36) (fun _ h9 => h9) dX7_tryOrders_77 ?_
            refine xr_getI (pc := 80) (ci := 5) hx hb hts inX1 hown hK hR rfl k0.2.2.2.2.2.1.2 0 (Nat.le_of_ble_eq_true rfl) rfl (hts _ q_f_X7_307) (fun _ h9 => h9) dX7_tryOrders_80 ?_
            refine lv_goto (pc := 83) (tgt := 87) hx hb dX7_tryOrders_83 (by decide) ?_
            obtain ⟨m15, c15, h⟩ := xbv_inv h
            refine xc_vV (pc := 87) (As := [.int _, .int _]) (rest := []) ⟨hx, hb, hml, hown, hts⟩ (mX6_keepCause hF _ _ _ k0.2.2.2.2.2.2.2.2.1.2 c15) (xcwV 2 hts fdX6_keepCause q_m_X7_317 ⟨Nat.le_of_ble_eq_true rfl, Nat.le_of_ble_eq_true rfl⟩) (xRecv hK hR (ci := 10) rfl k0.2.2.2.2.2.2.2.2.1.2) hR hK hE hS rfl hl.1 rfl (Nat.le_of_ble_eq_true rfl) dX7_tryOrders_87 ⟨Nat.zero_le _, Nat.zero_le _⟩ (fun H locs hR hS => ?_)
            refine lv_iload_n (pc := 90) hx hb dX7_tryOrders_90 rfl (lv_at hl 2 rfl) ?_
            exact xf_i (pc := 91) hx hb hr rfl hlocks h hR hK hS dX7_tryOrders_91
set_option maxHeartbeats 1000000 in
set_option maxRecDepth 20000 in
theorem mX7_tryOrders {l : Launch} {D : va_G} {ca : Nat → ClassId} {z : Nat} {G : xG} {X : va_W} {ad av : Nat → Nat} (hF : xFix z G X) (h0 : Nat) (k0 : xI_Coat G h0) {μ μ1 : xM} {r : Int32} (h : fX7_tryOrders h0 μ = some (r, μ1)) : xMi l yX7_tryOrders (xws yX7_tryOrders cX7_tryOrders 3 (some .int)) 5 D ca z G X ad av [.ref h0] μ r μ1 := by
  refine xm_i (by decide) rfl (Nat.le_of_ble_eq_true rfl) [(0, .ref h0)] rfl ?_
  intro p e s m args below meth c ls hx hb hr hml hlocks hts hown hK hE hR hS hl
  have hts : ∀ w ∈ xAll, w.before args s = true := fun w hw => hts w (List.mem_cons_of_mem _ hw)
  rw [fX7_tryOrders] at h
  refine lv_aload_n (pc := 0) hx hb dX7_tryOrders_0 rfl (lv_at hl 0 rfl) ?_
  refine xr_getR (pc := 1) (ci := 11) hx hb hts inX7 hown hK hR rfl k0.1 2 (Nat.le_of_ble_eq_true rfl) rfl k0.2.2.2.1.1 (hts _ q_f_X7_19) (fun _ h9 => h9) dX7_tryOrders_1 ?_
  refine lv_aload_n (pc := 4) hx hb dX7_tryOrders_4 rfl (lv_at hl 0 rfl) ?_
  refine xr_getR (pc := 5) (ci := 11) hx hb hts inX7 hown hK hR rfl k0.1 0 (Nat.le_of_ble_eq_true rfl) rfl k0.2.1.1 (hts _ q_f_X7_10) (fun _ h9 => h9) dX7_tryOrders_5 ?_
  obtain ⟨m1, c1, h⟩ := xbv_inv h
  refine xc_vV (pc := 8) (As := [.ref _]) (rest := []) ⟨hx, hb, hml, hown, hts⟩ (mX0_copyFrom hF _ _ k0.2.2.2.1.2 k0.2.1.2 c1) (xcwV 1 hts fdX0_copyFrom q_m_X7_216 ⟨Nat.le_of_ble_eq_true rfl, Nat.le_of_ble_eq_true rfl⟩) (xRecv hK hR (ci := 4) rfl k0.2.2.2.1.2.1) hR hK hE hS rfl hl.1 rfl (Nat.le_of_ble_eq_true rfl) dX7_tryOrders_8 ⟨Nat.zero_le _, Nat.zero_le _⟩ (fun H locs hR hS => ?_)
  refine lv_iconst (pc := 11) hx hb dX7_tryOrders_11 kc_0 ?_
  refine lv_istore_n (pc := 12) (lv' := [(1, .int _), (0, .ref _)]) hx hb dX7_tryOrders_12 rfl hl (Nat.le_of_ble_eq_true rfl) rfl (fun ls hl => ?_)
  exact wX7_tryOrders_13 hF h0 k0 hx hb hr hml hlocks hts hown hK hE _ _ _ _ _ _ h hR hS (lv_sub hl [1, 0] rfl)
