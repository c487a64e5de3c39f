set_option maxHeartbeats 1000000 in
set_option maxRecDepth 20000 in
theorem mX8_writes {l : Launch} {D : va_G} {ca : Nat → ClassId} {z : Nat} {G : xG} {X : va_W} {ad av : Nat → Nat} (hF : xFix z G X) (h0 : Nat) (p1 : Int32) (k0 : xI_Model G h0) {μ μ1 : xM} (h : fX8_writes h0 p1 μ = some μ1) : xMv l yX8_writes (xws yX8_writes cX8_writes 2 none) 0 D ca z G X ad av [.ref h0, .int p1] μ μ1 := by
  refine xm_v (by decide) rfl (Nat.le_of_ble_eq_true rfl) [(0, .ref h0), (1, .int p1)] rfl ?_
  intro p e s m args below meth c ls hx hb hr hml hlocks hts hown hK hE hR hS hl
  have hts : ∀ w ∈ xAll, w.before args s = true := fun w hw => hts w (List.mem_cons_of_mem _ hw)
  rw [fX8_writes] at h
  refine lv_aload_n (pc := 0) hx hb dX8_writes_0 rfl (lv_at hl 0 rfl) ?_
  refine xr_getR (pc := 1) (ci := 12) hx hb hts inX8 hown hK hR rfl k0.1 15 (Nat.le_of_ble_eq_true rfl) rfl k0.2.2.2.2.2.2.1.1 (hts _ q_f_X8_32) (fun _ h9 => h9) dX8_writes_1 ?_
  refine lv_aload_n (pc := 4) hx hb dX8_writes_4 rfl (lv_at hl 0 rfl) ?_
  refine xr_getI (pc := 5) (ci := 12) hx hb hts inX8 hown hK hR rfl k0.1 16 (Nat.le_of_ble_eq_true rfl) rfl (hts _ q_f_X8_117) (fun _ h9 => h9) dX8_writes_5 ?_
  refine lv_iload_n (pc := 8) hx hb dX8_writes_8 rfl (lv_at hl 1 rfl) ?_
  refine lv_i2c (pc := 9) hx hb dX8_writes_9 rfl ?_
  obtain ⟨c1, h⟩ := xk_inv h
  refine xr_castk (pc := 10) (Int32.toNatClampNeg ((μ h0 16))) hx hb hK hR hF hS k0.2.2.2.2.2.2.1.2.1 k0.2.2.2.2.2.2.1.2.2 rfl c1 dX8_writes_10 (fun H locs hR hS => ?_)
  refine lv_aload_n (pc := 11) hx hb dX8_writes_11 rfl (lv_at hl 0 rfl) ?_
  refine lv_dup (pc := 12) hx hb dX8_writes_12 rfl ?_
  refine xr_getI (pc := 13) (ci := 12) hx hb hts inX8 hown hK hR rfl k0.1 16 (Nat.le_of_ble_eq_true rfl) rfl (hts _ q_f_X8_117) (fun _ h9 => h9) dX8_writes_13 ?_
  refine lv_iconst (pc := 16) hx hb dX8_writes_16 kc_1 ?_
  refine lv_iadd (pc := 17) hx hb dX8_writes_17 ?_
  refine xr_putI (pc := 18) (ci := 12) (ty := .int) hx hb hts inX8 tyX8 tyX8_ok nmX8 hown hK hR hF hS rfl k0.1 16 (Nat.le_of_ble_eq_true rfl) rfl (hts _ q_f_X8_117) (fun _ h9 => h9) rfl rfl rfl rfl dX8_writes_18 (fun H locs hR hS => ?_)
  exact xf_v (pc := 21) hx hb hr hlocks h hR hK hS dX8_writes_21
set_option maxHeartbeats 1000000 in
set_option maxRecDepth 20000 in
theorem wX8_writesNumber_18 {p : Program} {l : Launch} {e : Env} {s : State} {m : MethodId} {args : Array Value} {below : List Frame} {meth : Method} {c : Code} {D : va_G} {ca : Nat → ClassId} {z : Nat} {G : xG} {X : va_W} {ad av : Nat → Nat} (hF : xFix z G X) (h0 : Nat) (p1 : Int32) (k0 : xI_Model G h0) (hx : p.tables.exec = Jvm.exec) (hb : c.code = cX8_writesNumber) (hr : meth.sig.returnType = none) (hml : c.maxLocals = 3) (hlocks : meth.locks = false) (hts : ∀ w ∈ xAll, w.before args s = true) (hown : s.vm.findClass RX8 = some m.cls) (hK : va_K D vwCl (xT ca) s) (hE : xEv z ad av s s.heap) {μ1 : xM} :
    ∀ (n : Nat) (x2 : Int32) (μ : xM) (H : Heap) (locs : List Loc) (ls : Array Slot), lX8_writesNumber_18 h0 p1 n x2 μ = some μ1 → xRep D ca G X μ H → va_S (fun q => z ≤ q) s.heap H locs → lv_has ls 3 [(0, .ref h0), (1, .int p1), (2, .int x2)] → W p l e (xRm 1 0 0) s m args below meth c H locs 0 0 (MQ below (va_Qv (fun (_ : Unit) => True) (fun _ t => xB D ca G X μ1 t) (fun q => z ≤ q)) args s 0 0 (fun q => z ≤ q)) (F0 m 18 ls []) := by
  intro n
  induction n with
  | zero => intro x2 μ H locs ls h; cases h
  | succ n ih =>
    intro x2 μ H locs ls h hR hS hl
    rw [lX8_writesNumber_18] at h
    refine lv_iload_n (pc := 18) hx hb dX8_writesNumber_18 rfl (lv_at hl 2 rfl) ?_
    refine lv_if_le (pc := 19) (tgt := 43) hx hb dX8_writesNumber_19 (by decide) (fun c3 => ?_) (fun c3 => ?_)
    · have h := xpos c3 h
      exact xf_v (pc := 43) hx hb hr hlocks h hR hK hS dX8_writesNumber_43
    · have h := xneg c3 h
      refine lv_aload_n (pc := 22) hx hb dX8_writesNumber_22 rfl (lv_at hl 0 rfl) ?_
      refine lv_bipush (pc := 23) hx hb dX8_writesNumber_23 kb_48 ?_
      refine lv_iload_n (pc := 25) hx hb dX8_writesNumber_25 rfl (lv_at hl 1 rfl) ?_
      refine lv_iload_n (pc := 26) hx hb dX8_writesNumber_26 rfl (lv_at hl 2 rfl) ?_
      obtain ⟨c4, h⟩ := xk_inv h
      refine lv_idiv (pc := 27) hx hb dX8_writesNumber_27 c4 ?_
      refine lv_bipush (pc := 28) hx hb dX8_writesNumber_28 kb_10 ?_
      refine lv_irem (pc := 30) hx hb dX8_writesNumber_30 (by decide) ?_
      refine lv_iadd (pc := 31) hx hb dX8_writesNumber_31 ?_
      obtain ⟨m5, c5, h⟩ := xbv_inv h
      refine xc_vV (pc := 32) (As := [.int _]) (rest := []) ⟨hx, hb, hml, hown, hts⟩ (mX8_writes hF _ _ k0 c5) (xcwV 1 hts fdX8_writes q_m_X8_120 ⟨Nat.le_of_ble_eq_true rfl, Nat.le_of_ble_eq_true rfl⟩) (xRecv hK hR (ci := 12) rfl k0.1) hR hK hE hS rfl hl.1 rfl (Nat.le_of_ble_eq_true rfl) dX8_writesNumber_32 ⟨Nat.zero_le _, Nat.zero_le _⟩ (fun H locs hR hS => ?_)
      refine lv_iload_n (pc := 35) hx hb dX8_writesNumber_35 rfl (lv_at hl 2 rfl) ?_
      refine lv_bipush (pc := 36) hx hb dX8_writesNumber_36 kb_10 ?_
      refine lv_idiv (pc := 38) hx hb dX8_writesNumber_38 (by decide) ?_
      refine lv_istore_n (pc := 39) (lv' := [(2, .int _), (0, .ref _), (1, .int _)]) hx hb dX8_writesNumber_39 rfl hl (Nat.le_of_ble_eq_true rfl) rfl (fun ls hl => ?_)
      refine lv_goto (pc := 40) (tgt := 18) hx hb dX8_writesNumber_40 (by decide) ?_
      exact ih _ _ _ _ _ h hR hS (lv_sub hl [1, 2, 0] rfl)
set_option maxHeartbeats 1000000 in
set_option maxRecDepth 20000 in
theorem wX8_writesNumber_2 {p : Program} {l : Launch} {e : Env} {s : State} {m : MethodId} {args : Array Value} {below : List Frame} {meth : Method} {c : Code} {D : va_G} {ca : Nat → ClassId} {z : Nat} {G : xG} {X : va_W} {ad av : Nat → Nat} (hF : xFix z G X) (h0 : Nat) (p1 : Int32) (k0 : xI_Model G h0) (hx : p.tables.exec = Jvm.exec) (hb : c.code = cX8_writesNumber) (hr : meth.sig.returnType = none) (hml : c.maxLocals = 3) (hlocks : meth.locks = false) (hts : ∀ w ∈ xAll, w.before args s = true) (hown : s.vm.findClass RX8 = some m.cls) (hK : va_K D vwCl (xT ca) s) (hE : xEv z ad av s s.heap) {μ1 : xM} :
    ∀ (n : Nat) (x2 : Int32) (μ : xM) (H : Heap) (locs : List Loc) (ls : Array Slot), lX8_writesNumber_2 h0 p1 n x2 μ = some μ1 → xRep D ca G X μ H → va_S (fun q => z ≤ q) s.heap H locs → lv_has ls 3 [(0, .ref h0), (1, .int p1), (2, .int x2)] → W p l e (xRm 1 0 0) s m args below meth c H locs 0 0 (MQ below (va_Qv (fun (_ : Unit) => True) (fun _ t => xB D ca G X μ1 t) (fun q => z ≤ q)) args s 0 0 (fun q => z ≤ q)) (F0 m 2 ls []) := by
  intro n
  induction n with
  | zero => intro x2 μ H locs ls h; cases h
  | succ n ih =>
    intro x2 μ H locs ls h hR hS hl
    rw [lX8_writesNumber_2] at h
    refine lv_iload_n (pc := 2) hx hb dX8_writesNumber_2 rfl (lv_at hl 1 rfl) ?_
    refine lv_iload_n (pc := 3) hx hb dX8_writesNumber_3 rfl (lv_at hl 2 rfl) ?_
    obtain ⟨c1, h⟩ := xk_inv h
    refine lv_idiv (pc := 4) hx hb dX8_writesNumber_4 c1 ?_
    refine lv_bipush (pc := 5) hx hb dX8_writesNumber_5 kb_9 ?_
    refine lv_icmp_le (pc := 7) (tgt := 18) hx hb dX8_writesNumber_7 (by decide) (fun c2 => ?_) (fun c2 => ?_)
    · have h := xpos c2 h
      exact wX8_writesNumber_18 hF h0 p1 k0 hx hb hr hml hlocks hts hown hK hE _ _ _ _ _ _ h hR hS (lv_sub hl [0, 1, 2] rfl)
    · have h := xneg c2 h
      refine lv_iload_n (pc := 10) hx hb dX8_writesNumber_10 rfl (lv_at hl 2 rfl) ?_
      refine lv_bipush (pc := 11) hx hb dX8_writesNumber_11 kb_10 ?_
      refine lv_imul (pc := 13) hx hb dX8_writesNumber_13 ?_
      refine lv_istore_n (pc := 14) (lv' := [(2, .int _), (0, .ref _), (1, .int _)]) hx hb dX8_writesNumber_14 rfl hl (Nat.le_of_ble_eq_true rfl) rfl (fun ls hl => ?_)
      refine lv_goto (pc := 15) (tgt := 2) hx hb dX8_writesNumber_15 (by decide) ?_
      exact ih _ _ _ _ _ h hR hS (lv_sub hl [1, 2, 0] rfl)
set_option maxHeartbeats 1000000 in
set_option maxRecDepth 20000 in
theorem mX8_writesNumber {l : Launch} {D : va_G} {ca : Nat → ClassId} {z : Nat} {G : xG} {X : va_W} {ad av : Nat → Nat} (hF : xFix z G X) (h0 : Nat) (p1 : Int32) (k0 : xI_Model G h0) {μ μ1 : xM} (h : fX8_writesNumber h0 p1 μ = some μ1) : xMv l yX8_writesNumber (xws yX8_writesNumber cX8_writesNumber 3 none) 1 D ca z G X ad av [.ref h0, .int p1] μ μ1 := by
  refine xm_v (by decide) rfl (Nat.le_of_ble_eq_true rfl) [(0, .ref h0), (1, .int p1)] rfl ?_
  intro p e s m args below meth c ls hx hb hr hml hlocks hts hown hK hE hR hS hl
  have hts : ∀ w ∈ xAll, w.before args s = true := fun w hw => hts w (List.mem_cons_of_mem _ hw)
  rw [fX8_writesNumber] at h
  refine lv_iconst (pc := 0) hx hb dX8_writesNumber_0 kc_1 ?_
  refine lv_istore_n (pc := 1) (lv' := [(2, .int _), (0, .ref _), (1, .int _)]) hx hb dX8_writesNumber_1 rfl hl (Nat.le_of_ble_eq_true rfl) rfl (fun ls hl => ?_)
  exact wX8_writesNumber_2 hF h0 p1 k0 hx hb hr hml hlocks hts hown hK hE _ _ _ _ _ _ h hR hS (lv_sub hl [1, 2, 0] rfl)
set_option maxHeartbeats 1000000 in
set_option maxRecDepth 20000 in
theorem mX8_character {l : Launch} {D : va_G} {ca : Nat → ClassId} {z : Nat} {G : xG} {X : va_W} {ad av : Nat → Nat} (hF : xFix z G X) (h0 : Nat) (p1 : Int32) (k0 : xI_Model G h0) {μ μ1 : xM} {r : Int32} (h : fX8_character h0 p1 μ = some (r, μ1)) : xMi l yX8_character (xws yX8_character cX8_character 2 (some .char)) 1 D ca z G X ad av [.ref h0, .int p1] μ r μ1 := by
  refine xm_i (by decide) rfl (Nat.le_of_ble_eq_true rfl) [(0, .ref h0), (1, .int p1)] rfl ?_
  intro p e s m args below meth c ls hx hb hr hml hlocks hts hown hK hE hR hS hl
  have hts : ∀ w ∈ xAll, w.before args s = true := fun w hw => hts w (List.mem_cons_of_mem _ hw)
  rw [fX8_character] at h
  refine lv_aload_n (pc := 0) hx hb dX8_character_0 rfl (lv_at hl 0 rfl) ?_
  refine lv_iload_n (pc := 1) hx hb dX8_character_1 rfl (lv_at hl 1 rfl) ?_
  refine lv_iconst (pc := 2) hx hb dX8_character_2 kc_0 ?_
  refine lv_aload_n (pc := 3) hx hb dX8_character_3 rfl (lv_at hl 0 rfl) ?_
  refine xr_getI (pc := 4) (ci := 12) hx hb hts inX8 hown hK hR rfl k0.1 16 (Nat.le_of_ble_eq_true rfl) rfl (hts _ q_f_X8_117) (fun _ h9 => h9) dX8_character_4 ?_
  refine lv_iconst (pc := 7) hx hb dX8_character_7 kc_1 ?_
  refine lv_isub (pc := 8) hx hb dX8_character_8 ?_
  obtain ⟨r1, m1, c1, h⟩ := xb_inv h
  refine xc_iS (pc := 9) (As := [.int _, .int _, .int _]) (rest := [.ref _]) ⟨hx, hb, hml, hown, hts⟩ (mX8_in hF _ _ _  c1) (xcwS 3 hts fdX8_in q_m_X8_59 ⟨Nat.le_of_ble_eq_true rfl, Nat.le_of_ble_eq_true rfl⟩) hR hK hE hS rfl hl.1 rfl (Nat.le_of_ble_eq_true rfl) dX8_character_9 ⟨Nat.zero_le _, Nat.zero_le _⟩ (fun H locs hR hS => ?_)
  refine lv_if_eq (pc := 12) (tgt := 19) hx hb dX8_character_12 (by decide) (fun c2 => ?_) (fun c2 => ?_)
  · have h := xpos c2 h
    refine lv_iconst (pc := 19) hx hb dX8_character_19 kc_1 ?_
    obtain ⟨r3, m3, c3, h⟩ := xb_inv h
    refine xc_iV (pc := 20) (As := [.int _]) (rest := []) ⟨hx, hb, hml, hown, hts⟩ (mX8_fails hF _ _ k0 c3) (xcwV 1 hts fdX8_fails q_m_X8_67 ⟨Nat.le_of_ble_eq_true rfl, Nat.le_of_ble_eq_true rfl⟩) (xRecv hK hR (ci := 12) rfl k0.1) hR hK hE hS rfl hl.1 rfl (Nat.le_of_ble_eq_true rfl) dX8_character_20 ⟨Nat.zero_le _, Nat.zero_le _⟩ (fun H locs hR hS => ?_)
    refine lv_if_eq (pc := 23) (tgt := 31) hx hb dX8_character_23 (by decide) (fun c4 => ?_) (fun c4 => ?_)
    · have h := xpos c4 h
      refine lv_aload_n (pc := 31) hx hb dX8_character_31 rfl (lv_at hl 0 rfl) ?_
      refine xr_getR (pc := 32) (ci := 12) hx hb hts inX8 hown hK hR rfl k0.1 15 (Nat.le_of_ble_eq_true rfl) rfl k0.2.2.2.2.2.2.1.1 (hts _ q_f_X8_32) (fun _ h9 => h9) dX8_character_32 ?_
      refine lv_iload_n (pc := 35) hx hb dX8_character_35 rfl (lv_at hl 1 rfl) ?_
      obtain ⟨c5, h⟩ := xk_inv h
      refine xr_caldk (pc := 36) (Int32.toNatClampNeg p1) hx hb hK hR k0.2.2.2.2.2.2.1.2.1 k0.2.2.2.2.2.2.1.2.2 rfl c5 dX8_character_36 ?_
      obtain ⟨c6, h⟩ := xk_inv h
      exact xf_i (pc := 37) hx hb hr c6.1 hlocks h hR hK hS dX8_character_37
    · have h := xneg c4 h
      refine lv_bipush (pc := 26) hx hb dX8_character_26 kb_32 ?_
      refine lv_goto (pc := 28) (tgt := 37) hx hb dX8_character_28 (by decide) ?_
      exact xf_i (pc := 37) hx hb hr rfl hlocks h hR hK hS dX8_character_37
  · have h := xneg c2 h
    refine lv_iconst (pc := 15) hx hb dX8_character_15 kc_0 ?_
    refine lv_goto (pc := 16) (tgt := 20) hx hb dX8_character_16 (by decide) ?_
    obtain ⟨r7, m7, c7, h⟩ := xb_inv h
    refine xc_iV (pc := 20) (As := [.int _]) (rest := []) ⟨hx, hb, hml, hown, hts⟩ (mX8_fails hF _ _ k0 c7) (xcwV 1 hts fdX8_fails q_m_X8_67 ⟨Nat.le_of_ble_eq_true rfl, Nat.le_of_ble_eq_true rfl⟩) (xRecv hK hR (ci := 12) rfl k0.1) hR hK hE hS rfl hl.1 rfl (Nat.le_of_ble_eq_true rfl) dX8_character_20 ⟨Nat.zero_le _, Nat.zero_le _⟩ (fun H locs hR hS => ?_)
    refine lv_if_eq (pc := 23) (tgt := 31) hx hb dX8_character_23 (by decide) (fun c8 => ?_) (fun c8 => ?_)
    · have h := xpos c8 h
      refine lv_aload_n (pc := 31) hx hb dX8_character_31 rfl (lv_at hl 0 rfl) ?_
      refine xr_getR (pc := 32) (ci := 12) hx hb hts inX8 hown hK hR rfl k0.1 15 (Nat.le_of_ble_eq_true rfl) rfl k0.2.2.2.2.2.2.1.1 (hts _ q_f_X8_32) (fun _ h9 => h9) dX8_character_32 ?_
      refine lv_iload_n (pc := 35) hx hb dX8_character_35 rfl (lv_at hl 1 rfl) ?_
      obtain ⟨c9, h⟩ := xk_inv h
      refine xr_caldk (pc := 36) (Int32.toNatClampNeg p1) hx hb hK hR k0.2.2.2.2.2.2.1.2.1 k0.2.2.2.2.2.2.1.2.2 rfl c9 dX8_character_36 ?_
      obtain ⟨c10, h⟩ := xk_inv h
      exact xf_i (pc := 37) hx hb hr c10.1 hlocks h hR hK hS dX8_character_37
    · have h := xneg c8 h
      refine lv_bipush (pc := 26) hx hb dX8_character_26 kb_32 ?_
      refine lv_goto (pc := 28) (tgt := 37) hx hb dX8_character_28 (by decide) ?_
      exact xf_i (pc := 37) hx hb hr rfl hlocks h hR hK hS dX8_character_37
set_option maxHeartbeats 1000000 in
set_option maxRecDepth 20000 in
theorem mX8_append {l : Launch} {D : va_G} {ca : Nat → ClassId} {z : Nat} {G : xG} {X : va_W} {ad av : Nat → Nat} (hF : xFix z G X) (h0 : Nat) (p1 : Int32) (k0 : xI_Model G h0) {μ μ1 : xM} {r : Int32} (h : fX8_append h0 p1 μ = some (r, μ1)) : xMi l yX8_append (xws yX8_append cX8_append 2 (some .int)) 1 D ca z G X ad av [.ref h0, .int p1] μ r μ1 := by
  refine xm_i (by decide) rfl (Nat.le_of_ble_eq_true rfl) [(0, .ref h0), (1, .int p1)] rfl ?_
  intro p e s m args below meth c ls hx hb hr hml hlocks hts hown hK hE hR hS hl
  have hts : ∀ w ∈ xAll, w.before args s = true := fun w hw => hts w (List.mem_cons_of_mem _ hw)
  rw [fX8_append] at h
  refine lv_aload_n (pc := 0) hx hb dX8_append_0 rfl (lv_at hl 0 rfl) ?_
  refine lv_aload_n (pc := 1) hx hb dX8_append_1 rfl (lv_at hl 0 rfl) ?_
  refine xr_getI (pc := 2) (ci := 12) hx hb hts inX8 hown hK hR rfl k0.1 13 (Nat.le_of_ble_eq_true rfl) rfl (hts _ q_f_X8_135) (fun _ h9 => h9) dX8_append_2 ?_
  refine lv_bipush (pc := 5) hx hb dX8_append_5 kb_60 ?_
  refine lv_icmp_ne (pc := 7) (tgt := 14) hx hb dX8_append_7 (by decide) (fun c1 => ?_) (fun c1 => ?_)
  · have h := xneg c1 h
    refine lv_iconst (pc := 14) hx hb dX8_append_14 kc_0 ?_
    obtain ⟨r2, m2, c2, h⟩ := xb_inv h
    refine xc_iV (pc := 15) (As := [.int _]) (rest := []) ⟨hx, hb, hml, hown, hts⟩ (mX8_fails hF _ _ k0 c2) (xcwV 1 hts fdX8_fails q_m_X8_67 ⟨Nat.le_of_ble_eq_true rfl, Nat.le_of_ble_eq_true rfl⟩) (xRecv hK hR (ci := 12) rfl k0.1) hR hK hE hS rfl hl.1 rfl (Nat.le_of_ble_eq_true rfl) dX8_append_15 ⟨Nat.zero_le _, Nat.zero_le _⟩ (fun H locs hR hS => ?_)
    refine lv_if_eq (pc := 18) (tgt := 23) hx hb dX8_append_18 (by decide) (fun c3 => ?_) (fun c3 => ?_)
    · have h := xpos c3 h
      refine lv_aload_n (pc := 23) hx hb dX8_append_23 rfl (lv_at hl 0 rfl) ?_
      refine xr_getR (pc := 24) (ci := 12) hx hb hts inX8 hown hK hR rfl k0.1 12 (Nat.le_of_ble_eq_true rfl) rfl k0.2.2.2.2.2.1.1 (hts _ q_f_X8_26) (fun _ h9 => h9) dX8_append_24 ?_
      refine lv_aload_n (pc := 27) hx hb dX8_append_27 rfl (lv_at hl 0 rfl) ?_
      refine xr_getI (pc := 28) (ci := 12) hx hb hts inX8 hown hK hR rfl k0.1 13 (Nat.le_of_ble_eq_true rfl) rfl (hts _ q_f_X8_135) (fun _ h9 => h9) dX8_append_28 ?_
      refine lv_iload_n (pc := 31) hx hb dX8_append_31 rfl (lv_at hl 1 rfl) ?_
      obtain ⟨c4, h⟩ := xk_inv h
      refine xr_iastk (pc := 32) (Int32.toNatClampNeg ((m2 h0 13))) hx hb hK hR hF hS k0.2.2.2.2.2.1.2.1 k0.2.2.2.2.2.1.2.2 rfl c4 dX8_append_32 (fun H locs hR hS => ?_)
      refine lv_aload_n (pc := 33) hx hb dX8_append_33 rfl (lv_at hl 0 rfl) ?_
      refine lv_dup (pc := 34) hx hb dX8_append_34 rfl ?_
      refine xr_getI (pc := 35) (ci := 12) hx hb hts inX8 hown hK hR rfl k0.1 13 (Nat.le_of_ble_eq_true rfl) rfl (hts _ q_f_X8_135) (fun _ h9 => h9) dX8_append_35 ?_
      refine lv_iconst (pc := 38) hx hb dX8_append_38 kc_1 ?_
      refine lv_iadd (pc := 39) hx hb dX8_append_39 ?_
      refine xr_putI (pc := 40) (ci := 12) (ty := .int) hx hb hts inX8 tyX8 tyX8_ok nmX8 hown hK hR hF hS rfl k0.1 13 (Nat.le_of_ble_eq_true rfl) rfl (hts _ q_f_X8_135) (fun _ h9 => h9) rfl rfl rfl rfl dX8_append_40 (fun H locs hR hS => ?_)
      refine lv_aload_n (pc := 43) hx hb dX8_append_43 rfl (lv_at hl 0 rfl) ?_
      refine xr_getI (pc := 44) (ci := 12) hx hb hts inX8 hown hK hR rfl k0.1 13 (Nat.le_of_ble_eq_true rfl) rfl (hts _ q_f_X8_135) (fun _ h9 => h9) dX8_append_44 ?_
      exact xf_i (pc := 47) hx hb hr rfl hlocks h hR hK hS dX8_append_47
    · have h := xneg c3 h
      refine lv_iconst (pc := 21) hx hb dX8_append_21 kc_0 ?_
      exact xf_i (pc := 22) hx hb hr rfl hlocks h hR hK hS dX8_append_22
  · have h := xpos c1 h
    refine lv_iconst (pc := 10) hx hb dX8_append_10 kc_1 ?_
    refine lv_goto (pc := 11) (tgt := 15) hx hb dX8_append_11 (by decide) ?_
    obtain ⟨r5, m5, c5, h⟩ := xb_inv h
    refine xc_iV (pc := 15) (As := [.int _]) (rest := []) ⟨hx, hb, hml, hown, hts⟩ (mX8_fails hF _ _ k0 c5) (xcwV 1 hts fdX8_fails q_m_X8_67 ⟨Nat.le_of_ble_eq_true rfl, Nat.le_of_ble_eq_true rfl⟩) (xRecv hK hR (ci := 12) rfl k0.1) hR hK hE hS rfl hl.1 rfl (Nat.le_of_ble_eq_true rfl) dX8_append_15 ⟨Nat.zero_le _, Nat.zero_le _⟩ (fun H locs hR hS => ?_)
    refine lv_if_eq (pc := 18) (tgt := 23) hx hb dX8_append_18 (by decide) (fun c6 => ?_) (fun c6 => ?_)
    · have h := xpos c6 h
      refine lv_aload_n (pc := 23) hx hb dX8_append_23 rfl (lv_at hl 0 rfl) ?_
      refine xr_getR (pc := 24) (ci := 12) hx hb hts inX8 hown hK hR rfl k0.1 12 (Nat.le_of_ble_eq_true rfl) rfl k0.2.2.2.2.2.1.1 (hts _ q_f_X8_26) (fun _ h9 => h9) dX8_append_24 ?_
      refine lv_aload_n (pc := 27) hx hb dX8_append_27 rfl (lv_at hl 0 rfl) ?_
      refine xr_getI (pc := 28) (ci := 12) hx hb hts inX8 hown hK hR rfl k0.1 13 (Nat.le_of_ble_eq_true rfl) rfl (hts _ q_f_X8_135) (fun _ h9 => h9) dX8_append_28 ?_
      refine lv_iload_n (pc := 31) hx hb dX8_append_31 rfl (lv_at hl 1 rfl) ?_
      obtain ⟨c7, h⟩ := xk_inv h
      refine xr_iastk (pc := 32) (Int32.toNatClampNeg ((m5 h0 13))) hx hb hK hR hF hS k0.2.2.2.2.2.1.2.1 k0.2.2.2.2.2.1.2.2 rfl c7 dX8_append_32 (fun H locs hR hS => ?_)
      refine lv_aload_n (pc := 33) hx hb dX8_append_33 rfl (lv_at hl 0 rfl) ?_
      refine lv_dup (pc := 34) hx hb dX8_append_34 rfl ?_
      refine xr_getI (pc := 35) (ci := 12) hx hb hts inX8 hown hK hR rfl k0.1 13 (Nat.le_of_ble_eq_true rfl) rfl (hts _ q_f_X8_135) (fun _ h9 => h9) dX8_append_35 ?_
      refine lv_iconst (pc := 38) hx hb dX8_append_38 kc_1 ?_
      refine lv_iadd (pc := 39) hx hb dX8_append_39 ?_
      refine xr_putI (pc := 40) (ci := 12) (ty := .int) hx hb hts inX8 tyX8 tyX8_ok nmX8 hown hK hR hF hS rfl k0.1 13 (Nat.le_of_ble_eq_true rfl) rfl (hts _ q_f_X8_135) (fun _ h9 => h9) rfl rfl rfl rfl dX8_append_40 (fun H locs hR hS => ?_)
      refine lv_aload_n (pc := 43) hx hb dX8_append_43 rfl (lv_at hl 0 rfl) ?_
      refine xr_getI (pc := 44) (ci := 12) hx hb hts inX8 hown hK hR rfl k0.1 13 (Nat.le_of_ble_eq_true rfl) rfl (hts _ q_f_X8_135) (fun _ h9 => h9) dX8_append_44 ?_
      exact xf_i (pc := 47) hx hb hr rfl hlocks h hR hK hS dX8_append_47
    · have h := xneg c6 h
      refine lv_iconst (pc := 21) hx hb dX8_append_21 kc_0 ?_
      exact xf_i (pc := 22) hx hb hr rfl hlocks h hR hK hS dX8_append_22
set_option maxHeartbeats 1000000 in
set_option maxRecDepth 20000 in
theorem mX8_here {l : Launch} {D : va_G} {ca : Nat → ClassId} {z : Nat} {G : xG} {X : va_W} {ad av : Nat → Nat} (hF : xFix z G X) (h0 : Nat) (k0 : xI_Model G h0) {μ μ1 : xM} {r : Int32} (h : fX8_here h0 μ = some (r, μ1)) : xMi l yX8_here (xws yX8_here cX8_here 1 (some .int)) 0 D ca z G X ad av [.ref h0] μ r μ1 := by
  refine xm_i (by decide) rfl (Nat.le_of_ble_eq_true rfl) [(0, .ref h0)] rfl ?_
  intro p e s m args below meth c ls hx hb hr hml hlocks hts hown hK hE hR hS hl
  have hts : ∀ w ∈ xAll, w.before args s = true := fun w hw => hts w (List.mem_cons_of_mem _ hw)
  rw [fX8_here] at h
  refine lv_aload_n (pc := 0) hx hb dX8_here_0 rfl (lv_at hl 0 rfl) ?_
  refine xr_getI (pc := 1) (ci := 12) hx hb hts inX8 hown hK hR rfl k0.1 17 (Nat.le_of_ble_eq_true rfl) rfl (hts _ q_f_X8_138) (fun _ h9 => h9) dX8_here_1 ?_
  refine lv_aload_n (pc := 4) hx hb dX8_here_4 rfl (lv_at hl 0 rfl) ?_
  refine xr_getI (pc := 5) (ci := 12) hx hb hts inX8 hown hK hR rfl k0.1 13 (Nat.le_of_ble_eq_true rfl) rfl (hts _ q_f_X8_135) (fun _ h9 => h9) dX8_here_5 ?_
  refine lv_icmp_ge (pc := 8) (tgt := 23) hx hb dX8_here_8 (by decide) (fun c1 => ?_) (fun c1 => ?_)
  · have h := xpos c1 h
    refine lv_iconst (pc := 23) hx hb dX8_here_23 kc_m1 ?_
    exact xf_i (pc := 24) hx hb hr rfl hlocks h hR hK hS dX8_here_24
  · have h := xneg c1 h
    refine lv_aload_n (pc := 11) hx hb dX8_here_11 rfl (lv_at hl 0 rfl) ?_
    refine xr_getR (pc := 12) (ci := 12) hx hb hts inX8 hown hK hR rfl k0.1 12 (Nat.le_of_ble_eq_true rfl) rfl k0.2.2.2.2.2.1.1 (hts _ q_f_X8_26) (fun _ h9 => h9) dX8_here_12 ?_
    refine lv_aload_n (pc := 15) hx hb dX8_here_15 rfl (lv_at hl 0 rfl) ?_
    refine xr_getI (pc := 16) (ci := 12) hx hb hts inX8 hown hK hR rfl k0.1 17 (Nat.le_of_ble_eq_true rfl) rfl (hts _ q_f_X8_138) (fun _ h9 => h9) dX8_here_16 ?_
    obtain ⟨c2, h⟩ := xk_inv h
    refine xr_ialdk (pc := 19) (Int32.toNatClampNeg ((μ h0 17))) hx hb hK hR k0.2.2.2.2.2.1.2.1 k0.2.2.2.2.2.1.2.2 rfl c2 dX8_here_19 ?_
    refine lv_goto (pc := 20) (tgt := 24) hx hb dX8_here_20 (by decide) ?_
    exact xf_i (pc := 24) hx hb hr rfl hlocks h hR hK hS dX8_here_24
set_option maxHeartbeats 1000000 in
set_option maxRecDepth 20000 in
theorem mX8_skips {l : Launch} {D : va_G} {ca : Nat → ClassId} {z : Nat} {G : xG} {X : va_W} {ad av : Nat → Nat} (hF : xFix z G X) (h0 : Nat) (p1 : Int32) (k0 : xI_Model G h0) {μ μ1 : xM} {r : Int32} (h : fX8_skips h0 p1 μ = some (r, μ1)) : xMi l yX8_skips (xws yX8_skips cX8_skips 2 (some .boolean)) 1 D ca z G X ad av [.ref h0, .int p1] μ r μ1 := by
  refine xm_i (by decide) rfl (Nat.le_of_ble_eq_true rfl) [(0, .ref h0), (1, .int p1)] rfl ?_
  intro p e s m args below meth c ls hx hb hr hml hlocks hts hown hK hE hR hS hl
  have hts : ∀ w ∈ xAll, w.before args s = true := fun w hw => hts w (List.mem_cons_of_mem _ hw)
  rw [fX8_skips] at h
  refine lv_aload_n (pc := 0) hx hb dX8_skips_0 rfl (lv_at hl 0 rfl) ?_
  obtain ⟨r1, m1, c1, h⟩ := xb_inv h
  refine xc_iV (pc := 1) (As := []) (rest := []) ⟨hx, hb, hml, hown, hts⟩ (mX8_here hF _ k0 c1) (xcwV 0 hts fdX8_here q_m_X8_141 ⟨Nat.le_of_ble_eq_true rfl, Nat.le_of_ble_eq_true rfl⟩) (xRecv hK hR (ci := 12) rfl k0.1) hR hK hE hS rfl hl.1 rfl (Nat.le_of_ble_eq_true rfl) dX8_skips_1 ⟨Nat.zero_le _, Nat.zero_le _⟩ (fun H locs hR hS => ?_)
  refine lv_iload_n (pc := 4) hx hb dX8_skips_4 rfl (lv_at hl 1 rfl) ?_
  refine lv_icmp_eq (pc := 5) (tgt := 10) hx hb dX8_skips_5 (by decide) (fun c2 => ?_) (fun c2 => ?_)
  · have h := xpos c2 h
    refine lv_aload_n (pc := 10) hx hb dX8_skips_10 rfl (lv_at hl 0 rfl) ?_
    refine lv_dup (pc := 11) hx hb dX8_skips_11 rfl ?_
    refine xr_getI (pc := 12) (ci := 12) hx hb hts inX8 hown hK hR rfl k0.1 17 (Nat.le_of_ble_eq_true rfl) rfl (hts _ q_f_X8_138) (fun _ h9 => h9) dX8_skips_12 ?_
    refine lv_iconst (pc := 15) hx hb dX8_skips_15 kc_1 ?_
    refine lv_iadd (pc := 16) hx hb dX8_skips_16 ?_
    refine xr_putI (pc := 17) (ci := 12) (ty := .int) hx hb hts inX8 tyX8 tyX8_ok nmX8 hown hK hR hF hS rfl k0.1 17 (Nat.le_of_ble_eq_true rfl) rfl (hts _ q_f_X8_138) (fun _ h9 => h9) rfl rfl rfl rfl dX8_skips_17 (fun H locs hR hS => ?_)
    refine lv_iconst (pc := 20) hx hb dX8_skips_20 kc_1 ?_
    exact xf_i (pc := 21) hx hb hr rfl hlocks h hR hK hS dX8_skips_21
  · have h := xneg c2 h
    refine lv_iconst (pc := 8) hx hb dX8_skips_8 kc_0 ?_
    exact xf_i (pc := 9) hx hb hr rfl hlocks h hR hK hS dX8_skips_9
set_option maxHeartbeats 1000000 in
set_option maxRecDepth 20000 in
theorem wX8_figures_25 {p : Program} {l : Launch} {e : Env} {s : State} {m : MethodId} {args : Array Value} {below : List Frame} {meth : Method} {c : Code} {D : va_G} {ca : Nat → ClassId} {z : Nat} {G : xG} {X : va_W} {ad av : Nat → Nat} (hF : xFix z G X) (h0 : Nat) (p1 : Int32) (p2 : Int32) (k0 : xI_Model G h0) (hx : p.tables.exec = Jvm.exec) (hb : c.code = cX8_figures) (hr : meth.sig.returnType = (some .boolean)) (hml : c.maxLocals = 4) (hlocks : meth.locks = false) (hts : ∀ w ∈ xAll, w.before args s = true) (hown : s.vm.findClass RX8 = some m.cls) (hK : va_K D vwCl (xT ca) s) (hE : xEv z ad av s s.heap) {μ1 : xM} {r : Int32} :
    ∀ (n : Nat) (x3 : Int32) (μ : xM) (H : Heap) (locs : List Loc) (ls : Array Slot), lX8_figures_25 h0 p1 p2 n x3 μ = some (r, μ1) → xRep D ca G X μ H → va_S (fun q => z ≤ q) s.heap H locs → lv_has ls 4 [(0, .ref h0), (1, .int p1), (2, .int p2), (3, .int x3)] → W p l e (xRm 1 0 0) s m args below meth c H locs 0 0 (MQ below (va_Qi (fun (r' : Int32) (_ : Unit) => r' = r) (fun _ t => xB D ca G X μ1 t) (fun q => z ≤ q)) args s 0 0 (fun q => z ≤ q)) (F0 m 25 ls []) := by
  intro n
  induction n with
  | zero => intro x3 μ H locs ls h; cases h
  | succ n ih =>
    intro x3 μ H locs ls h hR hS hl
    rw [lX8_figures_25] at h
    refine lv_iload_n (pc := 25) hx hb dX8_figures_25 rfl (lv_at hl 3 rfl) ?_
    refine lv_iload_n (pc := 26) hx hb dX8_figures_26 rfl (lv_at hl 2 rfl) ?_
    refine lv_icmp_ge (pc := 27) (tgt := 83) hx hb dX8_figures_27 (by decide) (fun c5 => ?_) (fun c5 => ?_)
    · have h := xpos c5 h
      refine lv_iconst (pc := 83) hx hb dX8_figures_83 kc_1 ?_
      exact xf_i (pc := 84) hx hb hr rfl hlocks h hR hK hS dX8_figures_84
    · have h := xneg c5 h
      refine lv_aload_n (pc := 30) hx hb dX8_figures_30 rfl (lv_at hl 0 rfl) ?_
      obtain ⟨r6, m6, c6, h⟩ := xb_inv h
      refine xc_iV (pc := 31) (As := []) (rest := []) ⟨hx, hb, hml, hown, hts⟩ (mX8_here hF _ k0 c6) (xcwV 0 hts fdX8_here q_m_X8_141 ⟨Nat.le_of_ble_eq_true rfl, Nat.le_of_ble_eq_true rfl⟩) (xRecv hK hR (ci := 12) rfl k0.1) hR hK hE hS rfl hl.1 rfl (Nat.le_of_ble_eq_true rfl) dX8_figures_31 ⟨Nat.zero_le _, Nat.zero_le _⟩ (fun H locs hR hS => ?_)
      refine lv_bipush (pc := 34) hx hb dX8_figures_34 kb_48 ?_
      refine lv_bipush (pc := 36) hx hb dX8_figures_36 kb_57 ?_
      obtain ⟨r7, m7, c7, h⟩ := xb_inv h
      refine xc_iS (pc := 38) (As := [.int _, .int _, .int _]) (rest := []) ⟨hx, hb, hml, hown, hts⟩ (mX8_in hF _ _ _  c7) (xcwS 3 hts fdX8_in q_m_X8_59 ⟨Nat.le_of_ble_eq_true rfl, Nat.le_of_ble_eq_true rfl⟩) hR hK hE hS rfl hl.1 rfl (Nat.le_of_ble_eq_true rfl) dX8_figures_38 ⟨Nat.zero_le _, Nat.zero_le _⟩ (fun H locs hR hS => ?_)
      refine lv_if_eq (pc := 41) (tgt := 83) hx hb dX8_figures_41 (by decide) (fun c8 => ?_) (fun c8 => ?_)
      · have h := xpos c8 h
        refine lv_iconst (pc := 83) hx hb dX8_figures_83 kc_1 ?_
        exact xf_i (pc := 84) hx hb hr rfl hlocks h hR hK hS dX8_figures_84
      · have h := xneg c8 h
        refine lv_aload_n (pc := 44) hx hb dX8_figures_44 rfl (lv_at hl 0 rfl) ?_
        refine xr_getR (pc := 45) (ci := 12) hx hb hts inX8 hown hK hR rfl k0.1 18 (Nat.le_of_ble_eq_true rfl) rfl k0.2.2.2.2.2.2.2.1 (hts _ q_f_X8_36) (fun _ h9 => h9) dX8_figures_45 ?_
        refine lv_iload_n (pc := 48) hx hb dX8_figures_48 rfl (lv_at hl 1 rfl) ?_
        refine lv_bipush (pc := 49) hx hb dX8_figures_49 kb_10 ?_
        refine lv_aload_n (pc := 51) hx hb dX8_figures_51 rfl (lv_at hl 0 rfl) ?_
        refine xr_getR (pc := 52) (ci := 12) hx hb hts inX8 hown hK hR rfl k0.1 18 (Nat.le_of_ble_eq_true rfl) rfl k0.2.2.2.2.2.2.2.1 (hts _ q_f_X8_36) (fun _ h9 => h9) dX8_figures_52 ?_
        refine lv_iload_n (pc := 55) hx hb dX8_figures_55 rfl (lv_at hl 1 rfl) ?_
        obtain ⟨c9, h⟩ := xk_inv h
        refine xr_ialdk (pc := 56) (Int32.toNatClampNeg p1) hx hb hK hR k0.2.2.2.2.2.2.2.2.1 k0.2.2.2.2.2.2.2.2.2 rfl c9 dX8_figures_56 ?_
        refine lv_imul (pc := 57) hx hb dX8_figures_57 ?_
        refine lv_aload_n (pc := 58) hx hb dX8_figures_58 rfl (lv_at hl 0 rfl) ?_
        obtain ⟨r10, m10, c10, h⟩ := xb_inv h
        refine xc_iV (pc := 59) (As := []) (rest := [.int _, .int _, .ref _]) ⟨hx, hb, hml, hown, hts⟩ (mX8_here hF _ k0 c10) (xcwV 0 hts fdX8_here q_m_X8_141 ⟨Nat.le_of_ble_eq_true rfl, Nat.le_of_ble_eq_true rfl⟩) (xRecv hK hR (ci := 12) rfl k0.1) hR hK hE hS rfl hl.1 rfl (Nat.le_of_ble_eq_true rfl) dX8_figures_59 ⟨Nat.zero_le _, Nat.zero_le _⟩ (fun H locs hR hS => ?_)
        refine lv_iadd (pc := 62) hx hb dX8_figures_62 ?_
        refine lv_bipush (pc := 63) hx hb dX8_figures_63 kb_48 ?_
        refine lv_isub (pc := 65) hx hb dX8_figures_65 ?_
        obtain ⟨c11, h⟩ := xk_inv h
        refine xr_iastk (pc := 66) (Int32.toNatClampNeg p1) hx hb hK hR hF hS k0.2.2.2.2.2.2.2.2.1 k0.2.2.2.2.2.2.2.2.2 rfl c11 dX8_figures_66 (fun H locs hR hS => ?_)
        refine lv_aload_n (pc := 67) hx hb dX8_figures_67 rfl (lv_at hl 0 rfl) ?_
        refine lv_dup (pc := 68) hx hb dX8_figures_68 rfl ?_
        refine xr_getI (pc := 69) (ci := 12) hx hb hts inX8 hown hK hR rfl k0.1 17 (Nat.le_of_ble_eq_true rfl) rfl (hts _ q_f_X8_138) (fun _ h9 => h9) dX8_figures_69 ?_
        refine lv_iconst (pc := 72) hx hb dX8_figures_72 kc_1 ?_
        refine lv_iadd (pc := 73) hx hb dX8_figures_73 ?_
        refine xr_putI (pc := 74) (ci := 12) (ty := .int) hx hb hts inX8 tyX8 tyX8_ok nmX8 hown hK hR hF hS rfl k0.1 17 (Nat.le_of_ble_eq_true rfl) rfl (hts _ q_f_X8_138) (fun _ h9 => h9) rfl rfl rfl rfl dX8_figures_74 (fun H locs hR hS => ?_)
        refine lv_iinc (pc := 77) (lv' := [(3, .int _), (0, .ref _), (1, .int _), (2, .int _)]) hx hb dX8_figures_77 hl (k := 3) rfl (xinc kc_1) (Nat.le_of_ble_eq_true rfl) rfl (fun ls hl => ?_)
        refine lv_goto (pc := 80) (tgt := 25) hx hb dX8_figures_80 (by decide) ?_
        exact ih _ _ _ _ _ h hR hS (lv_sub hl [1, 2, 3, 0] rfl)
set_option maxHeartbeats 1000000 in
set_option maxRecDepth 20000 in
theorem mX8_figures {l : Launch} {D : va_G} {ca : Nat → ClassId} {z : Nat} {G : xG} {X : va_W} {ad av : Nat → Nat} (hF : xFix z G X) (h0 : Nat) (p1 : Int32) (p2 : Int32) (k0 : xI_Model G h0) {μ μ1 : xM} {r : Int32} (h : fX8_figures h0 p1 p2 μ = some (r, μ1)) : xMi l yX8_figures (xws yX8_figures cX8_figures 4 (some .boolean)) 1 D ca z G X ad av [.ref h0, .int p1, .int p2] μ r μ1 := by
  refine xm_i (by decide) rfl (Nat.le_of_ble_eq_true rfl) [(0, .ref h0), (1, .int p1), (2, .int p2)] rfl ?_
  intro p e s m args below meth c ls hx hb hr hml hlocks hts hown hK hE hR hS hl
  have hts : ∀ w ∈ xAll, w.before args s = true := fun w hw => hts w (List.mem_cons_of_mem _ hw)
  rw [fX8_figures] at h
  refine lv_aload_n (pc := 0) hx hb dX8_figures_0 rfl (lv_at hl 0 rfl) ?_
  obtain ⟨r1, m1, c1, h⟩ := xb_inv h
  refine xc_iV (pc := 1) (As := []) (rest := []) ⟨hx, hb, hml, hown, hts⟩ (mX8_here hF _ k0 c1) (xcwV 0 hts fdX8_here q_m_X8_141 ⟨Nat.le_of_ble_eq_true rfl, Nat.le_of_ble_eq_true rfl⟩) (xRecv hK hR (ci := 12) rfl k0.1) hR hK hE hS rfl hl.1 rfl (Nat.le_of_ble_eq_true rfl) dX8_figures_1 ⟨Nat.zero_le _, Nat.zero_le _⟩ (fun H locs hR hS => ?_)
  refine lv_bipush (pc := 4) hx hb dX8_figures_4 kb_48 ?_
  refine lv_bipush (pc := 6) hx hb dX8_figures_6 kb_57 ?_
  obtain ⟨r2, m2, c2, h⟩ := xb_inv h
  refine xc_iS (pc := 8) (As := [.int _, .int _, .int _]) (rest := []) ⟨hx, hb, hml, hown, hts⟩ (mX8_in hF _ _ _  c2) (xcwS 3 hts fdX8_in q_m_X8_59 ⟨Nat.le_of_ble_eq_true rfl, Nat.le_of_ble_eq_true rfl⟩) hR hK hE hS rfl hl.1 rfl (Nat.le_of_ble_eq_true rfl) dX8_figures_8 ⟨Nat.zero_le _, Nat.zero_le _⟩ (fun H locs hR hS => ?_)
  refine lv_if_ne (pc := 11) (tgt := 16) hx hb dX8_figures_11 (by decide) (fun c3 => ?_) (fun c3 => ?_)
  · have h := xneg c3 h
    refine lv_aload_n (pc := 16) hx hb dX8_figures_16 rfl (lv_at hl 0 rfl) ?_
    refine xr_getR (pc := 17) (ci := 12) hx hb hts inX8 hown hK hR rfl k0.1 18 (Nat.le_of_ble_eq_true rfl) rfl k0.2.2.2.2.2.2.2.1 (hts _ q_f_X8_36) (fun _ h9 => h9) dX8_figures_17 ?_
    refine lv_iload_n (pc := 20) hx hb dX8_figures_20 rfl (lv_at hl 1 rfl) ?_
    refine lv_iconst (pc := 21) hx hb dX8_figures_21 kc_0 ?_
    obtain ⟨c4, h⟩ := xk_inv h
    refine xr_iastk (pc := 22) (Int32.toNatClampNeg p1) hx hb hK hR hF hS k0.2.2.2.2.2.2.2.2.1 k0.2.2.2.2.2.2.2.2.2 rfl c4 dX8_figures_22 (fun H locs hR hS => ?_)
    refine lv_iconst (pc := 23) hx hb dX8_figures_23 kc_0 ?_
    refine lv_istore_n (pc := 24) (lv' := [(3, .int _), (0, .ref _), (1, .int _), (2, .int _)]) hx hb dX8_figures_24 rfl hl (Nat.le_of_ble_eq_true rfl) rfl (fun ls hl => ?_)
    exact wX8_figures_25 hF h0 p1 p2 k0 hx hb hr hml hlocks hts hown hK hE _ _ _ _ _ _ h hR hS (lv_sub hl [1, 2, 3, 0] rfl)
  · have h := xpos c3 h
    refine lv_iconst (pc := 14) hx hb dX8_figures_14 kc_0 ?_
    exact xf_i (pc := 15) hx hb hr rfl hlocks h hR hK hS dX8_figures_15
set_option maxHeartbeats 1000000 in
set_option maxRecDepth 20000 in
theorem mX8_orderHere {l : Launch} {D : va_G} {ca : Nat → ClassId} {z : Nat} {G : xG} {X : va_W} {ad av : Nat → Nat} (hF : xFix z G X) (h0 : Nat) (k0 : xI_Model G h0) {μ μ1 : xM} {r : Int32} (h : fX8_orderHere h0 μ = some (r, μ1)) : xMi l yX8_orderHere (xws yX8_orderHere cX8_orderHere 2 (some .boolean)) 2 D ca z G X ad av [.ref h0] μ r μ1 := by
  refine xm_i (by decide) rfl (Nat.le_of_ble_eq_true rfl) [(0, .ref h0)] rfl ?_
  intro p e s m args below meth c ls hx hb hr hml hlocks hts hown hK hE hR hS hl
  have hts : ∀ w ∈ xAll, w.before args s = true := fun w hw => hts w (List.mem_cons_of_mem _ hw)
  rw [fX8_orderHere] at h
  refine lv_iconst (pc := 0) hx hb dX8_orderHere_0 kc_4 ?_
  refine lv_aload_n (pc := 1) hx hb dX8_orderHere_1 rfl (lv_at hl 0 rfl) ?_
  refine xr_getI (pc := 2) (ci := 12) hx hb hts inX8 hown hK hR rfl k0.1 19 (Nat.le_of_ble_eq_true rfl) rfl (hts _ q_f_X8_144) (fun _ h9 => h9) dX8_orderHere_2 ?_
  refine lv_imul (pc := 5) hx hb dX8_orderHere_5 ?_
  refine lv_istore_n (pc := 6) (lv' := [(1, .int _), (0, .ref _)]) hx hb dX8_orderHere_6 rfl hl (Nat.le_of_ble_eq_true rfl) rfl (fun ls hl => ?_)
  refine lv_aload_n (pc := 7) hx hb dX8_orderHere_7 rfl (lv_at hl 1 rfl) ?_
  refine xr_getR (pc := 8) (ci := 12) hx hb hts inX8 hown hK hR rfl k0.1 18 (Nat.le_of_ble_eq_true rfl) rfl k0.2.2.2.2.2.2.2.1 (hts _ q_f_X8_36) (fun _ h9 => h9) dX8_orderHere_8 ?_
  refine lv_iload_n (pc := 11) hx hb dX8_orderHere_11 rfl (lv_at hl 0 rfl) ?_
  refine lv_aload_n (pc := 12) hx hb dX8_orderHere_12 rfl (lv_at hl 1 rfl) ?_
  obtain ⟨r1, m1, c1, h⟩ := xb_inv h
  refine xc_iV (pc := 13) (As := []) (rest := [.int _, .ref _]) ⟨hx, hb, hml, hown, hts⟩ (mX8_here hF _ k0 c1) (xcwV 0 hts fdX8_here q_m_X8_141 ⟨Nat.le_of_ble_eq_true rfl, Nat.le_of_ble_eq_true rfl⟩) (xRecv hK hR (ci := 12) rfl k0.1) hR hK hE hS rfl hl.1 rfl (Nat.le_of_ble_eq_true rfl) dX8_orderHere_13 ⟨Nat.zero_le _, Nat.zero_le _⟩ (fun H locs hR hS => ?_)
  obtain ⟨c2, h⟩ := xk_inv h
  refine xr_iastk (pc := 16) (Int32.toNatClampNeg (((4 : Int32) * (μ h0 19)))) hx hb hK hR hF hS k0.2.2.2.2.2.2.2.2.1 k0.2.2.2.2.2.2.2.2.2 rfl c2 dX8_orderHere_16 (fun H locs hR hS => ?_)
  refine lv_aload_n (pc := 17) hx hb dX8_orderHere_17 rfl (lv_at hl 1 rfl) ?_
  refine lv_bipush (pc := 18) hx hb dX8_orderHere_18 kb_112 ?_
  obtain ⟨r3, m3, c3, h⟩ := xb_inv h
  refine xc_iV (pc := 20) (As := [.int _]) (rest := []) ⟨hx, hb, hml, hown, hts⟩ (mX8_skips hF _ _ k0 c3) (xcwV 1 hts fdX8_skips q_m_X8_147 ⟨Nat.le_of_ble_eq_true rfl, Nat.le_of_ble_eq_true rfl⟩) (xRecv hK hR (ci := 12) rfl k0.1) hR hK hE hS rfl hl.1 rfl (Nat.le_of_ble_eq_true rfl) dX8_orderHere_20 ⟨Nat.zero_le _, Nat.zero_le _⟩ (fun H locs hR hS => ?_)
  refine lv_if_eq (pc := 23) (tgt := 83) hx hb dX8_orderHere_23 (by decide) (fun c4 => ?_) (fun c4 => ?_)
  · have h := xpos c4 h
    refine lv_aload_n (pc := 83) hx hb dX8_orderHere_83 rfl (lv_at hl 1 rfl) ?_
    refine lv_bipush (pc := 84) hx hb dX8_orderHere_84 kb_121 ?_
    obtain ⟨r5, m5, c5, h⟩ := xb_inv h
    refine xc_iV (pc := 86) (As := [.int _]) (rest := []) ⟨hx, hb, hml, hown, hts⟩ (mX8_skips hF _ _ k0 c5) (xcwV 1 hts fdX8_skips q_m_X8_147 ⟨Nat.le_of_ble_eq_true rfl, Nat.le_of_ble_eq_true rfl⟩) (xRecv hK hR (ci := 12) rfl k0.1) hR hK hE hS rfl hl.1 rfl (Nat.le_of_ble_eq_true rfl) dX8_orderHere_86 ⟨Nat.zero_le _, Nat.zero_le _⟩ (fun H locs hR hS => ?_)
    refine lv_if_eq (pc := 89) (tgt := 129) hx hb dX8_orderHere_89 (by decide) (fun c6 => ?_) (fun c6 => ?_)
    · have h := xpos c6 h
      refine lv_aload_n (pc := 129) hx hb dX8_orderHere_129 rfl (lv_at hl 1 rfl) ?_
      refine lv_bipush (pc := 130) hx hb dX8_orderHere_130 kb_115 ?_
      obtain ⟨r7, m7, c7, h⟩ := xb_inv h
      refine xc_iV (pc := 132) (As := [.int _]) (rest := []) ⟨hx, hb, hml, hown, hts⟩ (mX8_skips hF _ _ k0 c7) (xcwV 1 hts fdX8_skips q_m_X8_147 ⟨Nat.le_of_ble_eq_true rfl, Nat.le_of_ble_eq_true rfl⟩) (xRecv hK hR (ci := 12) rfl k0.1) hR hK hE hS rfl hl.1 rfl (Nat.le_of_ble_eq_true rfl) dX8_orderHere_132 ⟨Nat.zero_le _, Nat.zero_le _⟩ (fun H locs hR hS => ?_)
      refine lv_if_eq (pc := 135) (tgt := 175) hx hb dX8_orderHere_135 (by decide) (fun c8 => ?_) (fun c8 => ?_)
      · have h := xpos c8 h
        refine lv_aload_n (pc := 175) hx hb dX8_orderHere_175 rfl (lv_at hl 1 rfl) ?_
        refine lv_bipush (pc := 176) hx hb dX8_orderHere_176 kb_99 ?_
        obtain ⟨r9, m9, c9, h⟩ := xb_inv h
        refine xc_iV (pc := 178) (As := [.int _]) (rest := []) ⟨hx, hb, hml, hown, hts⟩ (mX8_skips hF _ _ k0 c9) (xcwV 1 hts fdX8_skips q_m_X8_147 ⟨Nat.le_of_ble_eq_true rfl, Nat.le_of_ble_eq_true rfl⟩) (xRecv hK hR (ci := 12) rfl k0.1) hR hK hE hS rfl hl.1 rfl (Nat.le_of_ble_eq_true rfl) dX8_orderHere_178 ⟨Nat.zero_le _, Nat.zero_le _⟩ (fun H locs hR hS => ?_)
        refine lv_if_eq (pc := 181) (tgt := 193) hx hb dX8_orderHere_181 (by decide) (fun c10 => ?_) (fun c10 => ?_)
        · have h := xpos c10 h
          refine lv_aload_n (pc := 193) hx hb dX8_orderHere_193 rfl (lv_at hl 1 rfl) ?_
          refine lv_bipush (pc := 194) hx hb dX8_orderHere_194 kb_119 ?_
          obtain ⟨r11, m11, c11, h⟩ := xb_inv h
          refine xc_iV (pc := 196) (As := [.int _]) (rest := []) ⟨hx, hb, hml, hown, hts⟩ (mX8_skips hF _ _ k0 c11) (xcwV 1 hts fdX8_skips q_m_X8_147 ⟨Nat.le_of_ble_eq_true rfl, Nat.le_of_ble_eq_true rfl⟩) (xRecv hK hR (ci := 12) rfl k0.1) hR hK hE hS rfl hl.1 rfl (Nat.le_of_ble_eq_true rfl) dX8_orderHere_196 ⟨Nat.zero_le _, Nat.zero_le _⟩ (fun H locs hR hS => ?_)
          refine lv_if_ne (pc := 199) (tgt := 220) hx hb dX8_orderHere_199 (by decide) (fun c12 => ?_) (fun c12 => ?_)
          · have h := xneg c12 h
            refine lv_aload_n (pc := 220) hx hb dX8_orderHere_220 rfl (lv_at hl 1 rfl) ?_
            refine lv_iload_n (pc := 221) hx hb dX8_orderHere_221 rfl (lv_at hl 0 rfl) ?_
            refine lv_iconst (pc := 222) hx hb dX8_orderHere_222 kc_1 ?_
            refine lv_iadd (pc := 223) hx hb dX8_orderHere_223 ?_
            refine lv_iconst (pc := 224) hx hb dX8_orderHere_224 kc_2 ?_
            obtain ⟨r13, m13, c13, h⟩ := xb_inv h
            refine xc_iV (pc := 225) (As := [.int _, .int _]) (rest := []) ⟨hx, hb, hml, hown, hts⟩ (mX8_figures hF _ _ _ k0 c13) (xcwV 2 hts fdX8_figures q_m_X8_150 ⟨Nat.le_of_ble_eq_true rfl, Nat.le_of_ble_eq_true rfl⟩) (xRecv hK hR (ci := 12) rfl k0.1) hR hK hE hS rfl hl.1 rfl (Nat.le_of_ble_eq_true rfl) dX8_orderHere_225 ⟨Nat.zero_le _, Nat.zero_le _⟩ (fun H locs hR hS => ?_)
            refine lv_if_eq (pc := 228) (tgt := 235) hx hb dX8_orderHere_228 (by decide) (fun c14 => ?_) (fun c14 => ?_)
            · have h := xpos c14 h
              refine lv_iconst (pc := 235) hx hb dX8_orderHere_235 kc_0 ?_
              exact xf_i (pc := 236) hx hb hr rfl hlocks h hR hK hS dX8_orderHere_236
            · have h := xneg c14 h
              refine lv_iconst (pc := 231) hx hb dX8_orderHere_231 kc_1 ?_
              refine lv_goto (pc := 232) (tgt := 236) hx hb dX8_orderHere_232 (by decide) ?_
              exact xf_i (pc := 236) hx hb hr rfl hlocks h hR hK hS dX8_orderHere_236
          · have h := xpos c12 h
            refine lv_aload_n (pc := 202) hx hb dX8_orderHere_202 rfl (lv_at hl 1 rfl) ?_
            refine lv_bipush (pc := 203) hx hb dX8_orderHere_203 kb_114 ?_
            obtain ⟨r15, m15, c15, h⟩ := xb_inv h
            refine xc_iV (pc := 205) (As := [.int _]) (rest := []) ⟨hx, hb, hml, hown, hts⟩ (mX8_skips hF _ _ k0 c15) (xcwV 1 hts fdX8_skips q_m_X8_147 ⟨Nat.le_of_ble_eq_true rfl, Nat.le_of_ble_eq_true rfl⟩) (xRecv hK hR (ci := 12) rfl k0.1) hR hK hE hS rfl hl.1 rfl (Nat.le_of_ble_eq_true rfl) dX8_orderHere_205 ⟨Nat.zero_le _, Nat.zero_le _⟩ (fun H locs hR hS => ?_)
            refine lv_if_ne (pc := 208) (tgt := 220) hx hb dX8_orderHere_208 (by decide) (fun c16 => ?_) (fun c16 => ?_)
            · have h := xneg c16 h
              refine lv_aload_n (pc := 220) hx hb dX8_orderHere_220 rfl (lv_at hl 1 rfl) ?_
              refine lv_iload_n (pc := 221) hx hb dX8_orderHere_221 rfl (lv_at hl 0 rfl) ?_
              refine lv_iconst (pc := 222) hx hb dX8_orderHere_222 kc_1 ?_
              refine lv_iadd (pc := 223) hx hb dX8_orderHere_223 ?_
              refine lv_iconst (pc := 224) hx hb dX8_orderHere_224 kc_2 ?_
              obtain ⟨r17, m17, c17, h⟩ := xb_inv h
              refine xc_iV (pc := 225) (As := [.int _, .int _]) (rest := []) ⟨hx, hb, hml, hown, hts⟩ (mX8_figures hF _ _ _ k0 c17) (xcwV 2 hts fdX8_figures q_m_X8_150 ⟨Nat.le_of_ble_eq_true rfl, Nat.le_of_ble_eq_true rfl⟩) (xRecv hK hR (ci := 12) rfl k0.1) hR hK hE hS rfl hl.1 rfl (Nat.le_of_ble_eq_true rfl) dX8_orderHere_225 ⟨Nat.zero_le _, Nat.zero_le _⟩ (fun H locs hR hS => ?_)
              refine lv_if_eq (pc := 228) (tgt := 235) hx hb dX8_orderHere_228 (by decide) (fun c18 => ?_) (fun c18 => ?_)
              · have h := xpos c18 h
                refine lv_iconst (pc := 235) hx hb dX8_orderHere_235 kc_0 ?_
                exact xf_i (pc := 236) hx hb hr rfl hlocks h hR hK hS dX8_orderHere_236
              · have h := xneg c18 h
                refine lv_iconst (pc := 231) hx hb dX8_orderHere_231 kc_1 ?_
                refine lv_goto (pc := 232) (tgt := 236) hx hb dX8_orderHere_232 (by decide) ?_
                exact xf_i (pc := 236) hx hb hr rfl hlocks h hR hK hS dX8_orderHere_236
            · have h := xpos c16 h
              refine lv_aload_n (pc := 211) hx hb dX8_orderHere_211 rfl (lv_at hl 1 rfl) ?_
              refine lv_bipush (pc := 212) hx hb dX8_orderHere_212 kb_110 ?_
              obtain ⟨r19, m19, c19, h⟩ := xb_inv h
              refine xc_iV (pc := 214) (As := [.int _]) (rest := []) ⟨hx, hb, hml, hown, hts⟩ (mX8_skips hF _ _ k0 c19) (xcwV 1 hts fdX8_skips q_m_X8_147 ⟨Nat.le_of_ble_eq_true rfl, Nat.le_of_ble_eq_true rfl⟩) (xRecv hK hR (ci := 12) rfl k0.1) hR hK hE hS rfl hl.1 rfl (Nat.le_of_ble_eq_true rfl) dX8_orderHere_214 ⟨Nat.zero_le _, Nat.zero_le _⟩ (fun H locs hR hS => ?_)
              refine lv_if_eq (pc := 217) (tgt := 235) hx hb dX8_orderHere_217 (by decide) (fun c20 => ?_) (fun c20 => ?_)
              · have h := xpos c20 h
                refine lv_iconst (pc := 235) hx hb dX8_orderHere_235 kc_0 ?_
                exact xf_i (pc := 236) hx hb hr rfl hlocks h hR hK hS dX8_orderHere_236
              · have h := xneg c20 h
                refine lv_aload_n (pc := 220) hx hb dX8_orderHere_220 rfl (lv_at hl 1 rfl) ?_
                refine lv_iload_n (pc := 221) hx hb dX8_orderHere_221 rfl (lv_at hl 0 rfl) ?_
                refine lv_iconst (pc := 222) hx hb dX8_orderHere_222 kc_1 ?_
                refine lv_iadd (pc := 223) hx hb dX8_orderHere_223 ?_
                refine lv_iconst (pc := 224) hx hb dX8_orderHere_224 kc_2 ?_
                obtain ⟨r21, m21, c21, h⟩ := xb_inv h
                refine xc_iV (pc := 225) (As := [.int _, .int _]) (rest := []) ⟨hx, hb, hml, hown, hts⟩ (mX8_figures hF _ _ _ k0 c21) (xcwV 2 hts fdX8_figures q_m_X8_150 ⟨Nat.le_of_ble_eq_true rfl, Nat.le_of_ble_eq_true rfl⟩) (xRecv hK hR (ci := 12) rfl k0.1) hR hK hE hS rfl hl.1 rfl (Nat.le_of_ble_eq_true rfl) dX8_orderHere_225 ⟨Nat.zero_le _, Nat.zero_le _⟩ (fun H locs hR hS => ?_)
                refine lv_if_eq (pc := 228) (tgt := 235) hx hb dX8_orderHere_228 (by decide) (fun c22 => ?_) (fun c22 => ?_)
                · have h := xpos c22 h
                  refine lv_iconst (pc := 235) hx hb dX8_orderHere_235 kc_0 ?_
                  exact xf_i (pc := 236) hx hb hr rfl hlocks h hR hK hS dX8_orderHere_236
                · have h := xneg c22 h
                  refine lv_iconst (pc := 231) hx hb dX8_orderHere_231 kc_1 ?_
                  refine lv_goto (pc := 232) (tgt := 236) hx hb dX8_orderHere_232 (by decide) ?_
                  exact xf_i (pc := 236) hx hb hr rfl hlocks h hR hK hS dX8_orderHere_236
        · have h := xneg c10 h
          refine lv_aload_n (pc := 184) hx hb dX8_orderHere_184 rfl (lv_at hl 1 rfl) ?_
          refine lv_iload_n (pc := 185) hx hb dX8_orderHere_185 rfl (lv_at hl 0 rfl) ?_
          refine lv_iconst (pc := 186) hx hb dX8_orderHere_186 kc_1 ?_
          refine lv_iadd (pc := 187) hx hb dX8_orderHere_187 ?_
          refine lv_iconst (pc := 188) hx hb dX8_orderHere_188 kc_1 ?_
          obtain ⟨r23, m23, c23, h⟩ := xb_inv h
          refine xc_iV (pc := 189) (As := [.int _, .int _]) (rest := []) ⟨hx, hb, hml, hown, hts⟩ (mX8_figures hF _ _ _ k0 c23) (xcwV 2 hts fdX8_figures q_m_X8_150 ⟨Nat.le_of_ble_eq_true rfl, Nat.le_of_ble_eq_true rfl⟩) (xRecv hK hR (ci := 12) rfl k0.1) hR hK hE hS rfl hl.1 rfl (Nat.le_of_ble_eq_true rfl) dX8_orderHere_189 ⟨Nat.zero_le _, Nat.zero_le _⟩ (fun H locs hR hS => ?_)
          obtain ⟨c24, h⟩ := xk_inv h
          exact xf_i (pc := 192) hx hb hr c24.1 hlocks h hR hK hS dX8_orderHere_192
      · have h := xneg c8 h
        refine lv_aload_n (pc := 138) hx hb dX8_orderHere_138 rfl (lv_at hl 1 rfl) ?_
        refine lv_iload_n (pc := 139) hx hb dX8_orderHere_139 rfl (lv_at hl 0 rfl) ?_
        refine lv_iconst (pc := 140) hx hb dX8_orderHere_140 kc_1 ?_
        refine lv_iadd (pc := 141) hx hb dX8_orderHere_141 ?_
        refine lv_iconst (pc := 142) hx hb dX8_orderHere_142 kc_2 ?_
        obtain ⟨r25, m25, c25, h⟩ := xb_inv h
        refine xc_iV (pc := 143) (As := [.int _, .int _]) (rest := []) ⟨hx, hb, hml, hown, hts⟩ (mX8_figures hF _ _ _ k0 c25) (xcwV 2 hts fdX8_figures q_m_X8_150 ⟨Nat.le_of_ble_eq_true rfl, Nat.le_of_ble_eq_true rfl⟩) (xRecv hK hR (ci := 12) rfl k0.1) hR hK hE hS rfl hl.1 rfl (Nat.le_of_ble_eq_true rfl) dX8_orderHere_143 ⟨Nat.zero_le _, Nat.zero_le _⟩ (fun H locs hR hS => ?_)
        refine lv_if_eq (pc := 146) (tgt := 173) hx hb dX8_orderHere_146 (by decide) (fun c26 => ?_) (fun c26 => ?_)
        · have h := xpos c26 h
          refine lv_iconst (pc := 173) hx hb dX8_orderHere_173 kc_0 ?_
          exact xf_i (pc := 174) hx hb hr rfl hlocks h hR hK hS dX8_orderHere_174
        · have h := xneg c26 h
          refine lv_aload_n (pc := 149) hx hb dX8_orderHere_149 rfl (lv_at hl 1 rfl) ?_
          refine lv_bipush (pc := 150) hx hb dX8_orderHere_150 kb_61 ?_
          obtain ⟨r27, m27, c27, h⟩ := xb_inv h
          refine xc_iV (pc := 152) (As := [.int _]) (rest := []) ⟨hx, hb, hml, hown, hts⟩ (mX8_skips hF _ _ k0 c27) (xcwV 1 hts fdX8_skips q_m_X8_147 ⟨Nat.le_of_ble_eq_true rfl, Nat.le_of_ble_eq_true rfl⟩) (xRecv hK hR (ci := 12) rfl k0.1) hR hK hE hS rfl hl.1 rfl (Nat.le_of_ble_eq_true rfl) dX8_orderHere_152 ⟨Nat.zero_le _, Nat.zero_le _⟩ (fun H locs hR hS => ?_)
          refine lv_if_eq (pc := 155) (tgt := 173) hx hb dX8_orderHere_155 (by decide) (fun c28 => ?_) (fun c28 => ?_)
          · have h := xpos c28 h
            refine lv_iconst (pc := 173) hx hb dX8_orderHere_173 kc_0 ?_
            exact xf_i (pc := 174) hx hb hr rfl hlocks h hR hK hS dX8_orderHere_174
          · have h := xneg c28 h
            refine lv_aload_n (pc := 158) hx hb dX8_orderHere_158 rfl (lv_at hl 1 rfl) ?_
            refine lv_iload_n (pc := 159) hx hb dX8_orderHere_159 rfl (lv_at hl 0 rfl) ?_
            refine lv_iconst (pc := 160) hx hb dX8_orderHere_160 kc_2 ?_
            refine lv_iadd (pc := 161) hx hb dX8_orderHere_161 ?_
            refine lv_iconst (pc := 162) hx hb dX8_orderHere_162 kc_4 ?_
            obtain ⟨r29, m29, c29, h⟩ := xb_inv h
            refine xc_iV (pc := 163) (As := [.int _, .int _]) (rest := []) ⟨hx, hb, hml, hown, hts⟩ (mX8_figures hF _ _ _ k0 c29) (xcwV 2 hts fdX8_figures q_m_X8_150 ⟨Nat.le_of_ble_eq_true rfl, Nat.le_of_ble_eq_true rfl⟩) (xRecv hK hR (ci := 12) rfl k0.1) hR hK hE hS rfl hl.1 rfl (Nat.le_of_ble_eq_true rfl) dX8_orderHere_163 ⟨Nat.zero_le _, Nat.zero_le _⟩ (fun H locs hR hS => ?_)
            refine lv_if_eq (pc := 166) (tgt := 173) hx hb dX8_orderHere_166 (by decide) (fun c30 => ?_) (fun c30 => ?_)
            · have h := xpos c30 h
              refine lv_iconst (pc := 173) hx hb dX8_orderHere_173 kc_0 ?_
              exact xf_i (pc := 174) hx hb hr rfl hlocks h hR hK hS dX8_orderHere_174
            · have h := xneg c30 h
              refine lv_iconst (pc := 169) hx hb dX8_orderHere_169 kc_1 ?_
              refine lv_goto (pc := 170) (tgt := 174) hx hb dX8_orderHere_170 (by decide) ?_
              exact xf_i (pc := 174) hx hb hr rfl hlocks h hR hK hS dX8_orderHere_174
    · have h := xneg c6 h
      refine lv_aload_n (pc := 92) hx hb dX8_orderHere_92 rfl (lv_at hl 1 rfl) ?_
      refine lv_iload_n (pc := 93) hx hb dX8_orderHere_93 rfl (lv_at hl 0 rfl) ?_
      refine lv_iconst (pc := 94) hx hb dX8_orderHere_94 kc_1 ?_
      refine lv_iadd (pc := 95) hx hb dX8_orderHere_95 ?_
      refine lv_iconst (pc := 96) hx hb dX8_orderHere_96 kc_2 ?_
      obtain ⟨r31, m31, c31, h⟩ := xb_inv h
      refine xc_iV (pc := 97) (As := [.int _, .int _]) (rest := []) ⟨hx, hb, hml, hown, hts⟩ (mX8_figures hF _ _ _ k0 c31) (xcwV 2 hts fdX8_figures q_m_X8_150 ⟨Nat.le_of_ble_eq_true rfl, Nat.le_of_ble_eq_true rfl⟩) (xRecv hK hR (ci := 12) rfl k0.1) hR hK hE hS rfl hl.1 rfl (Nat.le_of_ble_eq_true rfl) dX8_orderHere_97 ⟨Nat.zero_le _, Nat.zero_le _⟩ (fun H locs hR hS => ?_)
      refine lv_if_eq (pc := 100) (tgt := 127) hx hb dX8_orderHere_100 (by decide) (fun c32 => ?_) (fun c32 => ?_)
      · have h := xpos c32 h
        refine lv_iconst (pc := 127) hx hb dX8_orderHere_127 kc_0 ?_
        exact xf_i (pc := 128) hx hb hr rfl hlocks h hR hK hS dX8_orderHere_128
      · have h := xneg c32 h
        refine lv_aload_n (pc := 103) hx hb dX8_orderHere_103 rfl (lv_at hl 1 rfl) ?_
        refine lv_bipush (pc := 104) hx hb dX8_orderHere_104 kb_61 ?_
        obtain ⟨r33, m33, c33, h⟩ := xb_inv h
        refine xc_iV (pc := 106) (As := [.int _]) (rest := []) ⟨hx, hb, hml, hown, hts⟩ (mX8_skips hF _ _ k0 c33) (xcwV 1 hts fdX8_skips q_m_X8_147 ⟨Nat.le_of_ble_eq_true rfl, Nat.le_of_ble_eq_true rfl⟩) (xRecv hK hR (ci := 12) rfl k0.1) hR hK hE hS rfl hl.1 rfl (Nat.le_of_ble_eq_true rfl) dX8_orderHere_106 ⟨Nat.zero_le _, Nat.zero_le _⟩ (fun H locs hR hS => ?_)
        refine lv_if_eq (pc := 109) (tgt := 127) hx hb dX8_orderHere_109 (by decide) (fun c34 => ?_) (fun c34 => ?_)
        · have h := xpos c34 h
          refine lv_iconst (pc := 127) hx hb dX8_orderHere_127 kc_0 ?_
          exact xf_i (pc := 128) hx hb hr rfl hlocks h hR hK hS dX8_orderHere_128
        · have h := xneg c34 h
          refine lv_aload_n (pc := 112) hx hb dX8_orderHere_112 rfl (lv_at hl 1 rfl) ?_
          refine lv_iload_n (pc := 113) hx hb dX8_orderHere_113 rfl (lv_at hl 0 rfl) ?_
          refine lv_iconst (pc := 114) hx hb dX8_orderHere_114 kc_2 ?_
          refine lv_iadd (pc := 115) hx hb dX8_orderHere_115 ?_
          refine lv_iconst (pc := 116) hx hb dX8_orderHere_116 kc_3 ?_
          obtain ⟨r35, m35, c35, h⟩ := xb_inv h
          refine xc_iV (pc := 117) (As := [.int _, .int _]) (rest := []) ⟨hx, hb, hml, hown, hts⟩ (mX8_figures hF _ _ _ k0 c35) (xcwV 2 hts fdX8_figures q_m_X8_150 ⟨Nat.le_of_ble_eq_true rfl, Nat.le_of_ble_eq_true rfl⟩) (xRecv hK hR (ci := 12) rfl k0.1) hR hK hE hS rfl hl.1 rfl (Nat.le_of_ble_eq_true rfl) dX8_orderHere_117 ⟨Nat.zero_le _, Nat.zero_le _⟩ (fun H locs hR hS => ?_)
          refine lv_if_eq (pc := 120) (tgt := 127) hx hb dX8_orderHere_120 (by decide) (fun c36 => ?_) (fun c36 => ?_)
          · have h := xpos c36 h
            refine lv_iconst (pc := 127) hx hb dX8_orderHere_127 kc_0 ?_
            exact xf_i (pc := 128) hx hb hr rfl hlocks h hR hK hS dX8_orderHere_128
          · have h := xneg c36 h
            refine lv_iconst (pc := 123) hx hb dX8_orderHere_123 kc_1 ?_
            refine lv_goto (pc := 124) (tgt := 128) hx hb dX8_orderHere_124 (by decide) ?_
            exact xf_i (pc := 128) hx hb hr rfl hlocks h hR hK hS dX8_orderHere_128
  · have h := xneg c4 h
    refine lv_aload_n (pc := 26) hx hb dX8_orderHere_26 rfl (lv_at hl 1 rfl) ?_
    refine lv_iload_n (pc := 27) hx hb dX8_orderHere_27 rfl (lv_at hl 0 rfl) ?_
    refine lv_iconst (pc := 28) hx hb dX8_orderHere_28 kc_1 ?_
    refine lv_iadd (pc := 29) hx hb dX8_orderHere_29 ?_
    refine lv_iconst (pc := 30) hx hb dX8_orderHere_30 kc_1 ?_
    obtain ⟨r37, m37, c37, h⟩ := xb_inv h
    refine xc_iV (pc := 31) (As := [.int _, .int _]) (rest := []) ⟨hx, hb, hml, hown, hts⟩ (mX8_figures hF _ _ _ k0 c37) (xcwV 2 hts fdX8_figures q_m_X8_150 ⟨Nat.le_of_ble_eq_true rfl, Nat.le_of_ble_eq_true rfl⟩) (xRecv hK hR (ci := 12) rfl k0.1) hR hK hE hS rfl hl.1 rfl (Nat.le_of_ble_eq_true rfl) dX8_orderHere_31 ⟨Nat.zero_le _, Nat.zero_le _⟩ (fun H locs hR hS => ?_)
    refine lv_if_eq (pc := 34) (tgt := 81) hx hb dX8_orderHere_34 (by decide) (fun c38 => ?_) (fun c38 => ?_)
    · have h := xpos c38 h
      refine lv_iconst (pc := 81) hx hb dX8_orderHere_81 kc_0 ?_
      exact xf_i (pc := 82) hx hb hr rfl hlocks h hR hK hS dX8_orderHere_82
    · have h := xneg c38 h
      refine lv_aload_n (pc := 37) hx hb dX8_orderHere_37 rfl (lv_at hl 1 rfl) ?_
      refine lv_bipush (pc := 38) hx hb dX8_orderHere_38 kb_61 ?_
      obtain ⟨r39, m39, c39, h⟩ := xb_inv h
      refine xc_iV (pc := 40) (As := [.int _]) (rest := []) ⟨hx, hb, hml, hown, hts⟩ (mX8_skips hF _ _ k0 c39) (xcwV 1 hts fdX8_skips q_m_X8_147 ⟨Nat.le_of_ble_eq_true rfl, Nat.le_of_ble_eq_true rfl⟩) (xRecv hK hR (ci := 12) rfl k0.1) hR hK hE hS rfl hl.1 rfl (Nat.le_of_ble_eq_true rfl) dX8_orderHere_40 ⟨Nat.zero_le _, Nat.zero_le _⟩ (fun H locs hR hS => ?_)
      refine lv_if_eq (pc := 43) (tgt := 81) hx hb dX8_orderHere_43 (by decide) (fun c40 => ?_) (fun c40 => ?_)
      · have h := xpos c40 h
        refine lv_iconst (pc := 81) hx hb dX8_orderHere_81 kc_0 ?_
        exact xf_i (pc := 82) hx hb hr rfl hlocks h hR hK hS dX8_orderHere_82
      · have h := xneg c40 h
        refine lv_aload_n (pc := 46) hx hb dX8_orderHere_46 rfl (lv_at hl 1 rfl) ?_
        refine lv_iload_n (pc := 47) hx hb dX8_orderHere_47 rfl (lv_at hl 0 rfl) ?_
        refine lv_iconst (pc := 48) hx hb dX8_orderHere_48 kc_2 ?_
        refine lv_iadd (pc := 49) hx hb dX8_orderHere_49 ?_
        refine lv_iconst (pc := 50) hx hb dX8_orderHere_50 kc_3 ?_
        obtain ⟨r41, m41, c41, h⟩ := xb_inv h
        refine xc_iV (pc := 51) (As := [.int _, .int _]) (rest := []) ⟨hx, hb, hml, hown, hts⟩ (mX8_figures hF _ _ _ k0 c41) (xcwV 2 hts fdX8_figures q_m_X8_150 ⟨Nat.le_of_ble_eq_true rfl, Nat.le_of_ble_eq_true rfl⟩) (xRecv hK hR (ci := 12) rfl k0.1) hR hK hE hS rfl hl.1 rfl (Nat.le_of_ble_eq_true rfl) dX8_orderHere_51 ⟨Nat.zero_le _, Nat.zero_le _⟩ (fun H locs hR hS => ?_)
        refine lv_if_eq (pc := 54) (tgt := 81) hx hb dX8_orderHere_54 (by decide) (fun c42 => ?_) (fun c42 => ?_)
        · have h := xpos c42 h
          refine lv_iconst (pc := 81) hx hb dX8_orderHere_81 kc_0 ?_
          exact xf_i (pc := 82) hx hb hr rfl hlocks h hR hK hS dX8_orderHere_82
        · have h := xneg c42 h
          refine lv_aload_n (pc := 57) hx hb dX8_orderHere_57 rfl (lv_at hl 1 rfl) ?_
          refine lv_bipush (pc := 58) hx hb dX8_orderHere_58 kb_47 ?_
          obtain ⟨r43, m43, c43, h⟩ := xb_inv h
          refine xc_iV (pc := 60) (As := [.int _]) (rest := []) ⟨hx, hb, hml, hown, hts⟩ (mX8_skips hF _ _ k0 c43) (xcwV 1 hts fdX8_skips q_m_X8_147 ⟨Nat.le_of_ble_eq_true rfl, Nat.le_of_ble_eq_true rfl⟩) (xRecv hK hR (ci := 12) rfl k0.1) hR hK hE hS rfl hl.1 rfl (Nat.le_of_ble_eq_true rfl) dX8_orderHere_60 ⟨Nat.zero_le _, Nat.zero_le _⟩ (fun H locs hR hS => ?_)
          refine lv_if_eq (pc := 63) (tgt := 81) hx hb dX8_orderHere_63 (by decide) (fun c44 => ?_) (fun c44 => ?_)
          · have h := xpos c44 h
            refine lv_iconst (pc := 81) hx hb dX8_orderHere_81 kc_0 ?_
            exact xf_i (pc := 82) hx hb hr rfl hlocks h hR hK hS dX8_orderHere_82
          · have h := xneg c44 h
            refine lv_aload_n (pc := 66) hx hb dX8_orderHere_66 rfl (lv_at hl 1 rfl) ?_
            refine lv_iload_n (pc := 67) hx hb dX8_orderHere_67 rfl (lv_at hl 0 rfl) ?_
            refine lv_iconst (pc := 68) hx hb dX8_orderHere_68 kc_3 ?_
            refine lv_iadd (pc := 69) hx hb dX8_orderHere_69 ?_
            refine lv_iconst (pc := 70) hx hb dX8_orderHere_70 kc_3 ?_
            obtain ⟨r45, m45, c45, h⟩ := xb_inv h
            refine xc_iV (pc := 71) (As := [.int _, .int _]) (rest := []) ⟨hx, hb, hml, hown, hts⟩ (mX8_figures hF _ _ _ k0 c45) (xcwV 2 hts fdX8_figures q_m_X8_150 ⟨Nat.le_of_ble_eq_true rfl, Nat.le_of_ble_eq_true rfl⟩) (xRecv hK hR (ci := 12) rfl k0.1) hR hK hE hS rfl hl.1 rfl (Nat.le_of_ble_eq_true rfl) dX8_orderHere_71 ⟨Nat.zero_le _, Nat.zero_le _⟩ (fun H locs hR hS => ?_)
            refine lv_if_eq (pc := 74) (tgt := 81) hx hb dX8_orderHere_74 (by decide) (fun c46 => ?_) (fun c46 => ?_)
            · have h := xpos c46 h
              refine lv_iconst (pc := 81) hx hb dX8_orderHere_81 kc_0 ?_
              exact xf_i (pc := 82) hx hb hr rfl hlocks h hR hK hS dX8_orderHere_82
            · have h := xneg c46 h
              refine lv_iconst (pc := 77) hx hb dX8_orderHere_77 kc_1 ?_
              refine lv_goto (pc := 78) (tgt := 82) hx hb dX8_orderHere_78 (by decide) ?_
              exact xf_i (pc := 82) hx hb hr rfl hlocks h hR hK hS dX8_orderHere_82
set_option maxHeartbeats 1000000 in
set_option maxRecDepth 20000 in
theorem wX8_isText_10 {p : Program} {l : Launch} {e : Env} {s : State} {m : MethodId} {args : Array Value} {below : List Frame} {meth : Method} {c : Code} {D : va_G} {ca : Nat → ClassId} {z : Nat} {G : xG} {X : va_W} {ad av : Nat → Nat} (hF : xFix z G X) (h0 : Nat) (k0 : xI_Model G h0) (hx : p.tables.exec = Jvm.exec) (hb : c.code = cX8_isText) (hr : meth.sig.returnType = (some .boolean)) (hml : c.maxLocals = 1) (hlocks : meth.locks = false) (hts : ∀ w ∈ xAll, w.before args s = true) (hown : s.vm.findClass RX8 = some m.cls) (hK : va_K D vwCl (xT ca) s) (hE : xEv z ad av s s.heap) {μ1 : xM} {r : Int32} :
    ∀ (n : Nat)  (μ : xM) (H : Heap) (locs : List Loc) (ls : Array Slot), lX8_isText_10 h0 n  μ = some (r, μ1) → xRep D ca G X μ H → va_S (fun q => z ≤ q) s.heap H locs → lv_has ls 1 [(0, .ref h0)] → W p l e (xRm 3 0 0) s m args below meth c H locs 0 0 (MQ below (va_Qi (fun (r' : Int32) (_ : Unit) => r' = r) (fun _ t => xB D ca G X μ1 t) (fun q => z ≤ q)) args s 0 0 (fun q => z ≤ q)) (F0 m 10 ls []) := by
  intro n
  induction n with
  | zero => intro  μ H locs ls h; cases h
  | succ n ih =>
    intro  μ H locs ls h hR hS hl
    rw [lX8_isText_10] at h
    refine lv_aload_n (pc := 10) hx hb dX8_isText_10 rfl (lv_at hl 0 rfl) ?_
    obtain ⟨r1, m1, c1, h⟩ := xb_inv h
    refine xc_iV (pc := 11) (As := []) (rest := []) ⟨hx, hb, hml, hown, hts⟩ (mX8_orderHere hF _ k0 c1) (xcwV 0 hts fdX8_orderHere q_m_X8_153 ⟨Nat.le_of_ble_eq_true rfl, Nat.le_of_ble_eq_true rfl⟩) (xRecv hK hR (ci := 12) rfl k0.1) hR hK hE hS rfl hl.1 rfl (Nat.le_of_ble_eq_true rfl) dX8_isText_11 ⟨Nat.zero_le _, Nat.zero_le _⟩ (fun H locs hR hS => ?_)
    refine lv_if_ne (pc := 14) (tgt := 19) hx hb dX8_isText_14 (by decide) (fun c2 => ?_) (fun c2 => ?_)
    · have h := xneg c2 h
      refine lv_aload_n (pc := 19) hx hb dX8_isText_19 rfl (lv_at hl 0 rfl) ?_
      refine lv_dup (pc := 20) hx hb dX8_isText_20 rfl ?_
      refine xr_getI (pc := 21) (ci := 12) hx hb hts inX8 hown hK hR rfl k0.1 19 (Nat.le_of_ble_eq_true rfl) rfl (hts _ q_f_X8_144) (fun _ h9 => h9) dX8_isText_21 ?_
      refine lv_iconst (pc := 24) hx hb dX8_isText_24 kc_1 ?_
      refine lv_iadd (pc := 25) hx hb dX8_isText_25 ?_
      refine xr_putI (pc := 26) (ci := 12) (ty := .int) hx hb hts inX8 tyX8 tyX8_ok nmX8 hown hK hR hF hS rfl k0.1 19 (Nat.le_of_ble_eq_true rfl) rfl (hts _ q_f_X8_144) (fun _ h9 => h9) rfl rfl rfl rfl dX8_isText_26 (fun H locs hR hS => ?_)
      refine lv_aload_n (pc := 29) hx hb dX8_isText_29 rfl (lv_at hl 0 rfl) ?_
      refine lv_bipush (pc := 30) hx hb dX8_isText_30 kb_59 ?_
      obtain ⟨r3, m3, c3, h⟩ := xb_inv h
      refine xc_iV (pc := 32) (As := [.int _]) (rest := []) ⟨hx, hb, hml, hown, hts⟩ (mX8_skips hF _ _ k0 c3) (xcwV 1 hts fdX8_skips q_m_X8_147 ⟨Nat.le_of_ble_eq_true rfl, Nat.le_of_ble_eq_true rfl⟩) (xRecv hK hR (ci := 12) rfl k0.1) hR hK hE hS rfl hl.1 rfl (Nat.le_of_ble_eq_true rfl) dX8_isText_32 ⟨Nat.zero_le _, Nat.zero_le _⟩ (fun H locs hR hS => ?_)
      refine lv_if_ne (pc := 35) (tgt := 10) hx hb dX8_isText_35 (by decide) (fun c4 => ?_) (fun c4 => ?_)
      · have h := xneg c4 h
        exact ih  _ _ _ _ h hR hS (lv_sub hl [0] rfl)
      · have h := xpos c4 h
        refine lv_aload_n (pc := 38) hx hb dX8_isText_38 rfl (lv_at hl 0 rfl) ?_
        refine xr_getI (pc := 39) (ci := 12) hx hb hts inX8 hown hK hR rfl k0.1 17 (Nat.le_of_ble_eq_true rfl) rfl (hts _ q_f_X8_138) (fun _ h9 => h9) dX8_isText_39 ?_
        refine lv_aload_n (pc := 42) hx hb dX8_isText_42 rfl (lv_at hl 0 rfl) ?_
        refine xr_getI (pc := 43) (ci := 12) hx hb hts inX8 hown hK hR rfl k0.1 13 (Nat.le_of_ble_eq_true rfl) rfl (hts _ q_f_X8_135) (fun _ h9 => h9) dX8_isText_43 ?_
        refine lv_icmp_ne (pc := 46) (tgt := 53) hx hb dX8_isText_46 (by decide) (fun c5 => ?_) (fun c5 => ?_)
        · have h := xneg c5 h
          refine lv_iconst (pc := 53) hx hb dX8_isText_53 kc_0 ?_
          exact xf_i (pc := 54) hx hb hr rfl hlocks h hR hK hS dX8_isText_54
        · have h := xpos c5 h
          refine lv_iconst (pc := 49) hx hb dX8_isText_49 kc_1 ?_
          refine lv_goto (pc := 50) (tgt := 54) hx hb dX8_isText_50 (by decide) ?_
          exact xf_i (pc := 54) hx hb hr rfl hlocks h hR hK hS dX8_isText_54
    · have h := xpos c2 h
      refine lv_iconst (pc := 17) hx hb dX8_isText_17 kc_0 ?_
      exact xf_i (pc := 18) hx hb hr rfl hlocks h hR hK hS dX8_isText_18
set_option maxHeartbeats 1000000 in
set_option maxRecDepth 20000 in
theorem mX8_isText {l : Launch} {D : va_G} {ca : Nat → ClassId} {z : Nat} {G : xG} {X : va_W} {ad av : Nat → Nat} (hF : xFix z G X) (h0 : Nat) (k0 : xI_Model G h0) {μ μ1 : xM} {r : Int32} (h : fX8_isText h0 μ = some (r, μ1)) : xMi l yX8_isText (xws yX8_isText cX8_isText 1 (some .boolean)) 3 D ca z G X ad av [.ref h0] μ r μ1 := by
  refine xm_i (by decide) rfl (Nat.le_of_ble_eq_true rfl) [(0, .ref h0)] rfl ?_
  intro p e s m args below meth c ls hx hb hr hml hlocks hts hown hK hE hR hS hl
  have hts : ∀ w ∈ xAll, w.before args s = true := fun w hw => hts w (List.mem_cons_of_mem _ hw)
  rw [fX8_isText] at h
  refine lv_aload_n (pc := 0) hx hb dX8_isText_0 rfl (lv_at hl 0 rfl) ?_
  refine lv_iconst (pc := 1) hx hb dX8_isText_1 kc_0 ?_
  refine xr_putI (pc := 2) (ci := 12) (ty := .int) hx hb hts inX8 tyX8 tyX8_ok nmX8 hown hK hR hF hS rfl k0.1 17 (Nat.le_of_ble_eq_true rfl) rfl (hts _ q_f_X8_138) (fun _ h9 => h9) rfl rfl rfl rfl dX8_isText_2 (fun H locs hR hS => ?_)
  refine lv_aload_n (pc := 5) hx hb dX8_isText_5 rfl (lv_at hl 0 rfl) ?_
  refine lv_iconst (pc := 6) hx hb dX8_isText_6 kc_0 ?_
  refine xr_putI (pc := 7) (ci := 12) (ty := .int) hx hb hts inX8 tyX8 tyX8_ok nmX8 hown hK hR hF hS rfl k0.1 19 (Nat.le_of_ble_eq_true rfl) rfl (hts _ q_f_X8_144) (fun _ h9 => h9) rfl rfl rfl rfl dX8_isText_7 (fun H locs hR hS => ?_)
  exact wX8_isText_10 hF h0 k0 hx hb hr hml hlocks hts hown hK hE _  _ _ _ _ h hR hS (lv_sub hl [0] rfl)
set_option maxHeartbeats 1000000 in
set_option maxRecDepth 20000 in
theorem mX8_carries {l : Launch} {D : va_G} {ca : Nat → ClassId} {z : Nat} {G : xG} {X : va_W} {ad av : Nat → Nat} (hF : xFix z G X) (h0 : Nat) (p1 : Int32) (k0 : xI_Model G h0) {μ μ1 : xM} {r : Int32} (h : fX8_carries h0 p1 μ = some (r, μ1)) : xMi l yX8_carries (xws yX8_carries cX8_carries 2 (some .int)) 4 D ca z G X ad av [.ref h0, .int p1] μ r μ1 := by
  refine xm_i (by decide) rfl (Nat.le_of_ble_eq_true rfl) [(0, .ref h0), (1, .int p1)] rfl ?_
  intro p e s m args below meth c ls hx hb hr hml hlocks hts hown hK hE hR hS hl
  have hts : ∀ w ∈ xAll, w.before args s = true := fun w hw => hts w (List.mem_cons_of_mem _ hw)
  rw [fX8_carries] at h
  refine lv_aload_n (pc := 0) hx hb dX8_carries_0 rfl (lv_at hl 0 rfl) ?_
  refine xr_getR (pc := 1) (ci := 12) hx hb hts inX8 hown hK hR rfl k0.1 18 (Nat.le_of_ble_eq_true rfl) rfl k0.2.2.2.2.2.2.2.1 (hts _ q_f_X8_36) (fun _ h9 => h9) dX8_carries_1 ?_
  refine lv_iload_n (pc := 4) hx hb dX8_carries_4 rfl (lv_at hl 1 rfl) ?_
  obtain ⟨c1, h⟩ := xk_inv h
  refine xr_ialdk (pc := 5) (Int32.toNatClampNeg p1) hx hb hK hR k0.2.2.2.2.2.2.2.2.1 k0.2.2.2.2.2.2.2.2.2 rfl c1 dX8_carries_5 ?_
  by_cases c2 : (μ ((h0 + 7)) (Int32.toNatClampNeg p1)) = (99 : Int32)
  · have h := xpos c2 h
    refine lv_lookup (pc := 6) (tgt := 135) hx hb dX8_carries_6 (by decide) (by rw [c2]; first | done | rfl) (by decide) ?_
    refine lv_aload_n (pc := 135) hx hb dX8_carries_135 rfl (lv_at hl 0 rfl) ?_
    refine lv_aload_n (pc := 136) hx hb dX8_carries_136 rfl (lv_at hl 0 rfl) ?_
    refine xr_getR (pc := 137) (ci := 12) hx hb hts inX8 hown hK hR rfl k0.1 18 (Nat.le_of_ble_eq_true rfl) rfl k0.2.2.2.2.2.2.2.1 (hts _ q_f_X8_36) (fun _ h9 => h9) dX8_carries_137 ?_
    refine lv_iload_n (pc := 140) hx hb dX8_carries_140 rfl (lv_at hl 1 rfl) ?_
    refine lv_iconst (pc := 141) hx hb dX8_carries_141 kc_1 ?_
    refine lv_iadd (pc := 142) hx hb dX8_carries_142 ?_
    obtain ⟨c3, h⟩ := xk_inv h
    refine xr_ialdk (pc := 143) (Int32.toNatClampNeg ((p1 + (1 : Int32)))) hx hb hK hR k0.2.2.2.2.2.2.2.2.1 k0.2.2.2.2.2.2.2.2.2 rfl c3 dX8_carries_143 ?_
    obtain ⟨r4, m4, c4, h⟩ := xb_inv h
    refine xc_iV (pc := 144) (As := [.int _]) (rest := []) ⟨hx, hb, hml, hown, hts⟩ (mX8_claim hF _ _ k0 c4) (xcwV 1 hts fdX8_claim q_m_X8_166 ⟨Nat.le_of_ble_eq_true rfl, Nat.le_of_ble_eq_true rfl⟩) (xRecv hK hR (ci := 12) rfl k0.1) hR hK hE hS rfl hl.1 rfl (Nat.le_of_ble_eq_true rfl) dX8_carries_144 ⟨Nat.zero_le _, Nat.zero_le _⟩ (fun H locs hR hS => ?_)
    exact xf_i (pc := 147) hx hb hr rfl hlocks h hR hK hS dX8_carries_147
  have h := xneg c2 h
  by_cases c5 : (μ ((h0 + 7)) (Int32.toNatClampNeg p1)) = (112 : Int32)
  · have h := xpos c5 h
    refine lv_lookup (pc := 6) (tgt := 64) hx hb dX8_carries_6 (by decide) (by rw [c5]; first | done | rfl) (by decide) ?_
    refine lv_aload_n (pc := 64) hx hb dX8_carries_64 rfl (lv_at hl 0 rfl) ?_
    refine lv_aload_n (pc := 65) hx hb dX8_carries_65 rfl (lv_at hl 0 rfl) ?_
    refine xr_getR (pc := 66) (ci := 12) hx hb hts inX8 hown hK hR rfl k0.1 18 (Nat.le_of_ble_eq_true rfl) rfl k0.2.2.2.2.2.2.2.1 (hts _ q_f_X8_36) (fun _ h9 => h9) dX8_carries_66 ?_
    refine lv_iload_n (pc := 69) hx hb dX8_carries_69 rfl (lv_at hl 1 rfl) ?_
    refine lv_iconst (pc := 70) hx hb dX8_carries_70 kc_1 ?_
    refine lv_iadd (pc := 71) hx hb dX8_carries_71 ?_
    obtain ⟨c6, h⟩ := xk_inv h
    refine xr_ialdk (pc := 72) (Int32.toNatClampNeg ((p1 + (1 : Int32)))) hx hb hK hR k0.2.2.2.2.2.2.2.2.1 k0.2.2.2.2.2.2.2.2.2 rfl c6 dX8_carries_72 ?_
    refine lv_aload_n (pc := 73) hx hb dX8_carries_73 rfl (lv_at hl 0 rfl) ?_
    refine xr_getR (pc := 74) (ci := 12) hx hb hts inX8 hown hK hR rfl k0.1 18 (Nat.le_of_ble_eq_true rfl) rfl k0.2.2.2.2.2.2.2.1 (hts _ q_f_X8_36) (fun _ h9 => h9) dX8_carries_74 ?_
    refine lv_iload_n (pc := 77) hx hb dX8_carries_77 rfl (lv_at hl 1 rfl) ?_
    refine lv_iconst (pc := 78) hx hb dX8_carries_78 kc_2 ?_
    refine lv_iadd (pc := 79) hx hb dX8_carries_79 ?_
    obtain ⟨c7, h⟩ := xk_inv h
    refine xr_ialdk (pc := 80) (Int32.toNatClampNeg ((p1 + (2 : Int32)))) hx hb hK hR k0.2.2.2.2.2.2.2.2.1 k0.2.2.2.2.2.2.2.2.2 rfl c7 dX8_carries_80 ?_
    refine lv_aload_n (pc := 81) hx hb dX8_carries_81 rfl (lv_at hl 0 rfl) ?_
    refine xr_getR (pc := 82) (ci := 12) hx hb hts inX8 hown hK hR rfl k0.1 18 (Nat.le_of_ble_eq_true rfl) rfl k0.2.2.2.2.2.2.2.1 (hts _ q_f_X8_36) (fun _ h9 => h9) dX8_carries_82 ?_
    refine lv_iload_n (pc := 85) hx hb dX8_carries_85 rfl (lv_at hl 1 rfl) ?_
    refine lv_iconst (pc := 86) hx hb dX8_carries_86 kc_3 ?_
    refine lv_iadd (pc := 87) hx hb dX8_carries_87 ?_
    obtain ⟨c8, h⟩ := xk_inv h
    refine xr_ialdk (pc := 88) (Int32.toNatClampNeg ((p1 + (3 : Int32)))) hx hb hK hR k0.2.2.2.2.2.2.2.2.1 k0.2.2.2.2.2.2.2.2.2 rfl c8 dX8_carries_88 ?_
    obtain ⟨r9, m9, c9, h⟩ := xb_inv h
    refine xc_iV (pc := 89) (As := [.int _, .int _, .int _]) (rest := []) ⟨hx, hb, hml, hown, hts⟩ (mX8_pledge hF _ _ _ _ k0 c9) (xcwV 3 hts fdX8_pledge q_m_X8_157 ⟨Nat.le_of_ble_eq_true rfl, Nat.le_of_ble_eq_true rfl⟩) (xRecv hK hR (ci := 12) rfl k0.1) hR hK hE hS rfl hl.1 rfl (Nat.le_of_ble_eq_true rfl) dX8_carries_89 ⟨Nat.zero_le _, Nat.zero_le _⟩ (fun H locs hR hS => ?_)
    exact xf_i (pc := 92) hx hb hr rfl hlocks h hR hK hS dX8_carries_92
  have h := xneg c5 h
  by_cases c10 : (μ ((h0 + 7)) (Int32.toNatClampNeg p1)) = (114 : Int32)
  · have h := xpos c10 h
    refine lv_lookup (pc := 6) (tgt := 161) hx hb dX8_carries_6 (by decide) (by rw [c10]; first | done | rfl) (by decide) ?_
    refine lv_aload_n (pc := 161) hx hb dX8_carries_161 rfl (lv_at hl 0 rfl) ?_
    refine lv_aload_n (pc := 162) hx hb dX8_carries_162 rfl (lv_at hl 0 rfl) ?_
    refine xr_getR (pc := 163) (ci := 12) hx hb hts inX8 hown hK hR rfl k0.1 18 (Nat.le_of_ble_eq_true rfl) rfl k0.2.2.2.2.2.2.2.1 (hts _ q_f_X8_36) (fun _ h9 => h9) dX8_carries_163 ?_
    refine lv_iload_n (pc := 166) hx hb dX8_carries_166 rfl (lv_at hl 1 rfl) ?_
    refine lv_iconst (pc := 167) hx hb dX8_carries_167 kc_1 ?_
    refine lv_iadd (pc := 168) hx hb dX8_carries_168 ?_
    obtain ⟨c11, h⟩ := xk_inv h
    refine xr_ialdk (pc := 169) (Int32.toNatClampNeg ((p1 + (1 : Int32)))) hx hb hK hR k0.2.2.2.2.2.2.2.2.1 k0.2.2.2.2.2.2.2.2.2 rfl c11 dX8_carries_169 ?_
    obtain ⟨r12, m12, c12, h⟩ := xb_inv h
    refine xc_iV (pc := 170) (As := [.int _]) (rest := []) ⟨hx, hb, hml, hown, hts⟩ (mX8_redeem hF _ _ k0 c12) (xcwV 1 hts fdX8_redeem q_m_X8_172 ⟨Nat.le_of_ble_eq_true rfl, Nat.le_of_ble_eq_true rfl⟩) (xRecv hK hR (ci := 12) rfl k0.1) hR hK hE hS rfl hl.1 rfl (Nat.le_of_ble_eq_true rfl) dX8_carries_170 ⟨Nat.zero_le _, Nat.zero_le _⟩ (fun H locs hR hS => ?_)
    exact xf_i (pc := 173) hx hb hr rfl hlocks h hR hK hS dX8_carries_173
  have h := xneg c10 h
  by_cases c13 : (μ ((h0 + 7)) (Int32.toNatClampNeg p1)) = (115 : Int32)
  · have h := xpos c13 h
    refine lv_lookup (pc := 6) (tgt := 114) hx hb dX8_carries_6 (by decide) (by rw [c13]; first | done | rfl) (by decide) ?_
    refine lv_aload_n (pc := 114) hx hb dX8_carries_114 rfl (lv_at hl 0 rfl) ?_
    refine lv_aload_n (pc := 115) hx hb dX8_carries_115 rfl (lv_at hl 0 rfl) ?_
    refine xr_getR (pc := 116) (ci := 12) hx hb hts inX8 hown hK hR rfl k0.1 18 (Nat.le_of_ble_eq_true rfl) rfl k0.2.2.2.2.2.2.2.1 (hts _ q_f_X8_36) (fun _ h9 => h9) dX8_carries_116 ?_
    refine lv_iload_n (pc := 119) hx hb dX8_carries_119 rfl (lv_at hl 1 rfl) ?_
    refine lv_iconst (pc := 120) hx hb dX8_carries_120 kc_1 ?_
    refine lv_iadd (pc := 121) hx hb dX8_carries_121 ?_
    obtain ⟨c14, h⟩ := xk_inv h
    refine xr_ialdk (pc := 122) (Int32.toNatClampNeg ((p1 + (1 : Int32)))) hx hb hK hR k0.2.2.2.2.2.2.2.2.1 k0.2.2.2.2.2.2.2.2.2 rfl c14 dX8_carries_122 ?_
    refine lv_aload_n (pc := 123) hx hb dX8_carries_123 rfl (lv_at hl 0 rfl) ?_
    refine xr_getR (pc := 124) (ci := 12) hx hb hts inX8 hown hK hR rfl k0.1 18 (Nat.le_of_ble_eq_true rfl) rfl k0.2.2.2.2.2.2.2.1 (hts _ q_f_X8_36) (fun _ h9 => h9) dX8_carries_124 ?_
    refine lv_iload_n (pc := 127) hx hb dX8_carries_127 rfl (lv_at hl 1 rfl) ?_
    refine lv_iconst (pc := 128) hx hb dX8_carries_128 kc_2 ?_
    refine lv_iadd (pc := 129) hx hb dX8_carries_129 ?_
    obtain ⟨c15, h⟩ := xk_inv h
    refine xr_ialdk (pc := 130) (Int32.toNatClampNeg ((p1 + (2 : Int32)))) hx hb hK hR k0.2.2.2.2.2.2.2.2.1 k0.2.2.2.2.2.2.2.2.2 rfl c15 dX8_carries_130 ?_
    obtain ⟨r16, m16, c16, h⟩ := xb_inv h
    refine xc_iV (pc := 131) (As := [.int _, .int _]) (rest := []) ⟨hx, hb, hml, hown, hts⟩ (mX8_sell hF _ _ _ k0 c16) (xcwV 2 hts fdX8_sell q_m_X8_163 ⟨Nat.le_of_ble_eq_true rfl, Nat.le_of_ble_eq_true rfl⟩) (xRecv hK hR (ci := 12) rfl k0.1) hR hK hE hS rfl hl.1 rfl (Nat.le_of_ble_eq_true rfl) dX8_carries_131 ⟨Nat.zero_le _, Nat.zero_le _⟩ (fun H locs hR hS => ?_)
    exact xf_i (pc := 134) hx hb hr rfl hlocks h hR hK hS dX8_carries_134
  have h := xneg c13 h
  by_cases c17 : (μ ((h0 + 7)) (Int32.toNatClampNeg p1)) = (119 : Int32)
  · have h := xpos c17 h
    refine lv_lookup (pc := 6) (tgt := 148) hx hb dX8_carries_6 (by decide) (by rw [c17]; first | done | rfl) (by decide) ?_
    refine lv_aload_n (pc := 148) hx hb dX8_carries_148 rfl (lv_at hl 0 rfl) ?_
    refine lv_aload_n (pc := 149) hx hb dX8_carries_149 rfl (lv_at hl 0 rfl) ?_
    refine xr_getR (pc := 150) (ci := 12) hx hb hts inX8 hown hK hR rfl k0.1 18 (Nat.le_of_ble_eq_true rfl) rfl k0.2.2.2.2.2.2.2.1 (hts _ q_f_X8_36) (fun _ h9 => h9) dX8_carries_150 ?_
    refine lv_iload_n (pc := 153) hx hb dX8_carries_153 rfl (lv_at hl 1 rfl) ?_
    refine lv_iconst (pc := 154) hx hb dX8_carries_154 kc_1 ?_
    refine lv_iadd (pc := 155) hx hb dX8_carries_155 ?_
    obtain ⟨c18, h⟩ := xk_inv h
    refine xr_ialdk (pc := 156) (Int32.toNatClampNeg ((p1 + (1 : Int32)))) hx hb hK hR k0.2.2.2.2.2.2.2.2.1 k0.2.2.2.2.2.2.2.2.2 rfl c18 dX8_carries_156 ?_
    obtain ⟨r19, m19, c19, h⟩ := xb_inv h
    refine xc_iV (pc := 157) (As := [.int _]) (rest := []) ⟨hx, hb, hml, hown, hts⟩ (mX8_pass hF _ _ k0 c19) (xcwV 1 hts fdX8_pass q_m_X8_169 ⟨Nat.le_of_ble_eq_true rfl, Nat.le_of_ble_eq_true rfl⟩) (xRecv hK hR (ci := 12) rfl k0.1) hR hK hE hS rfl hl.1 rfl (Nat.le_of_ble_eq_true rfl) dX8_carries_157 ⟨Nat.zero_le _, Nat.zero_le _⟩ (fun H locs hR hS => ?_)
    exact xf_i (pc := 160) hx hb hr rfl hlocks h hR hK hS dX8_carries_160
  have h := xneg c17 h
  by_cases c20 : (μ ((h0 + 7)) (Int32.toNatClampNeg p1)) = (121 : Int32)
  · have h := xpos c20 h
    refine lv_lookup (pc := 6) (tgt := 93) hx hb dX8_carries_6 (by decide) (by rw [c20]; first | done | rfl) (by decide) ?_
    refine lv_aload_n (pc := 93) hx hb dX8_carries_93 rfl (lv_at hl 0 rfl) ?_
    refine lv_aload_n (pc := 94) hx hb dX8_carries_94 rfl (lv_at hl 0 rfl) ?_
    refine xr_getR (pc := 95) (ci := 12) hx hb hts inX8 hown hK hR rfl k0.1 18 (Nat.le_of_ble_eq_true rfl) rfl k0.2.2.2.2.2.2.2.1 (hts _ q_f_X8_36) (fun _ h9 => h9) dX8_carries_95 ?_
    refine lv_iload_n (pc := 98) hx hb dX8_carries_98 rfl (lv_at hl 1 rfl) ?_
    refine lv_iconst (pc := 99) hx hb dX8_carries_99 kc_1 ?_
    refine lv_iadd (pc := 100) hx hb dX8_carries_100 ?_
    obtain ⟨c21, h⟩ := xk_inv h
    refine xr_ialdk (pc := 101) (Int32.toNatClampNeg ((p1 + (1 : Int32)))) hx hb hK hR k0.2.2.2.2.2.2.2.2.1 k0.2.2.2.2.2.2.2.2.2 rfl c21 dX8_carries_101 ?_
    refine lv_aload_n (pc := 102) hx hb dX8_carries_102 rfl (lv_at hl 0 rfl) ?_
    refine xr_getR (pc := 103) (ci := 12) hx hb hts inX8 hown hK hR rfl k0.1 18 (Nat.le_of_ble_eq_true rfl) rfl k0.2.2.2.2.2.2.2.1 (hts _ q_f_X8_36) (fun _ h9 => h9) dX8_carries_103 ?_
    refine lv_iload_n (pc := 106) hx hb dX8_carries_106 rfl (lv_at hl 1 rfl) ?_
    refine lv_iconst (pc := 107) hx hb dX8_carries_107 kc_2 ?_
    refine lv_iadd (pc := 108) hx hb dX8_carries_108 ?_
    obtain ⟨c22, h⟩ := xk_inv h
    refine xr_ialdk (pc := 109) (Int32.toNatClampNeg ((p1 + (2 : Int32)))) hx hb hK hR k0.2.2.2.2.2.2.2.2.1 k0.2.2.2.2.2.2.2.2.2 rfl c22 dX8_carries_109 ?_
    obtain ⟨r23, m23, c23, h⟩ := xb_inv h
    refine xc_iV (pc := 110) (As := [.int _, .int _]) (rest := []) ⟨hx, hb, hml, hown, hts⟩ (mX8_pay hF _ _ _ k0 c23) (xcwV 2 hts fdX8_pay q_m_X8_160 ⟨Nat.le_of_ble_eq_true rfl, Nat.le_of_ble_eq_true rfl⟩) (xRecv hK hR (ci := 12) rfl k0.1) hR hK hE hS rfl hl.1 rfl (Nat.le_of_ble_eq_true rfl) dX8_carries_110 ⟨Nat.zero_le _, Nat.zero_le _⟩ (fun H locs hR hS => ?_)
    exact xf_i (pc := 113) hx hb hr rfl hlocks h hR hK hS dX8_carries_113
  have h := xneg c20 h
  refine lv_lookup (pc := 6) (tgt := 174) (off := 168) hx hb dX8_carries_6 (by decide) (xlook _ _ _ (by have z2 := xnek ti_99 c2; have z5 := xnek ti_112 c5; have z10 := xnek ti_114 c10; have z13 := xnek ti_115 c13; have z17 := xnek ti_119 c17; have z20 := xnek ti_121 c20; intro q hq; simp at hq; rcases hq with rfl | rfl | rfl | rfl | rfl | rfl <;> (simp; omega))) (by decide) ?_
  refine lv_aload_n (pc := 174) hx hb dX8_carries_174 rfl (lv_at hl 0 rfl) ?_
  refine lv_aload_n (pc := 175) hx hb dX8_carries_175 rfl (lv_at hl 0 rfl) ?_
  refine xr_getR (pc := 176) (ci := 12) hx hb hts inX8 hown hK hR rfl k0.1 18 (Nat.le_of_ble_eq_true rfl) rfl k0.2.2.2.2.2.2.2.1 (hts _ q_f_X8_36) (fun _ h9 => h9) dX8_carries_176 ?_
  refine lv_iload_n (pc := 179) hx hb dX8_carries_179 rfl (lv_at hl 1 rfl) ?_
  refine lv_iconst (pc := 180) hx hb dX8_carries_180 kc_1 ?_
  refine lv_iadd (pc := 181) hx hb dX8_carries_181 ?_
  obtain ⟨c24, h⟩ := xk_inv h
  refine xr_ialdk (pc := 182) (Int32.toNatClampNeg ((p1 + (1 : Int32)))) hx hb hK hR k0.2.2.2.2.2.2.2.2.1 k0.2.2.2.2.2.2.2.2.2 rfl c24 dX8_carries_182 ?_
  obtain ⟨r25, m25, c25, h⟩ := xb_inv h
  refine xc_iV (pc := 183) (As := [.int _]) (rest := []) ⟨hx, hb, hml, hown, hts⟩ (mX8_renew hF _ _ k0 c25) (xcwV 1 hts fdX8_renew q_m_X8_175 ⟨Nat.le_of_ble_eq_true rfl, Nat.le_of_ble_eq_true rfl⟩) (xRecv hK hR (ci := 12) rfl k0.1) hR hK hE hS rfl hl.1 rfl (Nat.le_of_ble_eq_true rfl) dX8_carries_183 ⟨Nat.zero_le _, Nat.zero_le _⟩ (fun H locs hR hS => ?_)
  exact xf_i (pc := 186) hx hb hr rfl hlocks h hR hK hS dX8_carries_186
set_option maxHeartbeats 1000000 in
set_option maxRecDepth 20000 in
theorem mX8_lastOf {l : Launch} {D : va_G} {ca : Nat → ClassId} {z : Nat} {G : xG} {X : va_W} {ad av : Nat → Nat} (hF : xFix z G X) (p0 : Int32)  {μ μ1 : xM} {r : Int32} (h : fX8_lastOf p0 μ = some (r, μ1)) : xMi l yX8_lastOf (xws yX8_lastOf cX8_lastOf 1 (some .int)) 0 D ca z G X ad av [.int p0] μ r μ1 := by
  refine xm_i (by decide) rfl (Nat.le_of_ble_eq_true rfl) [(0, .int p0)] rfl ?_
  intro p e s m args below meth c ls hx hb hr hml hlocks hts hown hK hE hR hS hl
  have hts : ∀ w ∈ xAll, w.before args s = true := fun w hw => hts w (List.mem_cons_of_mem _ hw)
  rw [fX8_lastOf] at h
  refine lv_iload_n (pc := 0) hx hb dX8_lastOf_0 rfl (lv_at hl 0 rfl) ?_
  refine lv_bipush (pc := 1) hx hb dX8_lastOf_1 kb_119 ?_
  refine lv_icmp_ne (pc := 3) (tgt := 10) hx hb dX8_lastOf_3 (by decide) (fun c1 => ?_) (fun c1 => ?_)
  · have h := xneg c1 h
    refine lv_iload_n (pc := 10) hx hb dX8_lastOf_10 rfl (lv_at hl 0 rfl) ?_
    refine lv_bipush (pc := 11) hx hb dX8_lastOf_11 kb_112 ?_
    refine lv_icmp_eq (pc := 13) (tgt := 28) hx hb dX8_lastOf_13 (by decide) (fun c2 => ?_) (fun c2 => ?_)
    · have h := xpos c2 h
      refine lv_iconst (pc := 28) hx hb dX8_lastOf_28 kc_3 ?_
      refine lv_goto (pc := 29) (tgt := 33) hx hb dX8_lastOf_29 (by decide) ?_
      exact xf_i (pc := 33) hx hb hr rfl hlocks h hR hK hS dX8_lastOf_33
    · have h := xneg c2 h
      refine lv_iload_n (pc := 16) hx hb dX8_lastOf_16 rfl (lv_at hl 0 rfl) ?_
      refine lv_bipush (pc := 17) hx hb dX8_lastOf_17 kb_121 ?_
      refine lv_icmp_eq (pc := 19) (tgt := 28) hx hb dX8_lastOf_19 (by decide) (fun c3 => ?_) (fun c3 => ?_)
      · have h := xpos c3 h
        refine lv_iconst (pc := 28) hx hb dX8_lastOf_28 kc_3 ?_
        refine lv_goto (pc := 29) (tgt := 33) hx hb dX8_lastOf_29 (by decide) ?_
        exact xf_i (pc := 33) hx hb hr rfl hlocks h hR hK hS dX8_lastOf_33
      · have h := xneg c3 h
        refine lv_iload_n (pc := 22) hx hb dX8_lastOf_22 rfl (lv_at hl 0 rfl) ?_
        refine lv_bipush (pc := 23) hx hb dX8_lastOf_23 kb_115 ?_
        refine lv_icmp_ne (pc := 25) (tgt := 32) hx hb dX8_lastOf_25 (by decide) (fun c4 => ?_) (fun c4 => ?_)
        · have h := xneg c4 h
          refine lv_iconst (pc := 32) hx hb dX8_lastOf_32 kc_2 ?_
          exact xf_i (pc := 33) hx hb hr rfl hlocks h hR hK hS dX8_lastOf_33
        · have h := xpos c4 h
          refine lv_iconst (pc := 28) hx hb dX8_lastOf_28 kc_3 ?_
          refine lv_goto (pc := 29) (tgt := 33) hx hb dX8_lastOf_29 (by decide) ?_
          exact xf_i (pc := 33) hx hb hr rfl hlocks h hR hK hS dX8_lastOf_33
  · have h := xpos c1 h
    refine lv_iconst (pc := 6) hx hb dX8_lastOf_6 kc_m1 ?_
    refine lv_goto (pc := 7) (tgt := 33) hx hb dX8_lastOf_7 (by decide) ?_
    exact xf_i (pc := 33) hx hb hr rfl hlocks h hR hK hS dX8_lastOf_33
set_option maxHeartbeats 1000000 in
set_option maxRecDepth 20000 in
theorem wX8_run_66 {p : Program} {l : Launch} {e : Env} {s : State} {m : MethodId} {args : Array Value} {below : List Frame} {meth : Method} {c : Code} {D : va_G} {ca : Nat → ClassId} {z : Nat} {G : xG} {X : va_W} {ad av : Nat → Nat} (hF : xFix z G X) (h0 : Nat) (k0 : xI_Model G h0) (hx : p.tables.exec = Jvm.exec) (hb : c.code = cX8_run) (hr : meth.sig.returnType = (some .int)) (hml : c.maxLocals = 7) (hlocks : meth.locks = false) (hts : ∀ w ∈ xAll, w.before args s = true) (hown : s.vm.findClass RX8 = some m.cls) (hK : va_K D vwCl (xT ca) s) (hE : xEv z ad av s s.heap) {μ1 : xM} {r : Int32} :
    ∀ (n : Nat) (x1 : Int32) (x2 : Int32) (x3 : Int32) (μ : xM) (H : Heap) (locs : List Loc) (ls : Array Slot), lX8_run_66 h0 n x1 x2 x3 μ = some (r, μ1) → xRep D ca G X μ H → va_S (fun q => z ≤ q) s.heap H locs → lv_has ls 7 [(0, .ref h0), (1, .int x1), (2, .int x2), (3, .int x3)] → W p l e (xRm 5 0 0) s m args below meth c H locs 0 0 (MQ below (va_Qi (fun (r' : Int32) (_ : Unit) => r' = r) (fun _ t => xB D ca G X μ1 t) (fun q => z ≤ q)) args s 0 0 (fun q => z ≤ q)) (F0 m 66 ls []) := by
  intro n
  induction n with
  | zero => intro x1 x2 x3 μ H locs ls h; cases h
  | succ n ih =>
    intro x1 x2 x3 μ H locs ls h hR hS hl
    rw [lX8_run_66] at h
    refine lv_iload_n (pc := 66) hx hb dX8_run_66 rfl (lv_at hl 2 rfl) ?_
    refine lv_aload_n (pc := 67) hx hb dX8_run_67 rfl (lv_at hl 0 rfl) ?_
    refine xr_getI (pc := 68) (ci := 12) hx hb hts inX8 hown hK hR rfl k0.1 19 (Nat.le_of_ble_eq_true rfl) rfl (hts _ q_f_X8_144) (fun _ h9 => h9) dX8_run_68 ?_
    refine lv_icmp_ge (pc := 71) (tgt := 95) hx hb dX8_run_71 (by decide) (fun c7 => ?_) (fun c7 => ?_)
    · have h := xpos c7 h
      refine lv_aload_n (pc := 95) hx hb dX8_run_95 rfl (lv_at hl 0 rfl) ?_
      refine lv_iconst (pc := 96) hx hb dX8_run_96 kc_0 ?_
      refine xr_putI (pc := 97) (ci := 12) (ty := .boolean) hx hb hts inX8 tyX8 tyX8_ok nmX8 hown hK hR hF hS rfl k0.1 6 (Nat.le_of_ble_eq_true rfl) rfl (hts _ q_f_X8_48) (fun _ h9 => h9) rfl rfl rfl rfl dX8_run_97 (fun H locs hR hS => ?_)
      refine lv_aload_n (pc := 100) hx hb dX8_run_100 rfl (lv_at hl 0 rfl) ?_
      refine xr_getI (pc := 101) (ci := 12) hx hb hts inX8 hown hK hR rfl k0.1 7 (Nat.le_of_ble_eq_true rfl) rfl (hts _ q_f_X8_39) (fun _ h9 => h9) dX8_run_101 ?_
      refine lv_if_le (pc := 104) (tgt := 202) hx hb dX8_run_104 (by decide) (fun c8 => ?_) (fun c8 => ?_)
      · have h := xpos c8 h
        refine lv_aload_n (pc := 202) hx hb dX8_run_202 rfl (lv_at hl 0 rfl) ?_
        refine lv_aload_n (pc := 203) hx hb dX8_run_203 rfl (lv_at hl 0 rfl) ?_
        refine xr_getR (pc := 204) (ci := 12) hx hb hts inX8 hown hK hR rfl k0.1 3 (Nat.le_of_ble_eq_true rfl) rfl k0.2.2.2.2.1.1 (hts _ q_f_X8_19) (fun _ h9 => h9) dX8_run_204 ?_
        obtain ⟨m9, c9, h⟩ := xbv_inv h
        refine xc_vV (pc := 207) (As := [.ref _]) (rest := []) ⟨hx, hb, hml, hown, hts⟩ (mX8_keeps hF _ _ k0 k0.2.2.2.2.1.2 c9) (xcwV 1 hts fdX8_keeps q_m_X8_75 ⟨Nat.le_of_ble_eq_true rfl, Nat.le_of_ble_eq_true rfl⟩) (xRecv hK hR (ci := 12) rfl k0.1) hR hK hE hS rfl hl.1 rfl (Nat.le_of_ble_eq_true rfl) dX8_run_207 ⟨Nat.zero_le _, Nat.zero_le _⟩ (fun H locs hR hS => ?_)
        refine lv_iload_n (pc := 210) hx hb dX8_run_210 rfl (lv_at hl 3 rfl) ?_
        refine lv_if_ge (pc := 211) (tgt := 218) hx hb dX8_run_211 (by decide) (fun c10 => ?_) (fun c10 => ?_)
        · have h := xpos c10 h
          refine lv_aload_n (pc := 218) hx hb dX8_run_218 rfl (lv_at hl 0 rfl) ?_
          refine xr_getI (pc := 219) (ci := 12) hx hb hts inX8 hown hK hR rfl k0.1 19 (Nat.le_of_ble_eq_true rfl) rfl (hts _ q_f_X8_144) (fun _ h9 => h9) dX8_run_219 ?_
          exact xf_i (pc := 222) hx hb hr rfl hlocks h hR hK hS dX8_run_222
        · have h := xneg c10 h
          refine lv_iconst (pc := 214) hx hb dX8_run_214 kc_0 ?_
          refine lv_goto (pc := 215) (tgt := 222) hx hb dX8_run_215 (by decide) ?_
          exact xf_i (pc := 222) hx hb hr rfl hlocks h hR hK hS dX8_run_222
      · have h := xneg c8 h
        refine lv_aload_n (pc := 107) hx hb dX8_run_107 rfl (lv_at hl 0 rfl) ?_
        refine xr_getR (pc := 108) (ci := 12) hx hb hts inX8 hown hK hR rfl k0.1 3 (Nat.le_of_ble_eq_true rfl) rfl k0.2.2.2.2.1.1 (hts _ q_f_X8_19) (fun _ h9 => h9) dX8_run_108 ?_
        refine lv_iconst (pc := 111) hx hb dX8_run_111 kc_0 ?_
        refine lv_aload_n (pc := 112) hx hb dX8_run_112 rfl (lv_at hl 0 rfl) ?_
        refine xr_getR (pc := 113) (ci := 12) hx hb hts inX8 hown hK hR rfl k0.1 0 (Nat.le_of_ble_eq_true rfl) rfl k0.2.1.1 (hts _ q_f_X8_7) (fun _ h9 => h9) dX8_run_113 ?_
        refine lv_iconst (pc := 116) hx hb dX8_run_116 kc_0 ?_
        obtain ⟨m11, c11, h⟩ := xbv_inv h
        refine xc_vS (pc := 117) (As := [.ref _, .int _, .ref _, .int _]) (rest := []) ⟨hx, hb, hml, hown, hts⟩ (mX8_copies hF _ _ _ _ _ _ k0.2.2.2.2.1.2 k0.2.1.2 c11) (xcwS 4 hts fdX8_copies q_m_X8_55 ⟨Nat.le_of_ble_eq_true rfl, Nat.le_of_ble_eq_true rfl⟩) hR hK hE hS rfl hl.1 rfl (Nat.le_of_ble_eq_true rfl) dX8_run_117 ⟨Nat.zero_le _, Nat.zero_le _⟩ (fun H locs hR hS => ?_)
        refine lv_aload_n (pc := 120) hx hb dX8_run_120 rfl (lv_at hl 0 rfl) ?_
        refine xr_getI (pc := 121) (ci := 12) hx hb hts inX8 hown hK hR rfl k0.1 7 (Nat.le_of_ble_eq_true rfl) rfl (hts _ q_f_X8_39) (fun _ h9 => h9) dX8_run_121 ?_
        refine lv_aload_n (pc := 124) hx hb dX8_run_124 rfl (lv_at hl 0 rfl) ?_
        refine xr_getR (pc := 125) (ci := 12) hx hb hts inX8 hown hK hR rfl k0.1 18 (Nat.le_of_ble_eq_true rfl) rfl k0.2.2.2.2.2.2.2.1 (hts _ q_f_X8_36) (fun _ h9 => h9) dX8_run_125 ?_
        refine lv_iconst (pc := 128) hx hb dX8_run_128 kc_4 ?_
        refine lv_iload_n (pc := 129) hx hb dX8_run_129 rfl (lv_at hl 2 rfl) ?_
        refine lv_imul (pc := 130) hx hb dX8_run_130 ?_
        refine lv_iconst (pc := 131) hx hb dX8_run_131 kc_4 ?_
        refine lv_isub (pc := 132) hx hb dX8_run_132 ?_
        obtain ⟨c12, h⟩ := xk_inv h
        refine xr_ialdk (pc := 133) (Int32.toNatClampNeg ((((4 : Int32) * x2) - (4 : Int32)))) hx hb hK hR k0.2.2.2.2.2.2.2.2.1 k0.2.2.2.2.2.2.2.2.2 rfl c12 dX8_run_133 ?_
        obtain ⟨r13, m13, c13, h⟩ := xb_inv h
        refine xc_iS (pc := 134) (As := [.int _]) (rest := [.int _]) ⟨hx, hb, hml, hown, hts⟩ (mX8_lastOf hF _  c13) (xcwS 1 hts fdX8_lastOf q_m_X8_184 ⟨Nat.le_of_ble_eq_true rfl, Nat.le_of_ble_eq_true rfl⟩) hR hK hE hS rfl hl.1 rfl (Nat.le_of_ble_eq_true rfl) dX8_run_134 ⟨Nat.zero_le _, Nat.zero_le _⟩ (fun H locs hR hS => ?_)
        refine lv_icmp_ne (pc := 137) (tgt := 144) hx hb dX8_run_137 (by decide) (fun c14 => ?_) (fun c14 => ?_)
        · have h := xneg c14 h
          refine lv_iconst (pc := 144) hx hb dX8_run_144 kc_0 ?_
          refine lv_istore (pc := 145) (lv' := [(4, .int _), (0, .ref _), (1, .int _), (2, .int _), (3, .int _)]) hx hb dX8_run_145 hl (Nat.le_of_ble_eq_true rfl) rfl (fun ls hl => ?_)
          refine lv_iload (pc := 147) hx hb dX8_run_147 (lv_at hl 0 rfl) ?_
          refine lv_if_eq (pc := 149) (tgt := 159) hx hb dX8_run_149 (by decide) (fun c15 => ?_) (fun c15 => ?_)
          · have h := xpos c15 h
            refine lv_iconst (pc := 159) hx hb dX8_run_159 kc_0 ?_
            refine lv_istore (pc := 160) (lv' := [(5, .int _), (4, .int _), (0, .ref _), (1, .int _), (2, .int _), (3, .int _)]) hx hb dX8_run_160 hl (Nat.le_of_ble_eq_true rfl) rfl (fun ls hl => ?_)
            refine lv_iload (pc := 162) hx hb dX8_run_162 (lv_at hl 1 rfl) ?_
            refine lv_if_eq (pc := 164) (tgt := 174) hx hb dX8_run_164 (by decide) (fun c16 => ?_) (fun c16 => ?_)
            · have h := xpos c16 h
              refine lv_iconst (pc := 174) hx hb dX8_run_174 kc_0 ?_
              refine lv_istore (pc := 175) (lv' := [(6, .int _), (5, .int _), (4, .int _), (0, .ref _), (1, .int _), (2, .int _), (3, .int _)]) hx hb dX8_run_175 hl (Nat.le_of_ble_eq_true rfl) rfl (fun ls hl => ?_)
              refine lv_aload_n (pc := 177) hx hb dX8_run_177 rfl (lv_at hl 3 rfl) ?_
              refine lv_iconst (pc := 178) hx hb dX8_run_178 kc_2 ?_
              refine lv_bipush (pc := 179) hx hb dX8_run_179 kb_11 ?_
              refine lv_iload_n (pc := 181) hx hb dX8_run_181 rfl (lv_at hl 5 rfl) ?_
              refine lv_iconst (pc := 182) hx hb dX8_run_182 kc_1 ?_
              refine lv_isub (pc := 183) hx hb dX8_run_183 ?_
              obtain ⟨r17, m17, c17, h⟩ := xb_inv h
              refine xc_iV (pc := 184) (As := [.int _, .int _, .int _]) (rest := []) ⟨hx, hb, hml, hown, hts⟩ (mX8_refuses hF _ _ _ _ k0 c17) (xcwV 3 hts fdX8_refuses q_m_X8_71 ⟨Nat.le_of_ble_eq_true rfl, Nat.le_of_ble_eq_true rfl⟩) (xRecv hK hR (ci := 12) rfl k0.1) hR hK hE hS rfl hl.1 rfl (Nat.le_of_ble_eq_true rfl) dX8_run_184 ⟨Nat.zero_le _, Nat.zero_le _⟩ (fun H locs hR hS => ?_)
              refine lv_istore_n (pc := 187) (lv' := [(3, .int _), (6, .int _), (5, .int _), (4, .int _), (0, .ref _), (1, .int _), (2, .int _)]) hx hb dX8_run_187 rfl hl (Nat.le_of_ble_eq_true rfl) rfl (fun ls hl => ?_)
              refine lv_aload_n (pc := 188) hx hb dX8_run_188 rfl (lv_at hl 4 rfl) ?_
              refine lv_iload (pc := 189) hx hb dX8_run_189 (lv_at hl 2 rfl) ?_
              refine xr_putI (pc := 191) (ci := 12) (ty := .int) hx hb hts inX8 tyX8 tyX8_ok nmX8 hown hK hR hF hS rfl k0.1 10 (Nat.le_of_ble_eq_true rfl) rfl (hts _ q_f_X8_22) (fun _ h9 => h9) rfl rfl rfl rfl dX8_run_191 (fun H locs hR hS => ?_)
              refine lv_aload_n (pc := 194) hx hb dX8_run_194 rfl (lv_at hl 4 rfl) ?_
              refine lv_iload (pc := 195) hx hb dX8_run_195 (lv_at hl 1 rfl) ?_
              refine xr_putI (pc := 197) (ci := 12) (ty := .int) hx hb hts inX8 tyX8 tyX8_ok nmX8 hown hK hR hF hS rfl k0.1 11 (Nat.le_of_ble_eq_true rfl) rfl (hts _ q_f_X8_187) (fun _ h9 => h9) rfl rfl rfl rfl dX8_run_197 (fun H locs hR hS => ?_)
              refine lv_iload_n (pc := 200) hx hb dX8_run_200 rfl (lv_at hl 0 rfl) ?_
              exact xf_i (pc := 201) hx hb hr rfl hlocks h hR hK hS dX8_run_201
            · have h := xneg c16 h
              refine lv_aload_n (pc := 167) hx hb dX8_run_167 rfl (lv_at hl 2 rfl) ?_
              refine xr_getI (pc := 168) (ci := 12) hx hb hts inX8 hown hK hR rfl k0.1 9 (Nat.le_of_ble_eq_true rfl) rfl (hts _ q_f_X8_45) (fun _ h9 => h9) dX8_run_168 ?_
              refine lv_goto (pc := 171) (tgt := 175) hx hb dX8_run_171 (by decide) ?_
              refine lv_istore (pc := 175) (lv' := [(6, .int _), (5, .int _), (4, .int _), (0, .ref _), (1, .int _), (2, .int _), (3, .int _)]) hx hb dX8_run_175 hl (Nat.le_of_ble_eq_true rfl) rfl (fun ls hl => ?_)
              refine lv_aload_n (pc := 177) hx hb dX8_run_177 rfl (lv_at hl 3 rfl) ?_
              refine lv_iconst (pc := 178) hx hb dX8_run_178 kc_2 ?_
              refine lv_bipush (pc := 179) hx hb dX8_run_179 kb_11 ?_
              refine lv_iload_n (pc := 181) hx hb dX8_run_181 rfl (lv_at hl 5 rfl) ?_
              refine lv_iconst (pc := 182) hx hb dX8_run_182 kc_1 ?_
              refine lv_isub (pc := 183) hx hb dX8_run_183 ?_
              obtain ⟨r18, m18, c18, h⟩ := xb_inv h
              refine xc_iV (pc := 184) (As := [.int _, .int _, .int _]) (rest := []) ⟨hx, hb, hml, hown, hts⟩ (mX8_refuses hF _ _ _ _ k0 c18) (xcwV 3 hts fdX8_refuses q_m_X8_71 ⟨Nat.le_of_ble_eq_true rfl, Nat.le_of_ble_eq_true rfl⟩) (xRecv hK hR (ci := 12) rfl k0.1) hR hK hE hS rfl hl.1 rfl (Nat.le_of_ble_eq_true rfl) dX8_run_184 ⟨Nat.zero_le _, Nat.zero_le _⟩ (fun H locs hR hS => ?_)
              refine lv_istore_n (pc := 187) (lv' := [(3, .int _), (6, .int _), (5, .int _), (4, .int _), (0, .ref _), (1, .int _), (2, .int _)]) hx hb dX8_run_187 rfl hl (Nat.le_of_ble_eq_true rfl) rfl (fun ls hl => ?_)
              refine lv_aload_n (pc := 188) hx hb dX8_run_188 rfl (lv_at hl 4 rfl) ?_
              refine lv_iload (pc := 189) hx hb dX8_run_189 (lv_at hl 2 rfl) ?_
              refine xr_putI (pc := 191) (ci := 12) (ty := .int) hx hb hts inX8 tyX8 tyX8_ok nmX8 hown hK hR hF hS rfl k0.1 10 (Nat.le_of_ble_eq_true rfl) rfl (hts _ q_f_X8_22) (fun _ h9 => h9) rfl rfl rfl rfl dX8_run_191 (fun H locs hR hS => ?_)
              refine lv_aload_n (pc := 194) hx hb dX8_run_194 rfl (lv_at hl 4 rfl) ?_
              refine lv_iload (pc := 195) hx hb dX8_run_195 (lv_at hl 1 rfl) ?_
              refine xr_putI (pc := 197) (ci := 12) (ty := .int) hx hb hts inX8 tyX8 tyX8_ok nmX8 hown hK hR hF hS rfl k0.1 11 (Nat.le_of_ble_eq_true rfl) rfl (hts _ q_f_X8_187) (fun _ h9 => h9) rfl rfl rfl rfl dX8_run_197 (fun H locs hR hS => ?_)
              refine lv_iload_n (pc := 200) hx hb dX8_run_200 rfl (lv_at hl 0 rfl) ?_
              exact xf_i (pc := 201) hx hb hr rfl hlocks h hR hK hS dX8_run_201
          · have h := xneg c15 h
            refine lv_aload_n (pc := 152) hx hb dX8_run_152 rfl (lv_at hl 1 rfl) ?_
            refine xr_getI (pc := 153) (ci := 12) hx hb hts inX8 hown hK hR rfl k0.1 8 (Nat.le_of_ble_eq_true rfl) rfl (hts _ q_f_X8_42) (fun _ h9 => h9) dX8_run_153 ?_
            refine lv_goto (pc := 156) (tgt := 160) hx hb dX8_run_156 (by decide) ?_
            refine lv_istore (pc := 160) (lv' := [(5, .int _), (4, .int _), (0, .ref _), (1, .int _), (2, .int _), (3, .int _)]) hx hb dX8_run_160 hl (Nat.le_of_ble_eq_true rfl) rfl (fun ls hl => ?_)
            refine lv_iload (pc := 162) hx hb dX8_run_162 (lv_at hl 1 rfl) ?_
            refine lv_if_eq (pc := 164) (tgt := 174) hx hb dX8_run_164 (by decide) (fun c19 => ?_) (fun c19 => ?_)
            · have h := xpos c19 h
              refine lv_iconst (pc := 174) hx hb dX8_run_174 kc_0 ?_
              refine lv_istore (pc := 175) (lv' := [(6, .int _), (5, .int _), (4, .int _), (0, .ref _), (1, .int _), (2, .int _), (3, .int _)]) hx hb dX8_run_175 hl (Nat.le_of_ble_eq_true rfl) rfl (fun ls hl => ?_)
              refine lv_aload_n (pc := 177) hx hb dX8_run_177 rfl (lv_at hl 3 rfl) ?_
              refine lv_iconst (pc := 178) hx hb dX8_run_178 kc_2 ?_
              refine lv_bipush (pc := 179) hx hb dX8_run_179 kb_11 ?_
              refine lv_iload_n (pc := 181) hx hb dX8_run_181 rfl (lv_at hl 5 rfl) ?_
              refine lv_iconst (pc := 182) hx hb dX8_run_182 kc_1 ?_
              refine lv_isub (pc := 183) hx hb dX8_run_183 ?_
              obtain ⟨r20, m20, c20, h⟩ := xb_inv h
              refine xc_iV (pc := 184) (As := [.int _, .int _, .int _]) (rest := []) ⟨hx, hb, hml, hown, hts⟩ (mX8_refuses hF _ _ _ _ k0 c20) (xcwV 3 hts fdX8_refuses q_m_X8_71 ⟨Nat.le_of_ble_eq_true rfl, Nat.le_of_ble_eq_true rfl⟩) (xRecv hK hR (ci := 12) rfl k0.1) hR hK hE hS rfl hl.1 rfl (Nat.le_of_ble_eq_true rfl) dX8_run_184 ⟨Nat.zero_le _, Nat.zero_le _⟩ (fun H locs hR hS => ?_)
              refine lv_istore_n (pc := 187) (lv' := [(3, .int _), (6, .int _), (5, .int _), (4, .int _), (0, .ref _), (1, .int _), (2, .int _)]) hx hb dX8_run_187 rfl hl (Nat.le_of_ble_eq_true rfl) rfl (fun ls hl => ?_)
              refine lv_aload_n (pc := 188) hx hb dX8_run_188 rfl (lv_at hl 4 rfl) ?_
              refine lv_iload (pc := 189) hx hb dX8_run_189 (lv_at hl 2 rfl) ?_
              refine xr_putI (pc := 191) (ci := 12) (ty := .int) hx hb hts inX8 tyX8 tyX8_ok nmX8 hown hK hR hF hS rfl k0.1 10 (Nat.le_of_ble_eq_true rfl) rfl (hts _ q_f_X8_22) (fun _ h9 => h9) rfl rfl rfl rfl dX8_run_191 (fun H locs hR hS => ?_)
              refine lv_aload_n (pc := 194) hx hb dX8_run_194 rfl (lv_at hl 4 rfl) ?_
              refine lv_iload (pc := 195) hx hb dX8_run_195 (lv_at hl 1 rfl) ?_
              refine xr_putI (pc := 197) (ci := 12) (ty := .int) hx hb hts inX8 tyX8 tyX8_ok nmX8 hown hK hR hF hS rfl k0.1 11 (Nat.le_of_ble_eq_true rfl) rfl (hts _ q_f_X8_187) (fun _ h9 => h9) rfl rfl rfl rfl dX8_run_197 (fun H locs hR hS => ?_)
              refine lv_iload_n (pc := 200) hx hb dX8_run_200 rfl (lv_at hl 0 rfl) ?_
              exact xf_i (pc := 201) hx hb hr rfl hlocks h hR hK hS dX8_run_201
            · have h := xneg c19 h
              refine lv_aload_n (pc := 167) hx hb dX8_run_167 rfl (lv_at hl 2 rfl) ?_
              refine xr_getI (pc := 168) (ci := 12) hx hb hts inX8 hown hK hR rfl k0.1 9 (Nat.le_of_ble_eq_true rfl) rfl (hts _ q_f_X8_45) (fun _ h9 => h9) dX8_run_168 ?_
              refine lv_goto (pc := 171) (tgt := 175) hx hb dX8_run_171 (by decide) ?_
              refine lv_istore (pc := 175) (lv' := [(6, .int _), (5, .int _), (4, .int _), (0, .ref _), (1, .int _), (2, .int _), (3, .int _)]) hx hb dX8_run_175 hl (Nat.le_of_ble_eq_true rfl) rfl (fun ls hl => ?_)
              refine lv_aload_n (pc := 177) hx hb dX8_run_177 rfl (lv_at hl 3 rfl) ?_
              refine lv_iconst (pc := 178) hx hb dX8_run_178 kc_2 ?_
              refine lv_bipush (pc := 179) hx hb dX8_run_179 kb_11 ?_
              refine lv_iload_n (pc := 181) hx hb dX8_run_181 rfl (lv_at hl 5 rfl) ?_
              refine lv_iconst (pc := 182) hx hb dX8_run_182 kc_1 ?_
              refine lv_isub (pc := 183) hx hb dX8_run_183 ?_
              obtain ⟨r21, m21, c21, h⟩ := xb_inv h
              refine xc_iV (pc := 184) (As := [.int _, .int _, .int _]) (rest := []) ⟨hx, hb, hml, hown, hts⟩ (mX8_refuses hF _ _ _ _ k0 c21) (xcwV 3 hts fdX8_refuses q_m_X8_71 ⟨Nat.le_of_ble_eq_true rfl, Nat.le_of_ble_eq_true rfl⟩) (xRecv hK hR (ci := 12) rfl k0.1) hR hK hE hS rfl hl.1 rfl (Nat.le_of_ble_eq_true rfl) dX8_run_184 ⟨Nat.zero_le _, Nat.zero_le _⟩ (fun H locs hR hS => ?_)
              refine lv_istore_n (pc := 187) (lv' := [(3, .int _), (6, .int _), (5, .int _), (4, .int _), (0, .ref _), (1, .int _), (2, .int _)]) hx hb dX8_run_187 rfl hl (Nat.le_of_ble_eq_true rfl) rfl (fun ls hl => ?_)
              refine lv_aload_n (pc := 188) hx hb dX8_run_188 rfl (lv_at hl 4 rfl) ?_
              refine lv_iload (pc := 189) hx hb dX8_run_189 (lv_at hl 2 rfl) ?_
              refine xr_putI (pc := 191) (ci := 12) (ty := .int) hx hb hts inX8 tyX8 tyX8_ok nmX8 hown hK hR hF hS rfl k0.1 10 (Nat.le_of_ble_eq_true rfl) rfl (hts _ q_f_X8_22) (fun _ h9 => h9) rfl rfl rfl rfl dX8_run_191 (fun H locs hR hS => ?_)
              refine lv_aload_n (pc := 194) hx hb dX8_run_194 rfl (lv_at hl 4 rfl) ?_
              refine lv_iload (pc := 195) hx hb dX8_run_195 (lv_at hl 1 rfl) ?_
              refine xr_putI (pc := 197) (ci := 12) (ty := .int) hx hb hts inX8 tyX8 tyX8_ok nmX8 hown hK hR hF hS rfl k0.1 11 (Nat.le_of_ble_eq_true rfl) rfl (hts _ q_f_X8_187) (fun _ h9 => h9) rfl rfl rfl rfl dX8_run_197 (fun H locs hR hS => ?_)
              refine lv_iload_n (pc := 200) hx hb dX8_run_200 rfl (lv_at hl 0 rfl) ?_
              exact xf_i (pc := 201) hx hb hr rfl hlocks h hR hK hS dX8_run_201
        · have h := xpos c14 h
          refine lv_iconst (pc := 140) hx hb dX8_run_140 kc_1 ?_
          refine lv_goto (pc := 141) (tgt := 145) hx hb dX8_run_141 (by decide) ?_
          refine lv_istore (pc := 145) (lv' := [(4, .int _), (0, .ref _), (1, .int _), (2, .int _), (3, .int _)]) hx hb dX8_run_145 hl (Nat.le_of_ble_eq_true rfl) rfl (fun ls hl => ?_)
          refine lv_iload (pc := 147) hx hb dX8_run_147 (lv_at hl 0 rfl) ?_
          refine lv_if_eq (pc := 149) (tgt := 159) hx hb dX8_run_149 (by decide) (fun c22 => ?_) (fun c22 => ?_)
          · have h := xpos c22 h
            refine lv_iconst (pc := 159) hx hb dX8_run_159 kc_0 ?_
            refine lv_istore (pc := 160) (lv' := [(5, .int _), (4, .int _), (0, .ref _), (1, .int _), (2, .int _), (3, .int _)]) hx hb dX8_run_160 hl (Nat.le_of_ble_eq_true rfl) rfl (fun ls hl => ?_)
            refine lv_iload (pc := 162) hx hb dX8_run_162 (lv_at hl 1 rfl) ?_
            refine lv_if_eq (pc := 164) (tgt := 174) hx hb dX8_run_164 (by decide) (fun c23 => ?_) (fun c23 => ?_)
            · have h := xpos c23 h
              refine lv_iconst (pc := 174) hx hb dX8_run_174 kc_0 ?_
              refine lv_istore (pc := 175) (lv' := [(6, .int _), (5, .int _), (4, .int _), (0, .ref _), (1, .int _), (2, .int _), (3, .int _)]) hx hb dX8_run_175 hl (Nat.le_of_ble_eq_true rfl) rfl (fun ls hl => ?_)
              refine lv_aload_n (pc := 177) hx hb dX8_run_177 rfl (lv_at hl 3 rfl) ?_
              refine lv_iconst (pc := 178) hx hb dX8_run_178 kc_2 ?_
              refine lv_bipush (pc := 179) hx hb dX8_run_179 kb_11 ?_
              refine lv_iload_n (pc := 181) hx hb dX8_run_181 rfl (lv_at hl 5 rfl) ?_
              refine lv_iconst (pc := 182) hx hb dX8_run_182 kc_1 ?_
              refine lv_isub (pc := 183) hx hb dX8_run_183 ?_
              obtain ⟨r24, m24, c24, h⟩ := xb_inv h
              refine xc_iV (pc := 184) (As := [.int _, .int _, .int _]) (rest := []) ⟨hx, hb, hml, hown, hts⟩ (mX8_refuses hF _ _ _ _ k0 c24) (xcwV 3 hts fdX8_refuses q_m_X8_71 ⟨Nat.le_of_ble_eq_true rfl, Nat.le_of_ble_eq_true rfl⟩) (xRecv hK hR (ci := 12) rfl k0.1) hR hK hE hS rfl hl.1 rfl (Nat.le_of_ble_eq_true rfl) dX8_run_184 ⟨Nat.zero_le _, Nat.zero_le _⟩ (fun H locs hR hS => ?_)
              refine lv_istore_n (pc := 187) (lv' := [(3, .int _), (6, .int _), (5, .int _), (4, .int _), (0, .ref _), (1, .int _), (2, .int _)]) hx hb dX8_run_187 rfl hl (Nat.le_of_ble_eq_true rfl) rfl (fun ls hl => ?_)
              refine lv_aload_n (pc := 188) hx hb dX8_run_188 rfl (lv_at hl 4 rfl) ?_
              refine lv_iload (pc := 189) hx hb dX8_run_189 (lv_at hl 2 rfl) ?_
              refine xr_putI (pc := 191) (ci := 12) (ty := .int) hx hb hts inX8 tyX8 tyX8_ok nmX8 hown hK hR hF hS rfl k0.1 10 (Nat.le_of_ble_eq_true rfl) rfl (hts _ q_f_X8_22) (fun _ h9 => h9) rfl rfl rfl rfl dX8_run_191 (fun H locs hR hS => ?_)
              refine lv_aload_n (pc := 194) hx hb dX8_run_194 rfl (lv_at hl 4 rfl) ?_
              refine lv_iload (pc := 195) hx hb dX8_run_195 (lv_at hl 1 rfl) ?_
              refine xr_putI (pc := 197) (ci := 12) (ty := .int) hx hb hts inX8 tyX8 tyX8_ok nmX8 hown hK hR hF hS rfl k0.1 11 (Nat.le_of_ble_eq_true rfl) rfl (hts _ q_f_X8_187) (fun _ h9 => h9) rfl rfl rfl rfl dX8_run_197 (fun H locs hR hS => ?_)
              refine lv_iload_n (pc := 200) hx hb dX8_run_200 rfl (lv_at hl 0 rfl) ?_
              exact xf_i (pc := 201) hx hb hr rfl hlocks h hR hK hS dX8_run_201
            · have h := xneg c23 h
              refine lv_aload_n (pc := 167) hx hb dX8_run_167 rfl (lv_at hl 2 rfl) ?_
              refine xr_getI (pc := 168) (ci := 12) hx hb hts inX8 hown hK hR rfl k0.1 9 (Nat.le_of_ble_eq_true rfl) rfl (hts _ q_f_X8_45) (fun _ h9 => h9) dX8_run_168 ?_
              refine lv_goto (pc := 171) (tgt := 175) hx hb dX8_run_171 (by decide) ?_
              refine lv_istore (pc := 175) (lv' := [(6, .int _), (5, .int _), (4, .int _), (0, .ref _), (1, .int _), (2, .int _), (3, .int _)]) hx hb dX8_run_175 hl (Nat.le_of_ble_eq_true rfl) rfl (fun ls hl => ?_)
              refine lv_aload_n (pc := 177) hx hb dX8_run_177 rfl (lv_at hl 3 rfl) ?_
              refine lv_iconst (pc := 178) hx hb dX8_run_178 kc_2 ?_
              refine lv_bipush (pc := 179) hx hb dX8_run_179 kb_11 ?_
              refine lv_iload_n (pc := 181) hx hb dX8_run_181 rfl (lv_at hl 5 rfl) ?_
              refine lv_iconst (pc := 182) hx hb dX8_run_182 kc_1 ?_
              refine lv_isub (pc := 183) hx hb dX8_run_183 ?_
              obtain ⟨r25, m25, c25, h⟩ := xb_inv h
              refine xc_iV (pc := 184) (As := [.int _, .int _, .int _]) (rest := []) ⟨hx, hb, hml, hown, hts⟩ (mX8_refuses hF _ _ _ _ k0 c25) (xcwV 3 hts fdX8_refuses q_m_X8_71 ⟨Nat.le_of_ble_eq_true rfl, Nat.le_of_ble_eq_true rfl⟩) (xRecv hK hR (ci := 12) rfl k0.1) hR hK hE hS rfl hl.1 rfl (Nat.le_of_ble_eq_true rfl) dX8_run_184 ⟨Nat.zero_le _, Nat.zero_le _⟩ (fun H locs hR hS => ?_)
              refine lv_istore_n (pc := 187) (lv' := [(3, .int _), (6, .int _), (5, .int _), (4, .int _), (0, .ref _), (1, .int _), (2, .int _)]) hx hb dX8_run_187 rfl hl (Nat.le_of_ble_eq_true rfl) rfl (fun ls hl => ?_)
              refine lv_aload_n (pc := 188) hx hb dX8_run_188 rfl (lv_at hl 4 rfl) ?_
              refine lv_iload (pc := 189) hx hb dX8_run_189 (lv_at hl 2 rfl) ?_
              refine xr_putI (pc := 191) (ci := 12) (ty := .int) hx hb hts inX8 tyX8 tyX8_ok nmX8 hown hK hR hF hS rfl k0.1 10 (Nat.le_of_ble_eq_true rfl) rfl (hts _ q_f_X8_22) (fun _ h9 => h9) rfl rfl rfl rfl dX8_run_191 (fun H locs hR hS => ?_)
              refine lv_aload_n (pc := 194) hx hb dX8_run_194 rfl (lv_at hl 4 rfl) ?_
              refine lv_iload (pc := 195) hx hb dX8_run_195 (lv_at hl 1 rfl) ?_
              refine xr_putI (pc := 197) (ci := 12) (ty := .int) hx hb hts inX8 tyX8 tyX8_ok nmX8 hown hK hR hF hS rfl k0.1 11 (Nat.le_of_ble_eq_true rfl) rfl (hts _ q_f_X8_187) (fun _ h9 => h9) rfl rfl rfl rfl dX8_run_197 (fun H locs hR hS => ?_)
              refine lv_iload_n (pc := 200) hx hb dX8_run_200 rfl (lv_at hl 0 rfl) ?_
              exact xf_i (pc := 201) hx hb hr rfl hlocks h hR hK hS dX8_run_201
          · have h := xneg c22 h
            refine lv_aload_n (pc := 152) hx hb dX8_run_152 rfl (lv_at hl 1 rfl) ?_
            refine xr_getI (pc := 153) (ci := 12) hx hb hts inX8 hown hK hR rfl k0.1 8 (Nat.le_of_ble_eq_true rfl) rfl (hts _ q_f_X8_42) (fun _ h9 => h9) dX8_run_153 ?_
            refine lv_goto (pc := 156) (tgt := 160) hx hb dX8_run_156 (by decide) ?_
            refine lv_istore (pc := 160) (lv' := [(5, .int _), (4, .int _), (0, .ref _), (1, .int _), (2, .int _), (3, .int _)]) hx hb dX8_run_160 hl (Nat.le_of_ble_eq_true rfl) rfl (fun ls hl => ?_)
            refine lv_iload (pc := 162) hx hb dX8_run_162 (lv_at hl 1 rfl) ?_
            refine lv_if_eq (pc := 164) (tgt := 174) hx hb dX8_run_164 (by decide) (fun c26 => ?_) (fun c26 => ?_)
            · have h := xpos c26 h
              refine lv_iconst (pc := 174) hx hb dX8_run_174 kc_0 ?_
              refine lv_istore (pc := 175) (lv' := [(6, .int _), (5, .int _), (4, .int _), (0, .ref _), (1, .int _), (2, .int _), (3, .int _)]) hx hb dX8_run_175 hl (Nat.le_of_ble_eq_true rfl) rfl (fun ls hl => ?_)
              refine lv_aload_n (pc := 177) hx hb dX8_run_177 rfl (lv_at hl 3 rfl) ?_
              refine lv_iconst (pc := 178) hx hb dX8_run_178 kc_2 ?_
              refine lv_bipush (pc := 179) hx hb dX8_run_179 kb_11 ?_
              refine lv_iload_n (pc := 181) hx hb dX8_run_181 rfl (lv_at hl 5 rfl) ?_
              refine lv_iconst (pc := 182) hx hb dX8_run_182 kc_1 ?_
              refine lv_isub (pc := 183) hx hb dX8_run_183 ?_
              obtain ⟨r27, m27, c27, h⟩ := xb_inv h
              refine xc_iV (pc := 184) (As := [.int _, .int _, .int _]) (rest := []) ⟨hx, hb, hml, hown, hts⟩ (mX8_refuses hF _ _ _ _ k0 c27) (xcwV 3 hts fdX8_refuses q_m_X8_71 ⟨Nat.le_of_ble_eq_true rfl, Nat.le_of_ble_eq_true rfl⟩) (xRecv hK hR (ci := 12) rfl k0.1) hR hK hE hS rfl hl.1 rfl (Nat.le_of_ble_eq_true rfl) dX8_run_184 ⟨Nat.zero_le _, Nat.zero_le _⟩ (fun H locs hR hS => ?_)
              refine lv_istore_n (pc := 187) (lv' := [(3, .int _), (6, .int _), (5, .int _), (4, .int _), (0, .ref _), (1, .int _), (2, .int _)]) hx hb dX8_run_187 rfl hl (Nat.le_of_ble_eq_true rfl) rfl (fun ls hl => ?_)
              refine lv_aload_n (pc := 188) hx hb dX8_run_188 rfl (lv_at hl 4 rfl) ?_
              refine lv_iload (pc := 189) hx hb dX8_run_189 (lv_at hl 2 rfl) ?_
              refine xr_putI (pc := 191) (ci := 12) (ty := .int) hx hb hts inX8 tyX8 tyX8_ok nmX8 hown hK hR hF hS rfl k0.1 10 (Nat.le_of_ble_eq_true rfl) rfl (hts _ q_f_X8_22) (fun _ h9 => h9) rfl rfl rfl rfl dX8_run_191 (fun H locs hR hS => ?_)
              refine lv_aload_n (pc := 194) hx hb dX8_run_194 rfl (lv_at hl 4 rfl) ?_
              refine lv_iload (pc := 195) hx hb dX8_run_195 (lv_at hl 1 rfl) ?_
              refine xr_putI (pc := 197) (ci := 12) (ty := .int) hx hb hts inX8 tyX8 tyX8_ok nmX8 hown hK hR hF hS rfl k0.1 11 (Nat.le_of_ble_eq_true rfl) rfl (hts _ q_f_X8_187) (fun _ h9 => h9) rfl rfl rfl rfl dX8_run_197 (fun H locs hR hS => ?_)
              refine lv_iload_n (pc := 200) hx hb dX8_run_200 rfl (lv_at hl 0 rfl) ?_
              exact xf_i (pc := 201) hx hb hr rfl hlocks h hR hK hS dX8_run_201
            · have h := xneg c26 h
              refine lv_aload_n (pc := 167) hx hb dX8_run_167 rfl (lv_at hl 2 rfl) ?_
              refine xr_getI (pc := 168) (ci := 12) hx hb hts inX8 hown hK hR rfl k0.1 9 (Nat.le_of_ble_eq_true rfl) rfl (hts _ q_f_X8_45) (fun _ h9 => h9) dX8_run_168 ?_
              refine lv_goto (pc := 171) (tgt := 175) hx hb dX8_run_171 (by decide) ?_
              refine lv_istore (pc := 175) (lv' := [(6, .int _), (5, .int _), (4, .int _), (0, .ref _), (1, .int _), (2, .int _), (3, .int _)]) hx hb dX8_run_175 hl (Nat.le_of_ble_eq_true rfl) rfl (fun ls hl => ?_)
              refine lv_aload_n (pc := 177) hx hb dX8_run_177 rfl (lv_at hl 3 rfl) ?_
              refine lv_iconst (pc := 178) hx hb dX8_run_178 kc_2 ?_
              refine lv_bipush (pc := 179) hx hb dX8_run_179 kb_11 ?_
              refine lv_iload_n (pc := 181) hx hb dX8_run_181 rfl (lv_at hl 5 rfl) ?_
              refine lv_iconst (pc := 182) hx hb dX8_run_182 kc_1 ?_
              refine lv_isub (pc := 183) hx hb dX8_run_183 ?_
              obtain ⟨r28, m28, c28, h⟩ := xb_inv h
              refine xc_iV (pc := 184) (As := [.int _, .int _, .int _]) (rest := []) ⟨hx, hb, hml, hown, hts⟩ (mX8_refuses hF _ _ _ _ k0 c28) (xcwV 3 hts fdX8_refuses q_m_X8_71 ⟨Nat.le_of_ble_eq_true rfl, Nat.le_of_ble_eq_true rfl⟩) (xRecv hK hR (ci := 12) rfl k0.1) hR hK hE hS rfl hl.1 rfl (Nat.le_of_ble_eq_true rfl) dX8_run_184 ⟨Nat.zero_le _, Nat.zero_le _⟩ (fun H locs hR hS => ?_)
              refine lv_istore_n (pc := 187) (lv' := [(3, .int _), (6, .int _), (5, .int _), (4, .int _), (0, .ref _), (1, .int _), (2, .int _)]) hx hb dX8_run_187 rfl hl (Nat.le_of_ble_eq_true rfl) rfl (fun ls hl => ?_)
              refine lv_aload_n (pc := 188) hx hb dX8_run_188 rfl (lv_at hl 4 rfl) ?_
              refine lv_iload (pc := 189) hx hb dX8_run_189 (lv_at hl 2 rfl) ?_
              refine xr_putI (pc := 191) (ci := 12) (ty := .int) hx hb hts inX8 tyX8 tyX8_ok nmX8 hown hK hR hF hS rfl k0.1 10 (Nat.le_of_ble_eq_true rfl) rfl (hts _ q_f_X8_22) (fun _ h9 => h9) rfl rfl rfl rfl dX8_run_191 (fun H locs hR hS => ?_)
              refine lv_aload_n (pc := 194) hx hb dX8_run_194 rfl (lv_at hl 4 rfl) ?_
              refine lv_iload (pc := 195) hx hb dX8_run_195 (lv_at hl 1 rfl) ?_
              refine xr_putI (pc := 197) (ci := 12) (ty := .int) hx hb hts inX8 tyX8 tyX8_ok nmX8 hown hK hR hF hS rfl k0.1 11 (Nat.le_of_ble_eq_true rfl) rfl (hts _ q_f_X8_187) (fun _ h9 => h9) rfl rfl rfl rfl dX8_run_197 (fun H locs hR hS => ?_)
              refine lv_iload_n (pc := 200) hx hb dX8_run_200 rfl (lv_at hl 0 rfl) ?_
              exact xf_i (pc := 201) hx hb hr rfl hlocks h hR hK hS dX8_run_201
    · have h := xneg c7 h
      refine lv_aload_n (pc := 74) hx hb dX8_run_74 rfl (lv_at hl 0 rfl) ?_
      refine xr_getI (pc := 75) (ci := 12) hx hb hts inX8 hown hK hR rfl k0.1 7 (Nat.le_of_ble_eq_true rfl) rfl (hts _ q_f_X8_39) (fun _ h9 => h9) dX8_run_75 ?_
      refine lv_if_ne (pc := 78) (tgt := 95) hx hb dX8_run_78 (by decide) (fun c29 => ?_) (fun c29 => ?_)
      · have h := xneg c29 h
        refine lv_aload_n (pc := 95) hx hb dX8_run_95 rfl (lv_at hl 0 rfl) ?_
        refine lv_iconst (pc := 96) hx hb dX8_run_96 kc_0 ?_
        refine xr_putI (pc := 97) (ci := 12) (ty := .boolean) hx hb hts inX8 tyX8 tyX8_ok nmX8 hown hK hR hF hS rfl k0.1 6 (Nat.le_of_ble_eq_true rfl) rfl (hts _ q_f_X8_48) (fun _ h9 => h9) rfl rfl rfl rfl dX8_run_97 (fun H locs hR hS => ?_)
        refine lv_aload_n (pc := 100) hx hb dX8_run_100 rfl (lv_at hl 0 rfl) ?_
        refine xr_getI (pc := 101) (ci := 12) hx hb hts inX8 hown hK hR rfl k0.1 7 (Nat.le_of_ble_eq_true rfl) rfl (hts _ q_f_X8_39) (fun _ h9 => h9) dX8_run_101 ?_
        refine lv_if_le (pc := 104) (tgt := 202) hx hb dX8_run_104 (by decide) (fun c30 => ?_) (fun c30 => ?_)
        · have h := xpos c30 h
          refine lv_aload_n (pc := 202) hx hb dX8_run_202 rfl (lv_at hl 0 rfl) ?_
          refine lv_aload_n (pc := 203) hx hb dX8_run_203 rfl (lv_at hl 0 rfl) ?_
          refine xr_getR (pc := 204) (ci := 12) hx hb hts inX8 hown hK hR rfl k0.1 3 (Nat.le_of_ble_eq_true rfl) rfl k0.2.2.2.2.1.1 (hts _ q_f_X8_19) (fun _ h9 => h9) dX8_run_204 ?_
          obtain ⟨m31, c31, h⟩ := xbv_inv h
          refine xc_vV (pc := 207) (As := [.ref _]) (rest := []) ⟨hx, hb, hml, hown, hts⟩ (mX8_keeps hF _ _ k0 k0.2.2.2.2.1.2 c31) (xcwV 1 hts fdX8_keeps q_m_X8_75 ⟨Nat.le_of_ble_eq_true rfl, Nat.le_of_ble_eq_true rfl⟩) (xRecv hK hR (ci := 12) rfl k0.1) hR hK hE hS rfl hl.1 rfl (Nat.le_of_ble_eq_true rfl) dX8_run_207 ⟨Nat.zero_le _, Nat.zero_le _⟩ (fun H locs hR hS => ?_)
          refine lv_iload_n (pc := 210) hx hb dX8_run_210 rfl (lv_at hl 3 rfl) ?_
          refine lv_if_ge (pc := 211) (tgt := 218) hx hb dX8_run_211 (by decide) (fun c32 => ?_) (fun c32 => ?_)
          · have h := xpos c32 h
            refine lv_aload_n (pc := 218) hx hb dX8_run_218 rfl (lv_at hl 0 rfl) ?_
            refine xr_getI (pc := 219) (ci := 12) hx hb hts inX8 hown hK hR rfl k0.1 19 (Nat.le_of_ble_eq_true rfl) rfl (hts _ q_f_X8_144) (fun _ h9 => h9) dX8_run_219 ?_
            exact xf_i (pc := 222) hx hb hr rfl hlocks h hR hK hS dX8_run_222
          · have h := xneg c32 h
            refine lv_iconst (pc := 214) hx hb dX8_run_214 kc_0 ?_
            refine lv_goto (pc := 215) (tgt := 222) hx hb dX8_run_215 (by decide) ?_
            exact xf_i (pc := 222) hx hb hr rfl hlocks h hR hK hS dX8_run_222
        · have h := xneg c30 h
          refine lv_aload_n (pc := 107) hx hb dX8_run_107 rfl (lv_at hl 0 rfl) ?_
          refine xr_getR (pc := 108) (ci := 12) hx hb hts inX8 hown hK hR rfl k0.1 3 (Nat.le_of_ble_eq_true rfl) rfl k0.2.2.2.2.1.1 (hts _ q_f_X8_19) (fun _ h9 => h9) dX8_run_108 ?_
          refine lv_iconst (pc := 111) hx hb dX8_run_111 kc_0 ?_
          refine lv_aload_n (pc := 112) hx hb dX8_run_112 rfl (lv_at hl 0 rfl) ?_
          refine xr_getR (pc := 113) (ci := 12) hx hb hts inX8 hown hK hR rfl k0.1 0 (Nat.le_of_ble_eq_true rfl) rfl k0.2.1.1 (hts _ q_f_X8_7) (fun _ h9 => h9) dX8_run_113 ?_
          refine lv_iconst (pc := 116) hx hb dX8_run_116 kc_0 ?_
          obtain ⟨m33, c33, h⟩ := xbv_inv h
          refine xc_vS (pc := 117) (As := [.ref _, .int _, .ref _, .int _]) (rest := []) ⟨hx, hb, hml, hown, hts⟩ (mX8_copies hF _ _ _ _ _ _ k0.2.2.2.2.1.2 k0.2.1.2 c33) (xcwS 4 hts fdX8_copies q_m_X8_55 ⟨Nat.le_of_ble_eq_true rfl, Nat.le_of_ble_eq_true rfl⟩) hR hK hE hS rfl hl.1 rfl (Nat.le_of_ble_eq_true rfl) dX8_run_117 ⟨Nat.zero_le _, Nat.zero_le _⟩ (fun H locs hR hS => ?_)
          refine lv_aload_n (pc := 120) hx hb dX8_run_120 rfl (lv_at hl 0 rfl) ?_
          refine xr_getI (pc := 121) (ci := 12) hx hb hts inX8 hown hK hR rfl k0.1 7 (Nat.le_of_ble_eq_true rfl) rfl (hts _ q_f_X8_39) (fun _ h9 => h9) dX8_run_121 ?_
          refine lv_aload_n (pc := 124) hx hb dX8_run_124 rfl (lv_at hl 0 rfl) ?_
          refine xr_getR (pc := 125) (ci := 12) hx hb hts inX8 hown hK hR rfl k0.1 18 (Nat.le_of_ble_eq_true rfl) rfl k0.2.2.2.2.2.2.2.1 (hts _ q_f_X8_36) (fun _ h9 => h9) dX8_run_125 ?_
          refine lv_iconst (pc := 128) hx hb dX8_run_128 kc_4 ?_
          refine lv_iload_n (pc := 129) hx hb dX8_run_129 rfl (lv_at hl 2 rfl) ?_
          refine lv_imul (pc := 130) hx hb dX8_run_130 ?_
          refine lv_iconst (pc := 131) hx hb dX8_run_131 kc_4 ?_
          refine lv_isub (pc := 132) hx hb dX8_run_132 ?_
          obtain ⟨c34, h⟩ := xk_inv h
          refine xr_ialdk (pc := 133) (Int32.toNatClampNeg ((((4 : Int32) * x2) - (4 : Int32)))) hx hb hK hR k0.2.2.2.2.2.2.2.2.1 k0.2.2.2.2.2.2.2.2.2 rfl c34 dX8_run_133 ?_
          obtain ⟨r35, m35, c35, h⟩ := xb_inv h
          refine xc_iS (pc := 134) (As := [.int _]) (rest := [.int _]) ⟨hx, hb, hml, hown, hts⟩ (mX8_lastOf hF _  c35) (xcwS 1 hts fdX8_lastOf q_m_X8_184 ⟨Nat.le_of_ble_eq_true rfl, Nat.le_of_ble_eq_true rfl⟩) hR hK hE hS rfl hl.1 rfl (Nat.le_of_ble_eq_true rfl) dX8_run_134 ⟨Nat.zero_le _, Nat.zero_le _⟩ (fun H locs hR hS => ?_)
          refine lv_icmp_ne (pc := 137) (tgt := 144) hx hb dX8_run_137 (by decide) (fun c36 => ?_) (fun c36 => ?_)
          · have h := xneg c36 h
            refine lv_iconst (pc := 144) hx hb dX8_run_144 kc_0 ?_
            refine lv_istore (pc := 145) (lv' := [(4, .int _), (0, .ref _), (1, .int _), (2, .int _), (3, .int _)]) hx hb dX8_run_145 hl (Nat.le_of_ble_eq_true rfl) rfl (fun ls hl => ?_)
            refine lv_iload (pc := 147) hx hb dX8_run_147 (lv_at hl 0 rfl) ?_
            refine lv_if_eq (pc := 149) (tgt := 159) hx hb dX8_run_149 (by decide) (fun c37 => ?_) (fun c37 => ?_)
            · have h := xpos c37 h
              refine lv_iconst (pc := 159) hx hb dX8_run_159 kc_0 ?_
              refine lv_istore (pc := 160) (lv' := [(5, .int _), (4, .int _), (0, .ref _), (1, .int _), (2, .int _), (3, .int _)]) hx hb dX8_run_160 hl (Nat.le_of_ble_eq_true rfl) rfl (fun ls hl => ?_)
              refine lv_iload (pc := 162) hx hb dX8_run_162 (lv_at hl 1 rfl) ?_
              refine lv_if_eq (pc := 164) (tgt := 174) hx hb dX8_run_164 (by decide) (fun c38 => ?_) (fun c38 => ?_)
              · have h := xpos c38 h
                refine lv_iconst (pc := 174) hx hb dX8_run_174 kc_0 ?_
                refine lv_istore (pc := 175) (lv' := [(6, .int _), (5, .int _), (4, .int _), (0, .ref _), (1, .int _), (2, .int _), (3, .int _)]) hx hb dX8_run_175 hl (Nat.le_of_ble_eq_true rfl) rfl (fun ls hl => ?_)
                refine lv_aload_n (pc := 177) hx hb dX8_run_177 rfl (lv_at hl 3 rfl) ?_
                refine lv_iconst (pc := 178) hx hb dX8_run_178 kc_2 ?_
                refine lv_bipush (pc := 179) hx hb dX8_run_179 kb_11 ?_
                refine lv_iload_n (pc := 181) hx hb dX8_run_181 rfl (lv_at hl 5 rfl) ?_
                refine lv_iconst (pc := 182) hx hb dX8_run_182 kc_1 ?_
                refine lv_isub (pc := 183) hx hb dX8_run_183 ?_
                obtain ⟨r39, m39, c39, h⟩ := xb_inv h
                refine xc_iV (pc := 184) (As := [.int _, .int _, .int _]) (rest := []) ⟨hx, hb, hml, hown, hts⟩ (mX8_refuses hF _ _ _ _ k0 c39) (xcwV 3 hts fdX8_refuses q_m_X8_71 ⟨Nat.le_of_ble_eq_true rfl, Nat.le_of_ble_eq_true rfl⟩) (xRecv hK hR (ci := 12) rfl k0.1) hR hK hE hS rfl hl.1 rfl (Nat.le_of_ble_eq_true rfl) dX8_run_184 ⟨Nat.zero_le _, Nat.zero_le _⟩ (fun H locs hR hS => ?_)
                refine lv_istore_n (pc := 187) (lv' := [(3, .int _), (6, .int _), (5, .int _), (4, .int _), (0, .ref _), (1, .int _), (2, .int _)]) hx hb dX8_run_187 rfl hl (Nat.le_of_ble_eq_true rfl) rfl (fun ls hl => ?_)
                refine lv_aload_n (pc := 188) hx hb dX8_run_188 rfl (lv_at hl 4 rfl) ?_
                refine lv_iload (pc := 189) hx hb dX8_run_189 (lv_at hl 2 rfl) ?_
                refine xr_putI (pc := 191) (ci := 12) (ty := .int) hx hb hts inX8 tyX8 tyX8_ok nmX8 hown hK hR hF hS rfl k0.1 10 (Nat.le_of_ble_eq_true rfl) rfl (hts _ q_f_X8_22) (fun _ h9 => h9) rfl rfl rfl rfl dX8_run_191 (fun H locs hR hS => ?_)
                refine lv_aload_n (pc := 194) hx hb dX8_run_194 rfl (lv_at hl 4 rfl) ?_
                refine lv_iload (pc := 195) hx hb dX8_run_195 (lv_at hl 1 rfl) ?_
                refine xr_putI (pc := 197) (ci := 12) (ty := .int) hx hb hts inX8 tyX8 tyX8_ok nmX8 hown hK hR hF hS rfl k0.1 11 (Nat.le_of_ble_eq_true rfl) rfl (hts _ q_f_X8_187) (fun _ h9 => h9) rfl rfl rfl rfl dX8_run_197 (fun H locs hR hS => ?_)
                refine lv_iload_n (pc := 200) hx hb dX8_run_200 rfl (lv_at hl 0 rfl) ?_
                exact xf_i (pc := 201) hx hb hr rfl hlocks h hR hK hS dX8_run_201
              · have h := xneg c38 h
                refine lv_aload_n (pc := 167) hx hb dX8_run_167 rfl (lv_at hl 2 rfl) ?_
                refine xr_getI (pc := 168) (ci := 12) hx hb hts inX8 hown hK hR rfl k0.1 9 (Nat.le_of_ble_eq_true rfl) rfl (hts _ q_f_X8_45) (fun _ h9 => h9) dX8_run_168 ?_
                refine lv_goto (pc := 171) (tgt := 175) hx hb dX8_run_171 (by decide) ?_
                refine lv_istore (pc := 175) (lv' := [(6, .int _), (5, .int _), (4, .int _), (0, .ref _), (1, .int _), (2, .int _), (3, .int _)]) hx hb dX8_run_175 hl (Nat.le_of_ble_eq_true rfl) rfl (fun ls hl => ?_)
                refine lv_aload_n (pc := 177) hx hb dX8_run_177 rfl (lv_at hl 3 rfl) ?_
                refine lv_iconst (pc := 178) hx hb dX8_run_178 kc_2 ?_
                refine lv_bipush (pc := 179) hx hb dX8_run_179 kb_11 ?_
                refine lv_iload_n (pc := 181) hx hb dX8_run_181 rfl (lv_at hl 5 rfl) ?_
                refine lv_iconst (pc := 182) hx hb dX8_run_182 kc_1 ?_
                refine lv_isub (pc := 183) hx hb dX8_run_183 ?_
                obtain ⟨r40, m40, c40, h⟩ := xb_inv h
                refine xc_iV (pc := 184) (As := [.int _, .int _, .int _]) (rest := []) ⟨hx, hb, hml, hown, hts⟩ (mX8_refuses hF _ _ _ _ k0 c40) (xcwV 3 hts fdX8_refuses q_m_X8_71 ⟨Nat.le_of_ble_eq_true rfl, Nat.le_of_ble_eq_true rfl⟩) (xRecv hK hR (ci := 12) rfl k0.1) hR hK hE hS rfl hl.1 rfl (Nat.le_of_ble_eq_true rfl) dX8_run_184 ⟨Nat.zero_le _, Nat.zero_le _⟩ (fun H locs hR hS => ?_)
                refine lv_istore_n (pc := 187) (lv' := [(3, .int _), (6, .int _), (5, .int _), (4, .int _), (0, .ref _), (1, .int _), (2, .int _)]) hx hb dX8_run_187 rfl hl (Nat.le_of_ble_eq_true rfl) rfl (fun ls hl => ?_)
                refine lv_aload_n (pc := 188) hx hb dX8_run_188 rfl (lv_at hl 4 rfl) ?_
                refine lv_iload (pc := 189) hx hb dX8_run_189 (lv_at hl 2 rfl) ?_
                refine xr_putI (pc := 191) (ci := 12) (ty := .int) hx hb hts inX8 tyX8 tyX8_ok nmX8 hown hK hR hF hS rfl k0.1 10 (Nat.le_of_ble_eq_true rfl) rfl (hts _ q_f_X8_22) (fun _ h9 => h9) rfl rfl rfl rfl dX8_run_191 (fun H locs hR hS => ?_)
                refine lv_aload_n (pc := 194) hx hb dX8_run_194 rfl (lv_at hl 4 rfl) ?_
                refine lv_iload (pc := 195) hx hb dX8_run_195 (lv_at hl 1 rfl) ?_
                refine xr_putI (pc := 197) (ci := 12) (ty := .int) hx hb hts inX8 tyX8 tyX8_ok nmX8 hown hK hR hF hS rfl k0.1 11 (Nat.le_of_ble_eq_true rfl) rfl (hts _ q_f_X8_187) (fun _ h9 => h9) rfl rfl rfl rfl dX8_run_197 (fun H locs hR hS => ?_)
                refine lv_iload_n (pc := 200) hx hb dX8_run_200 rfl (lv_at hl 0 rfl) ?_
                exact xf_i (pc := 201) hx hb hr rfl hlocks h hR hK hS dX8_run_201
            · have h := xneg c37 h
              refine lv_aload_n (pc := 152) hx hb dX8_run_152 rfl (lv_at hl 1 rfl) ?_
              refine xr_getI (pc := 153) (ci := 12) hx hb hts inX8 hown hK hR rfl k0.1 8 (Nat.le_of_ble_eq_true rfl) rfl (hts _ q_f_X8_42) (fun _ h9 => h9) dX8_run_153 ?_
              refine lv_goto (pc := 156) (tgt := 160) hx hb dX8_run_156 (by decide) ?_
              refine lv_istore (pc := 160) (lv' := [(5, .int _), (4, .int _), (0, .ref _), (1, .int _), (2, .int _), (3, .int _)]) hx hb dX8_run_160 hl (Nat.le_of_ble_eq_true rfl) rfl (fun ls hl => ?_)
              refine lv_iload (pc := 162) hx hb dX8_run_162 (lv_at hl 1 rfl) ?_
              refine lv_if_eq (pc := 164) (tgt := 174) hx hb dX8_run_164 (by decide) (fun c41 => ?_) (fun c41 => ?_)
              · have h := xpos c41 h
                refine lv_iconst (pc := 174) hx hb dX8_run_174 kc_0 ?_
                refine lv_istore (pc := 175) (lv' := [(6, .int _), (5, .int _), (4, .int _), (0, .ref _), (1, .int _), (2, .int _), (3, .int _)]) hx hb dX8_run_175 hl (Nat.le_of_ble_eq_true rfl) rfl (fun ls hl => ?_)
                refine lv_aload_n (pc := 177) hx hb dX8_run_177 rfl (lv_at hl 3 rfl) ?_
                refine lv_iconst (pc := 178) hx hb dX8_run_178 kc_2 ?_
                refine lv_bipush (pc := 179) hx hb dX8_run_179 kb_11 ?_
                refine lv_iload_n (pc := 181) hx hb dX8_run_181 rfl (lv_at hl 5 rfl) ?_
                refine lv_iconst (pc := 182) hx hb dX8_run_182 kc_1 ?_
                refine lv_isub (pc := 183) hx hb dX8_run_183 ?_
                obtain ⟨r42, m42, c42, h⟩ := xb_inv h
                refine xc_iV (pc := 184) (As := [.int _, .int _, .int _]) (rest := []) ⟨hx, hb, hml, hown, hts⟩ (mX8_refuses hF _ _ _ _ k0 c42) (xcwV 3 hts fdX8_refuses q_m_X8_71 ⟨Nat.le_of_ble_eq_true rfl, Nat.le_of_ble_eq_true rfl⟩) (xRecv hK hR (ci := 12) rfl k0.1) hR hK hE hS rfl hl.1 rfl (Nat.le_of_ble_eq_true rfl) dX8_run_184 ⟨Nat.zero_le _, Nat.zero_le _⟩ (fun H locs hR hS => ?_)
                refine lv_istore_n (pc := 187) (lv' := [(3, .int _), (6, .int _), (5, .int _), (4, .int _), (0, .ref _), (1, .int _), (2, .int _)]) hx hb dX8_run_187 rfl hl (Nat.le_of_ble_eq_true rfl) rfl (fun ls hl => ?_)
                refine lv_aload_n (pc := 188) hx hb dX8_run_188 rfl (lv_at hl 4 rfl) ?_
                refine lv_iload (pc := 189) hx hb dX8_run_189 (lv_at hl 2 rfl) ?_
                refine xr_putI (pc := 191) (ci := 12) (ty := .int) hx hb hts inX8 tyX8 tyX8_ok nmX8 hown hK hR hF hS rfl k0.1 10 (Nat.le_of_ble_eq_true rfl) rfl (hts _ q_f_X8_22) (fun _ h9 => h9) rfl rfl rfl rfl dX8_run_191 (fun H locs hR hS => ?_)
                refine lv_aload_n (pc := 194) hx hb dX8_run_194 rfl (lv_at hl 4 rfl) ?_
                refine lv_iload (pc := 195) hx hb dX8_run_195 (lv_at hl 1 rfl) ?_
                refine xr_putI (pc := 197) (ci := 12) (ty := .int) hx hb hts inX8 tyX8 tyX8_ok nmX8 hown hK hR hF hS rfl k0.1 11 (Nat.le_of_ble_eq_true rfl) rfl (hts _ q_f_X8_187) (fun _ h9 => h9) rfl rfl rfl rfl dX8_run_197 (fun H locs hR hS => ?_)
                refine lv_iload_n (pc := 200) hx hb dX8_run_200 rfl (lv_at hl 0 rfl) ?_
                exact xf_i (pc := 201) hx hb hr rfl hlocks h hR hK hS dX8_run_201
              · have h := xneg c41 h
                refine lv_aload_n (pc := 167) hx hb dX8_run_167 rfl (lv_at hl 2 rfl) ?_
                refine xr_getI (pc := 168) (ci := 12) hx hb hts inX8 hown hK hR rfl k0.1 9 (Nat.le_of_ble_eq_true rfl) rfl (hts _ q_f_X8_45) (fun _ h9 => h9) dX8_run_168 ?_
                refine lv_goto (pc := 171) (tgt := 175) hx hb dX8_run_171 (by decide) ?_
                refine lv_istore (pc := 175) (lv' := [(6, .int _), (5, .int _), (4, .int _), (0, .ref _), (1, .int _), (2, .int _), (3, .int _)]) hx hb dX8_run_175 hl (Nat.le_of_ble_eq_true rfl) rfl (fun ls hl => ?_)
                refine lv_aload_n (pc := 177) hx hb dX8_run_177 rfl (lv_at hl 3 rfl) ?_
                refine lv_iconst (pc := 178) hx hb dX8_run_178 kc_2 ?_
                refine lv_bipush (pc := 179) hx hb dX8_run_179 kb_11 ?_
                refine lv_iload_n (pc := 181) hx hb dX8_run_181 rfl (lv_at hl 5 rfl) ?_
                refine lv_iconst (pc := 182) hx hb dX8_run_182 kc_1 ?_
                refine lv_isub (pc := 183) hx hb dX8_run_183 ?_
                obtain ⟨r43, m43, c43, h⟩ := xb_inv h
                refine xc_iV (pc := 184) (As := [.int _, .int _, .int _]) (rest := []) ⟨hx, hb, hml, hown, hts⟩ (mX8_refuses hF _ _ _ _ k0 c43) (xcwV 3 hts fdX8_refuses q_m_X8_71 ⟨Nat.le_of_ble_eq_true rfl, Nat.le_of_ble_eq_true rfl⟩) (xRecv hK hR (ci := 12) rfl k0.1) hR hK hE hS rfl hl.1 rfl (Nat.le_of_ble_eq_true rfl) dX8_run_184 ⟨Nat.zero_le _, Nat.zero_le _⟩ (fun H locs hR hS => ?_)
                refine lv_istore_n (pc := 187) (lv' := [(3, .int _), (6, .int _), (5, .int _), (4, .int _), (0, .ref _), (1, .int _), (2, .int _)]) hx hb dX8_run_187 rfl hl (Nat.le_of_ble_eq_true rfl) rfl (fun ls hl => ?_)
                refine lv_aload_n (pc := 188) hx hb dX8_run_188 rfl (lv_at hl 4 rfl) ?_
                refine lv_iload (pc := 189) hx hb dX8_run_189 (lv_at hl 2 rfl) ?_
                refine xr_putI (pc := 191) (ci := 12) (ty := .int) hx hb hts inX8 tyX8 tyX8_ok nmX8 hown hK hR hF hS rfl k0.1 10 (Nat.le_of_ble_eq_true rfl) rfl (hts _ q_f_X8_22) (fun _ h9 => h9) rfl rfl rfl rfl dX8_run_191 (fun H locs hR hS => ?_)
                refine lv_aload_n (pc := 194) hx hb dX8_run_194 rfl (lv_at hl 4 rfl) ?_
                refine lv_iload (pc := 195) hx hb dX8_run_195 (lv_at hl 1 rfl) ?_
                refine xr_putI (pc := 197) (ci := 12) (ty := .int) hx hb hts inX8 tyX8 tyX8_ok nmX8 hown hK hR hF hS rfl k0.1 11 (Nat.le_of_ble_eq_true rfl) rfl (hts _ q_f_X8_187) (fun _ h9 => h9) rfl rfl rfl rfl dX8_run_197 (fun H locs hR hS => ?_)
                refine lv_iload_n (pc := 200) hx hb dX8_run_200 rfl (lv_at hl 0 rfl) ?_
                exact xf_i (pc := 201) hx hb hr rfl hlocks h hR hK hS dX8_run_201
          · have h := xpos c36 h
            refine lv_iconst (pc := 140) hx hb dX8_run_140 kc_1 ?_
            refine lv_goto (pc := 141) (tgt := 145) hx hb dX8_run_141 (by decide) ?_
            refine lv_istore (pc := 145) (lv' := [(4, .int _), (0, .ref _), (1, .int _), (2, .int _), (3, .int _)]) hx hb dX8_run_145 hl (Nat.le_of_ble_eq_true rfl) rfl (fun ls hl => ?_)
            refine lv_iload (pc := 147) hx hb dX8_run_147 (lv_at hl 0 rfl) ?_
            refine lv_if_eq (pc := 149) (tgt := 159) hx hb dX8_run_149 (by decide) (fun c44 => ?_) (fun c44 => ?_)
            · have h := xpos c44 h
              refine lv_iconst (pc := 159) hx hb dX8_run_159 kc_0 ?_
              refine lv_istore (pc := 160) (lv' := [(5, .int _), (4, .int _), (0, .ref _), (1, .int _), (2, .int _), (3, .int _)]) hx hb dX8_run_160 hl (Nat.le_of_ble_eq_true rfl) rfl (fun ls hl => ?_)
              refine lv_iload (pc := 162) hx hb dX8_run_162 (lv_at hl 1 rfl) ?_
              refine lv_if_eq (pc := 164) (tgt := 174) hx hb dX8_run_164 (by decide) (fun c45 => ?_) (fun c45 => ?_)
              · have h := xpos c45 h
                refine lv_iconst (pc := 174) hx hb dX8_run_174 kc_0 ?_
                refine lv_istore (pc := 175) (lv' := [(6, .int _), (5, .int _), (4, .int _), (0, .ref _), (1, .int _), (2, .int _), (3, .int _)]) hx hb dX8_run_175 hl (Nat.le_of_ble_eq_true rfl) rfl (fun ls hl => ?_)
                refine lv_aload_n (pc := 177) hx hb dX8_run_177 rfl (lv_at hl 3 rfl) ?_
                refine lv_iconst (pc := 178) hx hb dX8_run_178 kc_2 ?_
                refine lv_bipush (pc := 179) hx hb dX8_run_179 kb_11 ?_
                refine lv_iload_n (pc := 181) hx hb dX8_run_181 rfl (lv_at hl 5 rfl) ?_
                refine lv_iconst (pc := 182) hx hb dX8_run_182 kc_1 ?_
                refine lv_isub (pc := 183) hx hb dX8_run_183 ?_
                obtain ⟨r46, m46, c46, h⟩ := xb_inv h
                refine xc_iV (pc := 184) (As := [.int _, .int _, .int _]) (rest := []) ⟨hx, hb, hml, hown, hts⟩ (mX8_refuses hF _ _ _ _ k0 c46) (xcwV 3 hts fdX8_refuses q_m_X8_71 ⟨Nat.le_of_ble_eq_true rfl, Nat.le_of_ble_eq_true rfl⟩) (xRecv hK hR (ci := 12) rfl k0.1) hR hK hE hS rfl hl.1 rfl (Nat.le_of_ble_eq_true rfl) dX8_run_184 ⟨Nat.zero_le _, Nat.zero_le _⟩ (fun H locs hR hS => ?_)
                refine lv_istore_n (pc := 187) (lv' := [(3, .int _), (6, .int _), (5, .int _), (4, .int _), (0, .ref _), (1, .int _), (2, .int _)]) hx hb dX8_run_187 rfl hl (Nat.le_of_ble_eq_true rfl) rfl (fun ls hl => ?_)
                refine lv_aload_n (pc := 188) hx hb dX8_run_188 rfl (lv_at hl 4 rfl) ?_
                refine lv_iload (pc := 189) hx hb dX8_run_189 (lv_at hl 2 rfl) ?_
                refine xr_putI (pc := 191) (ci := 12) (ty := .int) hx hb hts inX8 tyX8 tyX8_ok nmX8 hown hK hR hF hS rfl k0.1 10 (Nat.le_of_ble_eq_true rfl) rfl (hts _ q_f_X8_22) (fun _ h9 => h9) rfl rfl rfl rfl dX8_run_191 (fun H locs hR hS => ?_)
                refine lv_aload_n (pc := 194) hx hb dX8_run_194 rfl (lv_at hl 4 rfl) ?_
                refine lv_iload (pc := 195) hx hb dX8_run_195 (lv_at hl 1 rfl) ?_
                refine xr_putI (pc := 197) (ci := 12) (ty := .int) hx hb hts inX8 tyX8 tyX8_ok nmX8 hown hK hR hF hS rfl k0.1 11 (Nat.le_of_ble_eq_true rfl) rfl (hts _ q_f_X8_187) (fun _ h9 => h9) rfl rfl rfl rfl dX8_run_197 (fun H locs hR hS => ?_)
                refine lv_iload_n (pc := 200) hx hb dX8_run_200 rfl (lv_at hl 0 rfl) ?_
                exact xf_i (pc := 201) hx hb hr rfl hlocks h hR hK hS dX8_run_201
              · have h := xneg c45 h
                refine lv_aload_n (pc := 167) hx hb dX8_run_167 rfl (lv_at hl 2 rfl) ?_
                refine xr_getI (pc := 168) (ci := 12) hx hb hts inX8 hown hK hR rfl k0.1 9 (Nat.le_of_ble_eq_true rfl) rfl (hts _ q_f_X8_45) (fun _ h9 => h9) dX8_run_168 ?_
                refine lv_goto (pc := 171) (tgt := 175) hx hb dX8_run_171 (by decide) ?_
                refine lv_istore (pc := 175) (lv' := [(6, .int _), (5, .int _), (4, .int _), (0, .ref _), (1, .int _), (2, .int _), (3, .int _)]) hx hb dX8_run_175 hl (Nat.le_of_ble_eq_true rfl) rfl (fun ls hl => ?_)
                refine lv_aload_n (pc := 177) hx hb dX8_run_177 rfl (lv_at hl 3 rfl) ?_
                refine lv_iconst (pc := 178) hx hb dX8_run_178 kc_2 ?_
                refine lv_bipush (pc := 179) hx hb dX8_run_179 kb_11 ?_
                refine lv_iload_n (pc := 181) hx hb dX8_run_181 rfl (lv_at hl 5 rfl) ?_
                refine lv_iconst (pc := 182) hx hb dX8_run_182 kc_1 ?_
                refine lv_isub (pc := 183) hx hb dX8_run_183 ?_
                obtain ⟨r47, m47, c47, h⟩ := xb_inv h
                refine xc_iV (pc := 184) (As := [.int _, .int _, .int _]) (rest := []) ⟨hx, hb, hml, hown, hts⟩ (mX8_refuses hF _ _ _ _ k0 c47) (xcwV 3 hts fdX8_refuses q_m_X8_71 ⟨Nat.le_of_ble_eq_true rfl, Nat.le_of_ble_eq_true rfl⟩) (xRecv hK hR (ci := 12) rfl k0.1) hR hK hE hS rfl hl.1 rfl (Nat.le_of_ble_eq_true rfl) dX8_run_184 ⟨Nat.zero_le _, Nat.zero_le _⟩ (fun H locs hR hS => ?_)
                refine lv_istore_n (pc := 187) (lv' := [(3, .int _), (6, .int _), (5, .int _), (4, .int _), (0, .ref _), (1, .int _), (2, .int _)]) hx hb dX8_run_187 rfl hl (Nat.le_of_ble_eq_true rfl) rfl (fun ls hl => ?_)
                refine lv_aload_n (pc := 188) hx hb dX8_run_188 rfl (lv_at hl 4 rfl) ?_
                refine lv_iload (pc := 189) hx hb dX8_run_189 (lv_at hl 2 rfl) ?_
                refine xr_putI (pc := 191) (ci := 12) (ty := .int) hx hb hts inX8 tyX8 tyX8_ok nmX8 hown hK hR hF hS rfl k0.1 10 (Nat.le_of_ble_eq_true rfl) rfl (hts _ q_f_X8_22) (fun _ h9 => h9) rfl rfl rfl rfl dX8_run_191 (fun H locs hR hS => ?_)
                refine lv_aload_n (pc := 194) hx hb dX8_run_194 rfl (lv_at hl 4 rfl) ?_
                refine lv_iload (pc := 195) hx hb dX8_run_195 (lv_at hl 1 rfl) ?_
                refine xr_putI (pc := 197) (ci := 12) (ty := .int) hx hb hts inX8 tyX8 tyX8_ok nmX8 hown hK hR hF hS rfl k0.1 11 (Nat.le_of_ble_eq_true rfl) rfl (hts _ q_f_X8_187) (fun _ h9 => h9) rfl rfl rfl rfl dX8_run_197 (fun H locs hR hS => ?_)
                refine lv_iload_n (pc := 200) hx hb dX8_run_200 rfl (lv_at hl 0 rfl) ?_
                exact xf_i (pc := 201) hx hb hr rfl hlocks h hR hK hS dX8_run_201
            · have h := xneg c44 h
              refine lv_aload_n (pc := 152) hx hb dX8_run_152 rfl (lv_at hl 1 rfl) ?_
              refine xr_getI (pc := 153) (ci := 12) hx hb hts inX8 hown hK hR rfl k0.1 8 (Nat.le_of_ble_eq_true rfl) rfl (hts _ q_f_X8_42) (fun _ h9 => h9) dX8_run_153 ?_
              refine lv_goto (pc := 156) (tgt := 160) hx hb dX8_run_156 (by decide) ?_
              refine lv_istore (pc := 160) (lv' := [(5, .int _), (4, .int _), (0, .ref _), (1, .int _), (2, .int _), (3, .int _)]) hx hb dX8_run_160 hl (Nat.le_of_ble_eq_true rfl) rfl (fun ls hl => ?_)
              refine lv_iload (pc := 162) hx hb dX8_run_162 (lv_at hl 1 rfl) ?_
              refine lv_if_eq (pc := 164) (tgt := 174) hx hb dX8_run_164 (by decide) (fun c48 => ?_) (fun c48 => ?_)
              · have h := xpos c48 h
                refine lv_iconst (pc := 174) hx hb dX8_run_174 kc_0 ?_
                refine lv_istore (pc := 175) (lv' := [(6, .int _), (5, .int _), (4, .int _), (0, .ref _), (1, .int _), (2, .int _), (3, .int _)]) hx hb dX8_run_175 hl (Nat.le_of_ble_eq_true rfl) rfl (fun ls hl => ?_)
                refine lv_aload_n (pc := 177) hx hb dX8_run_177 rfl (lv_at hl 3 rfl) ?_
                refine lv_iconst (pc := 178) hx hb dX8_run_178 kc_2 ?_
                refine lv_bipush (pc := 179) hx hb dX8_run_179 kb_11 ?_
                refine lv_iload_n (pc := 181) hx hb dX8_run_181 rfl (lv_at hl 5 rfl) ?_
                refine lv_iconst (pc := 182) hx hb dX8_run_182 kc_1 ?_
                refine lv_isub (pc := 183) hx hb dX8_run_183 ?_
                obtain ⟨r49, m49, c49, h⟩ := xb_inv h
                refine xc_iV (pc := 184) (As := [.int _, .int _, .int _]) (rest := []) ⟨hx, hb, hml, hown, hts⟩ (mX8_refuses hF _ _ _ _ k0 c49) (xcwV 3 hts fdX8_refuses q_m_X8_71 ⟨Nat.le_of_ble_eq_true rfl, Nat.le_of_ble_eq_true rfl⟩) (xRecv hK hR (ci := 12) rfl k0.1) hR hK hE hS rfl hl.1 rfl (Nat.le_of_ble_eq_true rfl) dX8_run_184 ⟨Nat.zero_le _, Nat.zero_le _⟩ (fun H locs hR hS => ?_)
                refine lv_istore_n (pc := 187) (lv' := [(3, .int _), (6, .int _), (5, .int _), (4, .int _), (0, .ref _), (1, .int _), (2, .int _)]) hx hb dX8_run_187 rfl hl (Nat.le_of_ble_eq_true rfl) rfl (fun ls hl => ?_)
                refine lv_aload_n (pc := 188) hx hb dX8_run_188 rfl (lv_at hl 4 rfl) ?_
                refine lv_iload (pc := 189) hx hb dX8_run_189 (lv_at hl 2 rfl) ?_
                refine xr_putI (pc := 191) (ci := 12) (ty := .int) hx hb hts inX8 tyX8 tyX8_ok nmX8 hown hK hR hF hS rfl k0.1 10 (Nat.le_of_ble_eq_true rfl) rfl (hts _ q_f_X8_22) (fun _ h9 => h9) rfl rfl rfl rfl dX8_run_191 (fun H locs hR hS => ?_)
                refine lv_aload_n (pc := 194) hx hb dX8_run_194 rfl (lv_at hl 4 rfl) ?_
                refine lv_iload (pc := 195) hx hb dX8_run_195 (lv_at hl 1 rfl) ?_
                refine xr_putI (pc := 197) (ci := 12) (ty := .int) hx hb hts inX8 tyX8 tyX8_ok nmX8 hown hK hR hF hS rfl k0.1 11 (Nat.le_of_ble_eq_true rfl) rfl (hts _ q_f_X8_187) (fun _ h9 => h9) rfl rfl rfl rfl dX8_run_197 (fun H locs hR hS => ?_)
                refine lv_iload_n (pc := 200) hx hb dX8_run_200 rfl (lv_at hl 0 rfl) ?_
                exact xf_i (pc := 201) hx hb hr rfl hlocks h hR hK hS dX8_run_201
              · have h := xneg c48 h
                refine lv_aload_n (pc := 167) hx hb dX8_run_167 rfl (lv_at hl 2 rfl) ?_
                refine xr_getI (pc := 168) (ci := 12) hx hb hts inX8 hown hK hR rfl k0.1 9 (Nat.le_of_ble_eq_true rfl) rfl (hts _ q_f_X8_45) (fun _ h9 => h9) dX8_run_168 ?_
                refine lv_goto (pc := 171) (tgt := 175) hx hb dX8_run_171 (by decide) ?_
                refine lv_istore (pc := 175) (lv' := [(6, .int _), (5, .int _), (4, .int _), (0, .ref _), (1, .int _), (2, .int _), (3, .int _)]) hx hb dX8_run_175 hl (Nat.le_of_ble_eq_true rfl) rfl (fun ls hl => ?_)
                refine lv_aload_n (pc := 177) hx hb dX8_run_177 rfl (lv_at hl 3 rfl) ?_
                refine lv_iconst (pc := 178) hx hb dX8_run_178 kc_2 ?_
                refine lv_bipush (pc := 179) hx hb dX8_run_179 kb_11 ?_
                refine lv_iload_n (pc := 181) hx hb dX8_run_181 rfl (lv_at hl 5 rfl) ?_
                refine lv_iconst (pc := 182) hx hb dX8_run_182 kc_1 ?_
                refine lv_isub (pc := 183) hx hb dX8_run_183 ?_
                obtain ⟨r50, m50, c50, h⟩ := xb_inv h
                refine xc_iV (pc := 184) (As := [.int _, .int _, .int _]) (rest := []) ⟨hx, hb, hml, hown, hts⟩ (mX8_refuses hF _ _ _ _ k0 c50) (xcwV 3 hts fdX8_refuses q_m_X8_71 ⟨Nat.le_of_ble_eq_true rfl, Nat.le_of_ble_eq_true rfl⟩) (xRecv hK hR (ci := 12) rfl k0.1) hR hK hE hS rfl hl.1 rfl (Nat.le_of_ble_eq_true rfl) dX8_run_184 ⟨Nat.zero_le _, Nat.zero_le _⟩ (fun H locs hR hS => ?_)
                refine lv_istore_n (pc := 187) (lv' := [(3, .int _), (6, .int _), (5, .int _), (4, .int _), (0, .ref _), (1, .int _), (2, .int _)]) hx hb dX8_run_187 rfl hl (Nat.le_of_ble_eq_true rfl) rfl (fun ls hl => ?_)
                refine lv_aload_n (pc := 188) hx hb dX8_run_188 rfl (lv_at hl 4 rfl) ?_
                refine lv_iload (pc := 189) hx hb dX8_run_189 (lv_at hl 2 rfl) ?_
                refine xr_putI (pc := 191) (ci := 12) (ty := .int) hx hb hts inX8 tyX8 tyX8_ok nmX8 hown hK hR hF hS rfl k0.1 10 (Nat.le_of_ble_eq_true rfl) rfl (hts _ q_f_X8_22) (fun _ h9 => h9) rfl rfl rfl rfl dX8_run_191 (fun H locs hR hS => ?_)
                refine lv_aload_n (pc := 194) hx hb dX8_run_194 rfl (lv_at hl 4 rfl) ?_
                refine lv_iload (pc := 195) hx hb dX8_run_195 (lv_at hl 1 rfl) ?_
                refine xr_putI (pc := 197) (ci := 12) (ty := .int) hx hb hts inX8 tyX8 tyX8_ok nmX8 hown hK hR hF hS rfl k0.1 11 (Nat.le_of_ble_eq_true rfl) rfl (hts _ q_f_X8_187) (fun _ h9 => h9) rfl rfl rfl rfl dX8_run_197 (fun H locs hR hS => ?_)
                refine lv_iload_n (pc := 200) hx hb dX8_run_200 rfl (lv_at hl 0 rfl) ?_
                exact xf_i (pc := 201) hx hb hr rfl hlocks h hR hK hS dX8_run_201
      · have h := xpos c29 h
        refine lv_aload_n (pc := 81) hx hb dX8_run_81 rfl (lv_at hl 0 rfl) ?_
        refine lv_iconst (pc := 82) hx hb dX8_run_82 kc_4 ?_
        refine lv_iload_n (pc := 83) hx hb dX8_run_83 rfl (lv_at hl 2 rfl) ?_
        refine lv_imul (pc := 84) hx hb dX8_run_84 ?_
        obtain ⟨r51, m51, c51, h⟩ := xb_inv h
        refine xc_iV (pc := 85) (As := [.int _]) (rest := []) ⟨hx, hb, hml, hown, hts⟩ (mX8_carries hF _ _ k0 c51) (xcwV 1 hts fdX8_carries q_m_X8_181 ⟨Nat.le_of_ble_eq_true rfl, Nat.le_of_ble_eq_true rfl⟩) (xRecv hK hR (ci := 12) rfl k0.1) hR hK hE hS rfl hl.1 rfl (Nat.le_of_ble_eq_true rfl) dX8_run_85 ⟨Nat.zero_le _, Nat.zero_le _⟩ (fun H locs hR hS => ?_)
        refine lv_istore_n (pc := 88) (lv' := [(3, .int _), (0, .ref _), (1, .int _), (2, .int _)]) hx hb dX8_run_88 rfl hl (Nat.le_of_ble_eq_true rfl) rfl (fun ls hl => ?_)
        refine lv_iinc (pc := 89) (lv' := [(2, .int _), (3, .int _), (0, .ref _), (1, .int _)]) hx hb dX8_run_89 hl (k := 3) rfl (xinc kc_1) (Nat.le_of_ble_eq_true rfl) rfl (fun ls hl => ?_)
        refine lv_goto (pc := 92) (tgt := 66) hx hb dX8_run_92 (by decide) ?_
        exact ih _ _ _ _ _ _ _ h hR hS (lv_sub hl [2, 3, 0, 1] rfl)
set_option maxHeartbeats 1000000 in
set_option maxRecDepth 20000 in
theorem mX8_run {l : Launch} {D : va_G} {ca : Nat → ClassId} {z : Nat} {G : xG} {X : va_W} {ad av : Nat → Nat} (hF : xFix z G X) (h0 : Nat) (k0 : xI_Model G h0) {μ μ1 : xM} {r : Int32} (h : fX8_run h0 μ = some (r, μ1)) : xMi l yX8_run (xws yX8_run cX8_run 7 (some .int)) 5 D ca z G X ad av [.ref h0] μ r μ1 := by
  refine xm_i (by decide) rfl (Nat.le_of_ble_eq_true rfl) [(0, .ref h0)] rfl ?_
  intro p e s m args below meth c ls hx hb hr hml hlocks hts hown hK hE hR hS hl
  have hts : ∀ w ∈ xAll, w.before args s = true := fun w hw => hts w (List.mem_cons_of_mem _ hw)
  rw [fX8_run] at h
  refine lv_aload_n (pc := 0) hx hb dX8_run_0 rfl (lv_at hl 0 rfl) ?_
  obtain ⟨r1, m1, c1, h⟩ := xb_inv h
  refine xc_iV (pc := 1) (As := []) (rest := []) ⟨hx, hb, hml, hown, hts⟩ (mX8_isText hF _ k0 c1) (xcwV 0 hts fdX8_isText q_m_X8_178 ⟨Nat.le_of_ble_eq_true rfl, Nat.le_of_ble_eq_true rfl⟩) (xRecv hK hR (ci := 12) rfl k0.1) hR hK hE hS rfl hl.1 rfl (Nat.le_of_ble_eq_true rfl) dX8_run_1 ⟨Nat.zero_le _, Nat.zero_le _⟩ (fun H locs hR hS => ?_)
  refine lv_istore_n (pc := 4) (lv' := [(1, .int _), (0, .ref _)]) hx hb dX8_run_4 rfl hl (Nat.le_of_ble_eq_true rfl) rfl (fun ls hl => ?_)
  refine lv_aload_n (pc := 5) hx hb dX8_run_5 rfl (lv_at hl 1 rfl) ?_
  refine lv_iload_n (pc := 6) hx hb dX8_run_6 rfl (lv_at hl 0 rfl) ?_
  refine lv_if_eq (pc := 7) (tgt := 14) hx hb dX8_run_7 (by decide) (fun c2 => ?_) (fun c2 => ?_)
  · have h := xpos c2 h
    refine lv_aload_n (pc := 14) hx hb dX8_run_14 rfl (lv_at hl 1 rfl) ?_
    refine xr_getI (pc := 15) (ci := 12) hx hb hts inX8 hown hK hR rfl k0.1 17 (Nat.le_of_ble_eq_true rfl) rfl (hts _ q_f_X8_138) (fun _ h9 => h9) dX8_run_15 ?_
    refine xr_putI (pc := 18) (ci := 12) (ty := .int) hx hb hts inX8 tyX8 tyX8_ok nmX8 hown hK hR hF hS rfl k0.1 14 (Nat.le_of_ble_eq_true rfl) rfl (hts _ q_f_X8_29) (fun _ h9 => h9) rfl rfl rfl rfl dX8_run_18 (fun H locs hR hS => ?_)
    refine lv_aload_n (pc := 21) hx hb dX8_run_21 rfl (lv_at hl 1 rfl) ?_
    refine lv_iconst (pc := 22) hx hb dX8_run_22 kc_0 ?_
    refine xr_putI (pc := 23) (ci := 12) (ty := .int) hx hb hts inX8 tyX8 tyX8_ok nmX8 hown hK hR hF hS rfl k0.1 13 (Nat.le_of_ble_eq_true rfl) rfl (hts _ q_f_X8_135) (fun _ h9 => h9) rfl rfl rfl rfl dX8_run_23 (fun H locs hR hS => ?_)
    refine lv_aload_n (pc := 26) hx hb dX8_run_26 rfl (lv_at hl 1 rfl) ?_
    refine lv_iload_n (pc := 27) hx hb dX8_run_27 rfl (lv_at hl 0 rfl) ?_
    refine lv_if_eq (pc := 28) (tgt := 35) hx hb dX8_run_28 (by decide) (fun c3 => ?_) (fun c3 => ?_)
    · have h := xpos c3 h
      refine lv_iconst (pc := 35) hx hb dX8_run_35 kc_1 ?_
      obtain ⟨r4, m4, c4, h⟩ := xb_inv h
      refine xc_iV (pc := 36) (As := [.int _]) (rest := []) ⟨hx, hb, hml, hown, hts⟩ (mX8_fails hF _ _ k0 c4) (xcwV 1 hts fdX8_fails q_m_X8_67 ⟨Nat.le_of_ble_eq_true rfl, Nat.le_of_ble_eq_true rfl⟩) (xRecv hK hR (ci := 12) rfl k0.1) hR hK hE hS rfl hl.1 rfl (Nat.le_of_ble_eq_true rfl) dX8_run_36 ⟨Nat.zero_le _, Nat.zero_le _⟩ (fun H locs hR hS => ?_)
      refine lv_if_eq (pc := 39) (tgt := 44) hx hb dX8_run_39 (by decide) (fun c5 => ?_) (fun c5 => ?_)
      · have h := xpos c5 h
        refine lv_aload_n (pc := 44) hx hb dX8_run_44 rfl (lv_at hl 1 rfl) ?_
        refine xr_getR (pc := 45) (ci := 12) hx hb hts inX8 hown hK hR rfl k0.1 0 (Nat.le_of_ble_eq_true rfl) rfl k0.2.1.1 (hts _ q_f_X8_7) (fun _ h9 => h9) dX8_run_45 ?_
        refine lv_iconst (pc := 48) hx hb dX8_run_48 kc_0 ?_
        refine lv_aload_n (pc := 49) hx hb dX8_run_49 rfl (lv_at hl 1 rfl) ?_
        refine xr_getR (pc := 50) (ci := 12) hx hb hts inX8 hown hK hR rfl k0.1 3 (Nat.le_of_ble_eq_true rfl) rfl k0.2.2.2.2.1.1 (hts _ q_f_X8_19) (fun _ h9 => h9) dX8_run_50 ?_
        refine lv_iconst (pc := 53) hx hb dX8_run_53 kc_0 ?_
        obtain ⟨m6, c6, h⟩ := xbv_inv h
        refine xc_vS (pc := 54) (As := [.ref _, .int _, .ref _, .int _]) (rest := []) ⟨hx, hb, hml, hown, hts⟩ (mX8_copies hF _ _ _ _ _ _ k0.2.1.2 k0.2.2.2.2.1.2 c6) (xcwS 4 hts fdX8_copies q_m_X8_55 ⟨Nat.le_of_ble_eq_true rfl, Nat.le_of_ble_eq_true rfl⟩) hR hK hE hS rfl hl.1 rfl (Nat.le_of_ble_eq_true rfl) dX8_run_54 ⟨Nat.zero_le _, Nat.zero_le _⟩ (fun H locs hR hS => ?_)
        refine lv_aload_n (pc := 57) hx hb dX8_run_57 rfl (lv_at hl 1 rfl) ?_
        refine lv_iconst (pc := 58) hx hb dX8_run_58 kc_1 ?_
        refine xr_putI (pc := 59) (ci := 12) (ty := .boolean) hx hb hts inX8 tyX8 tyX8_ok nmX8 hown hK hR hF hS rfl k0.1 6 (Nat.le_of_ble_eq_true rfl) rfl (hts _ q_f_X8_48) (fun _ h9 => h9) rfl rfl rfl rfl dX8_run_59 (fun H locs hR hS => ?_)
        refine lv_iconst (pc := 62) hx hb dX8_run_62 kc_0 ?_
        refine lv_istore_n (pc := 63) (lv' := [(2, .int _), (1, .int _), (0, .ref _)]) hx hb dX8_run_63 rfl hl (Nat.le_of_ble_eq_true rfl) rfl (fun ls hl => ?_)
        refine lv_iconst (pc := 64) hx hb dX8_run_64 kc_0 ?_
        refine lv_istore_n (pc := 65) (lv' := [(3, .int _), (2, .int _), (1, .int _), (0, .ref _)]) hx hb dX8_run_65 rfl hl (Nat.le_of_ble_eq_true rfl) rfl (fun ls hl => ?_)
        exact wX8_run_66 hF h0 k0 hx hb hr hml hlocks hts hown hK hE _ _ _ _ _ _ _ _ h hR hS (lv_sub hl [3, 2, 1, 0] rfl)
      · have h := xneg c5 h
        refine lv_iconst (pc := 42) hx hb dX8_run_42 kc_0 ?_
        exact xf_i (pc := 43) hx hb hr rfl hlocks h hR hK hS dX8_run_43
    · have h := xneg c3 h
      refine lv_iconst (pc := 31) hx hb dX8_run_31 kc_0 ?_
      refine lv_goto (pc := 32) (tgt := 36) hx hb dX8_run_32 (by decide) ?_
      obtain ⟨r52, m52, c52, h⟩ := xb_inv h
      refine xc_iV (pc := 36) (As := [.int _]) (rest := []) ⟨hx, hb, hml, hown, hts⟩ (mX8_fails hF _ _ k0 c52) (xcwV 1 hts fdX8_fails q_m_X8_67 ⟨Nat.le_of_ble_eq_true rfl, Nat.le_of_ble_eq_true rfl⟩) (xRecv hK hR (ci := 12) rfl k0.1) hR hK hE hS rfl hl.1 rfl (Nat.le_of_ble_eq_true rfl) dX8_run_36 ⟨Nat.zero_le _, Nat.zero_le _⟩ (fun H locs hR hS => ?_)
      refine lv_if_eq (pc := 39) (tgt := 44) hx hb dX8_run_39 (by decide) (fun c53 => ?_) (fun c53 => ?_)
      · have h := xpos c53 h
        refine lv_aload_n (pc := 44) hx hb dX8_run_44 rfl (lv_at hl 1 rfl) ?_
        refine xr_getR (pc := 45) (ci := 12) hx hb hts inX8 hown hK hR rfl k0.1 0 (Nat.le_of_ble_eq_true rfl) rfl k0.2.1.1 (hts _ q_f_X8_7) (fun _ h9 => h9) dX8_run_45 ?_
        refine lv_iconst (pc := 48) hx hb dX8_run_48 kc_0 ?_
        refine lv_aload_n (pc := 49) hx hb dX8_run_49 rfl (lv_at hl 1 rfl) ?_
        refine xr_getR (pc := 50) (ci := 12) hx hb hts inX8 hown hK hR rfl k0.1 3 (Nat.le_of_ble_eq_true rfl) rfl k0.2.2.2.2.1.1 (hts _ q_f_X8_19) (fun _ h9 => h9) dX8_run_50 ?_
        refine lv_iconst (pc := 53) hx hb dX8_run_53 kc_0 ?_
        obtain ⟨m54, c54, h⟩ := xbv_inv h
        refine xc_vS (pc := 54) (As := [.ref _, .int _, .ref _, .int _]) (rest := []) ⟨hx, hb, hml, hown, hts⟩ (mX8_copies hF _ _ _ _ _ _ k0.2.1.2 k0.2.2.2.2.1.2 c54) (xcwS 4 hts fdX8_copies q_m_X8_55 ⟨Nat.le_of_ble_eq_true rfl, Nat.le_of_ble_eq_true rfl⟩) hR hK hE hS rfl hl.1 rfl (Nat.le_of_ble_eq_true rfl) dX8_run_54 ⟨Nat.zero_le _, Nat.zero_le _⟩ (fun H locs hR hS => ?_)
        refine lv_aload_n (pc := 57) hx hb dX8_run_57 rfl (lv_at hl 1 rfl) ?_
        refine lv_iconst (pc := 58) hx hb dX8_run_58 kc_1 ?_
        refine xr_putI (pc := 59) (ci := 12) (ty := .boolean) hx hb hts inX8 tyX8 tyX8_ok nmX8 hown hK hR hF hS rfl k0.1 6 (Nat.le_of_ble_eq_true rfl) rfl (hts _ q_f_X8_48) (fun _ h9 => h9) rfl rfl rfl rfl dX8_run_59 (fun H locs hR hS => ?_)
        refine lv_iconst (pc := 62) hx hb dX8_run_62 kc_0 ?_
        refine lv_istore_n (pc := 63) (lv' := [(2, .int _), (1, .int _), (0, .ref _)]) hx hb dX8_run_63 rfl hl (Nat.le_of_ble_eq_true rfl) rfl (fun ls hl => ?_)
        refine lv_iconst (pc := 64) hx hb dX8_run_64 kc_0 ?_
        refine lv_istore_n (pc := 65) (lv' := [(3, .int _), (2, .int _), (1, .int _), (0, .ref _)]) hx hb dX8_run_65 rfl hl (Nat.le_of_ble_eq_true rfl) rfl (fun ls hl => ?_)
        exact wX8_run_66 hF h0 k0 hx hb hr hml hlocks hts hown hK hE _ _ _ _ _ _ _ _ h hR hS (lv_sub hl [3, 2, 1, 0] rfl)
      · have h := xneg c53 h
        refine lv_iconst (pc := 42) hx hb dX8_run_42 kc_0 ?_
        exact xf_i (pc := 43) hx hb hr rfl hlocks h hR hK hS dX8_run_43
  · have h := xneg c2 h
    refine lv_iconst (pc := 10) hx hb dX8_run_10 kc_m1 ?_
    refine lv_goto (pc := 11) (tgt := 18) hx hb dX8_run_11 (by decide) ?_
    refine xr_putI (pc := 18) (ci := 12) (ty := .int) hx hb hts inX8 tyX8 tyX8_ok nmX8 hown hK hR hF hS rfl k0.1 14 (Nat.le_of_ble_eq_true rfl) rfl (hts _ q_f_X8_29) (fun _ h9 => h9) rfl rfl rfl rfl dX8_run_18 (fun H locs hR hS => ?_)
    refine lv_aload_n (pc := 21) hx hb dX8_run_21 rfl (lv_at hl 1 rfl) ?_
    refine lv_iconst (pc := 22) hx hb dX8_run_22 kc_0 ?_
    refine xr_putI (pc := 23) (ci := 12) (ty := .int) hx hb hts inX8 tyX8 tyX8_ok nmX8 hown hK hR hF hS rfl k0.1 13 (Nat.le_of_ble_eq_true rfl) rfl (hts _ q_f_X8_135) (fun _ h9 => h9) rfl rfl rfl rfl dX8_run_23 (fun H locs hR hS => ?_)
    refine lv_aload_n (pc := 26) hx hb dX8_run_26 rfl (lv_at hl 1 rfl) ?_
    refine lv_iload_n (pc := 27) hx hb dX8_run_27 rfl (lv_at hl 0 rfl) ?_
    refine lv_if_eq (pc := 28) (tgt := 35) hx hb dX8_run_28 (by decide) (fun c55 => ?_) (fun c55 => ?_)
    · have h := xpos c55 h
      refine lv_iconst (pc := 35) hx hb dX8_run_35 kc_1 ?_
      obtain ⟨r56, m56, c56, h⟩ := xb_inv h
      refine xc_iV (pc := 36) (As := [.int _]) (rest := []) ⟨hx, hb, hml, hown, hts⟩ (mX8_fails hF _ _ k0 c56) (xcwV 1 hts fdX8_fails q_m_X8_67 ⟨Nat.le_of_ble_eq_true rfl, Nat.le_of_ble_eq_true rfl⟩) (xRecv hK hR (ci := 12) rfl k0.1) hR hK hE hS rfl hl.1 rfl (Nat.le_of_ble_eq_true rfl) dX8_run_36 ⟨Nat.zero_le _, Nat.zero_le _⟩ (fun H locs hR hS => ?_)
      refine lv_if_eq (pc := 39) (tgt := 44) hx hb dX8_run_39 (by decide) (fun c57 => ?_) (fun c57 => ?_)
      · have h := xpos c57 h
        refine lv_aload_n (pc := 44) hx hb dX8_run_44 rfl (lv_at hl 1 rfl) ?_
        refine xr_getR (pc := 45) (ci := 12) hx hb hts inX8 hown hK hR rfl k0.1 0 (Nat.le_of_ble_eq_true rfl) rfl k0.2.1.1 (hts _ q_f_X8_7) (fun _ h9 => h9) dX8_run_45 ?_
        refine lv_iconst (pc := 48) hx hb dX8_run_48 kc_0 ?_
        refine lv_aload_n (pc := 49) hx hb dX8_run_49 rfl (lv_at hl 1 rfl) ?_
        refine xr_getR (pc := 50) (ci := 12) hx hb hts inX8 hown hK hR rfl k0.1 3 (Nat.le_of_ble_eq_true rfl) rfl k0.2.2.2.2.1.1 (hts _ q_f_X8_19) (fun _ h9 => h9) dX8_run_50 ?_
        refine lv_iconst (pc := 53) hx hb dX8_run_53 kc_0 ?_
        obtain ⟨m58, c58, h⟩ := xbv_inv h
        refine xc_vS (pc := 54) (As := [.ref _, .int _, .ref _, .int _]) (rest := []) ⟨hx, hb, hml, hown, hts⟩ (mX8_copies hF _ _ _ _ _ _ k0.2.1.2 k0.2.2.2.2.1.2 c58) (xcwS 4 hts fdX8_copies q_m_X8_55 ⟨Nat.le_of_ble_eq_true rfl, Nat.le_of_ble_eq_true rfl⟩) hR hK hE hS rfl hl.1 rfl (Nat.le_of_ble_eq_true rfl) dX8_run_54 ⟨Nat.zero_le _, Nat.zero_le _⟩ (fun H locs hR hS => ?_)
        refine lv_aload_n (pc := 57) hx hb dX8_run_57 rfl (lv_at hl 1 rfl) ?_
        refine lv_iconst (pc := 58) hx hb dX8_run_58 kc_1 ?_
        refine xr_putI (pc := 59) (ci := 12) (ty := .boolean) hx hb hts inX8 tyX8 tyX8_ok nmX8 hown hK hR hF hS rfl k0.1 6 (Nat.le_of_ble_eq_true rfl) rfl (hts _ q_f_X8_48) (fun _ h9 => h9) rfl rfl rfl rfl dX8_run_59 (fun H locs hR hS => ?_)
        refine lv_iconst (pc := 62) hx hb dX8_run_62 kc_0 ?_
        refine lv_istore_n (pc := 63) (lv' := [(2, .int _), (1, .int _), (0, .ref _)]) hx hb dX8_run_63 rfl hl (Nat.le_of_ble_eq_true rfl) rfl (fun ls hl => ?_)
        refine lv_iconst (pc := 64) hx hb dX8_run_64 kc_0 ?_
        refine lv_istore_n (pc := 65) (lv' := [(3, .int _), (2, .int _), (1, .int _), (0, .ref _)]) hx hb dX8_run_65 rfl hl (Nat.le_of_ble_eq_true rfl) rfl (fun ls hl => ?_)
        exact wX8_run_66 hF h0 k0 hx hb hr hml hlocks hts hown hK hE _ _ _ _ _ _ _ _ h hR hS (lv_sub hl [3, 2, 1, 0] rfl)
      · have h := xneg c57 h
        refine lv_iconst (pc := 42) hx hb dX8_run_42 kc_0 ?_
        exact xf_i (pc := 43) hx hb hr rfl hlocks h hR hK hS dX8_run_43
    · have h := xneg c55 h
      refine lv_iconst (pc := 31) hx hb dX8_run_31 kc_0 ?_
      refine lv_goto (pc := 32) (tgt := 36) hx hb dX8_run_32 (by decide) ?_
      obtain ⟨r59, m59, c59, h⟩ := xb_inv h
      refine xc_iV (pc := 36) (As := [.int _]) (rest := []) ⟨hx, hb, hml, hown, hts⟩ (mX8_fails hF _ _ k0 c59) (xcwV 1 hts fdX8_fails q_m_X8_67 ⟨Nat.le_of_ble_eq_true rfl, Nat.le_of_ble_eq_true rfl⟩) (xRecv hK hR (ci := 12) rfl k0.1) hR hK hE hS rfl hl.1 rfl (Nat.le_of_ble_eq_true rfl) dX8_run_36 ⟨Nat.zero_le _, Nat.zero_le _⟩ (fun H locs hR hS => ?_)
      refine lv_if_eq (pc := 39) (tgt := 44) hx hb dX8_run_39 (by decide) (fun c60 => ?_) (fun c60 => ?_)
      · have h := xpos c60 h
        refine lv_aload_n (pc := 44) hx hb dX8_run_44 rfl (lv_at hl 1 rfl) ?_
        refine xr_getR (pc := 45) (ci := 12) hx hb hts inX8 hown hK hR rfl k0.1 0 (Nat.le_of_ble_eq_true rfl) rfl k0.2.1.1 (hts _ q_f_X8_7) (fun _ h9 => h9) dX8_run_45 ?_
        refine lv_iconst (pc := 48) hx hb dX8_run_48 kc_0 ?_
        refine lv_aload_n (pc := 49) hx hb dX8_run_49 rfl (lv_at hl 1 rfl) ?_
        refine xr_getR (pc := 50) (ci := 12) hx hb hts inX8 hown hK hR rfl k0.1 3 (Nat.le_of_ble_eq_true rfl) rfl k0.2.2.2.2.1.1 (hts _ q_f_X8_19) (fun _ h9 => h9) dX8_run_50 ?_
        refine lv_iconst (pc := 53) hx hb dX8_run_53 kc_0 ?_
        obtain ⟨m61, c61, h⟩ := xbv_inv h
        refine xc_vS (pc := 54) (As := [.ref _, .int _, .ref _, .int _]) (rest := []) ⟨hx, hb, hml, hown, hts⟩ (mX8_copies hF _ _ _ _ _ _ k0.2.1.2 k0.2.2.2.2.1.2 c61) (xcwS 4 hts fdX8_copies q_m_X8_55 ⟨Nat.le_of_ble_eq_true rfl, Nat.le_of_ble_eq_true rfl⟩) hR hK hE hS rfl hl.1 rfl (Nat.le_of_ble_eq_true rfl) dX8_run_54 ⟨Nat.zero_le _, Nat.zero_le _⟩ (fun H locs hR hS => ?_)
        refine lv_aload_n (pc := 57) hx hb dX8_run_57 rfl (lv_at hl 1 rfl) ?_
        refine lv_iconst (pc := 58) hx hb dX8_run_58 kc_1 ?_
        refine xr_putI (pc := 59) (ci := 12) (ty := .boolean) hx hb hts inX8 tyX8 tyX8_ok nmX8 hown hK hR hF hS rfl k0.1 6 (Nat.le_of_ble_eq_true rfl) rfl (hts _ q_f_X8_48) (fun _ h9 => h9) rfl rfl rfl rfl dX8_run_59 (fun H locs hR hS => ?_)
        refine lv_iconst (pc := 62) hx hb dX8_run_62 kc_0 ?_
        refine lv_istore_n (pc := 63) (lv' := [(2, .int _), (1, .int _), (0, .ref _)]) hx hb dX8_run_63 rfl hl (Nat.le_of_ble_eq_true rfl) rfl (fun ls hl => ?_)
        refine lv_iconst (pc := 64) hx hb dX8_run_64 kc_0 ?_
        refine lv_istore_n (pc := 65) (lv' := [(3, .int _), (2, .int _), (1, .int _), (0, .ref _)]) hx hb dX8_run_65 rfl hl (Nat.le_of_ble_eq_true rfl) rfl (fun ls hl => ?_)
        exact wX8_run_66 hF h0 k0 hx hb hr hml hlocks hts hown hK hE _ _ _ _ _ _ _ _ h hR hS (lv_sub hl [3, 2, 1, 0] rfl)
      · have h := xneg c60 h
        refine lv_iconst (pc := 42) hx hb dX8_run_42 kc_0 ?_
        exact xf_i (pc := 43) hx hb hr rfl hlocks h hR hK hS dX8_run_43
set_option maxHeartbeats 1000000 in
set_option maxRecDepth 20000 in
theorem mX8_errorPosition {l : Launch} {D : va_G} {ca : Nat → ClassId} {z : Nat} {G : xG} {X : va_W} {ad av : Nat → Nat} (hF : xFix z G X) (h0 : Nat) (k0 : xI_Model G h0) {μ μ1 : xM} {r : Int32} (h : fX8_errorPosition h0 μ = some (r, μ1)) : xMi l yX8_errorPosition (xws yX8_errorPosition cX8_errorPosition 1 (some .int)) 0 D ca z G X ad av [.ref h0] μ r μ1 := by
  refine xm_i (by decide) rfl (Nat.le_of_ble_eq_true rfl) [(0, .ref h0)] rfl ?_
  intro p e s m args below meth c ls hx hb hr hml hlocks hts hown hK hE hR hS hl
  have hts : ∀ w ∈ xAll, w.before args s = true := fun w hw => hts w (List.mem_cons_of_mem _ hw)
  rw [fX8_errorPosition] at h
  refine lv_aload_n (pc := 0) hx hb dX8_errorPosition_0 rfl (lv_at hl 0 rfl) ?_
  refine lv_iconst (pc := 1) hx hb dX8_errorPosition_1 kc_0 ?_
  refine xr_putI (pc := 2) (ci := 12) (ty := .int) hx hb hts inX8 tyX8 tyX8_ok nmX8 hown hK hR hF hS rfl k0.1 7 (Nat.le_of_ble_eq_true rfl) rfl (hts _ q_f_X8_39) (fun _ h9 => h9) rfl rfl rfl rfl dX8_errorPosition_2 (fun H locs hR hS => ?_)
  refine lv_aload_n (pc := 5) hx hb dX8_errorPosition_5 rfl (lv_at hl 0 rfl) ?_
  refine xr_getI (pc := 6) (ci := 12) hx hb hts inX8 hown hK hR rfl k0.1 14 (Nat.le_of_ble_eq_true rfl) rfl (hts _ q_f_X8_29) (fun _ h9 => h9) dX8_errorPosition_6 ?_
  exact xf_i (pc := 9) hx hb hr rfl hlocks h hR hK hS dX8_errorPosition_9
set_option maxHeartbeats 1000000 in
set_option maxRecDepth 20000 in
theorem mX8_refusal {l : Launch} {D : va_G} {ca : Nat → ClassId} {z : Nat} {G : xG} {X : va_W} {ad av : Nat → Nat} (hF : xFix z G X) (h0 : Nat) (p1 : Int32) (p2 : Int32) (k0 : xI_Model G h0) {μ μ1 : xM} {r : Int32} (h : fX8_refusal h0 p1 p2 μ = some (r, μ1)) : xMi l yX8_refusal (xws yX8_refusal cX8_refusal 3 (some .int)) 1 D ca z G X ad av [.ref h0, .int p1, .int p2] μ r μ1 := by
  refine xm_i (by decide) rfl (Nat.le_of_ble_eq_true rfl) [(0, .ref h0), (1, .int p1), (2, .int p2)] rfl ?_
  intro p e s m args below meth c ls hx hb hr hml hlocks hts hown hK hE hR hS hl
  have hts : ∀ w ∈ xAll, w.before args s = true := fun w hw => hts w (List.mem_cons_of_mem _ hw)
  rw [fX8_refusal] at h
  refine lv_aload_n (pc := 0) hx hb dX8_refusal_0 rfl (lv_at hl 0 rfl) ?_
  refine lv_aload_n (pc := 1) hx hb dX8_refusal_1 rfl (lv_at hl 0 rfl) ?_
  refine xr_getI (pc := 2) (ci := 12) hx hb hts inX8 hown hK hR rfl k0.1 8 (Nat.le_of_ble_eq_true rfl) rfl (hts _ q_f_X8_42) (fun _ h9 => h9) dX8_refusal_2 ?_
  refine lv_if_eq (pc := 5) (tgt := 19) hx hb dX8_refusal_5 (by decide) (fun c1 => ?_) (fun c1 => ?_)
  · have h := xpos c1 h
    refine lv_iconst (pc := 19) hx hb dX8_refusal_19 kc_1 ?_
    refine lv_goto (pc := 20) (tgt := 24) hx hb dX8_refusal_20 (by decide) ?_
    obtain ⟨r2, m2, c2, h⟩ := xb_inv h
    refine xc_iV (pc := 24) (As := [.int _]) (rest := []) ⟨hx, hb, hml, hown, hts⟩ (mX8_fails hF _ _ k0 c2) (xcwV 1 hts fdX8_fails q_m_X8_67 ⟨Nat.le_of_ble_eq_true rfl, Nat.le_of_ble_eq_true rfl⟩) (xRecv hK hR (ci := 12) rfl k0.1) hR hK hE hS rfl hl.1 rfl (Nat.le_of_ble_eq_true rfl) dX8_refusal_24 ⟨Nat.zero_le _, Nat.zero_le _⟩ (fun H locs hR hS => ?_)
    refine lv_if_eq (pc := 27) (tgt := 32) hx hb dX8_refusal_27 (by decide) (fun c3 => ?_) (fun c3 => ?_)
    · have h := xpos c3 h
      refine lv_iload_n (pc := 32) hx hb dX8_refusal_32 rfl (lv_at hl 1 rfl) ?_
      refine lv_if_eq (pc := 33) (tgt := 54) hx hb dX8_refusal_33 (by decide) (fun c4 => ?_) (fun c4 => ?_)
      · have h := xpos c4 h
        refine lv_iload_n (pc := 54) hx hb dX8_refusal_54 rfl (lv_at hl 2 rfl) ?_
        refine lv_if_eq (pc := 55) (tgt := 65) hx hb dX8_refusal_55 (by decide) (fun c5 => ?_) (fun c5 => ?_)
        · have h := xpos c5 h
          refine lv_aload_n (pc := 65) hx hb dX8_refusal_65 rfl (lv_at hl 0 rfl) ?_
          refine xr_getI (pc := 66) (ci := 12) hx hb hts inX8 hown hK hR rfl k0.1 8 (Nat.le_of_ble_eq_true rfl) rfl (hts _ q_f_X8_42) (fun _ h9 => h9) dX8_refusal_66 ?_
          exact xf_i (pc := 69) hx hb hr rfl hlocks h hR hK hS dX8_refusal_69
        · have h := xneg c5 h
          refine lv_aload_n (pc := 58) hx hb dX8_refusal_58 rfl (lv_at hl 0 rfl) ?_
          refine xr_getI (pc := 59) (ci := 12) hx hb hts inX8 hown hK hR rfl k0.1 9 (Nat.le_of_ble_eq_true rfl) rfl (hts _ q_f_X8_45) (fun _ h9 => h9) dX8_refusal_59 ?_
          refine lv_goto (pc := 62) (tgt := 69) hx hb dX8_refusal_62 (by decide) ?_
          exact xf_i (pc := 69) hx hb hr rfl hlocks h hR hK hS dX8_refusal_69
      · have h := xneg c4 h
        refine lv_iload_n (pc := 36) hx hb dX8_refusal_36 rfl (lv_at hl 2 rfl) ?_
        refine lv_if_eq (pc := 37) (tgt := 47) hx hb dX8_refusal_37 (by decide) (fun c6 => ?_) (fun c6 => ?_)
        · have h := xpos c6 h
          refine lv_aload_n (pc := 47) hx hb dX8_refusal_47 rfl (lv_at hl 0 rfl) ?_
          refine xr_getI (pc := 48) (ci := 12) hx hb hts inX8 hown hK hR rfl k0.1 10 (Nat.le_of_ble_eq_true rfl) rfl (hts _ q_f_X8_22) (fun _ h9 => h9) dX8_refusal_48 ?_
          refine lv_goto (pc := 51) (tgt := 69) hx hb dX8_refusal_51 (by decide) ?_
          exact xf_i (pc := 69) hx hb hr rfl hlocks h hR hK hS dX8_refusal_69
        · have h := xneg c6 h
          refine lv_aload_n (pc := 40) hx hb dX8_refusal_40 rfl (lv_at hl 0 rfl) ?_
          refine xr_getI (pc := 41) (ci := 12) hx hb hts inX8 hown hK hR rfl k0.1 11 (Nat.le_of_ble_eq_true rfl) rfl (hts _ q_f_X8_187) (fun _ h9 => h9) dX8_refusal_41 ?_
          refine lv_goto (pc := 44) (tgt := 69) hx hb dX8_refusal_44 (by decide) ?_
          exact xf_i (pc := 69) hx hb hr rfl hlocks h hR hK hS dX8_refusal_69
    · have h := xneg c3 h
      refine lv_iconst (pc := 30) hx hb dX8_refusal_30 kc_0 ?_
      exact xf_i (pc := 31) hx hb hr rfl hlocks h hR hK hS dX8_refusal_31
  · have h := xneg c1 h
    refine lv_iload_n (pc := 8) hx hb dX8_refusal_8 rfl (lv_at hl 1 rfl) ?_
    refine lv_if_eq (pc := 9) (tgt := 23) hx hb dX8_refusal_9 (by decide) (fun c7 => ?_) (fun c7 => ?_)
    · have h := xpos c7 h
      refine lv_iconst (pc := 23) hx hb dX8_refusal_23 kc_0 ?_
      obtain ⟨r8, m8, c8, h⟩ := xb_inv h
      refine xc_iV (pc := 24) (As := [.int _]) (rest := []) ⟨hx, hb, hml, hown, hts⟩ (mX8_fails hF _ _ k0 c8) (xcwV 1 hts fdX8_fails q_m_X8_67 ⟨Nat.le_of_ble_eq_true rfl, Nat.le_of_ble_eq_true rfl⟩) (xRecv hK hR (ci := 12) rfl k0.1) hR hK hE hS rfl hl.1 rfl (Nat.le_of_ble_eq_true rfl) dX8_refusal_24 ⟨Nat.zero_le _, Nat.zero_le _⟩ (fun H locs hR hS => ?_)
      refine lv_if_eq (pc := 27) (tgt := 32) hx hb dX8_refusal_27 (by decide) (fun c9 => ?_) (fun c9 => ?_)
      · have h := xpos c9 h
        refine lv_iload_n (pc := 32) hx hb dX8_refusal_32 rfl (lv_at hl 1 rfl) ?_
        refine lv_if_eq (pc := 33) (tgt := 54) hx hb dX8_refusal_33 (by decide) (fun c10 => ?_) (fun c10 => ?_)
        · have h := xpos c10 h
          refine lv_iload_n (pc := 54) hx hb dX8_refusal_54 rfl (lv_at hl 2 rfl) ?_
          refine lv_if_eq (pc := 55) (tgt := 65) hx hb dX8_refusal_55 (by decide) (fun c11 => ?_) (fun c11 => ?_)
          · have h := xpos c11 h
            refine lv_aload_n (pc := 65) hx hb dX8_refusal_65 rfl (lv_at hl 0 rfl) ?_
            refine xr_getI (pc := 66) (ci := 12) hx hb hts inX8 hown hK hR rfl k0.1 8 (Nat.le_of_ble_eq_true rfl) rfl (hts _ q_f_X8_42) (fun _ h9 => h9) dX8_refusal_66 ?_
            exact xf_i (pc := 69) hx hb hr rfl hlocks h hR hK hS dX8_refusal_69
          · have h := xneg c11 h
            refine lv_aload_n (pc := 58) hx hb dX8_refusal_58 rfl (lv_at hl 0 rfl) ?_
            refine xr_getI (pc := 59) (ci := 12) hx hb hts inX8 hown hK hR rfl k0.1 9 (Nat.le_of_ble_eq_true rfl) rfl (hts _ q_f_X8_45) (fun _ h9 => h9) dX8_refusal_59 ?_
            refine lv_goto (pc := 62) (tgt := 69) hx hb dX8_refusal_62 (by decide) ?_
            exact xf_i (pc := 69) hx hb hr rfl hlocks h hR hK hS dX8_refusal_69
        · have h := xneg c10 h
          refine lv_iload_n (pc := 36) hx hb dX8_refusal_36 rfl (lv_at hl 2 rfl) ?_
          refine lv_if_eq (pc := 37) (tgt := 47) hx hb dX8_refusal_37 (by decide) (fun c12 => ?_) (fun c12 => ?_)
          · have h := xpos c12 h
            refine lv_aload_n (pc := 47) hx hb dX8_refusal_47 rfl (lv_at hl 0 rfl) ?_
            refine xr_getI (pc := 48) (ci := 12) hx hb hts inX8 hown hK hR rfl k0.1 10 (Nat.le_of_ble_eq_true rfl) rfl (hts _ q_f_X8_22) (fun _ h9 => h9) dX8_refusal_48 ?_
            refine lv_goto (pc := 51) (tgt := 69) hx hb dX8_refusal_51 (by decide) ?_
            exact xf_i (pc := 69) hx hb hr rfl hlocks h hR hK hS dX8_refusal_69
          · have h := xneg c12 h
            refine lv_aload_n (pc := 40) hx hb dX8_refusal_40 rfl (lv_at hl 0 rfl) ?_
            refine xr_getI (pc := 41) (ci := 12) hx hb hts inX8 hown hK hR rfl k0.1 11 (Nat.le_of_ble_eq_true rfl) rfl (hts _ q_f_X8_187) (fun _ h9 => h9) dX8_refusal_41 ?_
            refine lv_goto (pc := 44) (tgt := 69) hx hb dX8_refusal_44 (by decide) ?_
            exact xf_i (pc := 69) hx hb hr rfl hlocks h hR hK hS dX8_refusal_69
      · have h := xneg c9 h
        refine lv_iconst (pc := 30) hx hb dX8_refusal_30 kc_0 ?_
        exact xf_i (pc := 31) hx hb hr rfl hlocks h hR hK hS dX8_refusal_31
    · have h := xneg c7 h
      refine lv_aload_n (pc := 12) hx hb dX8_refusal_12 rfl (lv_at hl 0 rfl) ?_
      refine xr_getI (pc := 13) (ci := 12) hx hb hts inX8 hown hK hR rfl k0.1 10 (Nat.le_of_ble_eq_true rfl) rfl (hts _ q_f_X8_22) (fun _ h9 => h9) dX8_refusal_13 ?_
      refine lv_if_ge (pc := 16) (tgt := 23) hx hb dX8_refusal_16 (by decide) (fun c13 => ?_) (fun c13 => ?_)
      · have h := xpos c13 h
        refine lv_iconst (pc := 23) hx hb dX8_refusal_23 kc_0 ?_
        obtain ⟨r14, m14, c14, h⟩ := xb_inv h
        refine xc_iV (pc := 24) (As := [.int _]) (rest := []) ⟨hx, hb, hml, hown, hts⟩ (mX8_fails hF _ _ k0 c14) (xcwV 1 hts fdX8_fails q_m_X8_67 ⟨Nat.le_of_ble_eq_true rfl, Nat.le_of_ble_eq_true rfl⟩) (xRecv hK hR (ci := 12) rfl k0.1) hR hK hE hS rfl hl.1 rfl (Nat.le_of_ble_eq_true rfl) dX8_refusal_24 ⟨Nat.zero_le _, Nat.zero_le _⟩ (fun H locs hR hS => ?_)
        refine lv_if_eq (pc := 27) (tgt := 32) hx hb dX8_refusal_27 (by decide) (fun c15 => ?_) (fun c15 => ?_)
        · have h := xpos c15 h
          refine lv_iload_n (pc := 32) hx hb dX8_refusal_32 rfl (lv_at hl 1 rfl) ?_
          refine lv_if_eq (pc := 33) (tgt := 54) hx hb dX8_refusal_33 (by decide) (fun c16 => ?_) (fun c16 => ?_)
          · have h := xpos c16 h
            refine lv_iload_n (pc := 54) hx hb dX8_refusal_54 rfl (lv_at hl 2 rfl) ?_
            refine lv_if_eq (pc := 55) (tgt := 65) hx hb dX8_refusal_55 (by decide) (fun c17 => ?_) (fun c17 => ?_)
            · have h := xpos c17 h
              refine lv_aload_n (pc := 65) hx hb dX8_refusal_65 rfl (lv_at hl 0 rfl) ?_
              refine xr_getI (pc := 66) (ci := 12) hx hb hts inX8 hown hK hR rfl k0.1 8 (Nat.le_of_ble_eq_true rfl) rfl (hts _ q_f_X8_42) (fun _ h9 => h9) dX8_refusal_66 ?_
              exact xf_i (pc := 69) hx hb hr rfl hlocks h hR hK hS dX8_refusal_69
            · have h := xneg c17 h
              refine lv_aload_n (pc := 58) hx hb dX8_refusal_58 rfl (lv_at hl 0 rfl) ?_
              refine xr_getI (pc := 59) (ci := 12) hx hb hts inX8 hown hK hR rfl k0.1 9 (Nat.le_of_ble_eq_true rfl) rfl (hts _ q_f_X8_45) (fun _ h9 => h9) dX8_refusal_59 ?_
              refine lv_goto (pc := 62) (tgt := 69) hx hb dX8_refusal_62 (by decide) ?_
              exact xf_i (pc := 69) hx hb hr rfl hlocks h hR hK hS dX8_refusal_69
          · have h := xneg c16 h
            refine lv_iload_n (pc := 36) hx hb dX8_refusal_36 rfl (lv_at hl 2 rfl) ?_
            refine lv_if_eq (pc := 37) (tgt := 47) hx hb dX8_refusal_37 (by decide) (fun c18 => ?_) (fun c18 => ?_)
            · have h := xpos c18 h
              refine lv_aload_n (pc := 47) hx hb dX8_refusal_47 rfl (lv_at hl 0 rfl) ?_
              refine xr_getI (pc := 48) (ci := 12) hx hb hts inX8 hown hK hR rfl k0.1 10 (Nat.le_of_ble_eq_true rfl) rfl (hts _ q_f_X8_22) (fun _ h9 => h9) dX8_refusal_48 ?_
              refine lv_goto (pc := 51) (tgt := 69) hx hb dX8_refusal_51 (by decide) ?_
              exact xf_i (pc := 69) hx hb hr rfl hlocks h hR hK hS dX8_refusal_69
            · have h := xneg c18 h
              refine lv_aload_n (pc := 40) hx hb dX8_refusal_40 rfl (lv_at hl 0 rfl) ?_
              refine xr_getI (pc := 41) (ci := 12) hx hb hts inX8 hown hK hR rfl k0.1 11 (Nat.le_of_ble_eq_true rfl) rfl (hts _ q_f_X8_187) (fun _ h9 => h9) dX8_refusal_41 ?_
              refine lv_goto (pc := 44) (tgt := 69) hx hb dX8_refusal_44 (by decide) ?_
              exact xf_i (pc := 69) hx hb hr rfl hlocks h hR hK hS dX8_refusal_69
        · have h := xneg c15 h
          refine lv_iconst (pc := 30) hx hb dX8_refusal_30 kc_0 ?_
          exact xf_i (pc := 31) hx hb hr rfl hlocks h hR hK hS dX8_refusal_31
      · have h := xneg c13 h
        refine lv_iconst (pc := 19) hx hb dX8_refusal_19 kc_1 ?_
        refine lv_goto (pc := 20) (tgt := 24) hx hb dX8_refusal_20 (by decide) ?_
        obtain ⟨r19, m19, c19, h⟩ := xb_inv h
        refine xc_iV (pc := 24) (As := [.int _]) (rest := []) ⟨hx, hb, hml, hown, hts⟩ (mX8_fails hF _ _ k0 c19) (xcwV 1 hts fdX8_fails q_m_X8_67 ⟨Nat.le_of_ble_eq_true rfl, Nat.le_of_ble_eq_true rfl⟩) (xRecv hK hR (ci := 12) rfl k0.1) hR hK hE hS rfl hl.1 rfl (Nat.le_of_ble_eq_true rfl) dX8_refusal_24 ⟨Nat.zero_le _, Nat.zero_le _⟩ (fun H locs hR hS => ?_)
        refine lv_if_eq (pc := 27) (tgt := 32) hx hb dX8_refusal_27 (by decide) (fun c20 => ?_) (fun c20 => ?_)
        · have h := xpos c20 h
          refine lv_iload_n (pc := 32) hx hb dX8_refusal_32 rfl (lv_at hl 1 rfl) ?_
          refine lv_if_eq (pc := 33) (tgt := 54) hx hb dX8_refusal_33 (by decide) (fun c21 => ?_) (fun c21 => ?_)
          · have h := xpos c21 h
            refine lv_iload_n (pc := 54) hx hb dX8_refusal_54 rfl (lv_at hl 2 rfl) ?_
            refine lv_if_eq (pc := 55) (tgt := 65) hx hb dX8_refusal_55 (by decide) (fun c22 => ?_) (fun c22 => ?_)
            · have h := xpos c22 h
              refine lv_aload_n (pc := 65) hx hb dX8_refusal_65 rfl (lv_at hl 0 rfl) ?_
              refine xr_getI (pc := 66) (ci := 12) hx hb hts inX8 hown hK hR rfl k0.1 8 (Nat.le_of_ble_eq_true rfl) rfl (hts _ q_f_X8_42) (fun _ h9 => h9) dX8_refusal_66 ?_
              exact xf_i (pc := 69) hx hb hr rfl hlocks h hR hK hS dX8_refusal_69
            · have h := xneg c22 h
              refine lv_aload_n (pc := 58) hx hb dX8_refusal_58 rfl (lv_at hl 0 rfl) ?_
              refine xr_getI (pc := 59) (ci := 12) hx hb hts inX8 hown hK hR rfl k0.1 9 (Nat.le_of_ble_eq_true rfl) rfl (hts _ q_f_X8_45) (fun _ h9 => h9) dX8_refusal_59 ?_
              refine lv_goto (pc := 62) (tgt := 69) hx hb dX8_refusal_62 (by decide) ?_
              exact xf_i (pc := 69) hx hb hr rfl hlocks h hR hK hS dX8_refusal_69
          · have h := xneg c21 h
            refine lv_iload_n (pc := 36) hx hb dX8_refusal_36 rfl (lv_at hl 2 rfl) ?_
            refine lv_if_eq (pc := 37) (tgt := 47) hx hb dX8_refusal_37 (by decide) (fun c23 => ?_) (fun c23 => ?_)
            · have h := xpos c23 h
              refine lv_aload_n (pc := 47) hx hb dX8_refusal_47 rfl (lv_at hl 0 rfl) ?_
              refine xr_getI (pc := 48) (ci := 12) hx hb hts inX8 hown hK hR rfl k0.1 10 (Nat.le_of_ble_eq_true rfl) rfl (hts _ q_f_X8_22) (fun _ h9 => h9) dX8_refusal_48 ?_
              refine lv_goto (pc := 51) (tgt := 69) hx hb dX8_refusal_51 (by decide) ?_
              exact xf_i (pc := 69) hx hb hr rfl hlocks h hR hK hS dX8_refusal_69
            · have h := xneg c23 h
              refine lv_aload_n (pc := 40) hx hb dX8_refusal_40 rfl (lv_at hl 0 rfl) ?_
              refine xr_getI (pc := 41) (ci := 12) hx hb hts inX8 hown hK hR rfl k0.1 11 (Nat.le_of_ble_eq_true rfl) rfl (hts _ q_f_X8_187) (fun _ h9 => h9) dX8_refusal_41 ?_
              refine lv_goto (pc := 44) (tgt := 69) hx hb dX8_refusal_44 (by decide) ?_
              exact xf_i (pc := 69) hx hb hr rfl hlocks h hR hK hS dX8_refusal_69
        · have h := xneg c20 h
          refine lv_iconst (pc := 30) hx hb dX8_refusal_30 kc_0 ?_
          exact xf_i (pc := 31) hx hb hr rfl hlocks h hR hK hS dX8_refusal_31
set_option maxHeartbeats 1000000 in
set_option maxRecDepth 20000 in
theorem wX8_leftAll_4 {p : Program} {l : Launch} {e : Env} {s : State} {m : MethodId} {args : Array Value} {below : List Frame} {meth : Method} {c : Code} {D : va_G} {ca : Nat → ClassId} {z : Nat} {G : xG} {X : va_W} {ad av : Nat → Nat} (hF : xFix z G X) (h0 : Nat) (k0 : xI_Model G h0) (hx : p.tables.exec = Jvm.exec) (hb : c.code = cX8_leftAll) (hr : meth.sig.returnType = (some .int)) (hml : c.maxLocals = 3) (hlocks : meth.locks = false) (hts : ∀ w ∈ xAll, w.before args s = true) (hown : s.vm.findClass RX8 = some m.cls) (hK : va_K D vwCl (xT ca) s) (hE : xEv z ad av s s.heap) {μ1 : xM} {r : Int32} :
    ∀ (n : Nat) (x1 : Int32) (x2 : Int32) (μ : xM) (H : Heap) (locs : List Loc) (ls : Array Slot), lX8_leftAll_4 h0 n x1 x2 μ = some (r, μ1) → xRep D ca G X μ H → va_S (fun q => z ≤ q) s.heap H locs → lv_has ls 3 [(0, .ref h0), (1, .int x1), (2, .int x2)] → W p l e (xRm 0 0 0) s m args below meth c H locs 0 0 (MQ below (va_Qi (fun (r' : Int32) (_ : Unit) => r' = r) (fun _ t => xB D ca G X μ1 t) (fun q => z ≤ q)) args s 0 0 (fun q => z ≤ q)) (F0 m 4 ls []) := by
  intro n
  induction n with
  | zero => intro x1 x2 μ H locs ls h; cases h
  | succ n ih =>
    intro x1 x2 μ H locs ls h hR hS hl
    rw [lX8_leftAll_4] at h
    refine lv_iload_n (pc := 4) hx hb dX8_leftAll_4 rfl (lv_at hl 2 rfl) ?_
    refine lv_bipush (pc := 5) hx hb dX8_leftAll_5 kb_6 ?_
    refine lv_icmp_ge (pc := 7) (tgt := 29) hx hb dX8_leftAll_7 (by decide) (fun c1 => ?_) (fun c1 => ?_)
    · have h := xpos c1 h
      refine lv_iload_n (pc := 29) hx hb dX8_leftAll_29 rfl (lv_at hl 1 rfl) ?_
      exact xf_i (pc := 30) hx hb hr rfl hlocks h hR hK hS dX8_leftAll_30
    · have h := xneg c1 h
      refine lv_iload_n (pc := 10) hx hb dX8_leftAll_10 rfl (lv_at hl 1 rfl) ?_
      refine lv_aload_n (pc := 11) hx hb dX8_leftAll_11 rfl (lv_at hl 0 rfl) ?_
      refine xr_getR (pc := 12) (ci := 12) hx hb hts inX8 hown hK hR rfl k0.1 0 (Nat.le_of_ble_eq_true rfl) rfl k0.2.1.1 (hts _ q_f_X8_7) (fun _ h9 => h9) dX8_leftAll_12 ?_
      refine lv_sipush (pc := 15) hx hb dX8_leftAll_15 ks_187 ?_
      refine lv_iload_n (pc := 18) hx hb dX8_leftAll_18 rfl (lv_at hl 2 rfl) ?_
      refine lv_iadd (pc := 19) hx hb dX8_leftAll_19 ?_
      obtain ⟨c2, h⟩ := xk_inv h
      refine xr_ialdk (pc := 20) (Int32.toNatClampNeg (((187 : Int32) + x2))) hx hb hK hR k0.2.1.2.1 k0.2.1.2.2 rfl c2 dX8_leftAll_20 ?_
      refine lv_iadd (pc := 21) hx hb dX8_leftAll_21 ?_
      refine lv_istore_n (pc := 22) (lv' := [(1, .int _), (0, .ref _), (2, .int _)]) hx hb dX8_leftAll_22 rfl hl (Nat.le_of_ble_eq_true rfl) rfl (fun ls hl => ?_)
      refine lv_iinc (pc := 23) (lv' := [(2, .int _), (1, .int _), (0, .ref _)]) hx hb dX8_leftAll_23 hl (k := 2) rfl (xinc kc_1) (Nat.le_of_ble_eq_true rfl) rfl (fun ls hl => ?_)
      refine lv_goto (pc := 26) (tgt := 4) hx hb dX8_leftAll_26 (by decide) ?_
      exact ih _ _ _ _ _ _ h hR hS (lv_sub hl [2, 1, 0] rfl)
set_option maxHeartbeats 1000000 in
set_option maxRecDepth 20000 in
theorem mX8_leftAll {l : Launch} {D : va_G} {ca : Nat → ClassId} {z : Nat} {G : xG} {X : va_W} {ad av : Nat → Nat} (hF : xFix z G X) (h0 : Nat) (k0 : xI_Model G h0) {μ μ1 : xM} {r : Int32} (h : fX8_leftAll h0 μ = some (r, μ1)) : xMi l yX8_leftAll (xws yX8_leftAll cX8_leftAll 3 (some .int)) 0 D ca z G X ad av [.ref h0] μ r μ1 := by
  refine xm_i (by decide) rfl (Nat.le_of_ble_eq_true rfl) [(0, .ref h0)] rfl ?_
  intro p e s m args below meth c ls hx hb hr hml hlocks hts hown hK hE hR hS hl
  have hts : ∀ w ∈ xAll, w.before args s = true := fun w hw => hts w (List.mem_cons_of_mem _ hw)
  rw [fX8_leftAll] at h
  refine lv_iconst (pc := 0) hx hb dX8_leftAll_0 kc_0 ?_
  refine lv_istore_n (pc := 1) (lv' := [(1, .int _), (0, .ref _)]) hx hb dX8_leftAll_1 rfl hl (Nat.le_of_ble_eq_true rfl) rfl (fun ls hl => ?_)
  refine lv_iconst (pc := 2) hx hb dX8_leftAll_2 kc_0 ?_
  refine lv_istore_n (pc := 3) (lv' := [(2, .int _), (1, .int _), (0, .ref _)]) hx hb dX8_leftAll_3 rfl hl (Nat.le_of_ble_eq_true rfl) rfl (fun ls hl => ?_)
  exact wX8_leftAll_4 hF h0 k0 hx hb hr hml hlocks hts hown hK hE _ _ _ _ _ _ _ h hR hS (lv_sub hl [2, 1, 0] rfl)
set_option maxHeartbeats 1000000 in
set_option maxRecDepth 20000 in
theorem mX8_account {l : Launch} {D : va_G} {ca : Nat → ClassId} {z : Nat} {G : xG} {X : va_W} {ad av : Nat → Nat} (hF : xFix z G X) (h0 : Nat) (p1 : Int32) (k0 : xI_Model G h0) {μ μ1 : xM} {r : Int32} (h : fX8_account h0 p1 μ = some (r, μ1)) : xMi l yX8_account (xws yX8_account cX8_account 2 (some .int)) 2 D ca z G X ad av [.ref h0, .int p1] μ r μ1 := by
  refine xm_i (by decide) rfl (Nat.le_of_ble_eq_true rfl) [(0, .ref h0), (1, .int p1)] rfl ?_
  intro p e s m args below meth c ls hx hb hr hml hlocks hts hown hK hE hR hS hl
  have hts : ∀ w ∈ xAll, w.before args s = true := fun w hw => hts w (List.mem_cons_of_mem _ hw)
  rw [fX8_account] at h
  refine lv_aload_n (pc := 0) hx hb dX8_account_0 rfl (lv_at hl 0 rfl) ?_
  refine lv_iload_n (pc := 1) hx hb dX8_account_1 rfl (lv_at hl 1 rfl) ?_
  refine lv_iconst (pc := 2) hx hb dX8_account_2 kc_0 ?_
  refine lv_bipush (pc := 3) hx hb dX8_account_3 kb_15 ?_
  obtain ⟨r1, m1, c1, h⟩ := xb_inv h
  refine xc_iS (pc := 5) (As := [.int _, .int _, .int _]) (rest := [.ref _]) ⟨hx, hb, hml, hown, hts⟩ (mX8_in hF _ _ _  c1) (xcwS 3 hts fdX8_in q_m_X8_59 ⟨Nat.le_of_ble_eq_true rfl, Nat.le_of_ble_eq_true rfl⟩) hR hK hE hS rfl hl.1 rfl (Nat.le_of_ble_eq_true rfl) dX8_account_5 ⟨Nat.zero_le _, Nat.zero_le _⟩ (fun H locs hR hS => ?_)
  refine lv_if_eq (pc := 8) (tgt := 15) hx hb dX8_account_8 (by decide) (fun c2 => ?_) (fun c2 => ?_)
  · have h := xpos c2 h
    refine lv_iconst (pc := 15) hx hb dX8_account_15 kc_1 ?_
    obtain ⟨r3, m3, c3, h⟩ := xb_inv h
    refine xc_iV (pc := 16) (As := [.int _]) (rest := []) ⟨hx, hb, hml, hown, hts⟩ (mX8_fails hF _ _ k0 c3) (xcwV 1 hts fdX8_fails q_m_X8_67 ⟨Nat.le_of_ble_eq_true rfl, Nat.le_of_ble_eq_true rfl⟩) (xRecv hK hR (ci := 12) rfl k0.1) hR hK hE hS rfl hl.1 rfl (Nat.le_of_ble_eq_true rfl) dX8_account_16 ⟨Nat.zero_le _, Nat.zero_le _⟩ (fun H locs hR hS => ?_)
    refine lv_if_eq (pc := 19) (tgt := 24) hx hb dX8_account_19 (by decide) (fun c4 => ?_) (fun c4 => ?_)
    · have h := xpos c4 h
      refine lv_iload_n (pc := 24) hx hb dX8_account_24 rfl (lv_at hl 1 rfl) ?_
      by_cases c5 : p1 = (0 : Int32)
      · have h := xpos c5 h
        refine lv_tableIn (pc := 25) (tgt := 100) hx hb dX8_account_25 (by rw [c5]; decide) (by rw [c5]; decide) (by rw [c5]; rfl) (by decide) ?_
        refine lv_aload_n (pc := 100) hx hb dX8_account_100 rfl (lv_at hl 0 rfl) ?_
        refine xr_getR (pc := 101) (ci := 12) hx hb hts inX8 hown hK hR rfl k0.1 0 (Nat.le_of_ble_eq_true rfl) rfl k0.2.1.1 (hts _ q_f_X8_7) (fun _ h9 => h9) dX8_account_101 ?_
        refine lv_iconst (pc := 104) hx hb dX8_account_104 kc_0 ?_
        refine xr_ialdk (pc := 105) 0 hx hb hK hR k0.2.1.2.1 k0.2.1.2.2 tn_0 (vl_0 (by decide)) dX8_account_105 ?_
        exact xf_i (pc := 106) hx hb hr rfl hlocks h hR hK hS dX8_account_106
      have h := xneg c5 h
      by_cases c6 : p1 = (1 : Int32)
      · have h := xpos c6 h
        refine lv_tableIn (pc := 25) (tgt := 107) hx hb dX8_account_25 (by rw [c6]; decide) (by rw [c6]; decide) (by rw [c6]; rfl) (by decide) ?_
        refine lv_aload_n (pc := 107) hx hb dX8_account_107 rfl (lv_at hl 0 rfl) ?_
        refine xr_getR (pc := 108) (ci := 12) hx hb hts inX8 hown hK hR rfl k0.1 0 (Nat.le_of_ble_eq_true rfl) rfl k0.2.1.1 (hts _ q_f_X8_7) (fun _ h9 => h9) dX8_account_108 ?_
        refine lv_iconst (pc := 111) hx hb dX8_account_111 kc_1 ?_
        refine xr_ialdk (pc := 112) 1 hx hb hK hR k0.2.1.2.1 k0.2.1.2.2 tn_1 (vl_1 (by decide)) dX8_account_112 ?_
        exact xf_i (pc := 113) hx hb hr rfl hlocks h hR hK hS dX8_account_113
      have h := xneg c6 h
      by_cases c7 : p1 = (2 : Int32)
      · have h := xpos c7 h
        refine lv_tableIn (pc := 25) (tgt := 114) hx hb dX8_account_25 (by rw [c7]; decide) (by rw [c7]; decide) (by rw [c7]; rfl) (by decide) ?_
        refine lv_aload_n (pc := 114) hx hb dX8_account_114 rfl (lv_at hl 0 rfl) ?_
        refine lv_iload_n (pc := 115) hx hb dX8_account_115 rfl (lv_at hl 1 rfl) ?_
        refine lv_iconst (pc := 116) hx hb dX8_account_116 kc_2 ?_
        refine lv_isub (pc := 117) hx hb dX8_account_117 ?_
        obtain ⟨r8, m8, c8, h⟩ := xb_inv h
        refine xc_iV (pc := 118) (As := [.int _]) (rest := []) ⟨hx, hb, hml, hown, hts⟩ (mX8_many hF _ _ k0 c8) (xcwV 1 hts fdX8_many q_m_X8_190 ⟨Nat.le_of_ble_eq_true rfl, Nat.le_of_ble_eq_true rfl⟩) (xRecv hK hR (ci := 12) rfl k0.1) hR hK hE hS rfl hl.1 rfl (Nat.le_of_ble_eq_true rfl) dX8_account_118 ⟨Nat.zero_le _, Nat.zero_le _⟩ (fun H locs hR hS => ?_)
        exact xf_i (pc := 121) hx hb hr rfl hlocks h hR hK hS dX8_account_121
      have h := xneg c7 h
      by_cases c9 : p1 = (3 : Int32)
      · have h := xpos c9 h
        refine lv_tableIn (pc := 25) (tgt := 114) hx hb dX8_account_25 (by rw [c9]; decide) (by rw [c9]; decide) (by rw [c9]; rfl) (by decide) ?_
        refine lv_aload_n (pc := 114) hx hb dX8_account_114 rfl (lv_at hl 0 rfl) ?_
        refine lv_iload_n (pc := 115) hx hb dX8_account_115 rfl (lv_at hl 1 rfl) ?_
        refine lv_iconst (pc := 116) hx hb dX8_account_116 kc_2 ?_
        refine lv_isub (pc := 117) hx hb dX8_account_117 ?_
        obtain ⟨r10, m10, c10, h⟩ := xb_inv h
        refine xc_iV (pc := 118) (As := [.int _]) (rest := []) ⟨hx, hb, hml, hown, hts⟩ (mX8_many hF _ _ k0 c10) (xcwV 1 hts fdX8_many q_m_X8_190 ⟨Nat.le_of_ble_eq_true rfl, Nat.le_of_ble_eq_true rfl⟩) (xRecv hK hR (ci := 12) rfl k0.1) hR hK hE hS rfl hl.1 rfl (Nat.le_of_ble_eq_true rfl) dX8_account_118 ⟨Nat.zero_le _, Nat.zero_le _⟩ (fun H locs hR hS => ?_)
        exact xf_i (pc := 121) hx hb hr rfl hlocks h hR hK hS dX8_account_121
      have h := xneg c9 h
      by_cases c11 : p1 = (4 : Int32)
      · have h := xpos c11 h
        refine lv_tableIn (pc := 25) (tgt := 114) hx hb dX8_account_25 (by rw [c11]; decide) (by rw [c11]; decide) (by rw [c11]; rfl) (by decide) ?_
        refine lv_aload_n (pc := 114) hx hb dX8_account_114 rfl (lv_at hl 0 rfl) ?_
        refine lv_iload_n (pc := 115) hx hb dX8_account_115 rfl (lv_at hl 1 rfl) ?_
        refine lv_iconst (pc := 116) hx hb dX8_account_116 kc_2 ?_
        refine lv_isub (pc := 117) hx hb dX8_account_117 ?_
        obtain ⟨r12, m12, c12, h⟩ := xb_inv h
        refine xc_iV (pc := 118) (As := [.int _]) (rest := []) ⟨hx, hb, hml, hown, hts⟩ (mX8_many hF _ _ k0 c12) (xcwV 1 hts fdX8_many q_m_X8_190 ⟨Nat.le_of_ble_eq_true rfl, Nat.le_of_ble_eq_true rfl⟩) (xRecv hK hR (ci := 12) rfl k0.1) hR hK hE hS rfl hl.1 rfl (Nat.le_of_ble_eq_true rfl) dX8_account_118 ⟨Nat.zero_le _, Nat.zero_le _⟩ (fun H locs hR hS => ?_)
        exact xf_i (pc := 121) hx hb hr rfl hlocks h hR hK hS dX8_account_121
      have h := xneg c11 h
      by_cases c13 : p1 = (5 : Int32)
      · have h := xpos c13 h
        refine lv_tableIn (pc := 25) (tgt := 114) hx hb dX8_account_25 (by rw [c13]; decide) (by rw [c13]; decide) (by rw [c13]; rfl) (by decide) ?_
        refine lv_aload_n (pc := 114) hx hb dX8_account_114 rfl (lv_at hl 0 rfl) ?_
        refine lv_iload_n (pc := 115) hx hb dX8_account_115 rfl (lv_at hl 1 rfl) ?_
        refine lv_iconst (pc := 116) hx hb dX8_account_116 kc_2 ?_
        refine lv_isub (pc := 117) hx hb dX8_account_117 ?_
        obtain ⟨r14, m14, c14, h⟩ := xb_inv h
        refine xc_iV (pc := 118) (As := [.int _]) (rest := []) ⟨hx, hb, hml, hown, hts⟩ (mX8_many hF _ _ k0 c14) (xcwV 1 hts fdX8_many q_m_X8_190 ⟨Nat.le_of_ble_eq_true rfl, Nat.le_of_ble_eq_true rfl⟩) (xRecv hK hR (ci := 12) rfl k0.1) hR hK hE hS rfl hl.1 rfl (Nat.le_of_ble_eq_true rfl) dX8_account_118 ⟨Nat.zero_le _, Nat.zero_le _⟩ (fun H locs hR hS => ?_)
        exact xf_i (pc := 121) hx hb hr rfl hlocks h hR hK hS dX8_account_121
      have h := xneg c13 h
      by_cases c15 : p1 = (6 : Int32)
      · have h := xpos c15 h
        refine lv_tableIn (pc := 25) (tgt := 122) hx hb dX8_account_25 (by rw [c15]; decide) (by rw [c15]; decide) (by rw [c15]; rfl) (by decide) ?_
        refine lv_aload_n (pc := 122) hx hb dX8_account_122 rfl (lv_at hl 0 rfl) ?_
        refine xr_getR (pc := 123) (ci := 12) hx hb hts inX8 hown hK hR rfl k0.1 0 (Nat.le_of_ble_eq_true rfl) rfl k0.2.1.1 (hts _ q_f_X8_7) (fun _ h9 => h9) dX8_account_123 ?_
        refine lv_iconst (pc := 126) hx hb dX8_account_126 kc_5 ?_
        refine xr_ialdk (pc := 127) 5 hx hb hK hR k0.2.1.2.1 k0.2.1.2.2 tn_5 (vl_5 (by decide)) dX8_account_127 ?_
        exact xf_i (pc := 128) hx hb hr rfl hlocks h hR hK hS dX8_account_128
      have h := xneg c15 h
      by_cases c16 : p1 = (7 : Int32)
      · have h := xpos c16 h
        refine lv_tableIn (pc := 25) (tgt := 129) hx hb dX8_account_25 (by rw [c16]; decide) (by rw [c16]; decide) (by rw [c16]; rfl) (by decide) ?_
        refine lv_aload_n (pc := 129) hx hb dX8_account_129 rfl (lv_at hl 0 rfl) ?_
        refine xr_getR (pc := 130) (ci := 12) hx hb hts inX8 hown hK hR rfl k0.1 0 (Nat.le_of_ble_eq_true rfl) rfl k0.2.1.1 (hts _ q_f_X8_7) (fun _ h9 => h9) dX8_account_130 ?_
        refine lv_bipush (pc := 133) hx hb dX8_account_133 kb_6 ?_
        refine xr_ialdk (pc := 135) 6 hx hb hK hR k0.2.1.2.1 k0.2.1.2.2 tn_6 (vl_6 (by decide)) dX8_account_135 ?_
        exact xf_i (pc := 136) hx hb hr rfl hlocks h hR hK hS dX8_account_136
      have h := xneg c16 h
      by_cases c17 : p1 = (8 : Int32)
      · have h := xpos c17 h
        refine lv_tableIn (pc := 25) (tgt := 137) hx hb dX8_account_25 (by rw [c17]; decide) (by rw [c17]; decide) (by rw [c17]; rfl) (by decide) ?_
        refine lv_aload_n (pc := 137) hx hb dX8_account_137 rfl (lv_at hl 0 rfl) ?_
        refine xr_getR (pc := 138) (ci := 12) hx hb hts inX8 hown hK hR rfl k0.1 0 (Nat.le_of_ble_eq_true rfl) rfl k0.2.1.1 (hts _ q_f_X8_7) (fun _ h9 => h9) dX8_account_138 ?_
        refine lv_bipush (pc := 141) hx hb dX8_account_141 kb_7 ?_
        refine xr_ialdk (pc := 143) 7 hx hb hK hR k0.2.1.2.1 k0.2.1.2.2 tn_7 (vl_7 (by decide)) dX8_account_143 ?_
        exact xf_i (pc := 144) hx hb hr rfl hlocks h hR hK hS dX8_account_144
      have h := xneg c17 h
      by_cases c18 : p1 = (9 : Int32)
      · have h := xpos c18 h
        refine lv_tableIn (pc := 25) (tgt := 145) hx hb dX8_account_25 (by rw [c18]; decide) (by rw [c18]; decide) (by rw [c18]; rfl) (by decide) ?_
        refine lv_aload_n (pc := 145) hx hb dX8_account_145 rfl (lv_at hl 0 rfl) ?_
        refine xr_getR (pc := 146) (ci := 12) hx hb hts inX8 hown hK hR rfl k0.1 0 (Nat.le_of_ble_eq_true rfl) rfl k0.2.1.1 (hts _ q_f_X8_7) (fun _ h9 => h9) dX8_account_146 ?_
        refine lv_bipush (pc := 149) hx hb dX8_account_149 kb_8 ?_
        refine xr_ialdk (pc := 151) 8 hx hb hK hR k0.2.1.2.1 k0.2.1.2.2 tn_8 (vl_8 (by decide)) dX8_account_151 ?_
        exact xf_i (pc := 152) hx hb hr rfl hlocks h hR hK hS dX8_account_152
      have h := xneg c18 h
      by_cases c19 : p1 = (10 : Int32)
      · have h := xpos c19 h
        refine lv_tableIn (pc := 25) (tgt := 153) hx hb dX8_account_25 (by rw [c19]; decide) (by rw [c19]; decide) (by rw [c19]; rfl) (by decide) ?_
        refine lv_aload_n (pc := 153) hx hb dX8_account_153 rfl (lv_at hl 0 rfl) ?_
        obtain ⟨r20, m20, c20, h⟩ := xb_inv h
        refine xc_iV (pc := 154) (As := []) (rest := []) ⟨hx, hb, hml, hown, hts⟩ (mX8_leftAll hF _ k0 c20) (xcwV 0 hts fdX8_leftAll q_m_X8_193 ⟨Nat.le_of_ble_eq_true rfl, Nat.le_of_ble_eq_true rfl⟩) (xRecv hK hR (ci := 12) rfl k0.1) hR hK hE hS rfl hl.1 rfl (Nat.le_of_ble_eq_true rfl) dX8_account_154 ⟨Nat.zero_le _, Nat.zero_le _⟩ (fun H locs hR hS => ?_)
        exact xf_i (pc := 157) hx hb hr rfl hlocks h hR hK hS dX8_account_157
      have h := xneg c19 h
      by_cases c21 : p1 = (11 : Int32)
      · have h := xpos c21 h
        refine lv_tableIn (pc := 25) (tgt := 158) hx hb dX8_account_25 (by rw [c21]; decide) (by rw [c21]; decide) (by rw [c21]; rfl) (by decide) ?_
        refine lv_aload_n (pc := 158) hx hb dX8_account_158 rfl (lv_at hl 0 rfl) ?_
        refine xr_getR (pc := 159) (ci := 12) hx hb hts inX8 hown hK hR rfl k0.1 0 (Nat.le_of_ble_eq_true rfl) rfl k0.2.1.1 (hts _ q_f_X8_7) (fun _ h9 => h9) dX8_account_159 ?_
        refine lv_bipush (pc := 162) hx hb dX8_account_162 kb_9 ?_
        refine xr_ialdk (pc := 164) 9 hx hb hK hR k0.2.1.2.1 k0.2.1.2.2 tn_9 (vl_9 (by decide)) dX8_account_164 ?_
        exact xf_i (pc := 165) hx hb hr rfl hlocks h hR hK hS dX8_account_165
      have h := xneg c21 h
      by_cases c22 : p1 = (12 : Int32)
      · have h := xpos c22 h
        refine lv_tableIn (pc := 25) (tgt := 166) hx hb dX8_account_25 (by rw [c22]; decide) (by rw [c22]; decide) (by rw [c22]; rfl) (by decide) ?_
        refine lv_aload_n (pc := 166) hx hb dX8_account_166 rfl (lv_at hl 0 rfl) ?_
        refine xr_getR (pc := 167) (ci := 12) hx hb hts inX8 hown hK hR rfl k0.1 0 (Nat.le_of_ble_eq_true rfl) rfl k0.2.1.1 (hts _ q_f_X8_7) (fun _ h9 => h9) dX8_account_167 ?_
        refine lv_iconst (pc := 170) hx hb dX8_account_170 kc_2 ?_
        refine xr_ialdk (pc := 171) 2 hx hb hK hR k0.2.1.2.1 k0.2.1.2.2 tn_2 (vl_2 (by decide)) dX8_account_171 ?_
        exact xf_i (pc := 172) hx hb hr rfl hlocks h hR hK hS dX8_account_172
      have h := xneg c22 h
      by_cases c23 : p1 = (13 : Int32)
      · have h := xpos c23 h
        refine lv_tableIn (pc := 25) (tgt := 173) hx hb dX8_account_25 (by rw [c23]; decide) (by rw [c23]; decide) (by rw [c23]; rfl) (by decide) ?_
        refine lv_aload_n (pc := 173) hx hb dX8_account_173 rfl (lv_at hl 0 rfl) ?_
        refine xr_getR (pc := 174) (ci := 12) hx hb hts inX8 hown hK hR rfl k0.1 0 (Nat.le_of_ble_eq_true rfl) rfl k0.2.1.1 (hts _ q_f_X8_7) (fun _ h9 => h9) dX8_account_174 ?_
        refine lv_iconst (pc := 177) hx hb dX8_account_177 kc_3 ?_
        refine xr_ialdk (pc := 178) 3 hx hb hK hR k0.2.1.2.1 k0.2.1.2.2 tn_3 (vl_3 (by decide)) dX8_account_178 ?_
        exact xf_i (pc := 179) hx hb hr rfl hlocks h hR hK hS dX8_account_179
      have h := xneg c23 h
      by_cases c24 : p1 = (14 : Int32)
      · have h := xpos c24 h
        refine lv_tableIn (pc := 25) (tgt := 180) hx hb dX8_account_25 (by rw [c24]; decide) (by rw [c24]; decide) (by rw [c24]; rfl) (by decide) ?_
        refine lv_aload_n (pc := 180) hx hb dX8_account_180 rfl (lv_at hl 0 rfl) ?_
        refine xr_getI (pc := 181) (ci := 12) hx hb hts inX8 hown hK hR rfl k0.1 13 (Nat.le_of_ble_eq_true rfl) rfl (hts _ q_f_X8_135) (fun _ h9 => h9) dX8_account_181 ?_
        exact xf_i (pc := 184) hx hb hr rfl hlocks h hR hK hS dX8_account_184
      have h := xneg c24 h
      refine lv_tableOut (pc := 25) (tgt := 185) hx hb dX8_account_25 (by have z5 := xnek ti_0 c5; have z6 := xnek ti_1 c6; have z7 := xnek ti_2 c7; have z9 := xnek ti_3 c9; have z11 := xnek ti_4 c11; have z13 := xnek ti_5 c13; have z15 := xnek ti_6 c15; have z16 := xnek ti_7 c16; have z17 := xnek ti_8 c17; have z18 := xnek ti_9 c18; have z19 := xnek ti_10 c19; have z21 := xnek ti_11 c21; have z22 := xnek ti_12 c22; have z23 := xnek ti_13 c23; have z24 := xnek ti_14 c24; omega) (by decide) ?_
      refine lv_aload_n (pc := 185) hx hb dX8_account_185 rfl (lv_at hl 0 rfl) ?_
      refine xr_getI (pc := 186) (ci := 12) hx hb hts inX8 hown hK hR rfl k0.1 5 (Nat.le_of_ble_eq_true rfl) rfl (hts _ q_f_X8_52) (fun _ h9 => h9) dX8_account_186 ?_
      exact xf_i (pc := 189) hx hb hr rfl hlocks h hR hK hS dX8_account_189
    · have h := xneg c4 h
      refine lv_iconst (pc := 22) hx hb dX8_account_22 kc_0 ?_
      exact xf_i (pc := 23) hx hb hr rfl hlocks h hR hK hS dX8_account_23
  · have h := xneg c2 h
    refine lv_iconst (pc := 11) hx hb dX8_account_11 kc_0 ?_
    refine lv_goto (pc := 12) (tgt := 16) hx hb dX8_account_12 (by decide) ?_
    obtain ⟨r25, m25, c25, h⟩ := xb_inv h
    refine xc_iV (pc := 16) (As := [.int _]) (rest := []) ⟨hx, hb, hml, hown, hts⟩ (mX8_fails hF _ _ k0 c25) (xcwV 1 hts fdX8_fails q_m_X8_67 ⟨Nat.le_of_ble_eq_true rfl, Nat.le_of_ble_eq_true rfl⟩) (xRecv hK hR (ci := 12) rfl k0.1) hR hK hE hS rfl hl.1 rfl (Nat.le_of_ble_eq_true rfl) dX8_account_16 ⟨Nat.zero_le _, Nat.zero_le _⟩ (fun H locs hR hS => ?_)
    refine lv_if_eq (pc := 19) (tgt := 24) hx hb dX8_account_19 (by decide) (fun c26 => ?_) (fun c26 => ?_)
    · have h := xpos c26 h
      refine lv_iload_n (pc := 24) hx hb dX8_account_24 rfl (lv_at hl 1 rfl) ?_
      by_cases c27 : p1 = (0 : Int32)
      · have h := xpos c27 h
        refine lv_tableIn (pc := 25) (tgt := 100) hx hb dX8_account_25 (by rw [c27]; decide) (by rw [c27]; decide) (by rw [c27]; rfl) (by decide) ?_
        refine lv_aload_n (pc := 100) hx hb dX8_account_100 rfl (lv_at hl 0 rfl) ?_
        refine xr_getR (pc := 101) (ci := 12) hx hb hts inX8 hown hK hR rfl k0.1 0 (Nat.le_of_ble_eq_true rfl) rfl k0.2.1.1 (hts _ q_f_X8_7) (fun _ h9 => h9) dX8_account_101 ?_
        refine lv_iconst (pc := 104) hx hb dX8_account_104 kc_0 ?_
        refine xr_ialdk (pc := 105) 0 hx hb hK hR k0.2.1.2.1 k0.2.1.2.2 tn_0 (vl_0 (by decide)) dX8_account_105 ?_
        exact xf_i (pc := 106) hx hb hr rfl hlocks h hR hK hS dX8_account_106
      have h := xneg c27 h
      by_cases c28 : p1 = (1 : Int32)
      · have h := xpos c28 h
        refine lv_tableIn (pc := 25) (tgt := 107) hx hb dX8_account_25 (by rw [c28]; decide) (by rw [c28]; decide) (by rw [c28]; rfl) (by decide) ?_
        refine lv_aload_n (pc := 107) hx hb dX8_account_107 rfl (lv_at hl 0 rfl) ?_
        refine xr_getR (pc := 108) (ci := 12) hx hb hts inX8 hown hK hR rfl k0.1 0 (Nat.le_of_ble_eq_true rfl) rfl k0.2.1.1 (hts _ q_f_X8_7) (fun _ h9 => h9) dX8_account_108 ?_
        refine lv_iconst (pc := 111) hx hb dX8_account_111 kc_1 ?_
        refine xr_ialdk (pc := 112) 1 hx hb hK hR k0.2.1.2.1 k0.2.1.2.2 tn_1 (vl_1 (by decide)) dX8_account_112 ?_
        exact xf_i (pc := 113) hx hb hr rfl hlocks h hR hK hS dX8_account_113
      have h := xneg c28 h
      by_cases c29 : p1 = (2 : Int32)
      · have h := xpos c29 h
        refine lv_tableIn (pc := 25) (tgt := 114) hx hb dX8_account_25 (by rw [c29]; decide) (by rw [c29]; decide) (by rw [c29]; rfl) (by decide) ?_
        refine lv_aload_n (pc := 114) hx hb dX8_account_114 rfl (lv_at hl 0 rfl) ?_
        refine lv_iload_n (pc := 115) hx hb dX8_account_115 rfl (lv_at hl 1 rfl) ?_
        refine lv_iconst (pc := 116) hx hb dX8_account_116 kc_2 ?_
        refine lv_isub (pc := 117) hx hb dX8_account_117 ?_
        obtain ⟨r30, m30, c30, h⟩ := xb_inv h
        refine xc_iV (pc := 118) (As := [.int _]) (rest := []) ⟨hx, hb, hml, hown, hts⟩ (mX8_many hF _ _ k0 c30) (xcwV 1 hts fdX8_many q_m_X8_190 ⟨Nat.le_of_ble_eq_true rfl, Nat.le_of_ble_eq_true rfl⟩) (xRecv hK hR (ci := 12) rfl k0.1) hR hK hE hS rfl hl.1 rfl (Nat.le_of_ble_eq_true rfl) dX8_account_118 ⟨Nat.zero_le _, Nat.zero_le _⟩ (fun H locs hR hS => ?_)
        exact xf_i (pc := 121) hx hb hr rfl hlocks h hR hK hS dX8_account_121
      have h := xneg c29 h
      by_cases c31 : p1 = (3 : Int32)
      · have h := xpos c31 h
        refine lv_tableIn (pc := 25) (tgt := 114) hx hb dX8_account_25 (by rw [c31]; decide) (by rw [c31]; decide) (by rw [c31]; rfl) (by decide) ?_
        refine lv_aload_n (pc := 114) hx hb dX8_account_114 rfl (lv_at hl 0 rfl) ?_
        refine lv_iload_n (pc := 115) hx hb dX8_account_115 rfl (lv_at hl 1 rfl) ?_
        refine lv_iconst (pc := 116) hx hb dX8_account_116 kc_2 ?_
        refine lv_isub (pc := 117) hx hb dX8_account_117 ?_
        obtain ⟨r32, m32, c32, h⟩ := xb_inv h
        refine xc_iV (pc := 118) (As := [.int _]) (rest := []) ⟨hx, hb, hml, hown, hts⟩ (mX8_many hF _ _ k0 c32) (xcwV 1 hts fdX8_many q_m_X8_190 ⟨Nat.le_of_ble_eq_true rfl, Nat.le_of_ble_eq_true rfl⟩) (xRecv hK hR (ci := 12) rfl k0.1) hR hK hE hS rfl hl.1 rfl (Nat.le_of_ble_eq_true rfl) dX8_account_118 ⟨Nat.zero_le _, Nat.zero_le _⟩ (fun H locs hR hS => ?_)
        exact xf_i (pc := 121) hx hb hr rfl hlocks h hR hK hS dX8_account_121
      have h := xneg c31 h
      by_cases c33 : p1 = (4 : Int32)
      · have h := xpos c33 h
        refine lv_tableIn (pc := 25) (tgt := 114) hx hb dX8_account_25 (by rw [c33]; decide) (by rw [c33]; decide) (by rw [c33]; rfl) (by decide) ?_
        refine lv_aload_n (pc := 114) hx hb dX8_account_114 rfl (lv_at hl 0 rfl) ?_
        refine lv_iload_n (pc := 115) hx hb dX8_account_115 rfl (lv_at hl 1 rfl) ?_
        refine lv_iconst (pc := 116) hx hb dX8_account_116 kc_2 ?_
        refine lv_isub (pc := 117) hx hb dX8_account_117 ?_
        obtain ⟨r34, m34, c34, h⟩ := xb_inv h
        refine xc_iV (pc := 118) (As := [.int _]) (rest := []) ⟨hx, hb, hml, hown, hts⟩ (mX8_many hF _ _ k0 c34) (xcwV 1 hts fdX8_many q_m_X8_190 ⟨Nat.le_of_ble_eq_true rfl, Nat.le_of_ble_eq_true rfl⟩) (xRecv hK hR (ci := 12) rfl k0.1) hR hK hE hS rfl hl.1 rfl (Nat.le_of_ble_eq_true rfl) dX8_account_118 ⟨Nat.zero_le _, Nat.zero_le _⟩ (fun H locs hR hS => ?_)
        exact xf_i (pc := 121) hx hb hr rfl hlocks h hR hK hS dX8_account_121
      have h := xneg c33 h
      by_cases c35 : p1 = (5 : Int32)
      · have h := xpos c35 h
        refine lv_tableIn (pc := 25) (tgt := 114) hx hb dX8_account_25 (by rw [c35]; decide) (by rw [c35]; decide) (by rw [c35]; rfl) (by decide) ?_
        refine lv_aload_n (pc := 114) hx hb dX8_account_114 rfl (lv_at hl 0 rfl) ?_
        refine lv_iload_n (pc := 115) hx hb dX8_account_115 rfl (lv_at hl 1 rfl) ?_
        refine lv_iconst (pc := 116) hx hb dX8_account_116 kc_2 ?_
        refine lv_isub (pc := 117) hx hb dX8_account_117 ?_
        obtain ⟨r36, m36, c36, h⟩ := xb_inv h
        refine xc_iV (pc := 118) (As := [.int _]) (rest := []) ⟨hx, hb, hml, hown, hts⟩ (mX8_many hF _ _ k0 c36) (xcwV 1 hts fdX8_many q_m_X8_190 ⟨Nat.le_of_ble_eq_true rfl, Nat.le_of_ble_eq_true rfl⟩) (xRecv hK hR (ci := 12) rfl k0.1) hR hK hE hS rfl hl.1 rfl (Nat.le_of_ble_eq_true rfl) dX8_account_118 ⟨Nat.zero_le _, Nat.zero_le _⟩ (fun H locs hR hS => ?_)
        exact xf_i (pc := 121) hx hb hr rfl hlocks h hR hK hS dX8_account_121
      have h := xneg c35 h
      by_cases c37 : p1 = (6 : Int32)
      · have h := xpos c37 h
        refine lv_tableIn (pc := 25) (tgt := 122) hx hb dX8_account_25 (by rw [c37]; decide) (by rw [c37]; decide) (by rw [c37]; rfl) (by decide) ?_
        refine lv_aload_n (pc := 122) hx hb dX8_account_122 rfl (lv_at hl 0 rfl) ?_
        refine xr_getR (pc := 123) (ci := 12) hx hb hts inX8 hown hK hR rfl k0.1 0 (Nat.le_of_ble_eq_true rfl) rfl k0.2.1.1 (hts _ q_f_X8_7) (fun _ h9 => h9) dX8_account_123 ?_
        refine lv_iconst (pc := 126) hx hb dX8_account_126 kc_5 ?_
        refine xr_ialdk (pc := 127) 5 hx hb hK hR k0.2.1.2.1 k0.2.1.2.2 tn_5 (vl_5 (by decide)) dX8_account_127 ?_
        exact xf_i (pc := 128) hx hb hr rfl hlocks h hR hK hS dX8_account_128
      have h := xneg c37 h
      by_cases c38 : p1 = (7 : Int32)
      · have h := xpos c38 h
        refine lv_tableIn (pc := 25) (tgt := 129) hx hb dX8_account_25 (by rw [c38]; decide) (by rw [c38]; decide) (by rw [c38]; rfl) (by decide) ?_
        refine lv_aload_n (pc := 129) hx hb dX8_account_129 rfl (lv_at hl 0 rfl) ?_
        refine xr_getR (pc := 130) (ci := 12) hx hb hts inX8 hown hK hR rfl k0.1 0 (Nat.le_of_ble_eq_true rfl) rfl k0.2.1.1 (hts _ q_f_X8_7) (fun _ h9 => h9) dX8_account_130 ?_
        refine lv_bipush (pc := 133) hx hb dX8_account_133 kb_6 ?_
        refine xr_ialdk (pc := 135) 6 hx hb hK hR k0.2.1.2.1 k0.2.1.2.2 tn_6 (vl_6 (by decide)) dX8_account_135 ?_
        exact xf_i (pc := 136) hx hb hr rfl hlocks h hR hK hS dX8_account_136
      have h := xneg c38 h
      by_cases c39 : p1 = (8 : Int32)
      · have h := xpos c39 h
        refine lv_tableIn (pc := 25) (tgt := 137) hx hb dX8_account_25 (by rw [c39]; decide) (by rw [c39]; decide) (by rw [c39]; rfl) (by decide) ?_
        refine lv_aload_n (pc := 137) hx hb dX8_account_137 rfl (lv_at hl 0 rfl) ?_
        refine xr_getR (pc := 138) (ci := 12) hx hb hts inX8 hown hK hR rfl k0.1 0 (Nat.le_of_ble_eq_true rfl) rfl k0.2.1.1 (hts _ q_f_X8_7) (fun _ h9 => h9) dX8_account_138 ?_
        refine lv_bipush (pc := 141) hx hb dX8_account_141 kb_7 ?_
        refine xr_ialdk (pc := 143) 7 hx hb hK hR k0.2.1.2.1 k0.2.1.2.2 tn_7 (vl_7 (by decide)) dX8_account_143 ?_
        exact xf_i (pc := 144) hx hb hr rfl hlocks h hR hK hS dX8_account_144
      have h := xneg c39 h
      by_cases c40 : p1 = (9 : Int32)
      · have h := xpos c40 h
        refine lv_tableIn (pc := 25) (tgt := 145) hx hb dX8_account_25 (by rw [c40]; decide) (by rw [c40]; decide) (by rw [c40]; rfl) (by decide) ?_
        refine lv_aload_n (pc := 145) hx hb dX8_account_145 rfl (lv_at hl 0 rfl) ?_
        refine xr_getR (pc := 146) (ci := 12) hx hb hts inX8 hown hK hR rfl k0.1 0 (Nat.le_of_ble_eq_true rfl) rfl k0.2.1.1 (hts _ q_f_X8_7) (fun _ h9 => h9) dX8_account_146 ?_
        refine lv_bipush (pc := 149) hx hb dX8_account_149 kb_8 ?_
        refine xr_ialdk (pc := 151) 8 hx hb hK hR k0.2.1.2.1 k0.2.1.2.2 tn_8 (vl_8 (by decide)) dX8_account_151 ?_
        exact xf_i (pc := 152) hx hb hr rfl hlocks h hR hK hS dX8_account_152
      have h := xneg c40 h
      by_cases c41 : p1 = (10 : Int32)
      · have h := xpos c41 h
        refine lv_tableIn (pc := 25) (tgt := 153) hx hb dX8_account_25 (by rw [c41]; decide) (by rw [c41]; decide) (by rw [c41]; rfl) (by decide) ?_
        refine lv_aload_n (pc := 153) hx hb dX8_account_153 rfl (lv_at hl 0 rfl) ?_
        obtain ⟨r42, m42, c42, h⟩ := xb_inv h
        refine xc_iV (pc := 154) (As := []) (rest := []) ⟨hx, hb, hml, hown, hts⟩ (mX8_leftAll hF _ k0 c42) (xcwV 0 hts fdX8_leftAll q_m_X8_193 ⟨Nat.le_of_ble_eq_true rfl, Nat.le_of_ble_eq_true rfl⟩) (xRecv hK hR (ci := 12) rfl k0.1) hR hK hE hS rfl hl.1 rfl (Nat.le_of_ble_eq_true rfl) dX8_account_154 ⟨Nat.zero_le _, Nat.zero_le _⟩ (fun H locs hR hS => ?_)
        exact xf_i (pc := 157) hx hb hr rfl hlocks h hR hK hS dX8_account_157
      have h := xneg c41 h
      by_cases c43 : p1 = (11 : Int32)
      · have h := xpos c43 h
        refine lv_tableIn (pc := 25) (tgt := 158) hx hb dX8_account_25 (by rw [c43]; decide) (by rw [c43]; decide) (by rw [c43]; rfl) (by decide) ?_
        refine lv_aload_n (pc := 158) hx hb dX8_account_158 rfl (lv_at hl 0 rfl) ?_
        refine xr_getR (pc := 159) (ci := 12) hx hb hts inX8 hown hK hR rfl k0.1 0 (Nat.le_of_ble_eq_true rfl) rfl k0.2.1.1 (hts _ q_f_X8_7) (fun _ h9 => h9) dX8_account_159 ?_
        refine lv_bipush (pc := 162) hx hb dX8_account_162 kb_9 ?_
        refine xr_ialdk (pc := 164) 9 hx hb hK hR k0.2.1.2.1 k0.2.1.2.2 tn_9 (vl_9 (by decide)) dX8_account_164 ?_
        exact xf_i (pc := 165) hx hb hr rfl hlocks h hR hK hS dX8_account_165
      have h := xneg c43 h
      by_cases c44 : p1 = (12 : Int32)
      · have h := xpos c44 h
        refine lv_tableIn (pc := 25) (tgt := 166) hx hb dX8_account_25 (by rw [c44]; decide) (by rw [c44]; decide) (by rw [c44]; rfl) (by decide) ?_
        refine lv_aload_n (pc := 166) hx hb dX8_account_166 rfl (lv_at hl 0 rfl) ?_
        refine xr_getR (pc := 167) (ci := 12) hx hb hts inX8 hown hK hR rfl k0.1 0 (Nat.le_of_ble_eq_true rfl) rfl k0.2.1.1 (hts _ q_f_X8_7) (fun _ h9 => h9) dX8_account_167 ?_
        refine lv_iconst (pc := 170) hx hb dX8_account_170 kc_2 ?_
        refine xr_ialdk (pc := 171) 2 hx hb hK hR k0.2.1.2.1 k0.2.1.2.2 tn_2 (vl_2 (by decide)) dX8_account_171 ?_
        exact xf_i (pc := 172) hx hb hr rfl hlocks h hR hK hS dX8_account_172
      have h := xneg c44 h
      by_cases c45 : p1 = (13 : Int32)
      · have h := xpos c45 h
        refine lv_tableIn (pc := 25) (tgt := 173) hx hb dX8_account_25 (by rw [c45]; decide) (by rw [c45]; decide) (by rw [c45]; rfl) (by decide) ?_
        refine lv_aload_n (pc := 173) hx hb dX8_account_173 rfl (lv_at hl 0 rfl) ?_
        refine xr_getR (pc := 174) (ci := 12) hx hb hts inX8 hown hK hR rfl k0.1 0 (Nat.le_of_ble_eq_true rfl) rfl k0.2.1.1 (hts _ q_f_X8_7) (fun _ h9 => h9) dX8_account_174 ?_
        refine lv_iconst (pc := 177) hx hb dX8_account_177 kc_3 ?_
        refine xr_ialdk (pc := 178) 3 hx hb hK hR k0.2.1.2.1 k0.2.1.2.2 tn_3 (vl_3 (by decide)) dX8_account_178 ?_
        exact xf_i (pc := 179) hx hb hr rfl hlocks h hR hK hS dX8_account_179
      have h := xneg c45 h
      by_cases c46 : p1 = (14 : Int32)
      · have h := xpos c46 h
        refine lv_tableIn (pc := 25) (tgt := 180) hx hb dX8_account_25 (by rw [c46]; decide) (by rw [c46]; decide) (by rw [c46]; rfl) (by decide) ?_
        refine lv_aload_n (pc := 180) hx hb dX8_account_180 rfl (lv_at hl 0 rfl) ?_
        refine xr_getI (pc := 181) (ci := 12) hx hb hts inX8 hown hK hR rfl k0.1 13 (Nat.le_of_ble_eq_true rfl) rfl (hts _ q_f_X8_135) (fun _ h9 => h9) dX8_account_181 ?_
        exact xf_i (pc := 184) hx hb hr rfl hlocks h hR hK hS dX8_account_184
      have h := xneg c46 h
      refine lv_tableOut (pc := 25) (tgt := 185) hx hb dX8_account_25 (by have z27 := xnek ti_0 c27; have z28 := xnek ti_1 c28; have z29 := xnek ti_2 c29; have z31 := xnek ti_3 c31; have z33 := xnek ti_4 c33; have z35 := xnek ti_5 c35; have z37 := xnek ti_6 c37; have z38 := xnek ti_7 c38; have z39 := xnek ti_8 c39; have z40 := xnek ti_9 c40; have z41 := xnek ti_10 c41; have z43 := xnek ti_11 c43; have z44 := xnek ti_12 c44; have z45 := xnek ti_13 c45; have z46 := xnek ti_14 c46; omega) (by decide) ?_
      refine lv_aload_n (pc := 185) hx hb dX8_account_185 rfl (lv_at hl 0 rfl) ?_
      refine xr_getI (pc := 186) (ci := 12) hx hb hts inX8 hown hK hR rfl k0.1 5 (Nat.le_of_ble_eq_true rfl) rfl (hts _ q_f_X8_52) (fun _ h9 => h9) dX8_account_186 ?_
      exact xf_i (pc := 189) hx hb hr rfl hlocks h hR hK hS dX8_account_189
    · have h := xneg c26 h
      refine lv_iconst (pc := 22) hx hb dX8_account_22 kc_0 ?_
      exact xf_i (pc := 23) hx hb hr rfl hlocks h hR hK hS dX8_account_23
set_option maxHeartbeats 1000000 in
set_option maxRecDepth 20000 in
theorem mX8_undo {l : Launch} {D : va_G} {ca : Nat → ClassId} {z : Nat} {G : xG} {X : va_W} {ad av : Nat → Nat} (hF : xFix z G X) (h0 : Nat) (k0 : xI_Model G h0) {μ μ1 : xM} {r : Int32} (h : fX8_undo h0 μ = some (r, μ1)) : xMi l yX8_undo (xws yX8_undo cX8_undo 1 (some .int)) 1 D ca z G X ad av [.ref h0] μ r μ1 := by
  refine xm_i (by decide) rfl (Nat.le_of_ble_eq_true rfl) [(0, .ref h0)] rfl ?_
  intro p e s m args below meth c ls hx hb hr hml hlocks hts hown hK hE hR hS hl
  have hts : ∀ w ∈ xAll, w.before args s = true := fun w hw => hts w (List.mem_cons_of_mem _ hw)
  rw [fX8_undo] at h
  refine lv_aload_n (pc := 0) hx hb dX8_undo_0 rfl (lv_at hl 0 rfl) ?_
  refine lv_aload_n (pc := 1) hx hb dX8_undo_1 rfl (lv_at hl 0 rfl) ?_
  refine xr_getI (pc := 2) (ci := 12) hx hb hts inX8 hown hK hR rfl k0.1 5 (Nat.le_of_ble_eq_true rfl) rfl (hts _ q_f_X8_52) (fun _ h9 => h9) dX8_undo_2 ?_
  refine lv_if_ne (pc := 5) (tgt := 12) hx hb dX8_undo_5 (by decide) (fun c1 => ?_) (fun c1 => ?_)
  · have h := xneg c1 h
    refine lv_iconst (pc := 12) hx hb dX8_undo_12 kc_0 ?_
    obtain ⟨r2, m2, c2, h⟩ := xb_inv h
    refine xc_iV (pc := 13) (As := [.int _]) (rest := []) ⟨hx, hb, hml, hown, hts⟩ (mX8_fails hF _ _ k0 c2) (xcwV 1 hts fdX8_fails q_m_X8_67 ⟨Nat.le_of_ble_eq_true rfl, Nat.le_of_ble_eq_true rfl⟩) (xRecv hK hR (ci := 12) rfl k0.1) hR hK hE hS rfl hl.1 rfl (Nat.le_of_ble_eq_true rfl) dX8_undo_13 ⟨Nat.zero_le _, Nat.zero_le _⟩ (fun H locs hR hS => ?_)
    refine lv_if_eq (pc := 16) (tgt := 21) hx hb dX8_undo_16 (by decide) (fun c3 => ?_) (fun c3 => ?_)
    · have h := xpos c3 h
      refine lv_aload_n (pc := 21) hx hb dX8_undo_21 rfl (lv_at hl 0 rfl) ?_
      refine lv_dup (pc := 22) hx hb dX8_undo_22 rfl ?_
      refine xr_getI (pc := 23) (ci := 12) hx hb hts inX8 hown hK hR rfl k0.1 5 (Nat.le_of_ble_eq_true rfl) rfl (hts _ q_f_X8_52) (fun _ h9 => h9) dX8_undo_23 ?_
      refine lv_iconst (pc := 26) hx hb dX8_undo_26 kc_1 ?_
      refine lv_isub (pc := 27) hx hb dX8_undo_27 ?_
      refine xr_putI (pc := 28) (ci := 12) (ty := .int) hx hb hts inX8 tyX8 tyX8_ok nmX8 hown hK hR hF hS rfl k0.1 5 (Nat.le_of_ble_eq_true rfl) rfl (hts _ q_f_X8_52) (fun _ h9 => h9) rfl rfl rfl rfl dX8_undo_28 (fun H locs hR hS => ?_)
      refine lv_aload_n (pc := 31) hx hb dX8_undo_31 rfl (lv_at hl 0 rfl) ?_
      refine xr_getR (pc := 32) (ci := 12) hx hb hts inX8 hown hK hR rfl k0.1 1 (Nat.le_of_ble_eq_true rfl) rfl k0.2.2.1.1 (hts _ q_f_X8_13) (fun _ h9 => h9) dX8_undo_32 ?_
      refine lv_sipush (pc := 35) hx hb dX8_undo_35 ks_199 ?_
      refine lv_aload_n (pc := 38) hx hb dX8_undo_38 rfl (lv_at hl 0 rfl) ?_
      refine xr_getI (pc := 39) (ci := 12) hx hb hts inX8 hown hK hR rfl k0.1 5 (Nat.le_of_ble_eq_true rfl) rfl (hts _ q_f_X8_52) (fun _ h9 => h9) dX8_undo_39 ?_
      refine lv_imul (pc := 42) hx hb dX8_undo_42 ?_
      refine lv_aload_n (pc := 43) hx hb dX8_undo_43 rfl (lv_at hl 0 rfl) ?_
      refine xr_getR (pc := 44) (ci := 12) hx hb hts inX8 hown hK hR rfl k0.1 0 (Nat.le_of_ble_eq_true rfl) rfl k0.2.1.1 (hts _ q_f_X8_7) (fun _ h9 => h9) dX8_undo_44 ?_
      refine lv_iconst (pc := 47) hx hb dX8_undo_47 kc_0 ?_
      obtain ⟨m4, c4, h⟩ := xbv_inv h
      refine xc_vS (pc := 48) (As := [.ref _, .int _, .ref _, .int _]) (rest := []) ⟨hx, hb, hml, hown, hts⟩ (mX8_copies hF _ _ _ _ _ _ k0.2.2.1.2 k0.2.1.2 c4) (xcwS 4 hts fdX8_copies q_m_X8_55 ⟨Nat.le_of_ble_eq_true rfl, Nat.le_of_ble_eq_true rfl⟩) hR hK hE hS rfl hl.1 rfl (Nat.le_of_ble_eq_true rfl) dX8_undo_48 ⟨Nat.zero_le _, Nat.zero_le _⟩ (fun H locs hR hS => ?_)
      refine lv_aload_n (pc := 51) hx hb dX8_undo_51 rfl (lv_at hl 0 rfl) ?_
      refine xr_getI (pc := 52) (ci := 12) hx hb hts inX8 hown hK hR rfl k0.1 5 (Nat.le_of_ble_eq_true rfl) rfl (hts _ q_f_X8_52) (fun _ h9 => h9) dX8_undo_52 ?_
      exact xf_i (pc := 55) hx hb hr rfl hlocks h hR hK hS dX8_undo_55
    · have h := xneg c3 h
      refine lv_iconst (pc := 19) hx hb dX8_undo_19 kc_0 ?_
      exact xf_i (pc := 20) hx hb hr rfl hlocks h hR hK hS dX8_undo_20
  · have h := xpos c1 h
    refine lv_iconst (pc := 8) hx hb dX8_undo_8 kc_1 ?_
    refine lv_goto (pc := 9) (tgt := 13) hx hb dX8_undo_9 (by decide) ?_
    obtain ⟨r5, m5, c5, h⟩ := xb_inv h
    refine xc_iV (pc := 13) (As := [.int _]) (rest := []) ⟨hx, hb, hml, hown, hts⟩ (mX8_fails hF _ _ k0 c5) (xcwV 1 hts fdX8_fails q_m_X8_67 ⟨Nat.le_of_ble_eq_true rfl, Nat.le_of_ble_eq_true rfl⟩) (xRecv hK hR (ci := 12) rfl k0.1) hR hK hE hS rfl hl.1 rfl (Nat.le_of_ble_eq_true rfl) dX8_undo_13 ⟨Nat.zero_le _, Nat.zero_le _⟩ (fun H locs hR hS => ?_)
    refine lv_if_eq (pc := 16) (tgt := 21) hx hb dX8_undo_16 (by decide) (fun c6 => ?_) (fun c6 => ?_)
    · have h := xpos c6 h
      refine lv_aload_n (pc := 21) hx hb dX8_undo_21 rfl (lv_at hl 0 rfl) ?_
      refine lv_dup (pc := 22) hx hb dX8_undo_22 rfl ?_
      refine xr_getI (pc := 23) (ci := 12) hx hb hts inX8 hown hK hR rfl k0.1 5 (Nat.le_of_ble_eq_true rfl) rfl (hts _ q_f_X8_52) (fun _ h9 => h9) dX8_undo_23 ?_
      refine lv_iconst (pc := 26) hx hb dX8_undo_26 kc_1 ?_
      refine lv_isub (pc := 27) hx hb dX8_undo_27 ?_
      refine xr_putI (pc := 28) (ci := 12) (ty := .int) hx hb hts inX8 tyX8 tyX8_ok nmX8 hown hK hR hF hS rfl k0.1 5 (Nat.le_of_ble_eq_true rfl) rfl (hts _ q_f_X8_52) (fun _ h9 => h9) rfl rfl rfl rfl dX8_undo_28 (fun H locs hR hS => ?_)
      refine lv_aload_n (pc := 31) hx hb dX8_undo_31 rfl (lv_at hl 0 rfl) ?_
      refine xr_getR (pc := 32) (ci := 12) hx hb hts inX8 hown hK hR rfl k0.1 1 (Nat.le_of_ble_eq_true rfl) rfl k0.2.2.1.1 (hts _ q_f_X8_13) (fun _ h9 => h9) dX8_undo_32 ?_
      refine lv_sipush (pc := 35) hx hb dX8_undo_35 ks_199 ?_
      refine lv_aload_n (pc := 38) hx hb dX8_undo_38 rfl (lv_at hl 0 rfl) ?_
      refine xr_getI (pc := 39) (ci := 12) hx hb hts inX8 hown hK hR rfl k0.1 5 (Nat.le_of_ble_eq_true rfl) rfl (hts _ q_f_X8_52) (fun _ h9 => h9) dX8_undo_39 ?_
      refine lv_imul (pc := 42) hx hb dX8_undo_42 ?_
      refine lv_aload_n (pc := 43) hx hb dX8_undo_43 rfl (lv_at hl 0 rfl) ?_
      refine xr_getR (pc := 44) (ci := 12) hx hb hts inX8 hown hK hR rfl k0.1 0 (Nat.le_of_ble_eq_true rfl) rfl k0.2.1.1 (hts _ q_f_X8_7) (fun _ h9 => h9) dX8_undo_44 ?_
      refine lv_iconst (pc := 47) hx hb dX8_undo_47 kc_0 ?_
      obtain ⟨m7, c7, h⟩ := xbv_inv h
      refine xc_vS (pc := 48) (As := [.ref _, .int _, .ref _, .int _]) (rest := []) ⟨hx, hb, hml, hown, hts⟩ (mX8_copies hF _ _ _ _ _ _ k0.2.2.1.2 k0.2.1.2 c7) (xcwS 4 hts fdX8_copies q_m_X8_55 ⟨Nat.le_of_ble_eq_true rfl, Nat.le_of_ble_eq_true rfl⟩) hR hK hE hS rfl hl.1 rfl (Nat.le_of_ble_eq_true rfl) dX8_undo_48 ⟨Nat.zero_le _, Nat.zero_le _⟩ (fun H locs hR hS => ?_)
      refine lv_aload_n (pc := 51) hx hb dX8_undo_51 rfl (lv_at hl 0 rfl) ?_
      refine xr_getI (pc := 52) (ci := 12) hx hb hts inX8 hown hK hR rfl k0.1 5 (Nat.le_of_ble_eq_true rfl) rfl (hts _ q_f_X8_52) (fun _ h9 => h9) dX8_undo_52 ?_
      exact xf_i (pc := 55) hx hb hr rfl hlocks h hR hK hS dX8_undo_55
    · have h := xneg c6 h
      refine lv_iconst (pc := 19) hx hb dX8_undo_19 kc_0 ?_
      exact xf_i (pc := 20) hx hb hr rfl hlocks h hR hK hS dX8_undo_20
set_option maxHeartbeats 1000000 in
set_option maxRecDepth 20000 in
theorem mX8_save {l : Launch} {D : va_G} {ca : Nat → ClassId} {z : Nat} {G : xG} {X : va_W} {ad av : Nat → Nat} (hF : xFix z G X) (h0 : Nat) (k0 : xI_Model G h0) {μ μ1 : xM} {r : Int32} (h : fX8_save h0 μ = some (r, μ1)) : xMi l yX8_save (xws yX8_save cX8_save 1 (some .int)) 1 D ca z G X ad av [.ref h0] μ r μ1 := by
  refine xm_i (by decide) rfl (Nat.le_of_ble_eq_true rfl) [(0, .ref h0)] rfl ?_
  intro p e s m args below meth c ls hx hb hr hml hlocks hts hown hK hE hR hS hl
  have hts : ∀ w ∈ xAll, w.before args s = true := fun w hw => hts w (List.mem_cons_of_mem _ hw)
  rw [fX8_save] at h
  refine lv_aload_n (pc := 0) hx hb dX8_save_0 rfl (lv_at hl 0 rfl) ?_
  refine lv_iconst (pc := 1) hx hb dX8_save_1 kc_0 ?_
  refine xr_putI (pc := 2) (ci := 12) (ty := .int) hx hb hts inX8 tyX8 tyX8_ok nmX8 hown hK hR hF hS rfl k0.1 7 (Nat.le_of_ble_eq_true rfl) rfl (hts _ q_f_X8_39) (fun _ h9 => h9) rfl rfl rfl rfl dX8_save_2 (fun H locs hR hS => ?_)
  refine lv_aload_n (pc := 5) hx hb dX8_save_5 rfl (lv_at hl 0 rfl) ?_
  refine lv_iconst (pc := 6) hx hb dX8_save_6 kc_1 ?_
  refine xr_putI (pc := 7) (ci := 12) (ty := .boolean) hx hb hts inX8 tyX8 tyX8_ok nmX8 hown hK hR hF hS rfl k0.1 4 (Nat.le_of_ble_eq_true rfl) rfl (hts _ q_f_X8_196) (fun _ h9 => h9) rfl rfl rfl rfl dX8_save_7 (fun H locs hR hS => ?_)
  refine lv_aload_n (pc := 10) hx hb dX8_save_10 rfl (lv_at hl 0 rfl) ?_
  refine xr_getR (pc := 11) (ci := 12) hx hb hts inX8 hown hK hR rfl k0.1 0 (Nat.le_of_ble_eq_true rfl) rfl k0.2.1.1 (hts _ q_f_X8_7) (fun _ h9 => h9) dX8_save_11 ?_
  refine lv_iconst (pc := 14) hx hb dX8_save_14 kc_0 ?_
  refine lv_aload_n (pc := 15) hx hb dX8_save_15 rfl (lv_at hl 0 rfl) ?_
  refine xr_getR (pc := 16) (ci := 12) hx hb hts inX8 hown hK hR rfl k0.1 2 (Nat.le_of_ble_eq_true rfl) rfl k0.2.2.2.1.1 (hts _ q_f_X8_16) (fun _ h9 => h9) dX8_save_16 ?_
  refine lv_iconst (pc := 19) hx hb dX8_save_19 kc_0 ?_
  obtain ⟨m1, c1, h⟩ := xbv_inv h
  refine xc_vS (pc := 20) (As := [.ref _, .int _, .ref _, .int _]) (rest := []) ⟨hx, hb, hml, hown, hts⟩ (mX8_copies hF _ _ _ _ _ _ k0.2.1.2 k0.2.2.2.1.2 c1) (xcwS 4 hts fdX8_copies q_m_X8_55 ⟨Nat.le_of_ble_eq_true rfl, Nat.le_of_ble_eq_true rfl⟩) hR hK hE hS rfl hl.1 rfl (Nat.le_of_ble_eq_true rfl) dX8_save_20 ⟨Nat.zero_le _, Nat.zero_le _⟩ (fun H locs hR hS => ?_)
  refine lv_aload_n (pc := 23) hx hb dX8_save_23 rfl (lv_at hl 0 rfl) ?_
  refine xr_getR (pc := 24) (ci := 12) hx hb hts inX8 hown hK hR rfl k0.1 0 (Nat.le_of_ble_eq_true rfl) rfl k0.2.1.1 (hts _ q_f_X8_7) (fun _ h9 => h9) dX8_save_24 ?_
  refine lv_iconst (pc := 27) hx hb dX8_save_27 kc_0 ?_
  refine xr_ialdk (pc := 28) 0 hx hb hK hR k0.2.1.2.1 k0.2.1.2.2 tn_0 (vl_0 (by decide)) dX8_save_28 ?_
  exact xf_i (pc := 29) hx hb hr rfl hlocks h hR hK hS dX8_save_29
set_option maxHeartbeats 1000000 in
set_option maxRecDepth 20000 in
theorem mX8_restore {l : Launch} {D : va_G} {ca : Nat → ClassId} {z : Nat} {G : xG} {X : va_W} {ad av : Nat → Nat} (hF : xFix z G X) (h0 : Nat) (k0 : xI_Model G h0) {μ μ1 : xM} {r : Int32} (h : fX8_restore h0 μ = some (r, μ1)) : xMi l yX8_restore (xws yX8_restore cX8_restore 1 (some .int)) 1 D ca z G X ad av [.ref h0] μ r μ1 := by
  refine xm_i (by decide) rfl (Nat.le_of_ble_eq_true rfl) [(0, .ref h0)] rfl ?_
  intro p e s m args below meth c ls hx hb hr hml hlocks hts hown hK hE hR hS hl
  have hts : ∀ w ∈ xAll, w.before args s = true := fun w hw => hts w (List.mem_cons_of_mem _ hw)
  rw [fX8_restore] at h
  refine lv_aload_n (pc := 0) hx hb dX8_restore_0 rfl (lv_at hl 0 rfl) ?_
  refine lv_aload_n (pc := 1) hx hb dX8_restore_1 rfl (lv_at hl 0 rfl) ?_
  refine xr_getI (pc := 2) (ci := 12) hx hb hts inX8 hown hK hR rfl k0.1 4 (Nat.le_of_ble_eq_true rfl) rfl (hts _ q_f_X8_196) (fun _ h9 => h9) dX8_restore_2 ?_
  refine lv_if_eq (pc := 5) (tgt := 12) hx hb dX8_restore_5 (by decide) (fun c1 => ?_) (fun c1 => ?_)
  · have h := xpos c1 h
    refine lv_iconst (pc := 12) hx hb dX8_restore_12 kc_1 ?_
    obtain ⟨r2, m2, c2, h⟩ := xb_inv h
    refine xc_iV (pc := 13) (As := [.int _]) (rest := []) ⟨hx, hb, hml, hown, hts⟩ (mX8_fails hF _ _ k0 c2) (xcwV 1 hts fdX8_fails q_m_X8_67 ⟨Nat.le_of_ble_eq_true rfl, Nat.le_of_ble_eq_true rfl⟩) (xRecv hK hR (ci := 12) rfl k0.1) hR hK hE hS rfl hl.1 rfl (Nat.le_of_ble_eq_true rfl) dX8_restore_13 ⟨Nat.zero_le _, Nat.zero_le _⟩ (fun H locs hR hS => ?_)
    refine lv_if_eq (pc := 16) (tgt := 21) hx hb dX8_restore_16 (by decide) (fun c3 => ?_) (fun c3 => ?_)
    · have h := xpos c3 h
      refine lv_aload_n (pc := 21) hx hb dX8_restore_21 rfl (lv_at hl 0 rfl) ?_
      refine xr_getR (pc := 22) (ci := 12) hx hb hts inX8 hown hK hR rfl k0.1 2 (Nat.le_of_ble_eq_true rfl) rfl k0.2.2.2.1.1 (hts _ q_f_X8_16) (fun _ h9 => h9) dX8_restore_22 ?_
      refine lv_iconst (pc := 25) hx hb dX8_restore_25 kc_0 ?_
      refine lv_aload_n (pc := 26) hx hb dX8_restore_26 rfl (lv_at hl 0 rfl) ?_
      refine xr_getR (pc := 27) (ci := 12) hx hb hts inX8 hown hK hR rfl k0.1 0 (Nat.le_of_ble_eq_true rfl) rfl k0.2.1.1 (hts _ q_f_X8_7) (fun _ h9 => h9) dX8_restore_27 ?_
      refine lv_iconst (pc := 30) hx hb dX8_restore_30 kc_0 ?_
      obtain ⟨m4, c4, h⟩ := xbv_inv h
      refine xc_vS (pc := 31) (As := [.ref _, .int _, .ref _, .int _]) (rest := []) ⟨hx, hb, hml, hown, hts⟩ (mX8_copies hF _ _ _ _ _ _ k0.2.2.2.1.2 k0.2.1.2 c4) (xcwS 4 hts fdX8_copies q_m_X8_55 ⟨Nat.le_of_ble_eq_true rfl, Nat.le_of_ble_eq_true rfl⟩) hR hK hE hS rfl hl.1 rfl (Nat.le_of_ble_eq_true rfl) dX8_restore_31 ⟨Nat.zero_le _, Nat.zero_le _⟩ (fun H locs hR hS => ?_)
      refine lv_aload_n (pc := 34) hx hb dX8_restore_34 rfl (lv_at hl 0 rfl) ?_
      refine lv_iconst (pc := 35) hx hb dX8_restore_35 kc_0 ?_
      refine xr_putI (pc := 36) (ci := 12) (ty := .int) hx hb hts inX8 tyX8 tyX8_ok nmX8 hown hK hR hF hS rfl k0.1 5 (Nat.le_of_ble_eq_true rfl) rfl (hts _ q_f_X8_52) (fun _ h9 => h9) rfl rfl rfl rfl dX8_restore_36 (fun H locs hR hS => ?_)
      refine lv_aload_n (pc := 39) hx hb dX8_restore_39 rfl (lv_at hl 0 rfl) ?_
      refine xr_getR (pc := 40) (ci := 12) hx hb hts inX8 hown hK hR rfl k0.1 0 (Nat.le_of_ble_eq_true rfl) rfl k0.2.1.1 (hts _ q_f_X8_7) (fun _ h9 => h9) dX8_restore_40 ?_
      refine lv_iconst (pc := 43) hx hb dX8_restore_43 kc_0 ?_
      refine xr_ialdk (pc := 44) 0 hx hb hK hR k0.2.1.2.1 k0.2.1.2.2 tn_0 (vl_0 (by decide)) dX8_restore_44 ?_
      exact xf_i (pc := 45) hx hb hr rfl hlocks h hR hK hS dX8_restore_45
    · have h := xneg c3 h
      refine lv_iconst (pc := 19) hx hb dX8_restore_19 kc_0 ?_
      exact xf_i (pc := 20) hx hb hr rfl hlocks h hR hK hS dX8_restore_20
  · have h := xneg c1 h
    refine lv_iconst (pc := 8) hx hb dX8_restore_8 kc_0 ?_
    refine lv_goto (pc := 9) (tgt := 13) hx hb dX8_restore_9 (by decide) ?_
    obtain ⟨r5, m5, c5, h⟩ := xb_inv h
    refine xc_iV (pc := 13) (As := [.int _]) (rest := []) ⟨hx, hb, hml, hown, hts⟩ (mX8_fails hF _ _ k0 c5) (xcwV 1 hts fdX8_fails q_m_X8_67 ⟨Nat.le_of_ble_eq_true rfl, Nat.le_of_ble_eq_true rfl⟩) (xRecv hK hR (ci := 12) rfl k0.1) hR hK hE hS rfl hl.1 rfl (Nat.le_of_ble_eq_true rfl) dX8_restore_13 ⟨Nat.zero_le _, Nat.zero_le _⟩ (fun H locs hR hS => ?_)
    refine lv_if_eq (pc := 16) (tgt := 21) hx hb dX8_restore_16 (by decide) (fun c6 => ?_) (fun c6 => ?_)
    · have h := xpos c6 h
      refine lv_aload_n (pc := 21) hx hb dX8_restore_21 rfl (lv_at hl 0 rfl) ?_
      refine xr_getR (pc := 22) (ci := 12) hx hb hts inX8 hown hK hR rfl k0.1 2 (Nat.le_of_ble_eq_true rfl) rfl k0.2.2.2.1.1 (hts _ q_f_X8_16) (fun _ h9 => h9) dX8_restore_22 ?_
      refine lv_iconst (pc := 25) hx hb dX8_restore_25 kc_0 ?_
      refine lv_aload_n (pc := 26) hx hb dX8_restore_26 rfl (lv_at hl 0 rfl) ?_
      refine xr_getR (pc := 27) (ci := 12) hx hb hts inX8 hown hK hR rfl k0.1 0 (Nat.le_of_ble_eq_true rfl) rfl k0.2.1.1 (hts _ q_f_X8_7) (fun _ h9 => h9) dX8_restore_27 ?_
      refine lv_iconst (pc := 30) hx hb dX8_restore_30 kc_0 ?_
      obtain ⟨m7, c7, h⟩ := xbv_inv h
      refine xc_vS (pc := 31) (As := [.ref _, .int _, .ref _, .int _]) (rest := []) ⟨hx, hb, hml, hown, hts⟩ (mX8_copies hF _ _ _ _ _ _ k0.2.2.2.1.2 k0.2.1.2 c7) (xcwS 4 hts fdX8_copies q_m_X8_55 ⟨Nat.le_of_ble_eq_true rfl, Nat.le_of_ble_eq_true rfl⟩) hR hK hE hS rfl hl.1 rfl (Nat.le_of_ble_eq_true rfl) dX8_restore_31 ⟨Nat.zero_le _, Nat.zero_le _⟩ (fun H locs hR hS => ?_)
      refine lv_aload_n (pc := 34) hx hb dX8_restore_34 rfl (lv_at hl 0 rfl) ?_
      refine lv_iconst (pc := 35) hx hb dX8_restore_35 kc_0 ?_
      refine xr_putI (pc := 36) (ci := 12) (ty := .int) hx hb hts inX8 tyX8 tyX8_ok nmX8 hown hK hR hF hS rfl k0.1 5 (Nat.le_of_ble_eq_true rfl) rfl (hts _ q_f_X8_52) (fun _ h9 => h9) rfl rfl rfl rfl dX8_restore_36 (fun H locs hR hS => ?_)
      refine lv_aload_n (pc := 39) hx hb dX8_restore_39 rfl (lv_at hl 0 rfl) ?_
      refine xr_getR (pc := 40) (ci := 12) hx hb hts inX8 hown hK hR rfl k0.1 0 (Nat.le_of_ble_eq_true rfl) rfl k0.2.1.1 (hts _ q_f_X8_7) (fun _ h9 => h9) dX8_restore_40 ?_
      refine lv_iconst (pc := 43) hx hb dX8_restore_43 kc_0 ?_
      refine xr_ialdk (pc := 44) 0 hx hb hK hR k0.2.1.2.1 k0.2.1.2.2 tn_0 (vl_0 (by decide)) dX8_restore_44 ?_
      exact xf_i (pc := 45) hx hb hr rfl hlocks h hR hK hS dX8_restore_45
    · have h := xneg c6 h
      refine lv_iconst (pc := 19) hx hb dX8_restore_19 kc_0 ?_
      exact xf_i (pc := 20) hx hb hr rfl hlocks h hR hK hS dX8_restore_20
