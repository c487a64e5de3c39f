set_option maxHeartbeats 1000000 in
set_option maxRecDepth 20000 in
theorem mX4_begin {l : Launch} {D : va_G} {ca : Nat → ClassId} {z : Nat} {G : xG} {X : va_W} {ad av : Nat → Nat} (hF : xFix z G X) (h0 : Nat) (p1 : Int32) (k0 : xI_Order G h0) {μ μ1 : xM} (h : fX4_begin h0 p1 μ = some μ1) : xMv l yX4_begin (xws yX4_begin cX4_begin 2 none) 0 D ca z G X ad av [.ref h0, .int p1] μ μ1 := by
  refine xm_v (by decide) rfl (Nat.le_of_ble_eq_true rfl) [(0, .ref h0), (1, .int p1)] rfl ?_
  intro p e s m args below meth c ls hx hb hr hml hlocks hts hown hK hE hR hS hl
  have hts : ∀ w ∈ xAll, w.before args s = true := fun w hw => hts w (List.mem_cons_of_mem _ hw)
  rw [fX4_begin] at h
  refine lv_aload_n (pc := 0) hx hb dX4_begin_0 rfl (lv_at hl 0 rfl) ?_
  refine lv_iload_n (pc := 1) hx hb dX4_begin_1 rfl (lv_at hl 1 rfl) ?_
  obtain ⟨c1, h⟩ := xk_inv h
  refine xr_putI (pc := 2) (ci := 8) (ty := .char) hx hb hts inX4 tyX4 tyX4_ok nmX4 hown hK hR hF hS rfl k0 0 (Nat.le_of_ble_eq_true rfl) rfl (hts _ q_f_X4_7) (fun _ h9 => h9) rfl rfl c1.1 c1.2 dX4_begin_2 (fun H locs hR hS => ?_)
  refine lv_aload_n (pc := 5) hx hb dX4_begin_5 rfl (lv_at hl 0 rfl) ?_
  refine lv_iconst (pc := 6) hx hb dX4_begin_6 kc_0 ?_
  refine xr_putI (pc := 7) (ci := 8) (ty := .int) hx hb hts inX4 tyX4 tyX4_ok nmX4 hown hK hR hF hS rfl k0 1 (Nat.le_of_ble_eq_true rfl) rfl (hts _ q_f_X4_13) (fun _ h9 => h9) rfl rfl rfl rfl dX4_begin_7 (fun H locs hR hS => ?_)
  refine lv_aload_n (pc := 10) hx hb dX4_begin_10 rfl (lv_at hl 0 rfl) ?_
  refine lv_iconst (pc := 11) hx hb dX4_begin_11 kc_0 ?_
  refine xr_putI (pc := 12) (ci := 8) (ty := .int) hx hb hts inX4 tyX4 tyX4_ok nmX4 hown hK hR hF hS rfl k0 2 (Nat.le_of_ble_eq_true rfl) rfl (hts _ q_f_X4_17) (fun _ h9 => h9) rfl rfl rfl rfl dX4_begin_12 (fun H locs hR hS => ?_)
  refine lv_aload_n (pc := 15) hx hb dX4_begin_15 rfl (lv_at hl 0 rfl) ?_
  refine lv_iconst (pc := 16) hx hb dX4_begin_16 kc_0 ?_
  refine xr_putI (pc := 17) (ci := 8) (ty := .int) hx hb hts inX4 tyX4 tyX4_ok nmX4 hown hK hR hF hS rfl k0 3 (Nat.le_of_ble_eq_true rfl) rfl (hts _ q_f_X4_20) (fun _ h9 => h9) rfl rfl rfl rfl dX4_begin_17 (fun H locs hR hS => ?_)
  refine lv_aload_n (pc := 20) hx hb dX4_begin_20 rfl (lv_at hl 0 rfl) ?_
  refine lv_iconst (pc := 21) hx hb dX4_begin_21 kc_0 ?_
  refine xr_putI (pc := 22) (ci := 8) (ty := .int) hx hb hts inX4 tyX4 tyX4_ok nmX4 hown hK hR hF hS rfl k0 4 (Nat.le_of_ble_eq_true rfl) rfl (hts _ q_f_X4_23) (fun _ h9 => h9) rfl rfl rfl rfl dX4_begin_22 (fun H locs hR hS => ?_)
  exact xf_v (pc := 25) hx hb hr hlocks h hR hK hS dX4_begin_25
set_option maxHeartbeats 1000000 in
set_option maxRecDepth 20000 in
theorem mX4_add {l : Launch} {D : va_G} {ca : Nat → ClassId} {z : Nat} {G : xG} {X : va_W} {ad av : Nat → Nat} (hF : xFix z G X) (h0 : Nat) (p1 : Int32) (k0 : xI_Order G h0) {μ μ1 : xM} (h : fX4_add h0 p1 μ = some μ1) : xMv l yX4_add (xws yX4_add cX4_add 2 none) 0 D ca z G X ad av [.ref h0, .int p1] μ μ1 := by
  refine xm_v (by decide) rfl (Nat.le_of_ble_eq_true rfl) [(0, .ref h0), (1, .int p1)] rfl ?_
  intro p e s m args below meth c ls hx hb hr hml hlocks hts hown hK hE hR hS hl
  have hts : ∀ w ∈ xAll, w.before args s = true := fun w hw => hts w (List.mem_cons_of_mem _ hw)
  rw [fX4_add] at h
  refine lv_aload_n (pc := 0) hx hb dX4_add_0 rfl (lv_at hl 0 rfl) ?_
  refine xr_getI (pc := 1) (ci := 8) hx hb hts inX4 hown hK hR rfl k0 4 (Nat.le_of_ble_eq_true rfl) rfl (hts _ q_f_X4_23) (fun _ h9 => h9) dX4_add_1 ?_
  by_cases c1 : (μ h0 4) = (0 : Int32)
  · have h := xpos c1 h
    refine lv_lookup (pc := 4) (tgt := 32) hx hb dX4_add_4 (by decide) (by rw [c1]; first | done | rfl) (by decide) ?_
    refine lv_aload_n (pc := 32) hx hb dX4_add_32 rfl (lv_at hl 0 rfl) ?_
    refine lv_iload_n (pc := 33) hx hb dX4_add_33 rfl (lv_at hl 1 rfl) ?_
    refine xr_putI (pc := 34) (ci := 8) (ty := .int) hx hb hts inX4 tyX4 tyX4_ok nmX4 hown hK hR hF hS rfl k0 1 (Nat.le_of_ble_eq_true rfl) rfl (hts _ q_f_X4_13) (fun _ h9 => h9) rfl rfl rfl rfl dX4_add_34 (fun H locs hR hS => ?_)
    refine lv_goto (pc := 37) (tgt := 53) hx hb dX4_add_37 (by decide) ?_
    refine lv_aload_n (pc := 53) hx hb dX4_add_53 rfl (lv_at hl 0 rfl) ?_
    refine lv_dup (pc := 54) hx hb dX4_add_54 rfl ?_
    refine xr_getI (pc := 55) (ci := 8) hx hb hts inX4 hown hK hR rfl k0 4 (Nat.le_of_ble_eq_true rfl) rfl (hts _ q_f_X4_23) (fun _ h9 => h9) dX4_add_55 ?_
    refine lv_iconst (pc := 58) hx hb dX4_add_58 kc_1 ?_
    refine lv_iadd (pc := 59) hx hb dX4_add_59 ?_
    refine xr_putI (pc := 60) (ci := 8) (ty := .int) hx hb hts inX4 tyX4 tyX4_ok nmX4 hown hK hR hF hS rfl k0 4 (Nat.le_of_ble_eq_true rfl) rfl (hts _ q_f_X4_23) (fun _ h9 => h9) rfl rfl rfl rfl dX4_add_60 (fun H locs hR hS => ?_)
    exact xf_v (pc := 63) hx hb hr hlocks h hR hK hS dX4_add_63
  have h := xneg c1 h
  by_cases c2 : (μ h0 4) = (1 : Int32)
  · have h := xpos c2 h
    refine lv_lookup (pc := 4) (tgt := 40) hx hb dX4_add_4 (by decide) (by rw [c2]; first | done | rfl) (by decide) ?_
    refine lv_aload_n (pc := 40) hx hb dX4_add_40 rfl (lv_at hl 0 rfl) ?_
    refine lv_iload_n (pc := 41) hx hb dX4_add_41 rfl (lv_at hl 1 rfl) ?_
    refine xr_putI (pc := 42) (ci := 8) (ty := .int) hx hb hts inX4 tyX4 tyX4_ok nmX4 hown hK hR hF hS rfl k0 2 (Nat.le_of_ble_eq_true rfl) rfl (hts _ q_f_X4_17) (fun _ h9 => h9) rfl rfl rfl rfl dX4_add_42 (fun H locs hR hS => ?_)
    refine lv_goto (pc := 45) (tgt := 53) hx hb dX4_add_45 (by decide) ?_
    refine lv_aload_n (pc := 53) hx hb dX4_add_53 rfl (lv_at hl 0 rfl) ?_
    refine lv_dup (pc := 54) hx hb dX4_add_54 rfl ?_
    refine xr_getI (pc := 55) (ci := 8) hx hb hts inX4 hown hK hR rfl k0 4 (Nat.le_of_ble_eq_true rfl) rfl (hts _ q_f_X4_23) (fun _ h9 => h9) dX4_add_55 ?_
    refine lv_iconst (pc := 58) hx hb dX4_add_58 kc_1 ?_
    refine lv_iadd (pc := 59) hx hb dX4_add_59 ?_
    refine xr_putI (pc := 60) (ci := 8) (ty := .int) hx hb hts inX4 tyX4 tyX4_ok nmX4 hown hK hR hF hS rfl k0 4 (Nat.le_of_ble_eq_true rfl) rfl (hts _ q_f_X4_23) (fun _ h9 => h9) rfl rfl rfl rfl dX4_add_60 (fun H locs hR hS => ?_)
    exact xf_v (pc := 63) hx hb hr hlocks h hR hK hS dX4_add_63
  have h := xneg c2 h
  refine lv_lookup (pc := 4) (tgt := 48) (off := 44) hx hb dX4_add_4 (by decide) (xlook _ _ _ (by have z1 := xnek ti_0 c1; have z2 := xnek ti_1 c2; intro q hq; simp at hq; rcases hq with rfl | rfl <;> (simp; omega))) (by decide) ?_
  refine lv_aload_n (pc := 48) hx hb dX4_add_48 rfl (lv_at hl 0 rfl) ?_
  refine lv_iload_n (pc := 49) hx hb dX4_add_49 rfl (lv_at hl 1 rfl) ?_
  refine xr_putI (pc := 50) (ci := 8) (ty := .int) hx hb hts inX4 tyX4 tyX4_ok nmX4 hown hK hR hF hS rfl k0 3 (Nat.le_of_ble_eq_true rfl) rfl (hts _ q_f_X4_20) (fun _ h9 => h9) rfl rfl rfl rfl dX4_add_50 (fun H locs hR hS => ?_)
  refine lv_aload_n (pc := 53) hx hb dX4_add_53 rfl (lv_at hl 0 rfl) ?_
  refine lv_dup (pc := 54) hx hb dX4_add_54 rfl ?_
  refine xr_getI (pc := 55) (ci := 8) hx hb hts inX4 hown hK hR rfl k0 4 (Nat.le_of_ble_eq_true rfl) rfl (hts _ q_f_X4_23) (fun _ h9 => h9) dX4_add_55 ?_
  refine lv_iconst (pc := 58) hx hb dX4_add_58 kc_1 ?_
  refine lv_iadd (pc := 59) hx hb dX4_add_59 ?_
  refine xr_putI (pc := 60) (ci := 8) (ty := .int) hx hb hts inX4 tyX4 tyX4_ok nmX4 hown hK hR hF hS rfl k0 4 (Nat.le_of_ble_eq_true rfl) rfl (hts _ q_f_X4_23) (fun _ h9 => h9) rfl rfl rfl rfl dX4_add_60 (fun H locs hR hS => ?_)
  exact xf_v (pc := 63) hx hb hr hlocks h hR hK hS dX4_add_63
set_option maxHeartbeats 1000000 in
set_option maxRecDepth 20000 in
theorem mX5_begin {l : Launch} {D : va_G} {ca : Nat → ClassId} {z : Nat} {G : xG} {X : va_W} {ad av : Nat → Nat} (hF : xFix z G X) (h0 : Nat) (h1 : Nat) (p2 : Int32) (p3 : Int32) (k0 : xI_Pledge G h0) (k1 : xI_Order G h1) {μ μ1 : xM} (h : fX5_begin h0 h1 p2 p3 μ = some μ1) : xMv l yX5_begin (xws yX5_begin cX5_begin 4 none) 0 D ca z G X ad av [.ref h0, .ref h1, .int p2, .int p3] μ μ1 := by
  refine xm_v (by decide) rfl (Nat.le_of_ble_eq_true rfl) [(0, .ref h0), (1, .ref h1), (2, .int p2), (3, .int p3)] rfl ?_
  intro p e s m args below meth c ls hx hb hr hml hlocks hts hown hK hE hR hS hl
  have hts : ∀ w ∈ xAll, w.before args s = true := fun w hw => hts w (List.mem_cons_of_mem _ hw)
  rw [fX5_begin] at h
  refine lv_aload_n (pc := 0) hx hb dX5_begin_0 rfl (lv_at hl 0 rfl) ?_
  refine lv_aload_n (pc := 1) hx hb dX5_begin_1 rfl (lv_at hl 1 rfl) ?_
  refine xr_getI (pc := 2) (ci := 8) hx hb hts inX4 hown hK hR rfl k1 1 (Nat.le_of_ble_eq_true rfl) rfl (hts _ q_f_X5_9) (fun _ h9 => h9) dX5_begin_2 ?_
  refine xr_putI (pc := 5) (ci := 9) (ty := .int) hx hb hts inX5 tyX5 tyX5_ok nmX5 hown hK hR hF hS rfl k0 0 (Nat.le_of_ble_eq_true rfl) rfl (hts _ q_f_X5_15) (fun _ h9 => h9) rfl rfl rfl rfl dX5_begin_5 (fun H locs hR hS => ?_)
  refine lv_aload_n (pc := 8) hx hb dX5_begin_8 rfl (lv_at hl 0 rfl) ?_
  refine lv_aload_n (pc := 9) hx hb dX5_begin_9 rfl (lv_at hl 1 rfl) ?_
  refine xr_getI (pc := 10) (ci := 8) hx hb hts inX4 hown hK hR rfl k1 2 (Nat.le_of_ble_eq_true rfl) rfl (hts _ q_f_X5_20) (fun _ h9 => h9) dX5_begin_10 ?_
  refine xr_putI (pc := 13) (ci := 9) (ty := .int) hx hb hts inX5 tyX5 tyX5_ok nmX5 hown hK hR hF hS rfl k0 1 (Nat.le_of_ble_eq_true rfl) rfl (hts _ q_f_X5_23) (fun _ h9 => h9) rfl rfl rfl rfl dX5_begin_13 (fun H locs hR hS => ?_)
  refine lv_aload_n (pc := 16) hx hb dX5_begin_16 rfl (lv_at hl 0 rfl) ?_
  refine lv_aload_n (pc := 17) hx hb dX5_begin_17 rfl (lv_at hl 1 rfl) ?_
  refine xr_getI (pc := 18) (ci := 8) hx hb hts inX4 hown hK hR rfl k1 3 (Nat.le_of_ble_eq_true rfl) rfl (hts _ q_f_X5_26) (fun _ h9 => h9) dX5_begin_18 ?_
  refine xr_putI (pc := 21) (ci := 9) (ty := .int) hx hb hts inX5 tyX5 tyX5_ok nmX5 hown hK hR hF hS rfl k0 2 (Nat.le_of_ble_eq_true rfl) rfl (hts _ q_f_X5_29) (fun _ h9 => h9) rfl rfl rfl rfl dX5_begin_21 (fun H locs hR hS => ?_)
  refine lv_aload_n (pc := 24) hx hb dX5_begin_24 rfl (lv_at hl 0 rfl) ?_
  refine lv_aload_n (pc := 25) hx hb dX5_begin_25 rfl (lv_at hl 1 rfl) ?_
  refine xr_getI (pc := 26) (ci := 8) hx hb hts inX4 hown hK hR rfl k1 3 (Nat.le_of_ble_eq_true rfl) rfl (hts _ q_f_X5_26) (fun _ h9 => h9) dX5_begin_26 ?_
  refine xr_putI (pc := 29) (ci := 9) (ty := .int) hx hb hts inX5 tyX5 tyX5_ok nmX5 hown hK hR hF hS rfl k0 3 (Nat.le_of_ble_eq_true rfl) rfl (hts _ q_f_X5_32) (fun _ h9 => h9) rfl rfl rfl rfl dX5_begin_29 (fun H locs hR hS => ?_)
  refine lv_aload_n (pc := 32) hx hb dX5_begin_32 rfl (lv_at hl 0 rfl) ?_
  refine lv_iconst (pc := 33) hx hb dX5_begin_33 kc_0 ?_
  refine xr_putI (pc := 34) (ci := 9) (ty := .int) hx hb hts inX5 tyX5 tyX5_ok nmX5 hown hK hR hF hS rfl k0 4 (Nat.le_of_ble_eq_true rfl) rfl (hts _ q_f_X5_35) (fun _ h9 => h9) rfl rfl rfl rfl dX5_begin_34 (fun H locs hR hS => ?_)
  refine lv_aload_n (pc := 37) hx hb dX5_begin_37 rfl (lv_at hl 0 rfl) ?_
  refine lv_iconst (pc := 38) hx hb dX5_begin_38 kc_0 ?_
  refine xr_putI (pc := 39) (ci := 9) (ty := .int) hx hb hts inX5 tyX5 tyX5_ok nmX5 hown hK hR hF hS rfl k0 5 (Nat.le_of_ble_eq_true rfl) rfl (hts _ q_f_X5_38) (fun _ h9 => h9) rfl rfl rfl rfl dX5_begin_39 (fun H locs hR hS => ?_)
  refine lv_aload_n (pc := 42) hx hb dX5_begin_42 rfl (lv_at hl 0 rfl) ?_
  refine lv_iload_n (pc := 43) hx hb dX5_begin_43 rfl (lv_at hl 3 rfl) ?_
  refine xr_putI (pc := 44) (ci := 9) (ty := .int) hx hb hts inX5 tyX5 tyX5_ok nmX5 hown hK hR hF hS rfl k0 6 (Nat.le_of_ble_eq_true rfl) rfl (hts _ q_f_X5_41) (fun _ h9 => h9) rfl rfl rfl rfl dX5_begin_44 (fun H locs hR hS => ?_)
  refine lv_aload_n (pc := 47) hx hb dX5_begin_47 rfl (lv_at hl 0 rfl) ?_
  refine lv_iload_n (pc := 48) hx hb dX5_begin_48 rfl (lv_at hl 2 rfl) ?_
  refine xr_putI (pc := 49) (ci := 9) (ty := .int) hx hb hts inX5 tyX5 tyX5_ok nmX5 hown hK hR hF hS rfl k0 7 (Nat.le_of_ble_eq_true rfl) rfl (hts _ q_f_X5_44) (fun _ h9 => h9) rfl rfl rfl rfl dX5_begin_49 (fun H locs hR hS => ?_)
  refine lv_aload_n (pc := 52) hx hb dX5_begin_52 rfl (lv_at hl 0 rfl) ?_
  refine lv_iconst (pc := 53) hx hb dX5_begin_53 kc_0 ?_
  refine xr_putI (pc := 54) (ci := 9) (ty := .int) hx hb hts inX5 tyX5 tyX5_ok nmX5 hown hK hR hF hS rfl k0 8 (Nat.le_of_ble_eq_true rfl) rfl (hts _ q_f_X5_47) (fun _ h9 => h9) rfl rfl rfl rfl dX5_begin_54 (fun H locs hR hS => ?_)
  refine lv_aload_n (pc := 57) hx hb dX5_begin_57 rfl (lv_at hl 0 rfl) ?_
  refine lv_iconst (pc := 58) hx hb dX5_begin_58 kc_0 ?_
  refine xr_putI (pc := 59) (ci := 9) (ty := .int) hx hb hts inX5 tyX5 tyX5_ok nmX5 hown hK hR hF hS rfl k0 9 (Nat.le_of_ble_eq_true rfl) rfl (hts _ q_f_X5_50) (fun _ h9 => h9) rfl rfl rfl rfl dX5_begin_59 (fun H locs hR hS => ?_)
  refine lv_aload_n (pc := 62) hx hb dX5_begin_62 rfl (lv_at hl 0 rfl) ?_
  refine lv_iconst (pc := 63) hx hb dX5_begin_63 kc_0 ?_
  refine xr_putI (pc := 64) (ci := 9) (ty := .int) hx hb hts inX5 tyX5 tyX5_ok nmX5 hown hK hR hF hS rfl k0 10 (Nat.le_of_ble_eq_true rfl) rfl (hts _ q_f_X5_53) (fun _ h9 => h9) rfl rfl rfl rfl dX5_begin_64 (fun H locs hR hS => ?_)
  refine lv_aload_n (pc := 67) hx hb dX5_begin_67 rfl (lv_at hl 0 rfl) ?_
  refine lv_iconst (pc := 68) hx hb dX5_begin_68 kc_0 ?_
  refine xr_putI (pc := 69) (ci := 9) (ty := .int) hx hb hts inX5 tyX5 tyX5_ok nmX5 hown hK hR hF hS rfl k0 11 (Nat.le_of_ble_eq_true rfl) rfl (hts _ q_f_X5_56) (fun _ h9 => h9) rfl rfl rfl rfl dX5_begin_69 (fun H locs hR hS => ?_)
  exact xf_v (pc := 72) hx hb hr hlocks h hR hK hS dX5_begin_72
set_option maxHeartbeats 1000000 in
set_option maxRecDepth 20000 in
theorem mX5_copyFrom {l : Launch} {D : va_G} {ca : Nat → ClassId} {z : Nat} {G : xG} {X : va_W} {ad av : Nat → Nat} (hF : xFix z G X) (h0 : Nat) (h1 : Nat) (k0 : xI_Pledge G h0) (k1 : xI_Pledge G h1) {μ μ1 : xM} (h : fX5_copyFrom h0 h1 μ = some μ1) : xMv l yX5_copyFrom (xws yX5_copyFrom cX5_copyFrom 2 none) 0 D ca z G X ad av [.ref h0, .ref h1] μ μ1 := by
  refine xm_v (by decide) rfl (Nat.le_of_ble_eq_true rfl) [(0, .ref h0), (1, .ref h1)] rfl ?_
  intro p e s m args below meth c ls hx hb hr hml hlocks hts hown hK hE hR hS hl
  have hts : ∀ w ∈ xAll, w.before args s = true := fun w hw => hts w (List.mem_cons_of_mem _ hw)
  rw [fX5_copyFrom] at h
  refine lv_aload_n (pc := 0) hx hb dX5_copyFrom_0 rfl (lv_at hl 0 rfl) ?_
  refine lv_aload_n (pc := 1) hx hb dX5_copyFrom_1 rfl (lv_at hl 1 rfl) ?_
  refine xr_getI (pc := 2) (ci := 9) hx hb hts inX5 hown hK hR rfl k1 0 (Nat.le_of_ble_eq_true rfl) rfl (hts _ q_f_X5_15) (fun _ h9 => h9) dX5_copyFrom_2 ?_
  refine xr_putI (pc := 5) (ci := 9) (ty := .int) hx hb hts inX5 tyX5 tyX5_ok nmX5 hown hK hR hF hS rfl k0 0 (Nat.le_of_ble_eq_true rfl) rfl (hts _ q_f_X5_15) (fun _ h9 => h9) rfl rfl rfl rfl dX5_copyFrom_5 (fun H locs hR hS => ?_)
  refine lv_aload_n (pc := 8) hx hb dX5_copyFrom_8 rfl (lv_at hl 0 rfl) ?_
  refine lv_aload_n (pc := 9) hx hb dX5_copyFrom_9 rfl (lv_at hl 1 rfl) ?_
  refine xr_getI (pc := 10) (ci := 9) hx hb hts inX5 hown hK hR rfl k1 1 (Nat.le_of_ble_eq_true rfl) rfl (hts _ q_f_X5_23) (fun _ h9 => h9) dX5_copyFrom_10 ?_
  refine xr_putI (pc := 13) (ci := 9) (ty := .int) hx hb hts inX5 tyX5 tyX5_ok nmX5 hown hK hR hF hS rfl k0 1 (Nat.le_of_ble_eq_true rfl) rfl (hts _ q_f_X5_23) (fun _ h9 => h9) rfl rfl rfl rfl dX5_copyFrom_13 (fun H locs hR hS => ?_)
  refine lv_aload_n (pc := 16) hx hb dX5_copyFrom_16 rfl (lv_at hl 0 rfl) ?_
  refine lv_aload_n (pc := 17) hx hb dX5_copyFrom_17 rfl (lv_at hl 1 rfl) ?_
  refine xr_getI (pc := 18) (ci := 9) hx hb hts inX5 hown hK hR rfl k1 2 (Nat.le_of_ble_eq_true rfl) rfl (hts _ q_f_X5_29) (fun _ h9 => h9) dX5_copyFrom_18 ?_
  refine xr_putI (pc := 21) (ci := 9) (ty := .int) hx hb hts inX5 tyX5 tyX5_ok nmX5 hown hK hR hF hS rfl k0 2 (Nat.le_of_ble_eq_true rfl) rfl (hts _ q_f_X5_29) (fun _ h9 => h9) rfl rfl rfl rfl dX5_copyFrom_21 (fun H locs hR hS => ?_)
  refine lv_aload_n (pc := 24) hx hb dX5_copyFrom_24 rfl (lv_at hl 0 rfl) ?_
  refine lv_aload_n (pc := 25) hx hb dX5_copyFrom_25 rfl (lv_at hl 1 rfl) ?_
  refine xr_getI (pc := 26) (ci := 9) hx hb hts inX5 hown hK hR rfl k1 3 (Nat.le_of_ble_eq_true rfl) rfl (hts _ q_f_X5_32) (fun _ h9 => h9) dX5_copyFrom_26 ?_
  refine xr_putI (pc := 29) (ci := 9) (ty := .int) hx hb hts inX5 tyX5 tyX5_ok nmX5 hown hK hR hF hS rfl k0 3 (Nat.le_of_ble_eq_true rfl) rfl (hts _ q_f_X5_32) (fun _ h9 => h9) rfl rfl rfl rfl dX5_copyFrom_29 (fun H locs hR hS => ?_)
  refine lv_aload_n (pc := 32) hx hb dX5_copyFrom_32 rfl (lv_at hl 0 rfl) ?_
  refine lv_aload_n (pc := 33) hx hb dX5_copyFrom_33 rfl (lv_at hl 1 rfl) ?_
  refine xr_getI (pc := 34) (ci := 9) hx hb hts inX5 hown hK hR rfl k1 4 (Nat.le_of_ble_eq_true rfl) rfl (hts _ q_f_X5_35) (fun _ h9 => h9) dX5_copyFrom_34 ?_
  refine xr_putI (pc := 37) (ci := 9) (ty := .int) hx hb hts inX5 tyX5 tyX5_ok nmX5 hown hK hR hF hS rfl k0 4 (Nat.le_of_ble_eq_true rfl) rfl (hts _ q_f_X5_35) (fun _ h9 => h9) rfl rfl rfl rfl dX5_copyFrom_37 (fun H locs hR hS => ?_)
  refine lv_aload_n (pc := 40) hx hb dX5_copyFrom_40 rfl (lv_at hl 0 rfl) ?_
  refine lv_aload_n (pc := 41) hx hb dX5_copyFrom_41 rfl (lv_at hl 1 rfl) ?_
  refine xr_getI (pc := 42) (ci := 9) hx hb hts inX5 hown hK hR rfl k1 5 (Nat.le_of_ble_eq_true rfl) rfl (hts _ q_f_X5_38) (fun _ h9 => h9) dX5_copyFrom_42 ?_
  refine xr_putI (pc := 45) (ci := 9) (ty := .int) hx hb hts inX5 tyX5 tyX5_ok nmX5 hown hK hR hF hS rfl k0 5 (Nat.le_of_ble_eq_true rfl) rfl (hts _ q_f_X5_38) (fun _ h9 => h9) rfl rfl rfl rfl dX5_copyFrom_45 (fun H locs hR hS => ?_)
  refine lv_aload_n (pc := 48) hx hb dX5_copyFrom_48 rfl (lv_at hl 0 rfl) ?_
  refine lv_aload_n (pc := 49) hx hb dX5_copyFrom_49 rfl (lv_at hl 1 rfl) ?_
  refine xr_getI (pc := 50) (ci := 9) hx hb hts inX5 hown hK hR rfl k1 6 (Nat.le_of_ble_eq_true rfl) rfl (hts _ q_f_X5_41) (fun _ h9 => h9) dX5_copyFrom_50 ?_
  refine xr_putI (pc := 53) (ci := 9) (ty := .int) hx hb hts inX5 tyX5 tyX5_ok nmX5 hown hK hR hF hS rfl k0 6 (Nat.le_of_ble_eq_true rfl) rfl (hts _ q_f_X5_41) (fun _ h9 => h9) rfl rfl rfl rfl dX5_copyFrom_53 (fun H locs hR hS => ?_)
  refine lv_aload_n (pc := 56) hx hb dX5_copyFrom_56 rfl (lv_at hl 0 rfl) ?_
  refine lv_aload_n (pc := 57) hx hb dX5_copyFrom_57 rfl (lv_at hl 1 rfl) ?_
  refine xr_getI (pc := 58) (ci := 9) hx hb hts inX5 hown hK hR rfl k1 7 (Nat.le_of_ble_eq_true rfl) rfl (hts _ q_f_X5_44) (fun _ h9 => h9) dX5_copyFrom_58 ?_
  refine xr_putI (pc := 61) (ci := 9) (ty := .int) hx hb hts inX5 tyX5 tyX5_ok nmX5 hown hK hR hF hS rfl k0 7 (Nat.le_of_ble_eq_true rfl) rfl (hts _ q_f_X5_44) (fun _ h9 => h9) rfl rfl rfl rfl dX5_copyFrom_61 (fun H locs hR hS => ?_)
  refine lv_aload_n (pc := 64) hx hb dX5_copyFrom_64 rfl (lv_at hl 0 rfl) ?_
  refine lv_aload_n (pc := 65) hx hb dX5_copyFrom_65 rfl (lv_at hl 1 rfl) ?_
  refine xr_getI (pc := 66) (ci := 9) hx hb hts inX5 hown hK hR rfl k1 8 (Nat.le_of_ble_eq_true rfl) rfl (hts _ q_f_X5_47) (fun _ h9 => h9) dX5_copyFrom_66 ?_
  refine xr_putI (pc := 69) (ci := 9) (ty := .int) hx hb hts inX5 tyX5 tyX5_ok nmX5 hown hK hR hF hS rfl k0 8 (Nat.le_of_ble_eq_true rfl) rfl (hts _ q_f_X5_47) (fun _ h9 => h9) rfl rfl rfl rfl dX5_copyFrom_69 (fun H locs hR hS => ?_)
  refine lv_aload_n (pc := 72) hx hb dX5_copyFrom_72 rfl (lv_at hl 0 rfl) ?_
  refine lv_aload_n (pc := 73) hx hb dX5_copyFrom_73 rfl (lv_at hl 1 rfl) ?_
  refine xr_getI (pc := 74) (ci := 9) hx hb hts inX5 hown hK hR rfl k1 9 (Nat.le_of_ble_eq_true rfl) rfl (hts _ q_f_X5_50) (fun _ h9 => h9) dX5_copyFrom_74 ?_
  refine xr_putI (pc := 77) (ci := 9) (ty := .int) hx hb hts inX5 tyX5 tyX5_ok nmX5 hown hK hR hF hS rfl k0 9 (Nat.le_of_ble_eq_true rfl) rfl (hts _ q_f_X5_50) (fun _ h9 => h9) rfl rfl rfl rfl dX5_copyFrom_77 (fun H locs hR hS => ?_)
  refine lv_aload_n (pc := 80) hx hb dX5_copyFrom_80 rfl (lv_at hl 0 rfl) ?_
  refine lv_aload_n (pc := 81) hx hb dX5_copyFrom_81 rfl (lv_at hl 1 rfl) ?_
  refine xr_getI (pc := 82) (ci := 9) hx hb hts inX5 hown hK hR rfl k1 10 (Nat.le_of_ble_eq_true rfl) rfl (hts _ q_f_X5_53) (fun _ h9 => h9) dX5_copyFrom_82 ?_
  refine xr_putI (pc := 85) (ci := 9) (ty := .int) hx hb hts inX5 tyX5 tyX5_ok nmX5 hown hK hR hF hS rfl k0 10 (Nat.le_of_ble_eq_true rfl) rfl (hts _ q_f_X5_53) (fun _ h9 => h9) rfl rfl rfl rfl dX5_copyFrom_85 (fun H locs hR hS => ?_)
  refine lv_aload_n (pc := 88) hx hb dX5_copyFrom_88 rfl (lv_at hl 0 rfl) ?_
  refine lv_aload_n (pc := 89) hx hb dX5_copyFrom_89 rfl (lv_at hl 1 rfl) ?_
  refine xr_getI (pc := 90) (ci := 9) hx hb hts inX5 hown hK hR rfl k1 11 (Nat.le_of_ble_eq_true rfl) rfl (hts _ q_f_X5_56) (fun _ h9 => h9) dX5_copyFrom_90 ?_
  refine xr_putI (pc := 93) (ci := 9) (ty := .int) hx hb hts inX5 tyX5 tyX5_ok nmX5 hown hK hR hF hS rfl k0 11 (Nat.le_of_ble_eq_true rfl) rfl (hts _ q_f_X5_56) (fun _ h9 => h9) rfl rfl rfl rfl dX5_copyFrom_93 (fun H locs hR hS => ?_)
  exact xf_v (pc := 96) hx hb hr hlocks h hR hK hS dX5_copyFrom_96
set_option maxHeartbeats 1000000 in
set_option maxRecDepth 20000 in
theorem mX5_number {l : Launch} {D : va_G} {ca : Nat → ClassId} {z : Nat} {G : xG} {X : va_W} {ad av : Nat → Nat} (hF : xFix z G X) (h0 : Nat) (p1 : Int32) (k0 : xI_Pledge G h0) {μ μ1 : xM} {r : Int32} (h : fX5_number h0 p1 μ = some (r, μ1)) : xMi l yX5_number (xws yX5_number cX5_number 2 (some .int)) 0 D ca z G X ad av [.ref h0, .int p1] μ r μ1 := by
  refine xm_i (by decide) rfl (Nat.le_of_ble_eq_true rfl) [(0, .ref h0), (1, .int p1)] rfl ?_
  intro p e s m args below meth c ls hx hb hr hml hlocks hts hown hK hE hR hS hl
  have hts : ∀ w ∈ xAll, w.before args s = true := fun w hw => hts w (List.mem_cons_of_mem _ hw)
  rw [fX5_number] at h
  refine lv_iload_n (pc := 0) hx hb dX5_number_0 rfl (lv_at hl 1 rfl) ?_
  by_cases c1 : p1 = (0 : Int32)
  · have h := xpos c1 h
    refine lv_tableIn (pc := 1) (tgt := 48) hx hb dX5_number_1 (by rw [c1]; decide) (by rw [c1]; decide) (by rw [c1]; rfl) (by decide) ?_
    refine lv_aload_n (pc := 48) hx hb dX5_number_48 rfl (lv_at hl 0 rfl) ?_
    refine xr_getI (pc := 49) (ci := 9) hx hb hts inX5 hown hK hR rfl k0 0 (Nat.le_of_ble_eq_true rfl) rfl (hts _ q_f_X5_15) (fun _ h9 => h9) dX5_number_49 ?_
    exact xf_i (pc := 52) hx hb hr rfl hlocks h hR hK hS dX5_number_52
  have h := xneg c1 h
  by_cases c2 : p1 = (1 : Int32)
  · have h := xpos c2 h
    refine lv_tableIn (pc := 1) (tgt := 53) hx hb dX5_number_1 (by rw [c2]; decide) (by rw [c2]; decide) (by rw [c2]; rfl) (by decide) ?_
    refine lv_aload_n (pc := 53) hx hb dX5_number_53 rfl (lv_at hl 0 rfl) ?_
    refine xr_getI (pc := 54) (ci := 9) hx hb hts inX5 hown hK hR rfl k0 1 (Nat.le_of_ble_eq_true rfl) rfl (hts _ q_f_X5_23) (fun _ h9 => h9) dX5_number_54 ?_
    exact xf_i (pc := 57) hx hb hr rfl hlocks h hR hK hS dX5_number_57
  have h := xneg c2 h
  by_cases c3 : p1 = (2 : Int32)
  · have h := xpos c3 h
    refine lv_tableIn (pc := 1) (tgt := 58) hx hb dX5_number_1 (by rw [c3]; decide) (by rw [c3]; decide) (by rw [c3]; rfl) (by decide) ?_
    refine lv_aload_n (pc := 58) hx hb dX5_number_58 rfl (lv_at hl 0 rfl) ?_
    refine xr_getI (pc := 59) (ci := 9) hx hb hts inX5 hown hK hR rfl k0 3 (Nat.le_of_ble_eq_true rfl) rfl (hts _ q_f_X5_32) (fun _ h9 => h9) dX5_number_59 ?_
    exact xf_i (pc := 62) hx hb hr rfl hlocks h hR hK hS dX5_number_62
  have h := xneg c3 h
  by_cases c4 : p1 = (3 : Int32)
  · have h := xpos c4 h
    refine lv_tableIn (pc := 1) (tgt := 63) hx hb dX5_number_1 (by rw [c4]; decide) (by rw [c4]; decide) (by rw [c4]; rfl) (by decide) ?_
    refine lv_aload_n (pc := 63) hx hb dX5_number_63 rfl (lv_at hl 0 rfl) ?_
    refine xr_getI (pc := 64) (ci := 9) hx hb hts inX5 hown hK hR rfl k0 4 (Nat.le_of_ble_eq_true rfl) rfl (hts _ q_f_X5_35) (fun _ h9 => h9) dX5_number_64 ?_
    exact xf_i (pc := 67) hx hb hr rfl hlocks h hR hK hS dX5_number_67
  have h := xneg c4 h
  by_cases c5 : p1 = (4 : Int32)
  · have h := xpos c5 h
    refine lv_tableIn (pc := 1) (tgt := 68) hx hb dX5_number_1 (by rw [c5]; decide) (by rw [c5]; decide) (by rw [c5]; rfl) (by decide) ?_
    refine lv_aload_n (pc := 68) hx hb dX5_number_68 rfl (lv_at hl 0 rfl) ?_
    refine xr_getI (pc := 69) (ci := 9) hx hb hts inX5 hown hK hR rfl k0 5 (Nat.le_of_ble_eq_true rfl) rfl (hts _ q_f_X5_38) (fun _ h9 => h9) dX5_number_69 ?_
    exact xf_i (pc := 72) hx hb hr rfl hlocks h hR hK hS dX5_number_72
  have h := xneg c5 h
  by_cases c6 : p1 = (5 : Int32)
  · have h := xpos c6 h
    refine lv_tableIn (pc := 1) (tgt := 73) hx hb dX5_number_1 (by rw [c6]; decide) (by rw [c6]; decide) (by rw [c6]; rfl) (by decide) ?_
    refine lv_aload_n (pc := 73) hx hb dX5_number_73 rfl (lv_at hl 0 rfl) ?_
    refine xr_getI (pc := 74) (ci := 9) hx hb hts inX5 hown hK hR rfl k0 6 (Nat.le_of_ble_eq_true rfl) rfl (hts _ q_f_X5_41) (fun _ h9 => h9) dX5_number_74 ?_
    exact xf_i (pc := 77) hx hb hr rfl hlocks h hR hK hS dX5_number_77
  have h := xneg c6 h
  by_cases c7 : p1 = (6 : Int32)
  · have h := xpos c7 h
    refine lv_tableIn (pc := 1) (tgt := 78) hx hb dX5_number_1 (by rw [c7]; decide) (by rw [c7]; decide) (by rw [c7]; rfl) (by decide) ?_
    refine lv_aload_n (pc := 78) hx hb dX5_number_78 rfl (lv_at hl 0 rfl) ?_
    refine xr_getI (pc := 79) (ci := 9) hx hb hts inX5 hown hK hR rfl k0 7 (Nat.le_of_ble_eq_true rfl) rfl (hts _ q_f_X5_44) (fun _ h9 => h9) dX5_number_79 ?_
    exact xf_i (pc := 82) hx hb hr rfl hlocks h hR hK hS dX5_number_82
  have h := xneg c7 h
  by_cases c8 : p1 = (7 : Int32)
  · have h := xpos c8 h
    refine lv_tableIn (pc := 1) (tgt := 83) hx hb dX5_number_1 (by rw [c8]; decide) (by rw [c8]; decide) (by rw [c8]; rfl) (by decide) ?_
    refine lv_aload_n (pc := 83) hx hb dX5_number_83 rfl (lv_at hl 0 rfl) ?_
    refine xr_getI (pc := 84) (ci := 9) hx hb hts inX5 hown hK hR rfl k0 8 (Nat.le_of_ble_eq_true rfl) rfl (hts _ q_f_X5_47) (fun _ h9 => h9) dX5_number_84 ?_
    exact xf_i (pc := 87) hx hb hr rfl hlocks h hR hK hS dX5_number_87
  have h := xneg c8 h
  refine lv_tableOut (pc := 1) (tgt := 88) hx hb dX5_number_1 (by have z1 := xnek ti_0 c1; have z2 := xnek ti_1 c2; have z3 := xnek ti_2 c3; have z4 := xnek ti_3 c4; have z5 := xnek ti_4 c5; have z6 := xnek ti_5 c6; have z7 := xnek ti_6 c7; have z8 := xnek ti_7 c8; omega) (by decide) ?_
  refine lv_aload_n (pc := 88) hx hb dX5_number_88 rfl (lv_at hl 0 rfl) ?_
  refine xr_getI (pc := 89) (ci := 9) hx hb hts inX5 hown hK hR rfl k0 9 (Nat.le_of_ble_eq_true rfl) rfl (hts _ q_f_X5_50) (fun _ h9 => h9) dX5_number_89 ?_
  exact xf_i (pc := 92) hx hb hr rfl hlocks h hR hK hS dX5_number_92
set_option maxHeartbeats 1000000 in
set_option maxRecDepth 20000 in
theorem mX5_owed {l : Launch} {D : va_G} {ca : Nat → ClassId} {z : Nat} {G : xG} {X : va_W} {ad av : Nat → Nat} (hF : xFix z G X) (h0 : Nat) (k0 : xI_Pledge G h0) {μ μ1 : xM} {r : Int32} (h : fX5_owed h0 μ = some (r, μ1)) : xMi l yX5_owed (xws yX5_owed cX5_owed 1 (some .int)) 0 D ca z G X ad av [.ref h0] μ r μ1 := by
  refine xm_i (by decide) rfl (Nat.le_of_ble_eq_true rfl) [(0, .ref h0)] rfl ?_
  intro p e s m args below meth c ls hx hb hr hml hlocks hts hown hK hE hR hS hl
  have hts : ∀ w ∈ xAll, w.before args s = true := fun w hw => hts w (List.mem_cons_of_mem _ hw)
  rw [fX5_owed] at h
  refine lv_aload_n (pc := 0) hx hb dX5_owed_0 rfl (lv_at hl 0 rfl) ?_
  refine xr_getI (pc := 1) (ci := 9) hx hb hts inX5 hown hK hR rfl k0 3 (Nat.le_of_ble_eq_true rfl) rfl (hts _ q_f_X5_32) (fun _ h9 => h9) dX5_owed_1 ?_
  refine lv_aload_n (pc := 4) hx hb dX5_owed_4 rfl (lv_at hl 0 rfl) ?_
  refine xr_getI (pc := 5) (ci := 9) hx hb hts inX5 hown hK hR rfl k0 4 (Nat.le_of_ble_eq_true rfl) rfl (hts _ q_f_X5_35) (fun _ h9 => h9) dX5_owed_5 ?_
  refine lv_iadd (pc := 8) hx hb dX5_owed_8 ?_
  exact xf_i (pc := 9) hx hb hr rfl hlocks h hR hK hS dX5_owed_9
set_option maxHeartbeats 1000000 in
set_option maxRecDepth 20000 in
theorem mX5_weeklyInterest {l : Launch} {D : va_G} {ca : Nat → ClassId} {z : Nat} {G : xG} {X : va_W} {ad av : Nat → Nat} (hF : xFix z G X) (h0 : Nat) (k0 : xI_Pledge G h0) {μ μ1 : xM} {r : Int32} (h : fX5_weeklyInterest h0 μ = some (r, μ1)) : xMi l yX5_weeklyInterest (xws yX5_weeklyInterest cX5_weeklyInterest 1 (some .int)) 0 D ca z G X ad av [.ref h0] μ r μ1 := by
  refine xm_i (by decide) rfl (Nat.le_of_ble_eq_true rfl) [(0, .ref h0)] rfl ?_
  intro p e s m args below meth c ls hx hb hr hml hlocks hts hown hK hE hR hS hl
  have hts : ∀ w ∈ xAll, w.before args s = true := fun w hw => hts w (List.mem_cons_of_mem _ hw)
  rw [fX5_weeklyInterest] at h
  refine lv_aload_n (pc := 0) hx hb dX5_weeklyInterest_0 rfl (lv_at hl 0 rfl) ?_
  refine xr_getI (pc := 1) (ci := 9) hx hb hts inX5 hown hK hR rfl k0 3 (Nat.le_of_ble_eq_true rfl) rfl (hts _ q_f_X5_32) (fun _ h9 => h9) dX5_weeklyInterest_1 ?_
  refine lv_aload_n (pc := 4) hx hb dX5_weeklyInterest_4 rfl (lv_at hl 0 rfl) ?_
  refine xr_getI (pc := 5) (ci := 9) hx hb hts inX5 hown hK hR rfl k0 7 (Nat.le_of_ble_eq_true rfl) rfl (hts _ q_f_X5_44) (fun _ h9 => h9) dX5_weeklyInterest_5 ?_
  refine lv_imul (pc := 8) hx hb dX5_weeklyInterest_8 ?_
  refine lv_sipush (pc := 9) hx hb dX5_weeklyInterest_9 ks_999 ?_
  refine lv_iadd (pc := 12) hx hb dX5_weeklyInterest_12 ?_
  refine lv_sipush (pc := 13) hx hb dX5_weeklyInterest_13 ks_1000 ?_
  refine lv_idiv (pc := 16) hx hb dX5_weeklyInterest_16 (by decide) ?_
  exact xf_i (pc := 17) hx hb hr rfl hlocks h hR hK hS dX5_weeklyInterest_17
set_option maxHeartbeats 1000000 in
set_option maxRecDepth 20000 in
theorem mX5_isRunningIn {l : Launch} {D : va_G} {ca : Nat → ClassId} {z : Nat} {G : xG} {X : va_W} {ad av : Nat → Nat} (hF : xFix z G X) (h0 : Nat) (p1 : Int32) (k0 : xI_Pledge G h0) {μ μ1 : xM} {r : Int32} (h : fX5_isRunningIn h0 p1 μ = some (r, μ1)) : xMi l yX5_isRunningIn (xws yX5_isRunningIn cX5_isRunningIn 2 (some .boolean)) 0 D ca z G X ad av [.ref h0, .int p1] μ r μ1 := by
  refine xm_i (by decide) rfl (Nat.le_of_ble_eq_true rfl) [(0, .ref h0), (1, .int p1)] rfl ?_
  intro p e s m args below meth c ls hx hb hr hml hlocks hts hown hK hE hR hS hl
  have hts : ∀ w ∈ xAll, w.before args s = true := fun w hw => hts w (List.mem_cons_of_mem _ hw)
  rw [fX5_isRunningIn] at h
  refine lv_aload_n (pc := 0) hx hb dX5_isRunningIn_0 rfl (lv_at hl 0 rfl) ?_
  refine xr_getI (pc := 1) (ci := 9) hx hb hts inX5 hown hK hR rfl k0 5 (Nat.le_of_ble_eq_true rfl) rfl (hts _ q_f_X5_38) (fun _ h9 => h9) dX5_isRunningIn_1 ?_
  refine lv_if_ne (pc := 4) (tgt := 22) hx hb dX5_isRunningIn_4 (by decide) (fun c1 => ?_) (fun c1 => ?_)
  · have h := xneg c1 h
    refine lv_iconst (pc := 22) hx hb dX5_isRunningIn_22 kc_0 ?_
    exact xf_i (pc := 23) hx hb hr rfl hlocks h hR hK hS dX5_isRunningIn_23
  · have h := xpos c1 h
    refine lv_iload_n (pc := 7) hx hb dX5_isRunningIn_7 rfl (lv_at hl 1 rfl) ?_
    refine lv_aload_n (pc := 8) hx hb dX5_isRunningIn_8 rfl (lv_at hl 0 rfl) ?_
    refine xr_getI (pc := 9) (ci := 9) hx hb hts inX5 hown hK hR rfl k0 6 (Nat.le_of_ble_eq_true rfl) rfl (hts _ q_f_X5_41) (fun _ h9 => h9) dX5_isRunningIn_9 ?_
    refine lv_bipush (pc := 12) hx hb dX5_isRunningIn_12 kb_9 ?_
    refine lv_iadd (pc := 14) hx hb dX5_isRunningIn_14 ?_
    refine lv_icmp_ge (pc := 15) (tgt := 22) hx hb dX5_isRunningIn_15 (by decide) (fun c2 => ?_) (fun c2 => ?_)
    · have h := xpos c2 h
      refine lv_iconst (pc := 22) hx hb dX5_isRunningIn_22 kc_0 ?_
      exact xf_i (pc := 23) hx hb hr rfl hlocks h hR hK hS dX5_isRunningIn_23
    · have h := xneg c2 h
      refine lv_iconst (pc := 18) hx hb dX5_isRunningIn_18 kc_1 ?_
      refine lv_goto (pc := 19) (tgt := 23) hx hb dX5_isRunningIn_19 (by decide) ?_
      exact xf_i (pc := 23) hx hb hr rfl hlocks h hR hK hS dX5_isRunningIn_23
set_option maxHeartbeats 1000000 in
set_option maxRecDepth 20000 in
theorem mX5_costBehind {l : Launch} {D : va_G} {ca : Nat → ClassId} {z : Nat} {G : xG} {X : va_W} {ad av : Nat → Nat} (hF : xFix z G X) (h0 : Nat) (p1 : Int32) (k0 : xI_Pledge G h0) {μ μ1 : xM} {r : Int32} (h : fX5_costBehind h0 p1 μ = some (r, μ1)) : xMi l yX5_costBehind (xws yX5_costBehind cX5_costBehind 2 (some .int)) 1 D ca z G X ad av [.ref h0, .int p1] μ r μ1 := by
  refine xm_i (by decide) rfl (Nat.le_of_ble_eq_true rfl) [(0, .ref h0), (1, .int p1)] rfl ?_
  intro p e s m args below meth c ls hx hb hr hml hlocks hts hown hK hE hR hS hl
  have hts : ∀ w ∈ xAll, w.before args s = true := fun w hw => hts w (List.mem_cons_of_mem _ hw)
  rw [fX5_costBehind] at h
  refine lv_aload_n (pc := 0) hx hb dX5_costBehind_0 rfl (lv_at hl 0 rfl) ?_
  obtain ⟨r1, m1, c1, h⟩ := xb_inv h
  refine xc_iV (pc := 1) (As := []) (rest := []) ⟨hx, hb, hml, hown, hts⟩ (mX5_owed hF _ k0 c1) (xcwV 0 hts fdX5_owed q_m_X5_59 ⟨Nat.le_of_ble_eq_true rfl, Nat.le_of_ble_eq_true rfl⟩) (xRecv hK hR (ci := 9) rfl k0) hR hK hE hS rfl hl.1 rfl (Nat.le_of_ble_eq_true rfl) dX5_costBehind_1 ⟨Nat.zero_le _, Nat.zero_le _⟩ (fun H locs hR hS => ?_)
  refine lv_aload_n (pc := 4) hx hb dX5_costBehind_4 rfl (lv_at hl 0 rfl) ?_
  obtain ⟨r2, m2, c2, h⟩ := xb_inv h
  refine xc_iV (pc := 5) (As := []) (rest := [.int _]) ⟨hx, hb, hml, hown, hts⟩ (mX5_weeklyInterest hF _ k0 c2) (xcwV 0 hts fdX5_weeklyInterest q_m_X5_63 ⟨Nat.le_of_ble_eq_true rfl, Nat.le_of_ble_eq_true rfl⟩) (xRecv hK hR (ci := 9) rfl k0) hR hK hE hS rfl hl.1 rfl (Nat.le_of_ble_eq_true rfl) dX5_costBehind_5 ⟨Nat.zero_le _, Nat.zero_le _⟩ (fun H locs hR hS => ?_)
  refine lv_iload_n (pc := 8) hx hb dX5_costBehind_8 rfl (lv_at hl 1 rfl) ?_
  refine lv_imul (pc := 9) hx hb dX5_costBehind_9 ?_
  refine lv_iadd (pc := 10) hx hb dX5_costBehind_10 ?_
  exact xf_i (pc := 11) hx hb hr rfl hlocks h hR hK hS dX5_costBehind_11
set_option maxHeartbeats 1000000 in
set_option maxRecDepth 20000 in
theorem wX5_costWeekByWeek_17 {p : Program} {l : Launch} {e : Env} {s : State} {m : MethodId} {args : Array Value} {below : List Frame} {meth : Method} {c : Code} {D : va_G} {ca : Nat → ClassId} {z : Nat} {G : xG} {X : va_W} {ad av : Nat → Nat} (hF : xFix z G X) (h0 : Nat) (p1 : Int32) (p2 : Int32) (k0 : xI_Pledge G h0) (hx : p.tables.exec = Jvm.exec) (hb : c.code = cX5_costWeekByWeek) (hr : meth.sig.returnType = (some .int)) (hml : c.maxLocals = 5) (hlocks : meth.locks = false) (hts : ∀ w ∈ xAll, w.before args s = true) (hown : s.vm.findClass RX5 = some m.cls) (hK : va_K D vwCl (xT ca) s) (hE : xEv z ad av s s.heap) {μ1 : xM} {r : Int32} :
    ∀ (n : Nat) (x3 : Int32) (x4 : Int32) (μ : xM) (H : Heap) (locs : List Loc) (ls : Array Slot), lX5_costWeekByWeek_17 h0 p1 p2 n x3 x4 μ = some (r, μ1) → xRep D ca G X μ H → va_S (fun q => z ≤ q) s.heap H locs → lv_has ls 5 [(0, .ref h0), (1, .int p1), (2, .int p2), (3, .int x3), (4, .int x4)] → W p l e (xRm 1 0 0) s m args below meth c H locs 0 0 (MQ below (va_Qi (fun (r' : Int32) (_ : Unit) => r' = r) (fun _ t => xB D ca G X μ1 t) (fun q => z ≤ q)) args s 0 0 (fun q => z ≤ q)) (F0 m 17 ls []) := by
  intro n
  induction n with
  | zero => intro x3 x4 μ H locs ls h; cases h
  | succ n ih =>
    intro x3 x4 μ H locs ls h hR hS hl
    rw [lX5_costWeekByWeek_17] at h
    refine lv_iload (pc := 17) hx hb dX5_costWeekByWeek_17 (lv_at hl 4 rfl) ?_
    refine lv_iload_n (pc := 19) hx hb dX5_costWeekByWeek_19 rfl (lv_at hl 2 rfl) ?_
    refine lv_icmp_gt (pc := 20) (tgt := 52) hx hb dX5_costWeekByWeek_20 (by decide) (fun c3 => ?_) (fun c3 => ?_)
    · have h := xpos c3 h
      refine lv_iload_n (pc := 52) hx hb dX5_costWeekByWeek_52 rfl (lv_at hl 3 rfl) ?_
      exact xf_i (pc := 53) hx hb hr rfl hlocks h hR hK hS dX5_costWeekByWeek_53
    · have h := xneg c3 h
      refine lv_iload_n (pc := 23) hx hb dX5_costWeekByWeek_23 rfl (lv_at hl 3 rfl) ?_
      refine lv_aload_n (pc := 24) hx hb dX5_costWeekByWeek_24 rfl (lv_at hl 0 rfl) ?_
      obtain ⟨r4, m4, c4, h⟩ := xb_inv h
      refine xc_iV (pc := 25) (As := []) (rest := [.int _]) ⟨hx, hb, hml, hown, hts⟩ (mX5_weeklyInterest hF _ k0 c4) (xcwV 0 hts fdX5_weeklyInterest q_m_X5_63 ⟨Nat.le_of_ble_eq_true rfl, Nat.le_of_ble_eq_true rfl⟩) (xRecv hK hR (ci := 9) rfl k0) hR hK hE hS rfl hl.1 rfl (Nat.le_of_ble_eq_true rfl) dX5_costWeekByWeek_25 ⟨Nat.zero_le _, Nat.zero_le _⟩ (fun H locs hR hS => ?_)
      refine lv_iadd (pc := 28) hx hb dX5_costWeekByWeek_28 ?_
      refine lv_istore_n (pc := 29) (lv' := [(3, .int _), (0, .ref _), (1, .int _), (2, .int _), (4, .int _)]) hx hb dX5_costWeekByWeek_29 rfl hl (Nat.le_of_ble_eq_true rfl) rfl (fun ls hl => ?_)
      refine lv_iload_n (pc := 30) hx hb dX5_costWeekByWeek_30 rfl (lv_at hl 2 rfl) ?_
      refine lv_iload (pc := 31) hx hb dX5_costWeekByWeek_31 (lv_at hl 4 rfl) ?_
      refine lv_iadd (pc := 33) hx hb dX5_costWeekByWeek_33 ?_
      refine lv_aload_n (pc := 34) hx hb dX5_costWeekByWeek_34 rfl (lv_at hl 1 rfl) ?_
      refine xr_getI (pc := 35) (ci := 9) hx hb hts inX5 hown hK hR rfl k0 6 (Nat.le_of_ble_eq_true rfl) rfl (hts _ q_f_X5_41) (fun _ h9 => h9) dX5_costWeekByWeek_35 ?_
      refine lv_isub (pc := 38) hx hb dX5_costWeekByWeek_38 ?_
      refine lv_bipush (pc := 39) hx hb dX5_costWeekByWeek_39 kb_9 ?_
      refine lv_icmp_lt (pc := 41) (tgt := 46) hx hb dX5_costWeekByWeek_41 (by decide) (fun c5 => ?_) (fun c5 => ?_)
      · have h := xpos c5 h
        refine lv_iinc (pc := 46) (lv' := [(4, .int _), (3, .int _), (0, .ref _), (1, .int _), (2, .int _)]) hx hb dX5_costWeekByWeek_46 hl (k := 4) rfl (xinc kc_1) (Nat.le_of_ble_eq_true rfl) rfl (fun ls hl => ?_)
        refine lv_goto (pc := 49) (tgt := 17) hx hb dX5_costWeekByWeek_49 (by decide) ?_
        exact ih _ _ _ _ _ _ h hR hS (lv_sub hl [2, 3, 4, 1, 0] rfl)
      · have h := xneg c5 h
        refine lv_iconst (pc := 44) hx hb dX5_costWeekByWeek_44 kc_m1 ?_
        exact xf_i (pc := 45) hx hb hr rfl hlocks h hR hK hS dX5_costWeekByWeek_45
set_option maxHeartbeats 1000000 in
set_option maxRecDepth 20000 in
theorem mX5_costWeekByWeek {l : Launch} {D : va_G} {ca : Nat → ClassId} {z : Nat} {G : xG} {X : va_W} {ad av : Nat → Nat} (hF : xFix z G X) (h0 : Nat) (p1 : Int32) (p2 : Int32) (k0 : xI_Pledge G h0) {μ μ1 : xM} {r : Int32} (h : fX5_costWeekByWeek h0 p1 p2 μ = some (r, μ1)) : xMi l yX5_costWeekByWeek (xws yX5_costWeekByWeek cX5_costWeekByWeek 5 (some .int)) 1 D ca z G X ad av [.ref h0, .int p1, .int p2] μ r μ1 := by
  refine xm_i (by decide) rfl (Nat.le_of_ble_eq_true rfl) [(0, .ref h0), (1, .int p1), (2, .int p2)] rfl ?_
  intro p e s m args below meth c ls hx hb hr hml hlocks hts hown hK hE hR hS hl
  have hts : ∀ w ∈ xAll, w.before args s = true := fun w hw => hts w (List.mem_cons_of_mem _ hw)
  rw [fX5_costWeekByWeek] at h
  refine lv_aload_n (pc := 0) hx hb dX5_costWeekByWeek_0 rfl (lv_at hl 0 rfl) ?_
  refine xr_getI (pc := 1) (ci := 9) hx hb hts inX5 hown hK hR rfl k0 5 (Nat.le_of_ble_eq_true rfl) rfl (hts _ q_f_X5_38) (fun _ h9 => h9) dX5_costWeekByWeek_1 ?_
  refine lv_if_eq (pc := 4) (tgt := 9) hx hb dX5_costWeekByWeek_4 (by decide) (fun c1 => ?_) (fun c1 => ?_)
  · have h := xpos c1 h
    refine lv_aload_n (pc := 9) hx hb dX5_costWeekByWeek_9 rfl (lv_at hl 0 rfl) ?_
    obtain ⟨r2, m2, c2, h⟩ := xb_inv h
    refine xc_iV (pc := 10) (As := []) (rest := []) ⟨hx, hb, hml, hown, hts⟩ (mX5_owed hF _ k0 c2) (xcwV 0 hts fdX5_owed q_m_X5_59 ⟨Nat.le_of_ble_eq_true rfl, Nat.le_of_ble_eq_true rfl⟩) (xRecv hK hR (ci := 9) rfl k0) hR hK hE hS rfl hl.1 rfl (Nat.le_of_ble_eq_true rfl) dX5_costWeekByWeek_10 ⟨Nat.zero_le _, Nat.zero_le _⟩ (fun H locs hR hS => ?_)
    refine lv_istore_n (pc := 13) (lv' := [(3, .int _), (0, .ref _), (1, .int _), (2, .int _)]) hx hb dX5_costWeekByWeek_13 rfl hl (Nat.le_of_ble_eq_true rfl) rfl (fun ls hl => ?_)
    refine lv_iconst (pc := 14) hx hb dX5_costWeekByWeek_14 kc_1 ?_
    refine lv_istore (pc := 15) (lv' := [(4, .int _), (3, .int _), (0, .ref _), (1, .int _), (2, .int _)]) hx hb dX5_costWeekByWeek_15 hl (Nat.le_of_ble_eq_true rfl) rfl (fun ls hl => ?_)
    exact wX5_costWeekByWeek_17 hF h0 p1 p2 k0 hx hb hr hml hlocks hts hown hK hE _ _ _ _ _ _ _ h hR hS (lv_sub hl [2, 3, 4, 1, 0] rfl)
  · have h := xneg c1 h
    refine lv_iconst (pc := 7) hx hb dX5_costWeekByWeek_7 kc_m1 ?_
    exact xf_i (pc := 8) hx hb hr rfl hlocks h hR hK hS dX5_costWeekByWeek_8
set_option maxHeartbeats 1000000 in
set_option maxRecDepth 20000 in
theorem wX5_reserveBehind_7 {p : Program} {l : Launch} {e : Env} {s : State} {m : MethodId} {args : Array Value} {below : List Frame} {meth : Method} {c : Code} {D : va_G} {ca : Nat → ClassId} {z : Nat} {G : xG} {X : va_W} {ad av : Nat → Nat} (hF : xFix z G X) (h0 : Nat) (p1 : Int32) (k0 : xI_Pledge G h0) (hx : p.tables.exec = Jvm.exec) (hb : c.code = cX5_reserveBehind) (hr : meth.sig.returnType = (some .int)) (hml : c.maxLocals = 4) (hlocks : meth.locks = false) (hts : ∀ w ∈ xAll, w.before args s = true) (hown : s.vm.findClass RX5 = some m.cls) (hK : va_K D vwCl (xT ca) s) (hE : xEv z ad av s s.heap) {μ1 : xM} {r : Int32} :
    ∀ (n : Nat) (x2 : Int32) (x3 : Int32) (μ : xM) (H : Heap) (locs : List Loc) (ls : Array Slot), lX5_reserveBehind_7 h0 p1 n x2 x3 μ = some (r, μ1) → xRep D ca G X μ H → va_S (fun q => z ≤ q) s.heap H locs → lv_has ls 4 [(0, .ref h0), (1, .int p1), (2, .int x2), (3, .int x3)] → W p l e (xRm 0 0 0) s m args below meth c H locs 0 0 (MQ below (va_Qi (fun (r' : Int32) (_ : Unit) => r' = r) (fun _ t => xB D ca G X μ1 t) (fun q => z ≤ q)) args s 0 0 (fun q => z ≤ q)) (F0 m 7 ls []) := by
  intro n
  induction n with
  | zero => intro x2 x3 μ H locs ls h; cases h
  | succ n ih =>
    intro x2 x3 μ H locs ls h hR hS hl
    rw [lX5_reserveBehind_7] at h
    refine lv_iload_n (pc := 7) hx hb dX5_reserveBehind_7 rfl (lv_at hl 3 rfl) ?_
    refine lv_iload_n (pc := 8) hx hb dX5_reserveBehind_8 rfl (lv_at hl 1 rfl) ?_
    refine lv_icmp_ge (pc := 9) (tgt := 25) hx hb dX5_reserveBehind_9 (by decide) (fun c1 => ?_) (fun c1 => ?_)
    · have h := xpos c1 h
      refine lv_iload_n (pc := 25) hx hb dX5_reserveBehind_25 rfl (lv_at hl 2 rfl) ?_
      exact xf_i (pc := 26) hx hb hr rfl hlocks h hR hK hS dX5_reserveBehind_26
    · have h := xneg c1 h
      refine lv_iload_n (pc := 12) hx hb dX5_reserveBehind_12 rfl (lv_at hl 2 rfl) ?_
      refine lv_iload_n (pc := 13) hx hb dX5_reserveBehind_13 rfl (lv_at hl 2 rfl) ?_
      refine lv_bipush (pc := 14) hx hb dX5_reserveBehind_14 kb_10 ?_
      refine lv_idiv (pc := 16) hx hb dX5_reserveBehind_16 (by decide) ?_
      refine lv_isub (pc := 17) hx hb dX5_reserveBehind_17 ?_
      refine lv_istore_n (pc := 18) (lv' := [(2, .int _), (0, .ref _), (1, .int _), (3, .int _)]) hx hb dX5_reserveBehind_18 rfl hl (Nat.le_of_ble_eq_true rfl) rfl (fun ls hl => ?_)
      refine lv_iinc (pc := 19) (lv' := [(3, .int _), (2, .int _), (0, .ref _), (1, .int _)]) hx hb dX5_reserveBehind_19 hl (k := 3) rfl (xinc kc_1) (Nat.le_of_ble_eq_true rfl) rfl (fun ls hl => ?_)
      refine lv_goto (pc := 22) (tgt := 7) hx hb dX5_reserveBehind_22 (by decide) ?_
      exact ih _ _ _ _ _ _ h hR hS (lv_sub hl [2, 3, 1, 0] rfl)
set_option maxHeartbeats 1000000 in
set_option maxRecDepth 20000 in
theorem mX5_reserveBehind {l : Launch} {D : va_G} {ca : Nat → ClassId} {z : Nat} {G : xG} {X : va_W} {ad av : Nat → Nat} (hF : xFix z G X) (h0 : Nat) (p1 : Int32) (k0 : xI_Pledge G h0) {μ μ1 : xM} {r : Int32} (h : fX5_reserveBehind h0 p1 μ = some (r, μ1)) : xMi l yX5_reserveBehind (xws yX5_reserveBehind cX5_reserveBehind 4 (some .int)) 0 D ca z G X ad av [.ref h0, .int p1] μ r μ1 := by
  refine xm_i (by decide) rfl (Nat.le_of_ble_eq_true rfl) [(0, .ref h0), (1, .int p1)] rfl ?_
  intro p e s m args below meth c ls hx hb hr hml hlocks hts hown hK hE hR hS hl
  have hts : ∀ w ∈ xAll, w.before args s = true := fun w hw => hts w (List.mem_cons_of_mem _ hw)
  rw [fX5_reserveBehind] at h
  refine lv_aload_n (pc := 0) hx hb dX5_reserveBehind_0 rfl (lv_at hl 0 rfl) ?_
  refine xr_getI (pc := 1) (ci := 9) hx hb hts inX5 hown hK hR rfl k0 8 (Nat.le_of_ble_eq_true rfl) rfl (hts _ q_f_X5_47) (fun _ h9 => h9) dX5_reserveBehind_1 ?_
  refine lv_istore_n (pc := 4) (lv' := [(2, .int _), (0, .ref _), (1, .int _)]) hx hb dX5_reserveBehind_4 rfl hl (Nat.le_of_ble_eq_true rfl) rfl (fun ls hl => ?_)
  refine lv_iconst (pc := 5) hx hb dX5_reserveBehind_5 kc_0 ?_
  refine lv_istore_n (pc := 6) (lv' := [(3, .int _), (2, .int _), (0, .ref _), (1, .int _)]) hx hb dX5_reserveBehind_6 rfl hl (Nat.le_of_ble_eq_true rfl) rfl (fun ls hl => ?_)
  exact wX5_reserveBehind_7 hF h0 p1 k0 hx hb hr hml hlocks hts hown hK hE _ _ _ _ _ _ _ h hR hS (lv_sub hl [2, 3, 1, 0] rfl)
set_option maxHeartbeats 1000000 in
set_option maxRecDepth 20000 in
theorem mX5_becomesLotAtEndOf {l : Launch} {D : va_G} {ca : Nat → ClassId} {z : Nat} {G : xG} {X : va_W} {ad av : Nat → Nat} (hF : xFix z G X) (h0 : Nat) (p1 : Int32) (p2 : Int32) (k0 : xI_Pledge G h0) {μ μ1 : xM} {r : Int32} (h : fX5_becomesLotAtEndOf h0 p1 p2 μ = some (r, μ1)) : xMi l yX5_becomesLotAtEndOf (xws yX5_becomesLotAtEndOf cX5_becomesLotAtEndOf 3 (some .boolean)) 1 D ca z G X ad av [.ref h0, .int p1, .int p2] μ r μ1 := by
  refine xm_i (by decide) rfl (Nat.le_of_ble_eq_true rfl) [(0, .ref h0), (1, .int p1), (2, .int p2)] rfl ?_
  intro p e s m args below meth c ls hx hb hr hml hlocks hts hown hK hE hR hS hl
  have hts : ∀ w ∈ xAll, w.before args s = true := fun w hw => hts w (List.mem_cons_of_mem _ hw)
  rw [fX5_becomesLotAtEndOf] at h
  refine lv_aload_n (pc := 0) hx hb dX5_becomesLotAtEndOf_0 rfl (lv_at hl 0 rfl) ?_
  refine xr_getI (pc := 1) (ci := 9) hx hb hts inX5 hown hK hR rfl k0 5 (Nat.le_of_ble_eq_true rfl) rfl (hts _ q_f_X5_38) (fun _ h9 => h9) dX5_becomesLotAtEndOf_1 ?_
  refine lv_iconst (pc := 4) hx hb dX5_becomesLotAtEndOf_4 kc_1 ?_
  refine lv_icmp_ne (pc := 5) (tgt := 19) hx hb dX5_becomesLotAtEndOf_5 (by decide) (fun c1 => ?_) (fun c1 => ?_)
  · have h := xneg c1 h
    refine lv_aload_n (pc := 19) hx hb dX5_becomesLotAtEndOf_19 rfl (lv_at hl 0 rfl) ?_
    refine xr_getI (pc := 20) (ci := 9) hx hb hts inX5 hown hK hR rfl k0 5 (Nat.le_of_ble_eq_true rfl) rfl (hts _ q_f_X5_38) (fun _ h9 => h9) dX5_becomesLotAtEndOf_20 ?_
    refine lv_if_eq (pc := 23) (tgt := 28) hx hb dX5_becomesLotAtEndOf_23 (by decide) (fun c2 => ?_) (fun c2 => ?_)
    · have h := xpos c2 h
      refine lv_aload_n (pc := 28) hx hb dX5_becomesLotAtEndOf_28 rfl (lv_at hl 0 rfl) ?_
      refine lv_dup (pc := 29) hx hb dX5_becomesLotAtEndOf_29 rfl ?_
      refine xr_getI (pc := 30) (ci := 9) hx hb hts inX5 hown hK hR rfl k0 4 (Nat.le_of_ble_eq_true rfl) rfl (hts _ q_f_X5_35) (fun _ h9 => h9) dX5_becomesLotAtEndOf_30 ?_
      refine lv_aload_n (pc := 33) hx hb dX5_becomesLotAtEndOf_33 rfl (lv_at hl 0 rfl) ?_
      obtain ⟨r3, m3, c3, h⟩ := xb_inv h
      refine xc_iV (pc := 34) (As := []) (rest := [.int _, .ref _]) ⟨hx, hb, hml, hown, hts⟩ (mX5_weeklyInterest hF _ k0 c3) (xcwV 0 hts fdX5_weeklyInterest q_m_X5_63 ⟨Nat.le_of_ble_eq_true rfl, Nat.le_of_ble_eq_true rfl⟩) (xRecv hK hR (ci := 9) rfl k0) hR hK hE hS rfl hl.1 rfl (Nat.le_of_ble_eq_true rfl) dX5_becomesLotAtEndOf_34 ⟨Nat.zero_le _, Nat.zero_le _⟩ (fun H locs hR hS => ?_)
      refine lv_iadd (pc := 37) hx hb dX5_becomesLotAtEndOf_37 ?_
      refine xr_putI (pc := 38) (ci := 9) (ty := .int) hx hb hts inX5 tyX5 tyX5_ok nmX5 hown hK hR hF hS rfl k0 4 (Nat.le_of_ble_eq_true rfl) rfl (hts _ q_f_X5_35) (fun _ h9 => h9) rfl rfl rfl rfl dX5_becomesLotAtEndOf_38 (fun H locs hR hS => ?_)
      refine lv_aload_n (pc := 41) hx hb dX5_becomesLotAtEndOf_41 rfl (lv_at hl 0 rfl) ?_
      refine lv_iload_n (pc := 42) hx hb dX5_becomesLotAtEndOf_42 rfl (lv_at hl 1 rfl) ?_
      obtain ⟨r4, m4, c4, h⟩ := xb_inv h
      refine xc_iV (pc := 43) (As := [.int _]) (rest := []) ⟨hx, hb, hml, hown, hts⟩ (mX5_isRunningIn hF _ _ k0 c4) (xcwV 1 hts fdX5_isRunningIn q_m_X5_70 ⟨Nat.le_of_ble_eq_true rfl, Nat.le_of_ble_eq_true rfl⟩) (xRecv hK hR (ci := 9) rfl k0) hR hK hE hS rfl hl.1 rfl (Nat.le_of_ble_eq_true rfl) dX5_becomesLotAtEndOf_43 ⟨Nat.zero_le _, Nat.zero_le _⟩ (fun H locs hR hS => ?_)
      refine lv_if_eq (pc := 46) (tgt := 51) hx hb dX5_becomesLotAtEndOf_46 (by decide) (fun c5 => ?_) (fun c5 => ?_)
      · have h := xpos c5 h
        refine lv_aload_n (pc := 51) hx hb dX5_becomesLotAtEndOf_51 rfl (lv_at hl 0 rfl) ?_
        refine lv_iconst (pc := 52) hx hb dX5_becomesLotAtEndOf_52 kc_1 ?_
        refine xr_putI (pc := 53) (ci := 9) (ty := .int) hx hb hts inX5 tyX5 tyX5_ok nmX5 hown hK hR hF hS rfl k0 5 (Nat.le_of_ble_eq_true rfl) rfl (hts _ q_f_X5_38) (fun _ h9 => h9) rfl rfl rfl rfl dX5_becomesLotAtEndOf_53 (fun H locs hR hS => ?_)
        refine lv_aload_n (pc := 56) hx hb dX5_becomesLotAtEndOf_56 rfl (lv_at hl 0 rfl) ?_
        refine lv_aload_n (pc := 57) hx hb dX5_becomesLotAtEndOf_57 rfl (lv_at hl 0 rfl) ?_
        obtain ⟨r6, m6, c6, h⟩ := xb_inv h
        refine xc_iV (pc := 58) (As := []) (rest := [.ref _]) ⟨hx, hb, hml, hown, hts⟩ (mX5_owed hF _ k0 c6) (xcwV 0 hts fdX5_owed q_m_X5_59 ⟨Nat.le_of_ble_eq_true rfl, Nat.le_of_ble_eq_true rfl⟩) (xRecv hK hR (ci := 9) rfl k0) hR hK hE hS rfl hl.1 rfl (Nat.le_of_ble_eq_true rfl) dX5_becomesLotAtEndOf_58 ⟨Nat.zero_le _, Nat.zero_le _⟩ (fun H locs hR hS => ?_)
        refine lv_iload_n (pc := 61) hx hb dX5_becomesLotAtEndOf_61 rfl (lv_at hl 2 rfl) ?_
        refine lv_iadd (pc := 62) hx hb dX5_becomesLotAtEndOf_62 ?_
        refine xr_putI (pc := 63) (ci := 9) (ty := .int) hx hb hts inX5 tyX5 tyX5_ok nmX5 hown hK hR hF hS rfl k0 10 (Nat.le_of_ble_eq_true rfl) rfl (hts _ q_f_X5_53) (fun _ h9 => h9) rfl rfl rfl rfl dX5_becomesLotAtEndOf_63 (fun H locs hR hS => ?_)
        refine lv_aload_n (pc := 66) hx hb dX5_becomesLotAtEndOf_66 rfl (lv_at hl 0 rfl) ?_
        refine lv_aload_n (pc := 67) hx hb dX5_becomesLotAtEndOf_67 rfl (lv_at hl 0 rfl) ?_
        refine xr_getI (pc := 68) (ci := 9) hx hb hts inX5 hown hK hR rfl k0 10 (Nat.le_of_ble_eq_true rfl) rfl (hts _ q_f_X5_53) (fun _ h9 => h9) dX5_becomesLotAtEndOf_68 ?_
        refine xr_putI (pc := 71) (ci := 9) (ty := .int) hx hb hts inX5 tyX5 tyX5_ok nmX5 hown hK hR hF hS rfl k0 8 (Nat.le_of_ble_eq_true rfl) rfl (hts _ q_f_X5_47) (fun _ h9 => h9) rfl rfl rfl rfl dX5_becomesLotAtEndOf_71 (fun H locs hR hS => ?_)
        refine lv_iconst (pc := 74) hx hb dX5_becomesLotAtEndOf_74 kc_1 ?_
        exact xf_i (pc := 75) hx hb hr rfl hlocks h hR hK hS dX5_becomesLotAtEndOf_75
      · have h := xneg c5 h
        refine lv_iconst (pc := 49) hx hb dX5_becomesLotAtEndOf_49 kc_0 ?_
        exact xf_i (pc := 50) hx hb hr rfl hlocks h hR hK hS dX5_becomesLotAtEndOf_50
    · have h := xneg c2 h
      refine lv_iconst (pc := 26) hx hb dX5_becomesLotAtEndOf_26 kc_0 ?_
      exact xf_i (pc := 27) hx hb hr rfl hlocks h hR hK hS dX5_becomesLotAtEndOf_27
  · have h := xpos c1 h
    refine lv_aload_n (pc := 8) hx hb dX5_becomesLotAtEndOf_8 rfl (lv_at hl 0 rfl) ?_
    refine lv_aload_n (pc := 9) hx hb dX5_becomesLotAtEndOf_9 rfl (lv_at hl 0 rfl) ?_
    refine lv_iconst (pc := 10) hx hb dX5_becomesLotAtEndOf_10 kc_1 ?_
    obtain ⟨r7, m7, c7, h⟩ := xb_inv h
    refine xc_iV (pc := 11) (As := [.int _]) (rest := [.ref _]) ⟨hx, hb, hml, hown, hts⟩ (mX5_reserveBehind hF _ _ k0 c7) (xcwV 1 hts fdX5_reserveBehind q_m_X5_66 ⟨Nat.le_of_ble_eq_true rfl, Nat.le_of_ble_eq_true rfl⟩) (xRecv hK hR (ci := 9) rfl k0) hR hK hE hS rfl hl.1 rfl (Nat.le_of_ble_eq_true rfl) dX5_becomesLotAtEndOf_11 ⟨Nat.zero_le _, Nat.zero_le _⟩ (fun H locs hR hS => ?_)
    refine xr_putI (pc := 14) (ci := 9) (ty := .int) hx hb hts inX5 tyX5 tyX5_ok nmX5 hown hK hR hF hS rfl k0 8 (Nat.le_of_ble_eq_true rfl) rfl (hts _ q_f_X5_47) (fun _ h9 => h9) rfl rfl rfl rfl dX5_becomesLotAtEndOf_14 (fun H locs hR hS => ?_)
    refine lv_iconst (pc := 17) hx hb dX5_becomesLotAtEndOf_17 kc_0 ?_
    exact xf_i (pc := 18) hx hb hr rfl hlocks h hR hK hS dX5_becomesLotAtEndOf_18
set_option maxHeartbeats 1000000 in
set_option maxRecDepth 20000 in
theorem mX5_payBack {l : Launch} {D : va_G} {ca : Nat → ClassId} {z : Nat} {G : xG} {X : va_W} {ad av : Nat → Nat} (hF : xFix z G X) (h0 : Nat) (p1 : Int32) (k0 : xI_Pledge G h0) {μ μ1 : xM} {r : Int32} (h : fX5_payBack h0 p1 μ = some (r, μ1)) : xMi l yX5_payBack (xws yX5_payBack cX5_payBack 3 (some .int)) 1 D ca z G X ad av [.ref h0, .int p1] μ r μ1 := by
  refine xm_i (by decide) rfl (Nat.le_of_ble_eq_true rfl) [(0, .ref h0), (1, .int p1)] rfl ?_
  intro p e s m args below meth c ls hx hb hr hml hlocks hts hown hK hE hR hS hl
  have hts : ∀ w ∈ xAll, w.before args s = true := fun w hw => hts w (List.mem_cons_of_mem _ hw)
  rw [fX5_payBack] at h
  refine lv_iload_n (pc := 0) hx hb dX5_payBack_0 rfl (lv_at hl 1 rfl) ?_
  refine lv_aload_n (pc := 1) hx hb dX5_payBack_1 rfl (lv_at hl 0 rfl) ?_
  refine xr_getI (pc := 2) (ci := 9) hx hb hts inX5 hown hK hR rfl k0 4 (Nat.le_of_ble_eq_true rfl) rfl (hts _ q_f_X5_35) (fun _ h9 => h9) dX5_payBack_2 ?_
  refine lv_icmp_ge (pc := 5) (tgt := 12) hx hb dX5_payBack_5 (by decide) (fun c1 => ?_) (fun c1 => ?_)
  · have h := xpos c1 h
    refine lv_aload_n (pc := 12) hx hb dX5_payBack_12 rfl (lv_at hl 0 rfl) ?_
    refine xr_getI (pc := 13) (ci := 9) hx hb hts inX5 hown hK hR rfl k0 4 (Nat.le_of_ble_eq_true rfl) rfl (hts _ q_f_X5_35) (fun _ h9 => h9) dX5_payBack_13 ?_
    refine lv_istore_n (pc := 16) (lv' := [(2, .int _), (0, .ref _), (1, .int _)]) hx hb dX5_payBack_16 rfl hl (Nat.le_of_ble_eq_true rfl) rfl (fun ls hl => ?_)
    refine lv_aload_n (pc := 17) hx hb dX5_payBack_17 rfl (lv_at hl 1 rfl) ?_
    refine lv_dup (pc := 18) hx hb dX5_payBack_18 rfl ?_
    refine xr_getI (pc := 19) (ci := 9) hx hb hts inX5 hown hK hR rfl k0 4 (Nat.le_of_ble_eq_true rfl) rfl (hts _ q_f_X5_35) (fun _ h9 => h9) dX5_payBack_19 ?_
    refine lv_iload_n (pc := 22) hx hb dX5_payBack_22 rfl (lv_at hl 0 rfl) ?_
    refine lv_isub (pc := 23) hx hb dX5_payBack_23 ?_
    refine xr_putI (pc := 24) (ci := 9) (ty := .int) hx hb hts inX5 tyX5 tyX5_ok nmX5 hown hK hR hF hS rfl k0 4 (Nat.le_of_ble_eq_true rfl) rfl (hts _ q_f_X5_35) (fun _ h9 => h9) rfl rfl rfl rfl dX5_payBack_24 (fun H locs hR hS => ?_)
    refine lv_aload_n (pc := 27) hx hb dX5_payBack_27 rfl (lv_at hl 1 rfl) ?_
    refine lv_dup (pc := 28) hx hb dX5_payBack_28 rfl ?_
    refine xr_getI (pc := 29) (ci := 9) hx hb hts inX5 hown hK hR rfl k0 3 (Nat.le_of_ble_eq_true rfl) rfl (hts _ q_f_X5_32) (fun _ h9 => h9) dX5_payBack_29 ?_
    refine lv_iload_n (pc := 32) hx hb dX5_payBack_32 rfl (lv_at hl 2 rfl) ?_
    refine lv_iload_n (pc := 33) hx hb dX5_payBack_33 rfl (lv_at hl 0 rfl) ?_
    refine lv_isub (pc := 34) hx hb dX5_payBack_34 ?_
    refine lv_isub (pc := 35) hx hb dX5_payBack_35 ?_
    refine xr_putI (pc := 36) (ci := 9) (ty := .int) hx hb hts inX5 tyX5 tyX5_ok nmX5 hown hK hR hF hS rfl k0 3 (Nat.le_of_ble_eq_true rfl) rfl (hts _ q_f_X5_32) (fun _ h9 => h9) rfl rfl rfl rfl dX5_payBack_36 (fun H locs hR hS => ?_)
    refine lv_aload_n (pc := 39) hx hb dX5_payBack_39 rfl (lv_at hl 1 rfl) ?_
    refine lv_dup (pc := 40) hx hb dX5_payBack_40 rfl ?_
    refine xr_getI (pc := 41) (ci := 9) hx hb hts inX5 hown hK hR rfl k0 9 (Nat.le_of_ble_eq_true rfl) rfl (hts _ q_f_X5_50) (fun _ h9 => h9) dX5_payBack_41 ?_
    refine lv_iload_n (pc := 44) hx hb dX5_payBack_44 rfl (lv_at hl 2 rfl) ?_
    refine lv_iadd (pc := 45) hx hb dX5_payBack_45 ?_
    refine xr_putI (pc := 46) (ci := 9) (ty := .int) hx hb hts inX5 tyX5 tyX5_ok nmX5 hown hK hR hF hS rfl k0 9 (Nat.le_of_ble_eq_true rfl) rfl (hts _ q_f_X5_50) (fun _ h9 => h9) rfl rfl rfl rfl dX5_payBack_46 (fun H locs hR hS => ?_)
    refine lv_aload_n (pc := 49) hx hb dX5_payBack_49 rfl (lv_at hl 1 rfl) ?_
    obtain ⟨r2, m2, c2, h⟩ := xb_inv h
    refine xc_iV (pc := 50) (As := []) (rest := []) ⟨hx, hb, hml, hown, hts⟩ (mX5_owed hF _ k0 c2) (xcwV 0 hts fdX5_owed q_m_X5_59 ⟨Nat.le_of_ble_eq_true rfl, Nat.le_of_ble_eq_true rfl⟩) (xRecv hK hR (ci := 9) rfl k0) hR hK hE hS rfl hl.1 rfl (Nat.le_of_ble_eq_true rfl) dX5_payBack_50 ⟨Nat.zero_le _, Nat.zero_le _⟩ (fun H locs hR hS => ?_)
    exact xf_i (pc := 53) hx hb hr rfl hlocks h hR hK hS dX5_payBack_53
  · have h := xneg c1 h
    refine lv_iload_n (pc := 8) hx hb dX5_payBack_8 rfl (lv_at hl 1 rfl) ?_
    refine lv_goto (pc := 9) (tgt := 16) hx hb dX5_payBack_9 (by decide) ?_
    refine lv_istore_n (pc := 16) (lv' := [(2, .int _), (0, .ref _), (1, .int _)]) hx hb dX5_payBack_16 rfl hl (Nat.le_of_ble_eq_true rfl) rfl (fun ls hl => ?_)
    refine lv_aload_n (pc := 17) hx hb dX5_payBack_17 rfl (lv_at hl 1 rfl) ?_
    refine lv_dup (pc := 18) hx hb dX5_payBack_18 rfl ?_
    refine xr_getI (pc := 19) (ci := 9) hx hb hts inX5 hown hK hR rfl k0 4 (Nat.le_of_ble_eq_true rfl) rfl (hts _ q_f_X5_35) (fun _ h9 => h9) dX5_payBack_19 ?_
    refine lv_iload_n (pc := 22) hx hb dX5_payBack_22 rfl (lv_at hl 0 rfl) ?_
    refine lv_isub (pc := 23) hx hb dX5_payBack_23 ?_
    refine xr_putI (pc := 24) (ci := 9) (ty := .int) hx hb hts inX5 tyX5 tyX5_ok nmX5 hown hK hR hF hS rfl k0 4 (Nat.le_of_ble_eq_true rfl) rfl (hts _ q_f_X5_35) (fun _ h9 => h9) rfl rfl rfl rfl dX5_payBack_24 (fun H locs hR hS => ?_)
    refine lv_aload_n (pc := 27) hx hb dX5_payBack_27 rfl (lv_at hl 1 rfl) ?_
    refine lv_dup (pc := 28) hx hb dX5_payBack_28 rfl ?_
    refine xr_getI (pc := 29) (ci := 9) hx hb hts inX5 hown hK hR rfl k0 3 (Nat.le_of_ble_eq_true rfl) rfl (hts _ q_f_X5_32) (fun _ h9 => h9) dX5_payBack_29 ?_
    refine lv_iload_n (pc := 32) hx hb dX5_payBack_32 rfl (lv_at hl 2 rfl) ?_
    refine lv_iload_n (pc := 33) hx hb dX5_payBack_33 rfl (lv_at hl 0 rfl) ?_
    refine lv_isub (pc := 34) hx hb dX5_payBack_34 ?_
    refine lv_isub (pc := 35) hx hb dX5_payBack_35 ?_
    refine xr_putI (pc := 36) (ci := 9) (ty := .int) hx hb hts inX5 tyX5 tyX5_ok nmX5 hown hK hR hF hS rfl k0 3 (Nat.le_of_ble_eq_true rfl) rfl (hts _ q_f_X5_32) (fun _ h9 => h9) rfl rfl rfl rfl dX5_payBack_36 (fun H locs hR hS => ?_)
    refine lv_aload_n (pc := 39) hx hb dX5_payBack_39 rfl (lv_at hl 1 rfl) ?_
    refine lv_dup (pc := 40) hx hb dX5_payBack_40 rfl ?_
    refine xr_getI (pc := 41) (ci := 9) hx hb hts inX5 hown hK hR rfl k0 9 (Nat.le_of_ble_eq_true rfl) rfl (hts _ q_f_X5_50) (fun _ h9 => h9) dX5_payBack_41 ?_
    refine lv_iload_n (pc := 44) hx hb dX5_payBack_44 rfl (lv_at hl 2 rfl) ?_
    refine lv_iadd (pc := 45) hx hb dX5_payBack_45 ?_
    refine xr_putI (pc := 46) (ci := 9) (ty := .int) hx hb hts inX5 tyX5 tyX5_ok nmX5 hown hK hR hF hS rfl k0 9 (Nat.le_of_ble_eq_true rfl) rfl (hts _ q_f_X5_50) (fun _ h9 => h9) rfl rfl rfl rfl dX5_payBack_46 (fun H locs hR hS => ?_)
    refine lv_aload_n (pc := 49) hx hb dX5_payBack_49 rfl (lv_at hl 1 rfl) ?_
    obtain ⟨r3, m3, c3, h⟩ := xb_inv h
    refine xc_iV (pc := 50) (As := []) (rest := []) ⟨hx, hb, hml, hown, hts⟩ (mX5_owed hF _ k0 c3) (xcwV 0 hts fdX5_owed q_m_X5_59 ⟨Nat.le_of_ble_eq_true rfl, Nat.le_of_ble_eq_true rfl⟩) (xRecv hK hR (ci := 9) rfl k0) hR hK hE hS rfl hl.1 rfl (Nat.le_of_ble_eq_true rfl) dX5_payBack_50 ⟨Nat.zero_le _, Nat.zero_le _⟩ (fun H locs hR hS => ?_)
    exact xf_i (pc := 53) hx hb hr rfl hlocks h hR hK hS dX5_payBack_53
set_option maxHeartbeats 1000000 in
set_option maxRecDepth 20000 in
theorem mX5_sellFor {l : Launch} {D : va_G} {ca : Nat → ClassId} {z : Nat} {G : xG} {X : va_W} {ad av : Nat → Nat} (hF : xFix z G X) (h0 : Nat) (p1 : Int32) (k0 : xI_Pledge G h0) {μ μ1 : xM} {r : Int32} (h : fX5_sellFor h0 p1 μ = some (r, μ1)) : xMi l yX5_sellFor (xws yX5_sellFor cX5_sellFor 2 (some .int)) 0 D ca z G X ad av [.ref h0, .int p1] μ r μ1 := by
  refine xm_i (by decide) rfl (Nat.le_of_ble_eq_true rfl) [(0, .ref h0), (1, .int p1)] rfl ?_
  intro p e s m args below meth c ls hx hb hr hml hlocks hts hown hK hE hR hS hl
  have hts : ∀ w ∈ xAll, w.before args s = true := fun w hw => hts w (List.mem_cons_of_mem _ hw)
  rw [fX5_sellFor] at h
  refine lv_aload_n (pc := 0) hx hb dX5_sellFor_0 rfl (lv_at hl 0 rfl) ?_
  refine lv_iconst (pc := 1) hx hb dX5_sellFor_1 kc_3 ?_
  refine xr_putI (pc := 2) (ci := 9) (ty := .int) hx hb hts inX5 tyX5 tyX5_ok nmX5 hown hK hR hF hS rfl k0 5 (Nat.le_of_ble_eq_true rfl) rfl (hts _ q_f_X5_38) (fun _ h9 => h9) rfl rfl rfl rfl dX5_sellFor_2 (fun H locs hR hS => ?_)
  refine lv_aload_n (pc := 5) hx hb dX5_sellFor_5 rfl (lv_at hl 0 rfl) ?_
  refine lv_iconst (pc := 6) hx hb dX5_sellFor_6 kc_0 ?_
  refine xr_putI (pc := 7) (ci := 9) (ty := .int) hx hb hts inX5 tyX5 tyX5_ok nmX5 hown hK hR hF hS rfl k0 8 (Nat.le_of_ble_eq_true rfl) rfl (hts _ q_f_X5_47) (fun _ h9 => h9) rfl rfl rfl rfl dX5_sellFor_7 (fun H locs hR hS => ?_)
  refine lv_aload_n (pc := 10) hx hb dX5_sellFor_10 rfl (lv_at hl 0 rfl) ?_
  refine lv_iload_n (pc := 11) hx hb dX5_sellFor_11 rfl (lv_at hl 1 rfl) ?_
  refine xr_putI (pc := 12) (ci := 9) (ty := .int) hx hb hts inX5 tyX5 tyX5_ok nmX5 hown hK hR hF hS rfl k0 11 (Nat.le_of_ble_eq_true rfl) rfl (hts _ q_f_X5_56) (fun _ h9 => h9) rfl rfl rfl rfl dX5_sellFor_12 (fun H locs hR hS => ?_)
  refine lv_iload_n (pc := 15) hx hb dX5_sellFor_15 rfl (lv_at hl 1 rfl) ?_
  refine lv_aload_n (pc := 16) hx hb dX5_sellFor_16 rfl (lv_at hl 0 rfl) ?_
  refine xr_getI (pc := 17) (ci := 9) hx hb hts inX5 hown hK hR rfl k0 10 (Nat.le_of_ble_eq_true rfl) rfl (hts _ q_f_X5_53) (fun _ h9 => h9) dX5_sellFor_17 ?_
  refine lv_icmp_le (pc := 20) (tgt := 32) hx hb dX5_sellFor_20 (by decide) (fun c1 => ?_) (fun c1 => ?_)
  · have h := xpos c1 h
    refine lv_iconst (pc := 32) hx hb dX5_sellFor_32 kc_0 ?_
    exact xf_i (pc := 33) hx hb hr rfl hlocks h hR hK hS dX5_sellFor_33
  · have h := xneg c1 h
    refine lv_iload_n (pc := 23) hx hb dX5_sellFor_23 rfl (lv_at hl 1 rfl) ?_
    refine lv_aload_n (pc := 24) hx hb dX5_sellFor_24 rfl (lv_at hl 0 rfl) ?_
    refine xr_getI (pc := 25) (ci := 9) hx hb hts inX5 hown hK hR rfl k0 10 (Nat.le_of_ble_eq_true rfl) rfl (hts _ q_f_X5_53) (fun _ h9 => h9) dX5_sellFor_25 ?_
    refine lv_isub (pc := 28) hx hb dX5_sellFor_28 ?_
    refine lv_goto (pc := 29) (tgt := 33) hx hb dX5_sellFor_29 (by decide) ?_
    exact xf_i (pc := 33) hx hb hr rfl hlocks h hR hK hS dX5_sellFor_33
set_option maxHeartbeats 1000000 in
set_option maxRecDepth 20000 in
theorem mX5_loss {l : Launch} {D : va_G} {ca : Nat → ClassId} {z : Nat} {G : xG} {X : va_W} {ad av : Nat → Nat} (hF : xFix z G X) (h0 : Nat) (k0 : xI_Pledge G h0) {μ μ1 : xM} {r : Int32} (h : fX5_loss h0 μ = some (r, μ1)) : xMi l yX5_loss (xws yX5_loss cX5_loss 1 (some .int)) 0 D ca z G X ad av [.ref h0] μ r μ1 := by
  refine xm_i (by decide) rfl (Nat.le_of_ble_eq_true rfl) [(0, .ref h0)] rfl ?_
  intro p e s m args below meth c ls hx hb hr hml hlocks hts hown hK hE hR hS hl
  have hts : ∀ w ∈ xAll, w.before args s = true := fun w hw => hts w (List.mem_cons_of_mem _ hw)
  rw [fX5_loss] at h
  refine lv_aload_n (pc := 0) hx hb dX5_loss_0 rfl (lv_at hl 0 rfl) ?_
  refine xr_getI (pc := 1) (ci := 9) hx hb hts inX5 hown hK hR rfl k0 5 (Nat.le_of_ble_eq_true rfl) rfl (hts _ q_f_X5_38) (fun _ h9 => h9) dX5_loss_1 ?_
  refine lv_iconst (pc := 4) hx hb dX5_loss_4 kc_3 ?_
  refine lv_icmp_ne (pc := 5) (tgt := 31) hx hb dX5_loss_5 (by decide) (fun c1 => ?_) (fun c1 => ?_)
  · have h := xneg c1 h
    refine lv_iconst (pc := 31) hx hb dX5_loss_31 kc_0 ?_
    exact xf_i (pc := 32) hx hb hr rfl hlocks h hR hK hS dX5_loss_32
  · have h := xpos c1 h
    refine lv_aload_n (pc := 8) hx hb dX5_loss_8 rfl (lv_at hl 0 rfl) ?_
    refine xr_getI (pc := 9) (ci := 9) hx hb hts inX5 hown hK hR rfl k0 11 (Nat.le_of_ble_eq_true rfl) rfl (hts _ q_f_X5_56) (fun _ h9 => h9) dX5_loss_9 ?_
    refine lv_aload_n (pc := 12) hx hb dX5_loss_12 rfl (lv_at hl 0 rfl) ?_
    refine xr_getI (pc := 13) (ci := 9) hx hb hts inX5 hown hK hR rfl k0 10 (Nat.le_of_ble_eq_true rfl) rfl (hts _ q_f_X5_53) (fun _ h9 => h9) dX5_loss_13 ?_
    refine lv_icmp_ge (pc := 16) (tgt := 31) hx hb dX5_loss_16 (by decide) (fun c2 => ?_) (fun c2 => ?_)
    · have h := xpos c2 h
      refine lv_iconst (pc := 31) hx hb dX5_loss_31 kc_0 ?_
      exact xf_i (pc := 32) hx hb hr rfl hlocks h hR hK hS dX5_loss_32
    · have h := xneg c2 h
      refine lv_aload_n (pc := 19) hx hb dX5_loss_19 rfl (lv_at hl 0 rfl) ?_
      refine xr_getI (pc := 20) (ci := 9) hx hb hts inX5 hown hK hR rfl k0 10 (Nat.le_of_ble_eq_true rfl) rfl (hts _ q_f_X5_53) (fun _ h9 => h9) dX5_loss_20 ?_
      refine lv_aload_n (pc := 23) hx hb dX5_loss_23 rfl (lv_at hl 0 rfl) ?_
      refine xr_getI (pc := 24) (ci := 9) hx hb hts inX5 hown hK hR rfl k0 11 (Nat.le_of_ble_eq_true rfl) rfl (hts _ q_f_X5_56) (fun _ h9 => h9) dX5_loss_24 ?_
      refine lv_isub (pc := 27) hx hb dX5_loss_27 ?_
      refine lv_goto (pc := 28) (tgt := 32) hx hb dX5_loss_28 (by decide) ?_
      exact xf_i (pc := 32) hx hb hr rfl hlocks h hR hK hS dX5_loss_32
set_option maxHeartbeats 1000000 in
set_option maxRecDepth 20000 in
theorem mX5_letter {l : Launch} {D : va_G} {ca : Nat → ClassId} {z : Nat} {G : xG} {X : va_W} {ad av : Nat → Nat} (hF : xFix z G X) (h0 : Nat) (k0 : xI_Pledge G h0) {μ μ1 : xM} {r : Int32} (h : fX5_letter h0 μ = some (r, μ1)) : xMi l yX5_letter (xws yX5_letter cX5_letter 1 (some .char)) 0 D ca z G X ad av [.ref h0] μ r μ1 := by
  refine xm_i (by decide) rfl (Nat.le_of_ble_eq_true rfl) [(0, .ref h0)] rfl ?_
  intro p e s m args below meth c ls hx hb hr hml hlocks hts hown hK hE hR hS hl
  have hts : ∀ w ∈ xAll, w.before args s = true := fun w hw => hts w (List.mem_cons_of_mem _ hw)
  rw [fX5_letter] at h
  refine lv_aload_n (pc := 0) hx hb dX5_letter_0 rfl (lv_at hl 0 rfl) ?_
  refine xr_getI (pc := 1) (ci := 9) hx hb hts inX5 hown hK hR rfl k0 5 (Nat.le_of_ble_eq_true rfl) rfl (hts _ q_f_X5_38) (fun _ h9 => h9) dX5_letter_1 ?_
  by_cases c1 : (μ h0 5) = (0 : Int32)
  · have h := xpos c1 h
    refine lv_tableIn (pc := 4) (tgt := 32) hx hb dX5_letter_4 (by rw [c1]; decide) (by rw [c1]; decide) (by rw [c1]; rfl) (by decide) ?_
    refine lv_bipush (pc := 32) hx hb dX5_letter_32 kb_112 ?_
    exact xf_i (pc := 34) hx hb hr rfl hlocks h hR hK hS dX5_letter_34
  have h := xneg c1 h
  by_cases c2 : (μ h0 5) = (1 : Int32)
  · have h := xpos c2 h
    refine lv_tableIn (pc := 4) (tgt := 35) hx hb dX5_letter_4 (by rw [c2]; decide) (by rw [c2]; decide) (by rw [c2]; rfl) (by decide) ?_
    refine lv_bipush (pc := 35) hx hb dX5_letter_35 kb_108 ?_
    exact xf_i (pc := 37) hx hb hr rfl hlocks h hR hK hS dX5_letter_37
  have h := xneg c2 h
  by_cases c3 : (μ h0 5) = (2 : Int32)
  · have h := xpos c3 h
    refine lv_tableIn (pc := 4) (tgt := 38) hx hb dX5_letter_4 (by rw [c3]; decide) (by rw [c3]; decide) (by rw [c3]; rfl) (by decide) ?_
    refine lv_bipush (pc := 38) hx hb dX5_letter_38 kb_114 ?_
    exact xf_i (pc := 40) hx hb hr rfl hlocks h hR hK hS dX5_letter_40
  have h := xneg c3 h
  refine lv_tableOut (pc := 4) (tgt := 41) hx hb dX5_letter_4 (by have z1 := xnek ti_0 c1; have z2 := xnek ti_1 c2; have z3 := xnek ti_2 c3; omega) (by decide) ?_
  refine lv_bipush (pc := 41) hx hb dX5_letter_41 kb_115 ?_
  exact xf_i (pc := 43) hx hb hr rfl hlocks h hR hK hS dX5_letter_43
set_option maxHeartbeats 1000000 in
set_option maxRecDepth 20000 in
theorem mX6_keep {l : Launch} {D : va_G} {ca : Nat → ClassId} {z : Nat} {G : xG} {X : va_W} {ad av : Nat → Nat} (hF : xFix z G X) (h0 : Nat) (p1 : Int32) (p2 : Int32) (k0 : xI_Refusal G h0) {μ μ1 : xM} (h : fX6_keep h0 p1 p2 μ = some μ1) : xMv l yX6_keep (xws yX6_keep cX6_keep 3 none) 0 D ca z G X ad av [.ref h0, .int p1, .int p2] μ μ1 := by
  refine xm_v (by decide) rfl (Nat.le_of_ble_eq_true rfl) [(0, .ref h0), (1, .int p1), (2, .int p2)] rfl ?_
  intro p e s m args below meth c ls hx hb hr hml hlocks hts hown hK hE hR hS hl
  have hts : ∀ w ∈ xAll, w.before args s = true := fun w hw => hts w (List.mem_cons_of_mem _ hw)
  rw [fX6_keep] at h
  refine lv_aload_n (pc := 0) hx hb dX6_keep_0 rfl (lv_at hl 0 rfl) ?_
  refine lv_iload_n (pc := 1) hx hb dX6_keep_1 rfl (lv_at hl 1 rfl) ?_
  refine xr_putI (pc := 2) (ci := 10) (ty := .int) hx hb hts inX6 tyX6 tyX6_ok nmX6 hown hK hR hF hS rfl k0 0 (Nat.le_of_ble_eq_true rfl) rfl (hts _ q_f_X6_7) (fun _ h9 => h9) rfl rfl rfl rfl dX6_keep_2 (fun H locs hR hS => ?_)
  refine lv_aload_n (pc := 5) hx hb dX6_keep_5 rfl (lv_at hl 0 rfl) ?_
  refine lv_iload_n (pc := 6) hx hb dX6_keep_6 rfl (lv_at hl 2 rfl) ?_
  refine xr_putI (pc := 7) (ci := 10) (ty := .int) hx hb hts inX6 tyX6 tyX6_ok nmX6 hown hK hR hF hS rfl k0 1 (Nat.le_of_ble_eq_true rfl) rfl (hts _ q_f_X6_13) (fun _ h9 => h9) rfl rfl rfl rfl dX6_keep_7 (fun H locs hR hS => ?_)
  exact xf_v (pc := 10) hx hb hr hlocks h hR hK hS dX6_keep_10
set_option maxHeartbeats 1000000 in
set_option maxRecDepth 20000 in
theorem mX6_keepCause {l : Launch} {D : va_G} {ca : Nat → ClassId} {z : Nat} {G : xG} {X : va_W} {ad av : Nat → Nat} (hF : xFix z G X) (h0 : Nat) (p1 : Int32) (p2 : Int32) (k0 : xI_Refusal G h0) {μ μ1 : xM} (h : fX6_keepCause h0 p1 p2 μ = some μ1) : xMv l yX6_keepCause (xws yX6_keepCause cX6_keepCause 3 none) 0 D ca z G X ad av [.ref h0, .int p1, .int p2] μ μ1 := by
  refine xm_v (by decide) rfl (Nat.le_of_ble_eq_true rfl) [(0, .ref h0), (1, .int p1), (2, .int p2)] rfl ?_
  intro p e s m args below meth c ls hx hb hr hml hlocks hts hown hK hE hR hS hl
  have hts : ∀ w ∈ xAll, w.before args s = true := fun w hw => hts w (List.mem_cons_of_mem _ hw)
  rw [fX6_keepCause] at h
  refine lv_aload_n (pc := 0) hx hb dX6_keepCause_0 rfl (lv_at hl 0 rfl) ?_
  refine lv_iload_n (pc := 1) hx hb dX6_keepCause_1 rfl (lv_at hl 1 rfl) ?_
  refine xr_putI (pc := 2) (ci := 10) (ty := .int) hx hb hts inX6 tyX6 tyX6_ok nmX6 hown hK hR hF hS rfl k0 2 (Nat.le_of_ble_eq_true rfl) rfl (hts _ q_f_X6_16) (fun _ h9 => h9) rfl rfl rfl rfl dX6_keepCause_2 (fun H locs hR hS => ?_)
  refine lv_aload_n (pc := 5) hx hb dX6_keepCause_5 rfl (lv_at hl 0 rfl) ?_
  refine lv_iload_n (pc := 6) hx hb dX6_keepCause_6 rfl (lv_at hl 2 rfl) ?_
  refine xr_putI (pc := 7) (ci := 10) (ty := .int) hx hb hts inX6 tyX6 tyX6_ok nmX6 hown hK hR hF hS rfl k0 3 (Nat.le_of_ble_eq_true rfl) rfl (hts _ q_f_X6_19) (fun _ h9 => h9) rfl rfl rfl rfl dX6_keepCause_7 (fun H locs hR hS => ?_)
  exact xf_v (pc := 10) hx hb hr hlocks h hR hK hS dX6_keepCause_10
