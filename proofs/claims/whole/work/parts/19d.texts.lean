set_option maxHeartbeats 1000000 in
set_option maxRecDepth 20000 in
theorem mJ0_isEmpty_aae02 {l : Launch} {D : va_G} {ca : Nat → ClassId} {z : Nat} {G : xG} {X : va_W} {ad av : Nat → Nat} (hF : xFix z G X) (h0 : Nat) (k0 : xI_Str G h0) {μ μ1 : xM} {r : Int32} (h : fJ0_isEmpty_aae02 h0 μ = some (r, μ1)) : xMi l yJ0_isEmpty_aae02 (xws yJ0_isEmpty_aae02 cJ0_isEmpty_aae02 1 (some .boolean)) 0 D ca z G X ad av [.ref (ad h0)] μ r μ1 := by
  refine xm_i (by decide) rfl (Nat.le_of_ble_eq_true rfl) [(0, .ref (ad h0))] rfl ?_
  intro p e s m args below meth c ls hx hb hr hml hlocks hts hown hK hE hR hS hl
  have hts : ∀ w ∈ xAll, w.before args s = true := fun w hw => hts w (List.mem_cons_of_mem _ hw)
  rw [fJ0_isEmpty_aae02] at h
  refine lv_aload_n (pc := 0) hx hb dJ0_isEmpty_aae02_0 rfl (lv_at hl 0 rfl) ?_
  refine vk_getf (pc := 1) hx hb (hE.2.2.2.1.1 _ k0).2.2.1 hS hown (hts _ q_f_J0_9) (fun _ h9 => h9) dJ0_isEmpty_aae02_1 ?_
  refine va_tlen (pc := 4) hx hb (hE.2.2.2.1.1 _ k0).2.2.2 hS rfl dJ0_isEmpty_aae02_4 ?_
  refine lv_if_ne (pc := 5) (tgt := 12) hx hb dJ0_isEmpty_aae02_5 (by decide) (fun c1 => ?_) (fun c1 => ?_)
  · have h := xneg c1 h
    refine lv_iconst (pc := 12) hx hb dJ0_isEmpty_aae02_12 kc_0 ?_
    exact xf_i (pc := 13) hx hb hr rfl hlocks h hR hK hS dJ0_isEmpty_aae02_13
  · have h := xpos c1 h
    refine lv_iconst (pc := 8) hx hb dJ0_isEmpty_aae02_8 kc_1 ?_
    refine lv_goto (pc := 9) (tgt := 13) hx hb dJ0_isEmpty_aae02_9 (by decide) ?_
    exact xf_i (pc := 13) hx hb hr rfl hlocks h hR hK hS dJ0_isEmpty_aae02_13
set_option maxHeartbeats 1000000 in
set_option maxRecDepth 20000 in
theorem mJ0_coder_7d493 {l : Launch} {D : va_G} {ca : Nat → ClassId} {z : Nat} {G : xG} {X : va_W} {ad av : Nat → Nat} (hF : xFix z G X) (h0 : Nat) (k0 : xI_Str G h0) {μ μ1 : xM} {r : Int32} (h : fJ0_coder_7d493 h0 μ = some (r, μ1)) : xMi l yJ0_coder_7d493 (xws yJ0_coder_7d493 cJ0_coder_7d493 1 (some .byte)) 0 D ca z G X ad av [.ref (ad h0)] μ r μ1 := by
  refine xm_i (by decide) rfl (Nat.le_of_ble_eq_true rfl) [(0, .ref (ad h0))] rfl ?_
  intro p e s m args below meth c ls hx hb hr hml hlocks hts hown hK hE hR hS hl
  have hts : ∀ w ∈ xAll, w.before args s = true := fun w hw => hts w (List.mem_cons_of_mem _ hw)
  rw [fJ0_coder_7d493] at h
  refine va_gets (pc := 0) hx hb hE.2.2.2.2.1.1 hS hown (hts _ q_f_J0_38) (fun _ h9 => h9) dJ0_coder_7d493_0 ?_
  refine lv_if_eq (pc := 3) (tgt := 13) hx hb dJ0_coder_7d493_3 (by decide) (fun c1 => ?_) (fun c1 => ?_)
  · have h := xpos c1 h
    refine lv_iconst (pc := 13) hx hb dJ0_coder_7d493_13 kc_1 ?_
    exact xf_i (pc := 14) hx hb hr rfl hlocks h hR hK hS dJ0_coder_7d493_14
  · have h := xneg c1 h
    refine lv_aload_n (pc := 6) hx hb dJ0_coder_7d493_6 rfl (lv_at hl 0 rfl) ?_
    refine vk_getf (pc := 7) hx hb (hE.2.2.2.1.1 _ k0).2.1 hS hown (hts _ q_f_J0_15) (fun _ h9 => h9) dJ0_coder_7d493_7 ?_
    refine lv_goto (pc := 10) (tgt := 14) hx hb dJ0_coder_7d493_10 (by decide) ?_
    exact xf_i (pc := 14) hx hb hr rfl hlocks h hR hK hS dJ0_coder_7d493_14
set_option maxHeartbeats 1000000 in
set_option maxRecDepth 20000 in
theorem mJ0_length_8abf5 {l : Launch} {D : va_G} {ca : Nat → ClassId} {z : Nat} {G : xG} {X : va_W} {ad av : Nat → Nat} (hF : xFix z G X) (h0 : Nat) (k0 : xI_Str G h0) {μ μ1 : xM} {r : Int32} (h : fJ0_length_8abf5 h0 μ = some (r, μ1)) : xMi l yJ0_length_8abf5 (xws yJ0_length_8abf5 cJ0_length_8abf5 1 (some .int)) 1 D ca z G X ad av [.ref (ad h0)] μ r μ1 := by
  refine xm_i (by decide) rfl (Nat.le_of_ble_eq_true rfl) [(0, .ref (ad h0))] rfl ?_
  intro p e s m args below meth c ls hx hb hr hml hlocks hts hown hK hE hR hS hl
  have hts : ∀ w ∈ xAll, w.before args s = true := fun w hw => hts w (List.mem_cons_of_mem _ hw)
  rw [fJ0_length_8abf5] at h
  refine lv_aload_n (pc := 0) hx hb dJ0_length_8abf5_0 rfl (lv_at hl 0 rfl) ?_
  refine vk_getf (pc := 1) hx hb (hE.2.2.2.1.1 _ k0).2.2.1 hS hown (hts _ q_f_J0_9) (fun _ h9 => h9) dJ0_length_8abf5_1 ?_
  refine va_tlen (pc := 4) hx hb (hE.2.2.2.1.1 _ k0).2.2.2 hS rfl dJ0_length_8abf5_4 ?_
  refine lv_aload_n (pc := 5) hx hb dJ0_length_8abf5_5 rfl (lv_at hl 0 rfl) ?_
  obtain ⟨r1, m1, c1, h⟩ := xb_inv h
  refine xc_iV (pc := 6) (As := []) (rest := [.int _]) ⟨hx, hb, hml, hown, hts⟩ (mJ0_coder_7d493 hF _ k0 c1) (xcwV 0 hts fdJ0_coder_7d493 q_m_J0_335 ⟨Nat.le_of_ble_eq_true rfl, Nat.le_of_ble_eq_true rfl⟩) (vk_recv hE.2.2.2.1 k0 hS) hR hK hE hS rfl hl.1 rfl (Nat.le_of_ble_eq_true rfl) dJ0_length_8abf5_6 ⟨Nat.zero_le _, Nat.zero_le _⟩ (fun H locs hR hS => ?_)
  refine lv_ishr (pc := 9) hx hb dJ0_length_8abf5_9 ?_
  exact xf_i (pc := 10) hx hb hr rfl hlocks h hR hK hS dJ0_length_8abf5_10
set_option maxHeartbeats 1000000 in
set_option maxRecDepth 20000 in
theorem mJ0_isLatin1_aae02 {l : Launch} {D : va_G} {ca : Nat → ClassId} {z : Nat} {G : xG} {X : va_W} {ad av : Nat → Nat} (hF : xFix z G X) (h0 : Nat) (k0 : xI_Str G h0) {μ μ1 : xM} {r : Int32} (h : fJ0_isLatin1_aae02 h0 μ = some (r, μ1)) : xMi l yJ0_isLatin1_aae02 (xws yJ0_isLatin1_aae02 cJ0_isLatin1_aae02 1 (some .boolean)) 0 D ca z G X ad av [.ref (ad h0)] μ r μ1 := by
  refine xm_i (by decide) rfl (Nat.le_of_ble_eq_true rfl) [(0, .ref (ad h0))] rfl ?_
  intro p e s m args below meth c ls hx hb hr hml hlocks hts hown hK hE hR hS hl
  have hts : ∀ w ∈ xAll, w.before args s = true := fun w hw => hts w (List.mem_cons_of_mem _ hw)
  rw [fJ0_isLatin1_aae02] at h
  refine va_gets (pc := 0) hx hb hE.2.2.2.2.1.1 hS hown (hts _ q_f_J0_38) (fun _ h9 => h9) dJ0_isLatin1_aae02_0 ?_
  refine lv_if_eq (pc := 3) (tgt := 17) hx hb dJ0_isLatin1_aae02_3 (by decide) (fun c1 => ?_) (fun c1 => ?_)
  · have h := xpos c1 h
    refine lv_iconst (pc := 17) hx hb dJ0_isLatin1_aae02_17 kc_0 ?_
    exact xf_i (pc := 18) hx hb hr rfl hlocks h hR hK hS dJ0_isLatin1_aae02_18
  · have h := xneg c1 h
    refine lv_aload_n (pc := 6) hx hb dJ0_isLatin1_aae02_6 rfl (lv_at hl 0 rfl) ?_
    refine vk_getf (pc := 7) hx hb (hE.2.2.2.1.1 _ k0).2.1 hS hown (hts _ q_f_J0_15) (fun _ h9 => h9) dJ0_isLatin1_aae02_7 ?_
    refine lv_if_ne (pc := 10) (tgt := 17) hx hb dJ0_isLatin1_aae02_10 (by decide) (fun c2 => ?_) (fun c2 => ?_)
    · have h := xneg c2 h
      refine lv_iconst (pc := 17) hx hb dJ0_isLatin1_aae02_17 kc_0 ?_
      exact xf_i (pc := 18) hx hb hr rfl hlocks h hR hK hS dJ0_isLatin1_aae02_18
    · have h := xpos c2 h
      refine lv_iconst (pc := 13) hx hb dJ0_isLatin1_aae02_13 kc_1 ?_
      refine lv_goto (pc := 14) (tgt := 18) hx hb dJ0_isLatin1_aae02_14 (by decide) ?_
      exact xf_i (pc := 18) hx hb hr rfl hlocks h hR hK hS dJ0_isLatin1_aae02_18
set_option maxHeartbeats 1000000 in
set_option maxRecDepth 20000 in
theorem mJ1_charAt_3b067 {l : Launch} {D : va_G} {ca : Nat → ClassId} {z : Nat} {G : xG} {X : va_W} {ad av : Nat → Nat} (hF : xFix z G X) (h0 : Nat) (p1 : Int32) (k0 : xI_Str G h0) {μ μ1 : xM} {r : Int32} (h : fJ1_charAt_3b067 h0 p1 μ = some (r, μ1)) : xMi l yJ1_charAt_3b067 (xws yJ1_charAt_3b067 cJ1_charAt_3b067 2 (some .char)) 2 D ca z G X ad av [.ref (av h0), .int p1] μ r μ1 := by
  refine xm_i (by decide) rfl (Nat.le_of_ble_eq_true rfl) [(0, .ref (av h0)), (1, .int p1)] rfl ?_
  intro p e s m args below meth c ls hx hb hr hml hlocks hts hown hK hE hR hS hl
  have hts : ∀ w ∈ xAll, w.before args s = true := fun w hw => hts w (List.mem_cons_of_mem _ hw)
  rw [fJ1_charAt_3b067] at h
  refine lv_iload_n (pc := 0) hx hb dJ1_charAt_3b067_0 rfl (lv_at hl 1 rfl) ?_
  refine lv_aload_n (pc := 1) hx hb dJ1_charAt_3b067_1 rfl (lv_at hl 0 rfl) ?_
  refine va_tlen (pc := 2) hx hb (hE.2.2.2.1.1 _ k0).2.2.2 hS rfl dJ1_charAt_3b067_2 ?_
  obtain ⟨m1, c1, h⟩ := xbv_inv h
  refine xc_vS (pc := 3) (As := [.int _, .int _]) (rest := []) ⟨hx, hb, hml, hown, hts⟩ (mJ0_checkIndex_df160 hF _ _  c1) (xcwS 2 hts fdJ0_checkIndex_df160 q_m_J1_9 ⟨Nat.le_of_ble_eq_true rfl, Nat.le_of_ble_eq_true rfl⟩) hR hK hE hS rfl hl.1 rfl (Nat.le_of_ble_eq_true rfl) dJ1_charAt_3b067_3 ⟨Nat.zero_le _, Nat.zero_le _⟩ (fun H locs hR hS => ?_)
  refine lv_aload_n (pc := 6) hx hb dJ1_charAt_3b067_6 rfl (lv_at hl 0 rfl) ?_
  refine lv_iload_n (pc := 7) hx hb dJ1_charAt_3b067_7 rfl (lv_at hl 1 rfl) ?_
  obtain ⟨c2, h⟩ := xk_inv h
  refine va_tb (pc := 8) hx hb (hE.2.2.2.1.1 _ k0).2.2.2 hS c2 rfl dJ1_charAt_3b067_8 ?_
  refine lv_sipush (pc := 9) hx hb dJ1_charAt_3b067_9 ks_255 ?_
  refine lv_iand (pc := 12) hx hb dJ1_charAt_3b067_12 ?_
  refine lv_i2c (pc := 13) hx hb dJ1_charAt_3b067_13 rfl ?_
  obtain ⟨c3, h⟩ := xk_inv h
  exact xf_i (pc := 14) hx hb hr c3.1 hlocks h hR hK hS dJ1_charAt_3b067_14
set_option maxHeartbeats 1000000 in
set_option maxRecDepth 20000 in
theorem mJ0_charAt_5068e {l : Launch} {D : va_G} {ca : Nat → ClassId} {z : Nat} {G : xG} {X : va_W} {ad av : Nat → Nat} (hF : xFix z G X) (h0 : Nat) (p1 : Int32) (k0 : xI_Str G h0) {μ μ1 : xM} {r : Int32} (h : fJ0_charAt_5068e h0 p1 μ = some (r, μ1)) : xMi l yJ0_charAt_5068e (xws yJ0_charAt_5068e cJ0_charAt_5068e 2 (some .char)) 3 D ca z G X ad av [.ref (ad h0), .int p1] μ r μ1 := by
  refine xm_i (by decide) rfl (Nat.le_of_ble_eq_true rfl) [(0, .ref (ad h0)), (1, .int p1)] rfl ?_
  intro p e s m args below meth c ls hx hb hr hml hlocks hts hown hK hE hR hS hl
  have hts : ∀ w ∈ xAll, w.before args s = true := fun w hw => hts w (List.mem_cons_of_mem _ hw)
  rw [fJ0_charAt_5068e] at h
  refine lv_aload_n (pc := 0) hx hb dJ0_charAt_5068e_0 rfl (lv_at hl 0 rfl) ?_
  obtain ⟨r1, m1, c1, h⟩ := xb_inv h
  refine xc_iV (pc := 1) (As := []) (rest := []) ⟨hx, hb, hml, hown, hts⟩ (mJ0_isLatin1_aae02 hF _ k0 c1) (xcwV 0 hts fdJ0_isLatin1_aae02 q_m_J0_492 ⟨Nat.le_of_ble_eq_true rfl, Nat.le_of_ble_eq_true rfl⟩) (vk_recv hE.2.2.2.1 k0 hS) hR hK hE hS rfl hl.1 rfl (Nat.le_of_ble_eq_true rfl) dJ0_charAt_5068e_1 ⟨Nat.zero_le _, Nat.zero_le _⟩ (fun H locs hR hS => ?_)
  refine lv_if_eq (pc := 4) (tgt := 16) hx hb dJ0_charAt_5068e_4 (by decide) (fun c2 => ?_) (fun c2 => ?_)
  · have h := xpos c2 h
    refine lv_aload_n (pc := 16) hx hb dJ0_charAt_5068e_16 rfl (lv_at hl 0 rfl) ?_
    refine vk_getf (pc := 17) hx hb (hE.2.2.2.1.1 _ k0).2.2.1 hS hown (hts _ q_f_J0_9) (fun _ h9 => h9) dJ0_charAt_5068e_17 ?_
    refine lv_iload_n (pc := 20) hx hb dJ0_charAt_5068e_20 rfl (lv_at hl 1 rfl) ?_
    cases h
  · have h := xneg c2 h
    refine lv_aload_n (pc := 7) hx hb dJ0_charAt_5068e_7 rfl (lv_at hl 0 rfl) ?_
    refine vk_getf (pc := 8) hx hb (hE.2.2.2.1.1 _ k0).2.2.1 hS hown (hts _ q_f_J0_9) (fun _ h9 => h9) dJ0_charAt_5068e_8 ?_
    refine lv_iload_n (pc := 11) hx hb dJ0_charAt_5068e_11 rfl (lv_at hl 1 rfl) ?_
    obtain ⟨r3, m3, c3, h⟩ := xb_inv h
    refine xc_iS (pc := 12) (As := [.ref _, .int _]) (rest := []) ⟨hx, hb, hml, hown, hts⟩ (mJ1_charAt_3b067 hF _ _ k0 c3) (xcwS 2 hts fdJ1_charAt_3b067 q_m_J0_495 ⟨Nat.le_of_ble_eq_true rfl, Nat.le_of_ble_eq_true rfl⟩) hR hK hE hS rfl hl.1 rfl (Nat.le_of_ble_eq_true rfl) dJ0_charAt_5068e_12 ⟨Nat.zero_le _, Nat.zero_le _⟩ (fun H locs hR hS => ?_)
    obtain ⟨c4, h⟩ := xk_inv h
    exact xf_i (pc := 15) hx hb hr c4.1 hlocks h hR hK hS dJ0_charAt_5068e_15
set_option maxHeartbeats 1000000 in
set_option maxRecDepth 20000 in
theorem mX3_shapeOf {l : Launch} {D : va_G} {ca : Nat → ClassId} {z : Nat} {G : xG} {X : va_W} {ad av : Nat → Nat} (hF : xFix z G X) (p0 : Int32)  {μ : xM} {i1 : Nat} (h : fX3_shapeOf p0 μ = some i1) : xMr l yX3_shapeOf (xws yX3_shapeOf cX3_shapeOf 1 (some (.object "java/lang/String"))) 0 D ca z G X ad av [.int p0] μ i1 := by
  refine xm_r (by decide) rfl (Nat.le_of_ble_eq_true rfl) [(0, .int p0)] rfl ?_
  intro p e s m args below meth c ls hx hb hr hml hlocks hts hown hK hE hR hS hl
  have hts : ∀ w ∈ xAll, w.before args s = true := fun w hw => hts w (List.mem_cons_of_mem _ hw)
  rw [fX3_shapeOf] at h
  refine lv_iload_n (pc := 0) hx hb dX3_shapeOf_0 rfl (lv_at hl 0 rfl) ?_
  by_cases c1 : p0 = (99 : Int32)
  · have h := xpos c1 h
    refine lv_tableIn (pc := 1) (tgt := 126) hx hb dX3_shapeOf_1 (by rw [c1]; decide) (by rw [c1]; decide) (by rw [c1]; rfl) (by decide) ?_
    refine va_ldcS (pc := 126) hx hb hown (xStr hE 16 (by decide) (by decide +kernel) rfl) dX3_shapeOf_126 ?_
    exact xf_r (pc := 128) hx hb hr hlocks h (show (16 : Nat) < xsN by decide) hR hK hS dX3_shapeOf_128
  have h := xneg c1 h
  by_cases c2 : p0 = (110 : Int32)
  · have h := xpos c2 h
    refine lv_tableIn (pc := 1) (tgt := 120) hx hb dX3_shapeOf_1 (by rw [c2]; decide) (by rw [c2]; decide) (by rw [c2]; rfl) (by decide) ?_
    refine va_ldcS (pc := 120) hx hb hown (xStr hE 13 (by decide) (by decide +kernel) rfl) dX3_shapeOf_120 ?_
    exact xf_r (pc := 122) hx hb hr hlocks h (show (13 : Nat) < xsN by decide) hR hK hS dX3_shapeOf_122
  have h := xneg c2 h
  by_cases c3 : p0 = (112 : Int32)
  · have h := xpos c3 h
    refine lv_tableIn (pc := 1) (tgt := 108) hx hb dX3_shapeOf_1 (by rw [c3]; decide) (by rw [c3]; decide) (by rw [c3]; rfl) (by decide) ?_
    refine va_ldcS (pc := 108) hx hb hown (xStr hE 12 (by decide) (by decide +kernel) rfl) dX3_shapeOf_108 ?_
    exact xf_r (pc := 110) hx hb hr hlocks h (show (12 : Nat) < xsN by decide) hR hK hS dX3_shapeOf_110
  have h := xneg c3 h
  by_cases c4 : p0 = (114 : Int32)
  · have h := xpos c4 h
    refine lv_tableIn (pc := 1) (tgt := 114) hx hb dX3_shapeOf_1 (by rw [c4]; decide) (by rw [c4]; decide) (by rw [c4]; rfl) (by decide) ?_
    refine va_ldcS (pc := 114) hx hb hown (xStr hE 13 (by decide) (by decide +kernel) rfl) dX3_shapeOf_114 ?_
    exact xf_r (pc := 116) hx hb hr hlocks h (show (13 : Nat) < xsN by decide) hR hK hS dX3_shapeOf_116
  have h := xneg c4 h
  by_cases c5 : p0 = (115 : Int32)
  · have h := xpos c5 h
    refine lv_tableIn (pc := 1) (tgt := 123) hx hb dX3_shapeOf_1 (by rw [c5]; decide) (by rw [c5]; decide) (by rw [c5]; rfl) (by decide) ?_
    refine va_ldcS (pc := 123) hx hb hown (xStr hE 15 (by decide) (by decide +kernel) rfl) dX3_shapeOf_123 ?_
    exact xf_r (pc := 125) hx hb hr hlocks h (show (15 : Nat) < xsN by decide) hR hK hS dX3_shapeOf_125
  have h := xneg c5 h
  by_cases c6 : p0 = (119 : Int32)
  · have h := xpos c6 h
    refine lv_tableIn (pc := 1) (tgt := 111) hx hb dX3_shapeOf_1 (by rw [c6]; decide) (by rw [c6]; decide) (by rw [c6]; rfl) (by decide) ?_
    refine va_ldcS (pc := 111) hx hb hown (xStr hE 13 (by decide) (by decide +kernel) rfl) dX3_shapeOf_111 ?_
    exact xf_r (pc := 113) hx hb hr hlocks h (show (13 : Nat) < xsN by decide) hR hK hS dX3_shapeOf_113
  have h := xneg c6 h
  by_cases c7 : p0 = (121 : Int32)
  · have h := xpos c7 h
    refine lv_tableIn (pc := 1) (tgt := 117) hx hb dX3_shapeOf_1 (by rw [c7]; decide) (by rw [c7]; decide) (by rw [c7]; rfl) (by decide) ?_
    refine va_ldcS (pc := 117) hx hb hown (xStr hE 14 (by decide) (by decide +kernel) rfl) dX3_shapeOf_117 ?_
    exact xf_r (pc := 119) hx hb hr hlocks h (show (14 : Nat) < xsN by decide) hR hK hS dX3_shapeOf_119
  have h := xneg c7 h
  by_cases c8 : p0 = (100 : Int32)
  · refine lv_tableIn (pc := 1) (tgt := 129) hx hb dX3_shapeOf_1 (by rw [c8]; decide) (by rw [c8]; decide) (by rw [c8]; rfl) (by decide) ?_
    refine va_ldcS (pc := 129) hx hb hown (xStr hE 17 (by decide) (by decide +kernel) rfl) dX3_shapeOf_129 ?_
    exact xf_r (pc := 131) hx hb hr hlocks h (show (17 : Nat) < xsN by decide) hR hK hS dX3_shapeOf_131
  by_cases c9 : p0 = (101 : Int32)
  · refine lv_tableIn (pc := 1) (tgt := 129) hx hb dX3_shapeOf_1 (by rw [c9]; decide) (by rw [c9]; decide) (by rw [c9]; rfl) (by decide) ?_
    refine va_ldcS (pc := 129) hx hb hown (xStr hE 17 (by decide) (by decide +kernel) rfl) dX3_shapeOf_129 ?_
    exact xf_r (pc := 131) hx hb hr hlocks h (show (17 : Nat) < xsN by decide) hR hK hS dX3_shapeOf_131
  by_cases c10 : p0 = (102 : Int32)
  · refine lv_tableIn (pc := 1) (tgt := 129) hx hb dX3_shapeOf_1 (by rw [c10]; decide) (by rw [c10]; decide) (by rw [c10]; rfl) (by decide) ?_
    refine va_ldcS (pc := 129) hx hb hown (xStr hE 17 (by decide) (by decide +kernel) rfl) dX3_shapeOf_129 ?_
    exact xf_r (pc := 131) hx hb hr hlocks h (show (17 : Nat) < xsN by decide) hR hK hS dX3_shapeOf_131
  by_cases c11 : p0 = (103 : Int32)
  · refine lv_tableIn (pc := 1) (tgt := 129) hx hb dX3_shapeOf_1 (by rw [c11]; decide) (by rw [c11]; decide) (by rw [c11]; rfl) (by decide) ?_
    refine va_ldcS (pc := 129) hx hb hown (xStr hE 17 (by decide) (by decide +kernel) rfl) dX3_shapeOf_129 ?_
    exact xf_r (pc := 131) hx hb hr hlocks h (show (17 : Nat) < xsN by decide) hR hK hS dX3_shapeOf_131
  by_cases c12 : p0 = (104 : Int32)
  · refine lv_tableIn (pc := 1) (tgt := 129) hx hb dX3_shapeOf_1 (by rw [c12]; decide) (by rw [c12]; decide) (by rw [c12]; rfl) (by decide) ?_
    refine va_ldcS (pc := 129) hx hb hown (xStr hE 17 (by decide) (by decide +kernel) rfl) dX3_shapeOf_129 ?_
    exact xf_r (pc := 131) hx hb hr hlocks h (show (17 : Nat) < xsN by decide) hR hK hS dX3_shapeOf_131
  by_cases c13 : p0 = (105 : Int32)
  · refine lv_tableIn (pc := 1) (tgt := 129) hx hb dX3_shapeOf_1 (by rw [c13]; decide) (by rw [c13]; decide) (by rw [c13]; rfl) (by decide) ?_
    refine va_ldcS (pc := 129) hx hb hown (xStr hE 17 (by decide) (by decide +kernel) rfl) dX3_shapeOf_129 ?_
    exact xf_r (pc := 131) hx hb hr hlocks h (show (17 : Nat) < xsN by decide) hR hK hS dX3_shapeOf_131
  by_cases c14 : p0 = (106 : Int32)
  · refine lv_tableIn (pc := 1) (tgt := 129) hx hb dX3_shapeOf_1 (by rw [c14]; decide) (by rw [c14]; decide) (by rw [c14]; rfl) (by decide) ?_
    refine va_ldcS (pc := 129) hx hb hown (xStr hE 17 (by decide) (by decide +kernel) rfl) dX3_shapeOf_129 ?_
    exact xf_r (pc := 131) hx hb hr hlocks h (show (17 : Nat) < xsN by decide) hR hK hS dX3_shapeOf_131
  by_cases c15 : p0 = (107 : Int32)
  · refine lv_tableIn (pc := 1) (tgt := 129) hx hb dX3_shapeOf_1 (by rw [c15]; decide) (by rw [c15]; decide) (by rw [c15]; rfl) (by decide) ?_
    refine va_ldcS (pc := 129) hx hb hown (xStr hE 17 (by decide) (by decide +kernel) rfl) dX3_shapeOf_129 ?_
    exact xf_r (pc := 131) hx hb hr hlocks h (show (17 : Nat) < xsN by decide) hR hK hS dX3_shapeOf_131
  by_cases c16 : p0 = (108 : Int32)
  · refine lv_tableIn (pc := 1) (tgt := 129) hx hb dX3_shapeOf_1 (by rw [c16]; decide) (by rw [c16]; decide) (by rw [c16]; rfl) (by decide) ?_
    refine va_ldcS (pc := 129) hx hb hown (xStr hE 17 (by decide) (by decide +kernel) rfl) dX3_shapeOf_129 ?_
    exact xf_r (pc := 131) hx hb hr hlocks h (show (17 : Nat) < xsN by decide) hR hK hS dX3_shapeOf_131
  by_cases c17 : p0 = (109 : Int32)
  · refine lv_tableIn (pc := 1) (tgt := 129) hx hb dX3_shapeOf_1 (by rw [c17]; decide) (by rw [c17]; decide) (by rw [c17]; rfl) (by decide) ?_
    refine va_ldcS (pc := 129) hx hb hown (xStr hE 17 (by decide) (by decide +kernel) rfl) dX3_shapeOf_129 ?_
    exact xf_r (pc := 131) hx hb hr hlocks h (show (17 : Nat) < xsN by decide) hR hK hS dX3_shapeOf_131
  by_cases c18 : p0 = (111 : Int32)
  · refine lv_tableIn (pc := 1) (tgt := 129) hx hb dX3_shapeOf_1 (by rw [c18]; decide) (by rw [c18]; decide) (by rw [c18]; rfl) (by decide) ?_
    refine va_ldcS (pc := 129) hx hb hown (xStr hE 17 (by decide) (by decide +kernel) rfl) dX3_shapeOf_129 ?_
    exact xf_r (pc := 131) hx hb hr hlocks h (show (17 : Nat) < xsN by decide) hR hK hS dX3_shapeOf_131
  by_cases c19 : p0 = (113 : Int32)
  · refine lv_tableIn (pc := 1) (tgt := 129) hx hb dX3_shapeOf_1 (by rw [c19]; decide) (by rw [c19]; decide) (by rw [c19]; rfl) (by decide) ?_
    refine va_ldcS (pc := 129) hx hb hown (xStr hE 17 (by decide) (by decide +kernel) rfl) dX3_shapeOf_129 ?_
    exact xf_r (pc := 131) hx hb hr hlocks h (show (17 : Nat) < xsN by decide) hR hK hS dX3_shapeOf_131
  by_cases c20 : p0 = (116 : Int32)
  · refine lv_tableIn (pc := 1) (tgt := 129) hx hb dX3_shapeOf_1 (by rw [c20]; decide) (by rw [c20]; decide) (by rw [c20]; rfl) (by decide) ?_
    refine va_ldcS (pc := 129) hx hb hown (xStr hE 17 (by decide) (by decide +kernel) rfl) dX3_shapeOf_129 ?_
    exact xf_r (pc := 131) hx hb hr hlocks h (show (17 : Nat) < xsN by decide) hR hK hS dX3_shapeOf_131
  by_cases c21 : p0 = (117 : Int32)
  · refine lv_tableIn (pc := 1) (tgt := 129) hx hb dX3_shapeOf_1 (by rw [c21]; decide) (by rw [c21]; decide) (by rw [c21]; rfl) (by decide) ?_
    refine va_ldcS (pc := 129) hx hb hown (xStr hE 17 (by decide) (by decide +kernel) rfl) dX3_shapeOf_129 ?_
    exact xf_r (pc := 131) hx hb hr hlocks h (show (17 : Nat) < xsN by decide) hR hK hS dX3_shapeOf_131
  by_cases c22 : p0 = (118 : Int32)
  · refine lv_tableIn (pc := 1) (tgt := 129) hx hb dX3_shapeOf_1 (by rw [c22]; decide) (by rw [c22]; decide) (by rw [c22]; rfl) (by decide) ?_
    refine va_ldcS (pc := 129) hx hb hown (xStr hE 17 (by decide) (by decide +kernel) rfl) dX3_shapeOf_129 ?_
    exact xf_r (pc := 131) hx hb hr hlocks h (show (17 : Nat) < xsN by decide) hR hK hS dX3_shapeOf_131
  by_cases c23 : p0 = (120 : Int32)
  · refine lv_tableIn (pc := 1) (tgt := 129) hx hb dX3_shapeOf_1 (by rw [c23]; decide) (by rw [c23]; decide) (by rw [c23]; rfl) (by decide) ?_
    refine va_ldcS (pc := 129) hx hb hown (xStr hE 17 (by decide) (by decide +kernel) rfl) dX3_shapeOf_129 ?_
    exact xf_r (pc := 131) hx hb hr hlocks h (show (17 : Nat) < xsN by decide) hR hK hS dX3_shapeOf_131
  refine lv_tableOut (pc := 1) (tgt := 129) hx hb dX3_shapeOf_1 (by have z1 := xnek ti_99 c1; have z2 := xnek ti_110 c2; have z3 := xnek ti_112 c3; have z4 := xnek ti_114 c4; have z5 := xnek ti_115 c5; have z6 := xnek ti_119 c6; have z7 := xnek ti_121 c7; have z8 := xnek ti_100 c8; have z9 := xnek ti_101 c9; have z10 := xnek ti_102 c10; have z11 := xnek ti_103 c11; have z12 := xnek ti_104 c12; have z13 := xnek ti_105 c13; have z14 := xnek ti_106 c14; have z15 := xnek ti_107 c15; have z16 := xnek ti_108 c16; have z17 := xnek ti_109 c17; have z18 := xnek ti_111 c18; have z19 := xnek ti_113 c19; have z20 := xnek ti_116 c20; have z21 := xnek ti_117 c21; have z22 := xnek ti_118 c22; have z23 := xnek ti_120 c23; omega) (by decide) ?_
  refine va_ldcS (pc := 129) hx hb hown (xStr hE 17 (by decide) (by decide +kernel) rfl) dX3_shapeOf_129 ?_
  exact xf_r (pc := 131) hx hb hr hlocks h (show (17 : Nat) < xsN by decide) hR hK hS dX3_shapeOf_131
set_option maxHeartbeats 1000000 in
set_option maxRecDepth 20000 in
theorem wX3_readOrder_55 {p : Program} {l : Launch} {e : Env} {s : State} {m : MethodId} {args : Array Value} {below : List Frame} {meth : Method} {c : Code} {D : va_G} {ca : Nat → ClassId} {z : Nat} {G : xG} {X : va_W} {ad av : Nat → Nat} (hF : xFix z G X) (h0 : Nat) (h1 : Nat) (k0 : xI_Input G h0) (k1 : xI_Order G h1) (hx : p.tables.exec = Jvm.exec) (hb : c.code = cX3_readOrder) (hr : meth.sig.returnType = (some .boolean)) (hml : c.maxLocals = 5) (hlocks : meth.locks = false) (hts : ∀ w ∈ xAll, w.before args s = true) (hown : s.vm.findClass RX3 = some m.cls) (hK : va_K D vwCl (xT ca) s) (hE : xEv z ad av s s.heap) {μ1 : xM} {r : Int32} :
    ∀ (n : Nat) (x2 : Int32) (a3 : Nat) (x4 : Int32) (μ : xM) (H : Heap) (locs : List Loc) (ls : Array Slot), xI_Str G a3 → lX3_readOrder_55 h0 h1 n x2 a3 x4 μ = some (r, μ1) → xRep D ca G X μ H → va_S (fun q => z ≤ q) s.heap H locs → lv_has ls 5 [(0, .ref h0), (1, .ref h1), (2, .int x2), (3, .ref (ad a3)), (4, .int x4)] → W p l e (xRm 4 0 0) s m args below meth c H locs 0 0 (MQ below (va_Qi (fun (r' : Int32) (_ : Unit) => r' = r) (fun _ t => xB D ca G X μ1 t) (fun q => z ≤ q)) args s 0 0 (fun q => z ≤ q)) (F0 m 55 ls []) := by
  intro n
  induction n with
  | zero => intro x2 a3 x4 μ H locs ls g3 h; cases h
  | succ n ih =>
    intro x2 a3 x4 μ H locs ls g3 h hR hS hl
    rw [lX3_readOrder_55] at h
    refine lv_iload (pc := 55) hx hb dX3_readOrder_55 (lv_at hl 4 rfl) ?_
    refine lv_aload_n (pc := 57) hx hb dX3_readOrder_57 rfl (lv_at hl 3 rfl) ?_
    obtain ⟨r7, m7, c7, h⟩ := xb_inv h
    refine xc_iV (pc := 58) (As := []) (rest := [.int _]) ⟨hx, hb, hml, hown, hts⟩ (mJ0_length_8abf5 hF _ g3 c7) (xcwV 0 hts fdJ0_length_8abf5 q_m_X3_54 ⟨Nat.le_of_ble_eq_true rfl, Nat.le_of_ble_eq_true rfl⟩) (vk_recv hE.2.2.2.1 g3 hS) hR hK hE hS rfl hl.1 rfl (Nat.le_of_ble_eq_true rfl) dX3_readOrder_58 ⟨Nat.zero_le _, Nat.zero_le _⟩ (fun H locs hR hS => ?_)
    refine lv_icmp_ge (pc := 61) (tgt := 86) hx hb dX3_readOrder_61 (by decide) (fun c8 => ?_) (fun c8 => ?_)
    · have h := xpos c8 h
      refine lv_iconst (pc := 86) hx hb dX3_readOrder_86 kc_1 ?_
      exact xf_i (pc := 87) hx hb hr rfl hlocks h hR hK hS dX3_readOrder_87
    · have h := xneg c8 h
      refine lv_aload_n (pc := 64) hx hb dX3_readOrder_64 rfl (lv_at hl 0 rfl) ?_
      refine lv_aload_n (pc := 65) hx hb dX3_readOrder_65 rfl (lv_at hl 1 rfl) ?_
      refine lv_aload_n (pc := 66) hx hb dX3_readOrder_66 rfl (lv_at hl 3 rfl) ?_
      refine lv_iload (pc := 67) hx hb dX3_readOrder_67 (lv_at hl 4 rfl) ?_
      obtain ⟨r9, m9, c9, h⟩ := xb_inv h
      refine xc_iV (pc := 69) (As := [.int _]) (rest := [.ref _, .ref _]) ⟨hx, hb, hml, hown, hts⟩ (mJ0_charAt_5068e hF _ _ g3 c9) (xcwV 1 hts fdJ0_charAt_5068e q_m_X3_57 ⟨Nat.le_of_ble_eq_true rfl, Nat.le_of_ble_eq_true rfl⟩) (vk_recv hE.2.2.2.1 g3 hS) hR hK hE hS rfl hl.1 rfl (Nat.le_of_ble_eq_true rfl) dX3_readOrder_69 ⟨Nat.zero_le _, Nat.zero_le _⟩ (fun H locs hR hS => ?_)
      obtain ⟨r10, m10, c10, h⟩ := xb_inv h
      refine xc_iV (pc := 72) (As := [.ref _, .int _]) (rest := []) ⟨hx, hb, hml, hown, hts⟩ (mX3_readPart hF _ _ _ k0 k1 c10) (xcwV 2 hts fdX3_readPart q_m_X3_61 ⟨Nat.le_of_ble_eq_true rfl, Nat.le_of_ble_eq_true rfl⟩) (xRecv hK hR (ci := 7) rfl k0.1) hR hK hE hS rfl hl.1 rfl (Nat.le_of_ble_eq_true rfl) dX3_readOrder_72 ⟨Nat.zero_le _, Nat.zero_le _⟩ (fun H locs hR hS => ?_)
      refine lv_if_ne (pc := 75) (tgt := 80) hx hb dX3_readOrder_75 (by decide) (fun c11 => ?_) (fun c11 => ?_)
      · have h := xneg c11 h
        refine lv_iinc (pc := 80) (lv' := [(4, .int _), (0, .ref _), (1, .ref _), (2, .int _), (3, .ref _)]) hx hb dX3_readOrder_80 hl (k := 4) rfl (xinc kc_1) (Nat.le_of_ble_eq_true rfl) rfl (fun ls hl => ?_)
        refine lv_goto (pc := 83) (tgt := 55) hx hb dX3_readOrder_83 (by decide) ?_
        exact ih _ _ _ _ _ _ _ g3 h hR hS (lv_sub hl [1, 2, 3, 4, 0] rfl)
      · have h := xpos c11 h
        refine lv_iconst (pc := 78) hx hb dX3_readOrder_78 kc_0 ?_
        exact xf_i (pc := 79) hx hb hr rfl hlocks h hR hK hS dX3_readOrder_79
set_option maxHeartbeats 1000000 in
set_option maxRecDepth 20000 in
theorem mX3_readOrder {l : Launch} {D : va_G} {ca : Nat → ClassId} {z : Nat} {G : xG} {X : va_W} {ad av : Nat → Nat} (hF : xFix z G X) (h0 : Nat) (h1 : Nat) (k0 : xI_Input G h0) (k1 : xI_Order G h1) {μ μ1 : xM} {r : Int32} (h : fX3_readOrder h0 h1 μ = some (r, μ1)) : xMi l yX3_readOrder (xws yX3_readOrder cX3_readOrder 5 (some .boolean)) 4 D ca z G X ad av [.ref h0, .ref h1] μ r μ1 := by
  refine xm_i (by decide) rfl (Nat.le_of_ble_eq_true rfl) [(0, .ref h0), (1, .ref h1)] rfl ?_
  intro p e s m args below meth c ls hx hb hr hml hlocks hts hown hK hE hR hS hl
  have hts : ∀ w ∈ xAll, w.before args s = true := fun w hw => hts w (List.mem_cons_of_mem _ hw)
  rw [fX3_readOrder] at h
  refine lv_aload_n (pc := 0) hx hb dX3_readOrder_0 rfl (lv_at hl 0 rfl) ?_
  refine xr_getI (pc := 1) (ci := 7) hx hb hts inX3 hown hK hR rfl k0.1 4 (Nat.le_of_ble_eq_true rfl) rfl (hts _ q_f_X3_29) (fun _ h9 => h9) dX3_readOrder_1 ?_
  refine lv_aload_n (pc := 4) hx hb dX3_readOrder_4 rfl (lv_at hl 0 rfl) ?_
  refine xr_getI (pc := 5) (ci := 7) hx hb hts inX3 hown hK hR rfl k0.1 2 (Nat.le_of_ble_eq_true rfl) rfl (hts _ q_f_X3_22) (fun _ h9 => h9) dX3_readOrder_5 ?_
  refine lv_icmp_lt (pc := 8) (tgt := 13) hx hb dX3_readOrder_8 (by decide) (fun c1 => ?_) (fun c1 => ?_)
  · have h := xpos c1 h
    refine lv_aload_n (pc := 13) hx hb dX3_readOrder_13 rfl (lv_at hl 0 rfl) ?_
    refine xr_getR (pc := 14) (ci := 7) hx hb hts inX3 hown hK hR rfl k0.1 0 (Nat.le_of_ble_eq_true rfl) rfl k0.2.1.1 (hts _ q_f_X3_9) (fun _ h9 => h9) dX3_readOrder_14 ?_
    refine lv_aload_n (pc := 17) hx hb dX3_readOrder_17 rfl (lv_at hl 0 rfl) ?_
    refine xr_getI (pc := 18) (ci := 7) hx hb hts inX3 hown hK hR rfl k0.1 4 (Nat.le_of_ble_eq_true rfl) rfl (hts _ q_f_X3_29) (fun _ h9 => h9) dX3_readOrder_18 ?_
    obtain ⟨c2, h⟩ := xk_inv h
    refine xr_caldk (pc := 21) (Int32.toNatClampNeg ((μ h0 4))) hx hb hK hR k0.2.1.2.1 k0.2.1.2.2 rfl c2 dX3_readOrder_21 ?_
    refine lv_istore_n (pc := 22) (lv' := [(2, .int _), (0, .ref _), (1, .ref _)]) hx hb dX3_readOrder_22 rfl hl (Nat.le_of_ble_eq_true rfl) rfl (fun ls hl => ?_)
    refine lv_iload_n (pc := 23) hx hb dX3_readOrder_23 rfl (lv_at hl 0 rfl) ?_
    obtain ⟨i3, c3, h⟩ := xbt_inv h
    refine xc_rS (pc := 24) (As := [.int _]) (rest := []) ⟨hx, hb, hml, hown, hts⟩ (mX3_shapeOf hF _  c3) (xcwS 1 hts fdX3_shapeOf q_m_X3_40 ⟨Nat.le_of_ble_eq_true rfl, Nat.le_of_ble_eq_true rfl⟩) hR hK hE hS rfl hl.1 rfl (Nat.le_of_ble_eq_true rfl) dX3_readOrder_24 ⟨Nat.zero_le _, Nat.zero_le _⟩ (fun H locs g3 hR hS => ?_)
    refine lv_astore_n (pc := 27) (lv' := [(3, .ref _), (2, .int _), (0, .ref _), (1, .ref _)]) hx hb dX3_readOrder_27 rfl hl (Nat.le_of_ble_eq_true rfl) rfl (fun ls hl => ?_)
    refine lv_aload_n (pc := 28) hx hb dX3_readOrder_28 rfl (lv_at hl 0 rfl) ?_
    obtain ⟨r4, m4, c4, h⟩ := xb_inv h
    refine xc_iV (pc := 29) (As := []) (rest := []) ⟨hx, hb, hml, hown, hts⟩ (mJ0_isEmpty_aae02 hF _ g3 c4) (xcwV 0 hts fdJ0_isEmpty_aae02 q_m_X3_44 ⟨Nat.le_of_ble_eq_true rfl, Nat.le_of_ble_eq_true rfl⟩) (vk_recv hE.2.2.2.1 g3 hS) hR hK hE hS rfl hl.1 rfl (Nat.le_of_ble_eq_true rfl) dX3_readOrder_29 ⟨Nat.zero_le _, Nat.zero_le _⟩ (fun H locs hR hS => ?_)
    refine lv_if_eq (pc := 32) (tgt := 37) hx hb dX3_readOrder_32 (by decide) (fun c5 => ?_) (fun c5 => ?_)
    · have h := xpos c5 h
      refine lv_aload_n (pc := 37) hx hb dX3_readOrder_37 rfl (lv_at hl 2 rfl) ?_
      refine lv_dup (pc := 38) hx hb dX3_readOrder_38 rfl ?_
      refine xr_getI (pc := 39) (ci := 7) hx hb hts inX3 hown hK hR rfl k0.1 4 (Nat.le_of_ble_eq_true rfl) rfl (hts _ q_f_X3_29) (fun _ h9 => h9) dX3_readOrder_39 ?_
      refine lv_iconst (pc := 42) hx hb dX3_readOrder_42 kc_1 ?_
      refine lv_iadd (pc := 43) hx hb dX3_readOrder_43 ?_
      refine xr_putI (pc := 44) (ci := 7) (ty := .int) hx hb hts inX3 tyX3 tyX3_ok nmX3 hown hK hR hF hS rfl k0.1 4 (Nat.le_of_ble_eq_true rfl) rfl (hts _ q_f_X3_29) (fun _ h9 => h9) rfl rfl rfl rfl dX3_readOrder_44 (fun H locs hR hS => ?_)
      refine lv_aload_n (pc := 47) hx hb dX3_readOrder_47 rfl (lv_at hl 3 rfl) ?_
      refine lv_iload_n (pc := 48) hx hb dX3_readOrder_48 rfl (lv_at hl 1 rfl) ?_
      obtain ⟨m6, c6, h⟩ := xbv_inv h
      refine xc_vV (pc := 49) (As := [.int _]) (rest := []) ⟨hx, hb, hml, hown, hts⟩ (mX4_begin hF _ _ k1 c6) (xcwV 1 hts fdX4_begin q_m_X3_50 ⟨Nat.le_of_ble_eq_true rfl, Nat.le_of_ble_eq_true rfl⟩) (xRecv hK hR (ci := 8) rfl k1) hR hK hE hS rfl hl.1 rfl (Nat.le_of_ble_eq_true rfl) dX3_readOrder_49 ⟨Nat.zero_le _, Nat.zero_le _⟩ (fun H locs hR hS => ?_)
      refine lv_iconst (pc := 52) hx hb dX3_readOrder_52 kc_0 ?_
      refine lv_istore (pc := 53) (lv' := [(4, .int _), (3, .ref _), (2, .int _), (0, .ref _), (1, .ref _)]) hx hb dX3_readOrder_53 hl (Nat.le_of_ble_eq_true rfl) rfl (fun ls hl => ?_)
      exact wX3_readOrder_55 hF h0 h1 k0 k1 hx hb hr hml hlocks hts hown hK hE _ _ _ _ _ _ _ _ g3 h hR hS (lv_sub hl [3, 4, 2, 1, 0] rfl)
    · have h := xneg c5 h
      refine lv_iconst (pc := 35) hx hb dX3_readOrder_35 kc_0 ?_
      exact xf_i (pc := 36) hx hb hr rfl hlocks h hR hK hS dX3_readOrder_36
  · have h := xneg c1 h
    refine lv_iconst (pc := 11) hx hb dX3_readOrder_11 kc_0 ?_
    exact xf_i (pc := 12) hx hb hr rfl hlocks h hR hK hS dX3_readOrder_12
set_option maxHeartbeats 1000000 in
set_option maxRecDepth 20000 in
theorem wX3_readOrders_12 {p : Program} {l : Launch} {e : Env} {s : State} {m : MethodId} {args : Array Value} {below : List Frame} {meth : Method} {c : Code} {D : va_G} {ca : Nat → ClassId} {z : Nat} {G : xG} {X : va_W} {ad av : Nat → Nat} (hF : xFix z G X) (h0 : Nat) (k0 : xI_Input G h0) (hx : p.tables.exec = Jvm.exec) (hb : c.code = cX3_readOrders) (hr : meth.sig.returnType = (some .int)) (hml : c.maxLocals = 2) (hlocks : meth.locks = false) (hts : ∀ w ∈ xAll, w.before args s = true) (hown : s.vm.findClass RX3 = some m.cls) (hK : va_K D vwCl (xT ca) s) (hE : xEv z ad av s s.heap) {μ1 : xM} {r : Int32} :
    ∀ (n : Nat) (x1 : Int32) (μ : xM) (H : Heap) (locs : List Loc) (ls : Array Slot), lX3_readOrders_12 h0 n x1 μ = some (r, μ1) → xRep D ca G X μ H → va_S (fun q => z ≤ q) s.heap H locs → lv_has ls 2 [(0, .ref h0), (1, .int x1)] → W p l e (xRm 5 0 0) s m args below meth c H locs 0 0 (MQ below (va_Qi (fun (r' : Int32) (_ : Unit) => r' = r) (fun _ t => xB D ca G X μ1 t) (fun q => z ≤ q)) args s 0 0 (fun q => z ≤ q)) (F0 m 12 ls []) := by
  intro n
  induction n with
  | zero => intro x1 μ H locs ls h; cases h
  | succ n ih =>
    intro x1 μ H locs ls h hR hS hl
    rw [lX3_readOrders_12] at h
    refine lv_iload_n (pc := 12) hx hb dX3_readOrders_12 rfl (lv_at hl 1 rfl) ?_
    refine lv_bipush (pc := 13) hx hb dX3_readOrders_13 kb_20 ?_
    refine lv_icmp_ge (pc := 15) (tgt := 79) hx hb dX3_readOrders_15 (by decide) (fun c1 => ?_) (fun c1 => ?_)
    · have h := xpos c1 h
      refine lv_aload_n (pc := 79) hx hb dX3_readOrders_79 rfl (lv_at hl 0 rfl) ?_
      refine xr_getI (pc := 80) (ci := 7) hx hb hts inX3 hown hK hR rfl k0.1 4 (Nat.le_of_ble_eq_true rfl) rfl (hts _ q_f_X3_29) (fun _ h9 => h9) dX3_readOrders_80 ?_
      exact xf_i (pc := 83) hx hb hr rfl hlocks h hR hK hS dX3_readOrders_83
    · have h := xneg c1 h
      refine lv_aload_n (pc := 18) hx hb dX3_readOrders_18 rfl (lv_at hl 0 rfl) ?_
      refine lv_aload_n (pc := 19) hx hb dX3_readOrders_19 rfl (lv_at hl 0 rfl) ?_
      refine xr_getR (pc := 20) (ci := 7) hx hb hts inX3 hown hK hR rfl k0.1 1 (Nat.le_of_ble_eq_true rfl) rfl k0.2.2.1 (hts _ q_f_X3_17) (fun _ h9 => h9) dX3_readOrders_20 ?_
      refine lv_iload_n (pc := 23) hx hb dX3_readOrders_23 rfl (lv_at hl 1 rfl) ?_
      obtain ⟨c2, h⟩ := xk_inv h
      refine xr_aald (pc := 24) hx hb hK hR 1 (by decide) k0.2.2.2.1 rfl k0.2.2.2.2.1 c2 (k0.2.2.2.2.2 _ (xlt c2)).1 dX3_readOrders_24 ?_
      obtain ⟨r3, m3, c3, h⟩ := xb_inv h
      refine xc_iV (pc := 25) (As := [.ref _]) (rest := []) ⟨hx, hb, hml, hown, hts⟩ (mX3_readOrder hF _ _ k0 ((k0.2.2.2.2.2 _ (xlt c2)).2) c3) (xcwV 1 hts fdX3_readOrder q_m_X3_32 ⟨Nat.le_of_ble_eq_true rfl, Nat.le_of_ble_eq_true rfl⟩) (xRecv hK hR (ci := 7) rfl k0.1) hR hK hE hS rfl hl.1 rfl (Nat.le_of_ble_eq_true rfl) dX3_readOrders_25 ⟨Nat.zero_le _, Nat.zero_le _⟩ (fun H locs hR hS => ?_)
      refine lv_if_ne (pc := 28) (tgt := 36) hx hb dX3_readOrders_28 (by decide) (fun c4 => ?_) (fun c4 => ?_)
      · have h := xneg c4 h
        refine lv_aload_n (pc := 36) hx hb dX3_readOrders_36 rfl (lv_at hl 0 rfl) ?_
        refine lv_dup (pc := 37) hx hb dX3_readOrders_37 rfl ?_
        refine xr_getI (pc := 38) (ci := 7) hx hb hts inX3 hown hK hR rfl k0.1 3 (Nat.le_of_ble_eq_true rfl) rfl (hts _ q_f_X3_26) (fun _ h9 => h9) dX3_readOrders_38 ?_
        refine lv_iconst (pc := 41) hx hb dX3_readOrders_41 kc_1 ?_
        refine lv_iadd (pc := 42) hx hb dX3_readOrders_42 ?_
        refine xr_putI (pc := 43) (ci := 7) (ty := .int) hx hb hts inX3 tyX3 tyX3_ok nmX3 hown hK hR hF hS rfl k0.1 3 (Nat.le_of_ble_eq_true rfl) rfl (hts _ q_f_X3_26) (fun _ h9 => h9) rfl rfl rfl rfl dX3_readOrders_43 (fun H locs hR hS => ?_)
        refine lv_aload_n (pc := 46) hx hb dX3_readOrders_46 rfl (lv_at hl 0 rfl) ?_
        refine xr_getI (pc := 47) (ci := 7) hx hb hts inX3 hown hK hR rfl k0.1 4 (Nat.le_of_ble_eq_true rfl) rfl (hts _ q_f_X3_29) (fun _ h9 => h9) dX3_readOrders_47 ?_
        refine lv_aload_n (pc := 50) hx hb dX3_readOrders_50 rfl (lv_at hl 0 rfl) ?_
        refine xr_getI (pc := 51) (ci := 7) hx hb hts inX3 hown hK hR rfl k0.1 2 (Nat.le_of_ble_eq_true rfl) rfl (hts _ q_f_X3_22) (fun _ h9 => h9) dX3_readOrders_51 ?_
        refine lv_icmp_ne (pc := 54) (tgt := 59) hx hb dX3_readOrders_54 (by decide) (fun c5 => ?_) (fun c5 => ?_)
        · have h := xneg c5 h
          refine lv_aload_n (pc := 59) hx hb dX3_readOrders_59 rfl (lv_at hl 0 rfl) ?_
          refine lv_bipush (pc := 60) hx hb dX3_readOrders_60 kb_59 ?_
          obtain ⟨r6, m6, c6, h⟩ := xb_inv h
          refine xc_iV (pc := 62) (As := [.int _]) (rest := []) ⟨hx, hb, hml, hown, hts⟩ (mX3_readSign hF _ _ k0 c6) (xcwV 1 hts fdX3_readSign q_m_X3_36 ⟨Nat.le_of_ble_eq_true rfl, Nat.le_of_ble_eq_true rfl⟩) (xRecv hK hR (ci := 7) rfl k0.1) hR hK hE hS rfl hl.1 rfl (Nat.le_of_ble_eq_true rfl) dX3_readOrders_62 ⟨Nat.zero_le _, Nat.zero_le _⟩ (fun H locs hR hS => ?_)
          refine lv_if_ne (pc := 65) (tgt := 73) hx hb dX3_readOrders_65 (by decide) (fun c7 => ?_) (fun c7 => ?_)
          · have h := xneg c7 h
            refine lv_iinc (pc := 73) (lv' := [(1, .int _), (0, .ref _)]) hx hb dX3_readOrders_73 hl (k := 1) rfl (xinc kc_1) (Nat.le_of_ble_eq_true rfl) rfl (fun ls hl => ?_)
            refine lv_goto (pc := 76) (tgt := 12) hx hb dX3_readOrders_76 (by decide) ?_
            exact ih _ _ _ _ _ h hR hS (lv_sub hl [1, 0] rfl)
          · have h := xpos c7 h
            refine lv_aload_n (pc := 68) hx hb dX3_readOrders_68 rfl (lv_at hl 0 rfl) ?_
            refine xr_getI (pc := 69) (ci := 7) hx hb hts inX3 hown hK hR rfl k0.1 4 (Nat.le_of_ble_eq_true rfl) rfl (hts _ q_f_X3_29) (fun _ h9 => h9) dX3_readOrders_69 ?_
            exact xf_i (pc := 72) hx hb hr rfl hlocks h hR hK hS dX3_readOrders_72
        · have h := xpos c5 h
          refine lv_iconst (pc := 57) hx hb dX3_readOrders_57 kc_m1 ?_
          exact xf_i (pc := 58) hx hb hr rfl hlocks h hR hK hS dX3_readOrders_58
      · have h := xpos c4 h
        refine lv_aload_n (pc := 31) hx hb dX3_readOrders_31 rfl (lv_at hl 0 rfl) ?_
        refine xr_getI (pc := 32) (ci := 7) hx hb hts inX3 hown hK hR rfl k0.1 4 (Nat.le_of_ble_eq_true rfl) rfl (hts _ q_f_X3_29) (fun _ h9 => h9) dX3_readOrders_32 ?_
        exact xf_i (pc := 35) hx hb hr rfl hlocks h hR hK hS dX3_readOrders_35
set_option maxHeartbeats 1000000 in
set_option maxRecDepth 20000 in
theorem mX3_readOrders {l : Launch} {D : va_G} {ca : Nat → ClassId} {z : Nat} {G : xG} {X : va_W} {ad av : Nat → Nat} (hF : xFix z G X) (h0 : Nat) (k0 : xI_Input G h0) {μ μ1 : xM} {r : Int32} (h : fX3_readOrders h0 μ = some (r, μ1)) : xMi l yX3_readOrders (xws yX3_readOrders cX3_readOrders 2 (some .int)) 5 D ca z G X ad av [.ref h0] μ r μ1 := by
  refine xm_i (by decide) rfl (Nat.le_of_ble_eq_true rfl) [(0, .ref h0)] rfl ?_
  intro p e s m args below meth c ls hx hb hr hml hlocks hts hown hK hE hR hS hl
  have hts : ∀ w ∈ xAll, w.before args s = true := fun w hw => hts w (List.mem_cons_of_mem _ hw)
  rw [fX3_readOrders] at h
  refine lv_aload_n (pc := 0) hx hb dX3_readOrders_0 rfl (lv_at hl 0 rfl) ?_
  refine lv_iconst (pc := 1) hx hb dX3_readOrders_1 kc_0 ?_
  refine xr_putI (pc := 2) (ci := 7) (ty := .int) hx hb hts inX3 tyX3 tyX3_ok nmX3 hown hK hR hF hS rfl k0.1 3 (Nat.le_of_ble_eq_true rfl) rfl (hts _ q_f_X3_26) (fun _ h9 => h9) rfl rfl rfl rfl dX3_readOrders_2 (fun H locs hR hS => ?_)
  refine lv_aload_n (pc := 5) hx hb dX3_readOrders_5 rfl (lv_at hl 0 rfl) ?_
  refine lv_iconst (pc := 6) hx hb dX3_readOrders_6 kc_0 ?_
  refine xr_putI (pc := 7) (ci := 7) (ty := .int) hx hb hts inX3 tyX3 tyX3_ok nmX3 hown hK hR hF hS rfl k0.1 4 (Nat.le_of_ble_eq_true rfl) rfl (hts _ q_f_X3_29) (fun _ h9 => h9) rfl rfl rfl rfl dX3_readOrders_7 (fun H locs hR hS => ?_)
  refine lv_iconst (pc := 10) hx hb dX3_readOrders_10 kc_0 ?_
  refine lv_istore_n (pc := 11) (lv' := [(1, .int _), (0, .ref _)]) hx hb dX3_readOrders_11 rfl hl (Nat.le_of_ble_eq_true rfl) rfl (fun ls hl => ?_)
  exact wX3_readOrders_12 hF h0 k0 hx hb hr hml hlocks hts hown hK hE _ _ _ _ _ _ h hR hS (lv_sub hl [1, 0] rfl)
