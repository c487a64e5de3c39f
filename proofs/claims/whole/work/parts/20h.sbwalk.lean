set_option maxHeartbeats 1000000 in
set_option maxRecDepth 20000 in
theorem mJ5_isLatin1_aae02 {l : Launch} {D : va_G} {ca : Nat → ClassId} {z : Nat} {G : xG} {ad av : Nat → Nat} {sb v cap od : Nat} {ml k : Int32} {f : Nat → Int32} {fd : Nat → UInt64} {μ : xM}  : xMi l yJ5_isLatin1_aae02 (xws yJ5_isLatin1_aae02 cJ5_isLatin1_aae02 1 (some .boolean)) 0 D ca z G (sX ca sb v cap od ml k f fd) ad av [.ref sb] μ 1 μ := by
  refine xm_i (by decide) rfl (Nat.le_of_ble_eq_true rfl) [(0, .ref sb)] rfl ?_
  intro p e s m args below meth c ls hx hb hr hml hlocks hts hown hK hE hR hS hl
  have hts : ∀ w ∈ xAll, w.before args s = true := fun w hw => hts w (List.mem_cons_of_mem _ hw)
  refine va_gets (pc := 0) hx hb hE.2.2.2.2.1.1 hS hown (hts _ q_f_J5_18) (fun _ h9 => h9) dJ5_isLatin1_aae02_0 ?_
  refine lv_if_eq (pc := 3) (tgt := 17) hx hb dJ5_isLatin1_aae02_3 (by decide) (fun c1 => absurd c1 (by decide)) (fun _ => ?_)
  refine lv_aload_n (pc := 6) hx hb dJ5_isLatin1_aae02_6 rfl (lv_at hl 0 rfl) ?_
  refine sx_cod (pc := 7) hx hb hts hown hK hR q_f_J5_22 dJ5_isLatin1_aae02_7 ?_
  refine lv_if_ne (pc := 10) (tgt := 17) hx hb dJ5_isLatin1_aae02_10 (by decide) (fun c1 => absurd rfl c1) (fun _ => ?_)
  refine lv_iconst (pc := 13) hx hb dJ5_isLatin1_aae02_13 kc_1 ?_
  refine lv_goto (pc := 14) (tgt := 18) hx hb dJ5_isLatin1_aae02_14 (by decide) ?_
  exact xf_i (pc := 18) hx hb hr rfl hlocks rfl hR hK hS dJ5_isLatin1_aae02_18
set_option maxHeartbeats 1000000 in
set_option maxRecDepth 20000 in
theorem mJ5_newCapacity_0f7a4 {l : Launch} {D : va_G} {ca : Nat → ClassId} {z : Nat} {G : xG} {ad av : Nat → Nat} {sb v cap od : Nat} {ml k : Int32} {f : Nat → Int32} {fd : Nat → UInt64} {μ : xM} (hF : xFix z G (sX ca sb v cap od ml k f fd)) {q : Nat} (hc : cap = 16) (h1 : 16 < q) (h2 : q ≤ 34) : xMi l yJ5_newCapacity_0f7a4 (xws yJ5_newCapacity_0f7a4 cJ5_newCapacity_0f7a4 6 (some .int)) 2 D ca z G (sX ca sb v cap od ml k f fd) ad av [.ref sb, .int (nI q)] μ 34 μ := by
  subst hc
  have key : fJ8_newLength_cabcc (nI 16) ((nI q <<< ((0 : Int32) &&& 31)) - nI 16) (nI 16 + ((2 : Int32) <<< ((0 : Int32) &&& 31))) μ = some (34, μ) := by
    rw [sb_shl0, show nI q - nI 16 = nI (q - 16) from pk_sub (by omega), show nI 16 + ((2 : Int32) <<< ((0 : Int32) &&& 31)) = nI 18 by decide]
    have e1 : (if nI (q - 16) < nI 18 then nI 18 else nI (q - 16)) = nI 18 := by
      by_cases h : q - 16 < 18
      · exact if_pos (nI_lt h (by decide))
      · rw [if_neg (nI_nlt (by omega) (by omega)), show q - 16 = 18 by omega]
    unfold fJ8_newLength_cabcc
    rw [e1, if_neg (by decide), if_neg (by decide), show nI 16 + nI 18 = 34 by decide]
  refine xm_i (by decide) rfl (Nat.le_of_ble_eq_true rfl) [(0, .ref sb), (1, .int (nI q))] rfl ?_
  intro p e s m args below meth c ls hx hb hr hml hlocks hts hown hK hE hR hS hl
  have hts : ∀ w ∈ xAll, w.before args s = true := fun w hw => hts w (List.mem_cons_of_mem _ hw)
  refine lv_aload_n (pc := 0) hx hb dJ5_newCapacity_0f7a4_0 rfl (lv_at hl 0 rfl) ?_
  refine sx_val (pc := 1) hx hb hts hown hK hR q_f_J5_15 dJ5_newCapacity_0f7a4_1 ?_
  refine sx_len (pc := 4) hx hb hK hR dJ5_newCapacity_0f7a4_4 ?_
  refine lv_istore_n (pc := 5) (lv' := [(2, .int _), (0, .ref _), (1, .int _)]) hx hb dJ5_newCapacity_0f7a4_5 rfl hl (Nat.le_of_ble_eq_true rfl) rfl (fun ls hl => ?_)
  refine lv_iload_n (pc := 6) hx hb dJ5_newCapacity_0f7a4_6 rfl (lv_at hl 2 rfl) ?_
  refine lv_aload_n (pc := 7) hx hb dJ5_newCapacity_0f7a4_7 rfl (lv_at hl 1 rfl) ?_
  refine sx_cod (pc := 8) hx hb hts hown hK hR q_f_J5_22 dJ5_newCapacity_0f7a4_8 ?_
  refine lv_ishl (pc := 11) hx hb dJ5_newCapacity_0f7a4_11 ?_
  refine lv_istore_n (pc := 12) (lv' := [(3, .int _), (2, .int _), (0, .ref _), (1, .int _)]) hx hb dJ5_newCapacity_0f7a4_12 rfl hl (Nat.le_of_ble_eq_true rfl) rfl (fun ls hl => ?_)
  refine lv_iload_n (pc := 13) hx hb dJ5_newCapacity_0f7a4_13 rfl (lv_at hl 0 rfl) ?_
  refine lv_iload_n (pc := 14) hx hb dJ5_newCapacity_0f7a4_14 rfl (lv_at hl 1 rfl) ?_
  refine lv_isub (pc := 15) hx hb dJ5_newCapacity_0f7a4_15 ?_
  refine lv_istore (pc := 16) (lv' := [(4, .int _), (3, .int _), (2, .int _), (0, .ref _), (1, .int _)]) hx hb dJ5_newCapacity_0f7a4_16 hl (Nat.le_of_ble_eq_true rfl) rfl (fun ls hl => ?_)
  refine lv_iload_n (pc := 18) hx hb dJ5_newCapacity_0f7a4_18 rfl (lv_at hl 2 rfl) ?_
  refine lv_iload (pc := 19) hx hb dJ5_newCapacity_0f7a4_19 (lv_at hl 0 rfl) ?_
  refine lv_iload_n (pc := 21) hx hb dJ5_newCapacity_0f7a4_21 rfl (lv_at hl 2 rfl) ?_
  refine lv_iconst (pc := 22) hx hb dJ5_newCapacity_0f7a4_22 kc_2 ?_
  refine lv_aload_n (pc := 23) hx hb dJ5_newCapacity_0f7a4_23 rfl (lv_at hl 3 rfl) ?_
  refine sx_cod (pc := 24) hx hb hts hown hK hR q_f_J5_22 dJ5_newCapacity_0f7a4_24 ?_
  refine lv_ishl (pc := 27) hx hb dJ5_newCapacity_0f7a4_27 ?_
  refine lv_iadd (pc := 28) hx hb dJ5_newCapacity_0f7a4_28 ?_
  refine xc_iS (pc := 29) (As := [.int _, .int _, .int _]) (rest := []) ⟨hx, hb, hml, hown, hts⟩ (mJ8_newLength_cabcc hF _ _ _ key) (xcwS 3 hts fdJ8_newLength_cabcc q_m_J5_114 ⟨Nat.le_of_ble_eq_true rfl, Nat.le_of_ble_eq_true rfl⟩) hR hK hE hS rfl hl.1 rfl (Nat.le_of_ble_eq_true rfl) dJ5_newCapacity_0f7a4_29 ⟨Nat.zero_le _, Nat.zero_le _⟩ (fun H locs hR hS => ?_)
  refine lv_istore (pc := 32) (lv' := [(5, .int _), (4, .int _), (3, .int _), (2, .int _), (0, .ref _), (1, .int _)]) hx hb dJ5_newCapacity_0f7a4_32 hl (Nat.le_of_ble_eq_true rfl) rfl (fun ls hl => ?_)
  refine lv_iload (pc := 34) hx hb dJ5_newCapacity_0f7a4_34 (lv_at hl 0 rfl) ?_
  refine lv_ldc (pc := 36) hx hb hown (hts _ q_k_J5_39) dJ5_newCapacity_0f7a4_36 ?_
  refine lv_icmp_ne (pc := 38) (tgt := 51) hx hb dJ5_newCapacity_0f7a4_38 (by decide) (fun _ => ?_) (fun c1 => absurd c1 (by decide))
  refine lv_iload (pc := 51) hx hb dJ5_newCapacity_0f7a4_51 (lv_at hl 0 rfl) ?_
  refine lv_aload_n (pc := 53) hx hb dJ5_newCapacity_0f7a4_53 rfl (lv_at hl 4 rfl) ?_
  refine sx_cod (pc := 54) hx hb hts hown hK hR q_f_J5_22 dJ5_newCapacity_0f7a4_54 ?_
  refine lv_ishr (pc := 57) hx hb dJ5_newCapacity_0f7a4_57 ?_
  exact xf_i (pc := 58) hx hb hr rfl hlocks (congrArg (fun x => some (x, μ)) (sb_shr0 34)) hR hK hS dJ5_newCapacity_0f7a4_58
set_option maxHeartbeats 1000000 in
set_option maxRecDepth 20000 in
theorem mJ7_copyOf_9075b {l : Launch} {D : va_G} {ca : Nat → ClassId} {z : Nat} {G : xG} {ad av : Nat → Nat} {sb v od : Nat} {ml k : Int32} {f : Nat → Int32} {fd : Nat → UInt64} {μ : xM} (hF : xFix z G (sX ca sb v 16 od ml k f fd)) (hXD : va_D (fun q => z ≤ q) (sX ca sb v 16 od ml k f fd)) (hf : sb_Fit f) : xZ l yJ7_copyOf_9075b (xws yJ7_copyOf_9075b cJ7_copyOf_9075b 3 (some (.array .byte))) 1 1 34 D ca z G (sX ca sb v 16 od ml k f fd) ad av [.ref v, .int 34] μ (xQr D ca z G μ (fun q X1 => ∃ g : Nat → Int32, X1 = sX ca sb v 16 od ml k f fd ++ [xBy ca q 34 g] ∧ (∀ j, j < 16 → g j = f j) ∧ sb_Fit g)) := by
  refine xm_g (by decide) rfl (Nat.le_of_ble_eq_true rfl) [(0, .ref v), (1, .int 34)] rfl ?_
  intro p e s m args below meth c ls hx hb hr hml hlocks hts hown hK hE hR hS hl
  have hts : ∀ w ∈ xAll, w.before args s = true := fun w hw => hts w (List.mem_cons_of_mem _ hw)
  refine lv_iload_n (pc := 0) hx hb dJ7_copyOf_9075b_0 rfl (lv_at hl 1 rfl) ?_
  refine lv_aload_n (pc := 1) hx hb dJ7_copyOf_9075b_1 rfl (lv_at hl 0 rfl) ?_
  refine sx_len (pc := 2) hx hb hK hR dJ7_copyOf_9075b_2 ?_
  refine lv_icmp_ne (pc := 3) (tgt := 14) hx hb dJ7_copyOf_9075b_3 (by decide) (fun _ => ?_) (fun c1 => absurd c1 (by decide))
  refine lv_iload_n (pc := 14) hx hb dJ7_copyOf_9075b_14 rfl (lv_at hl 1 rfl) ?_
  refine sx_newb (pc := 15) hx hb (hts _ q_arrb) hK hR hF hXD hS (xzS hR hF) (N := 34) (by decide) (by decide) (by decide) (Nat.le_of_ble_eq_true rfl) (Nat.le_of_ble_eq_true rfl) dJ7_copyOf_9075b_15 (fun q H hR hF hXD hS => ?_)
  refine lv_astore_n (pc := 17) (lv' := [(2, .ref _), (0, .ref _), (1, .int _)]) hx hb dJ7_copyOf_9075b_17 rfl hl (Nat.le_of_ble_eq_true rfl) rfl (fun ls hl => ?_)
  refine lv_aload_n (pc := 18) hx hb dJ7_copyOf_9075b_18 rfl (lv_at hl 1 rfl) ?_
  refine lv_iconst (pc := 19) hx hb dJ7_copyOf_9075b_19 kc_0 ?_
  refine lv_aload_n (pc := 20) hx hb dJ7_copyOf_9075b_20 rfl (lv_at hl 0 rfl) ?_
  refine lv_iconst (pc := 21) hx hb dJ7_copyOf_9075b_21 kc_0 ?_
  refine lv_aload_n (pc := 22) hx hb dJ7_copyOf_9075b_22 rfl (lv_at hl 1 rfl) ?_
  refine va_alen (pc := 23) hx hb hK hR.2 1 2 rfl rfl (v := nI 16) rfl dJ7_copyOf_9075b_23 ?_
  refine lv_iload_n (pc := 24) hx hb dJ7_copyOf_9075b_24 rfl (lv_at hl 2 rfl) ?_
  refine va_mmin (pc := 25) hx hb (hml.trans hl.1.symm) hown (hts _ q_m_J7_304) (hts _ q_static_min) (hts _ q_initialized_Math) (hts _ q_code_min) (Nat.le_of_ble_eq_true rfl) (Nat.le_of_ble_eq_true rfl) (Nat.le_of_ble_eq_true rfl) (Nat.le_of_ble_eq_true rfl) dJ7_copyOf_9075b_25 ?_
  refine sx_copy (pc := 28) hx hb (hml.trans hl.1.symm) hown (hts _ q_m_J7_150) (hts _ q_native_ac) (hts _ q_static_ac) (hts _ q_initialized_System) hK hR hF hXD hS hf (Nat.le_of_ble_eq_true rfl) (Nat.le_of_ble_eq_true rfl) dJ7_copyOf_9075b_28 (fun H locs hR hF hXD hS => ?_)
  refine lv_aload_n (pc := 31) hx hb dJ7_copyOf_9075b_31 rfl (lv_at hl 0 rfl) ?_
  exact xg_r (pc := 32) hx hb hr (Or.inr ⟨_, rfl⟩) hlocks ⟨_, rfl, fun j hj => sb_cpy0 hj, sb_fitC hf sb_fit0⟩ hF hXD hR hK hS (Nat.le_of_ble_eq_true rfl) (Nat.le_of_ble_eq_true rfl) dJ7_copyOf_9075b_32
set_option maxHeartbeats 1000000 in
set_option maxRecDepth 20000 in
theorem mJ5_ensureCapacityInternal_d00df {l : Launch} {D : va_G} {ca : Nat → ClassId} {z : Nat} {G : xG} {ad av : Nat → Nat} {sb v cap od : Nat} {ml k : Int32} {f : Nat → Int32} {fd : Nat → UInt64} {μ : xM} (hF : xFix z G (sX ca sb v cap od ml k f fd)) (hXD : va_D (fun q => z ≤ q) (sX ca sb v cap od ml k f fd)) {q : Nat} (hcap : cap = 16 ∨ cap = 34) (hq : q ≤ 34) (hf : sb_Fit f) : xZ l yJ5_ensureCapacityInternal_d00df (xws yJ5_ensureCapacityInternal_d00df cJ5_ensureCapacityInternal_d00df 3 none) 3 1 34 D ca z G (sX ca sb v cap od ml k f fd) ad av [.ref sb, .int (nI q)] μ (xQv D ca z G μ (fun X1 => ∃ (v1 cap1 : Nat) (f1 : Nat → Int32), X1 = sX ca sb v1 cap1 od ml k f1 fd ∧ (cap1 = 16 ∨ cap1 = 34) ∧ q ≤ cap1 ∧ cap ≤ cap1 ∧ (∀ j, j < cap → f1 j = f j) ∧ sb_Fit f1)) := by
  refine xm_g (by decide) rfl (Nat.le_of_ble_eq_true rfl) [(0, .ref sb), (1, .int (nI q))] rfl ?_
  intro p e s m args below meth c ls hx hb hr hml hlocks hts hown hK hE hR hS hl
  have hts : ∀ w ∈ xAll, w.before args s = true := fun w hw => hts w (List.mem_cons_of_mem _ hw)
  refine lv_aload_n (pc := 0) hx hb dJ5_ensureCapacityInternal_d00df_0 rfl (lv_at hl 0 rfl) ?_
  refine sx_val (pc := 1) hx hb hts hown hK hR q_f_J5_15 dJ5_ensureCapacityInternal_d00df_1 ?_
  refine sx_len (pc := 4) hx hb hK hR dJ5_ensureCapacityInternal_d00df_4 ?_
  refine lv_aload_n (pc := 5) hx hb dJ5_ensureCapacityInternal_d00df_5 rfl (lv_at hl 0 rfl) ?_
  refine sx_cod (pc := 6) hx hb hts hown hK hR q_f_J5_22 dJ5_ensureCapacityInternal_d00df_6 ?_
  refine lv_ishr (pc := 9) hx hb dJ5_ensureCapacityInternal_d00df_9 ?_
  rw [sb_shr0]
  refine lv_istore_n (pc := 10) (lv' := [(2, .int _), (0, .ref _), (1, .int _)]) hx hb dJ5_ensureCapacityInternal_d00df_10 rfl hl (Nat.le_of_ble_eq_true rfl) rfl (fun ls hl => ?_)
  refine lv_iload_n (pc := 11) hx hb dJ5_ensureCapacityInternal_d00df_11 rfl (lv_at hl 2 rfl) ?_
  refine lv_iload_n (pc := 12) hx hb dJ5_ensureCapacityInternal_d00df_12 rfl (lv_at hl 0 rfl) ?_
  refine lv_isub (pc := 13) hx hb dJ5_ensureCapacityInternal_d00df_13 ?_
  have e1 : (nI q - nI cap).toInt = (q : Int) - cap := pk_sub_toInt (by omega) (by omega)
  refine lv_if_le (pc := 14) (tgt := 38) hx hb dJ5_ensureCapacityInternal_d00df_14 (by decide) (fun c1 => ?_) (fun c1 => ?_)
  · rw [Int32.le_iff_toInt_le, e1, Int32.toInt_zero] at c1
    exact xg_v (pc := 38) hx hb hr hlocks ⟨v, cap, f, rfl, hcap, by omega, Nat.le_refl _, fun _ _ => rfl, hf⟩ hF hXD hR hK hS (Nat.le_of_ble_eq_true rfl) (Nat.le_of_ble_eq_true rfl) dJ5_ensureCapacityInternal_d00df_38
  · rw [Int32.le_iff_toInt_le, e1, Int32.toInt_zero] at c1
    obtain rfl : cap = 16 := by omega
    refine lv_aload_n (pc := 17) hx hb dJ5_ensureCapacityInternal_d00df_17 rfl (lv_at hl 1 rfl) ?_
    refine lv_aload_n (pc := 18) hx hb dJ5_ensureCapacityInternal_d00df_18 rfl (lv_at hl 1 rfl) ?_
    refine sx_val (pc := 19) hx hb hts hown hK hR q_f_J5_15 dJ5_ensureCapacityInternal_d00df_19 ?_
    refine lv_aload_n (pc := 22) hx hb dJ5_ensureCapacityInternal_d00df_22 rfl (lv_at hl 1 rfl) ?_
    refine lv_iload_n (pc := 23) hx hb dJ5_ensureCapacityInternal_d00df_23 rfl (lv_at hl 2 rfl) ?_
    refine xc_iV (pc := 24) (As := [.int _]) (rest := [.ref _, .ref _]) ⟨hx, hb, hml, hown, hts⟩ (mJ5_newCapacity_0f7a4 hF rfl (by omega) hq) (xcwP 1 4 hts q_instanceMethod_J5_newCapacity_0f7a4 (hE.2.2.2.2.2.2.2.1 _ (List.mem_of_getElem? (i := 16) rfl)) q_instantiable_J4 q_selC_J5_isLatin1_aae02 rfl q_initialized_J5 q_code_J5_newCapacity_0f7a4 (by decide +kernel) q_m_J5_104 ⟨Nat.le_of_ble_eq_true rfl, Nat.le_of_ble_eq_true rfl⟩) (xSr hK hR) hR hK hE hS rfl hl.1 rfl (Nat.le_of_ble_eq_true rfl) dJ5_ensureCapacityInternal_d00df_24 ⟨Nat.zero_le _, Nat.zero_le _⟩ (fun H locs hR hS => ?_)
    refine lv_aload_n (pc := 27) hx hb dJ5_ensureCapacityInternal_d00df_27 rfl (lv_at hl 1 rfl) ?_
    refine sx_cod (pc := 28) hx hb hts hown hK hR q_f_J5_22 dJ5_ensureCapacityInternal_d00df_28 ?_
    refine lv_ishl (pc := 31) hx hb dJ5_ensureCapacityInternal_d00df_31 ?_
    rw [sb_shl0]
    refine xq_r (pc := 32) (va_runS (As := [.ref _, .int _]) (rest := [.ref _]) ⟨hx, hb, hml, hown, hts⟩ (mJ7_copyOf_9075b hF hXD hf) (xcwS 2 hts fdJ7_copyOf_9075b q_m_J5_108 ⟨Nat.le_of_ble_eq_true rfl, Nat.le_of_ble_eq_true rfl⟩) ⟨xSt_blind, xSt_at hR hK hE hS⟩ rfl rfl hl.1 rfl (lv_room (Nat.le_of_ble_eq_true rfl)) dJ5_ensureCapacityInternal_d00df_32 ⟨Nat.le_of_ble_eq_true rfl, Nat.le_of_ble_eq_true rfl⟩) hS (fun q1 X1 H locs hk hF hXD hR hS => ?_)
    obtain ⟨g, rfl, hg, hgf⟩ := hk
    refine sx_putv (pc := 35) hx hb hts hown hK hR hF hXD hS q_f_J5_15 dJ5_ensureCapacityInternal_d00df_35 (fun H locs hR hF hXD hS => ?_)
    exact xg_v (pc := 38) hx hb hr hlocks ⟨q1, 34, g, rfl, Or.inr rfl, hq, by decide, hg, hgf⟩ hF hXD hR hK hS (Nat.le_of_ble_eq_true rfl) (Nat.le_of_ble_eq_true rfl) dJ5_ensureCapacityInternal_d00df_38
set_option maxHeartbeats 1000000 in
set_option maxRecDepth 20000 in
theorem mJ5_append_3fe6f {l : Launch} {D : va_G} {ca : Nat → ClassId} {z : Nat} {G : xG} {ad av : Nat → Nat} {sb v cap od : Nat} {ml : Int32} {f : Nat → Int32} {fd : Nat → UInt64} {μ : xM} {n : Nat} {t : Nat → Nat} (hF : xFix z G (sX ca sb v cap od ml (nI n) f fd)) (hXD : va_D (fun q => z ≤ q) (sX ca sb v cap od ml (nI n) f fd)) (hcap : cap = 16 ∨ cap = 34) (hn : n ≤ cap) (hL : sb_Lat t n f) (hf : sb_Fit f) {c0 : Nat} (hc : c0 < 256) (hn2 : n + 1 ≤ 34) : xZ l yJ5_append_3fe6f (xws yJ5_append_3fe6f cJ5_append_3fe6f 2 (some (.object "java/lang/AbstractStringBuilder"))) 4 1 34 D ca z G (sX ca sb v cap od ml (nI n) f fd) ad av [.ref sb, .int (nI c0)] μ (xQr D ca z G μ (fun a X1 => a = sb ∧ xTx ca sb od fd (n + 1) (sb_cat t n (fun _ => c0)) X1)) := by
  refine xm_g (by decide) rfl (Nat.le_of_ble_eq_true rfl) [(0, .ref sb), (1, .int (nI c0))] rfl ?_
  intro p e s m args below meth c ls hx hb hr hml hlocks hts hown hK hE hR hS hl
  have hts : ∀ w ∈ xAll, w.before args s = true := fun w hw => hts w (List.mem_cons_of_mem _ hw)
  refine lv_aload_n (pc := 0) hx hb dJ5_append_3fe6f_0 rfl (lv_at hl 0 rfl) ?_
  refine lv_aload_n (pc := 1) hx hb dJ5_append_3fe6f_1 rfl (lv_at hl 0 rfl) ?_
  refine sx_cnt (pc := 2) hx hb hts hown hK hR q_f_J5_79 dJ5_append_3fe6f_2 ?_
  refine lv_iconst (pc := 5) hx hb dJ5_append_3fe6f_5 kc_1 ?_
  refine lv_iadd (pc := 6) hx hb dJ5_append_3fe6f_6 ?_
  rw [nI_1]
  refine xq_v (pc := 7) (va_runV (As := [.int _]) (rest := []) ⟨hx, hb, hml, hown, hts⟩ (mJ5_ensureCapacityInternal_d00df hF hXD hcap (q := n + 1) (by omega) hf) (xcwP 1 4 hts q_instanceMethod_J5_ensureCapacityInternal_d00df (hE.2.2.2.2.2.2.2.1 _ (List.mem_of_getElem? (i := 15) rfl)) q_instantiable_J4 q_selC_J5_isLatin1_aae02 rfl q_initialized_J5 q_code_J5_ensureCapacityInternal_d00df (by decide +kernel) q_m_J5_100 ⟨Nat.le_of_ble_eq_true rfl, Nat.le_of_ble_eq_true rfl⟩) ⟨xSt_blind, xSr hK hR, xSt_at hR hK hE hS⟩ rfl rfl hl.1 rfl (lv_room (Nat.le_of_ble_eq_true rfl)) dJ5_append_3fe6f_7 ⟨Nat.le_of_ble_eq_true rfl, Nat.le_of_ble_eq_true rfl⟩) hS (fun X1 H locs hk hF hXD hR hS => ?_)
  obtain ⟨v1, cap1, f1, rfl, hcap1, hq1, hcc, hff, hf1⟩ := hk
  refine lv_aload_n (pc := 10) hx hb dJ5_append_3fe6f_10 rfl (lv_at hl 0 rfl) ?_
  refine xc_iV (pc := 11) (As := []) (rest := []) ⟨hx, hb, hml, hown, hts⟩ (mJ5_isLatin1_aae02) (xcwC 0 hts fcJ5_isLatin1_aae02 q_m_J5_83 ⟨Nat.le_of_ble_eq_true rfl, Nat.le_of_ble_eq_true rfl⟩) (xSr hK hR) hR hK hE hS rfl hl.1 rfl (Nat.le_of_ble_eq_true rfl) dJ5_append_3fe6f_11 ⟨Nat.le_of_ble_eq_true rfl, Nat.le_of_ble_eq_true rfl⟩ (fun H locs hR hS => ?_)
  refine lv_if_eq (pc := 14) (tgt := 45) hx hb dJ5_append_3fe6f_14 (by decide) (fun c1 => absurd c1 (by decide)) (fun _ => ?_)
  refine lv_iload_n (pc := 17) hx hb dJ5_append_3fe6f_17 rfl (lv_at hl 1 rfl) ?_
  have hce : fJ1_canEncode_fc78d (nI c0) μ = some (1, μ) := by unfold fJ1_canEncode_fc78d; exact if_neg (show ¬ nI 255 < nI c0 from nI_nlt (by omega) (by decide))
  refine xc_iS (pc := 18) (As := [.int _]) (rest := []) ⟨hx, hb, hml, hown, hts⟩ (mJ1_canEncode_fc78d hF _ hce) (xcwS 1 hts fdJ1_canEncode_fc78d q_m_J5_191 ⟨Nat.le_of_ble_eq_true rfl, Nat.le_of_ble_eq_true rfl⟩) hR hK hE hS rfl hl.1 rfl (Nat.le_of_ble_eq_true rfl) dJ5_append_3fe6f_18 ⟨Nat.le_of_ble_eq_true rfl, Nat.le_of_ble_eq_true rfl⟩ (fun H locs hR hS => ?_)
  refine lv_if_eq (pc := 21) (tgt := 45) hx hb dJ5_append_3fe6f_21 (by decide) (fun c1 => absurd c1 (by decide)) (fun _ => ?_)
  refine lv_aload_n (pc := 24) hx hb dJ5_append_3fe6f_24 rfl (lv_at hl 0 rfl) ?_
  refine sx_val (pc := 25) hx hb hts hown hK hR q_f_J5_15 dJ5_append_3fe6f_25 ?_
  refine lv_aload_n (pc := 28) hx hb dJ5_append_3fe6f_28 rfl (lv_at hl 0 rfl) ?_
  refine lv_dup (pc := 29) hx hb dJ5_append_3fe6f_29 rfl ?_
  refine sx_cnt (pc := 30) hx hb hts hown hK hR q_f_J5_79 dJ5_append_3fe6f_30 ?_
  refine lv_dup_x1 (pc := 33) hx hb dJ5_append_3fe6f_33 rfl rfl ?_
  refine lv_iconst (pc := 34) hx hb dJ5_append_3fe6f_34 kc_1 ?_
  refine lv_iadd (pc := 35) hx hb dJ5_append_3fe6f_35 ?_
  rw [nI_1]
  refine sx_putc (pc := 36) hx hb hts hown hK hR hF hXD hS q_f_J5_79 dJ5_append_3fe6f_36 (fun H locs hR hF hXD hS => ?_)
  refine lv_iload_n (pc := 39) hx hb dJ5_append_3fe6f_39 rfl (lv_at hl 1 rfl) ?_
  refine lv_i2b (pc := 40) hx hb dJ5_append_3fe6f_40 (v := sb_b c0) rfl ?_
  refine sx_bast (pc := 41) hx hb hK hR hF hXD hS n (nI_clamp (by omega)) (vp_in_nI (by omega) (by omega)) (sb_b c0) (pk_vb _) dJ5_append_3fe6f_41 (fun H locs hR hF hXD hS => ?_)
  refine lv_goto (pc := 42) (tgt := 75) hx hb dJ5_append_3fe6f_42 (by decide) ?_
  refine lv_aload_n (pc := 75) hx hb dJ5_append_3fe6f_75 rfl (lv_at hl 0 rfl) ?_
  exact xg_r (pc := 76) hx hb hr (Or.inl ⟨_, rfl⟩) hlocks ⟨rfl, v1, cap1, ml, _, rfl, hcap1, by omega, sb_latPut hL (fun j hj => by rw [pk_un (by omega)]; exact hff j (by omega)) (fun i hi => ⟨hc, by have h0 := Nat.lt_one_iff.mp hi; subst h0; exact pk_us⟩), sb_fitU hf1 (sb_fitB c0)⟩ hF hXD hR hK hS (Nat.le_of_ble_eq_true rfl) (Nat.le_of_ble_eq_true rfl) dJ5_append_3fe6f_76
set_option maxHeartbeats 1000000 in
set_option maxRecDepth 20000 in
theorem mJ5_setLength_d00df {l : Launch} {D : va_G} {ca : Nat → ClassId} {z : Nat} {G : xG} {ad av : Nat → Nat} {sb v cap od : Nat} {ml : Int32} {f : Nat → Int32} {fd : Nat → UInt64} {μ : xM} {n : Nat} {t : Nat → Nat} (hF : xFix z G (sX ca sb v cap od ml (nI n) f fd)) (hXD : va_D (fun q => z ≤ q) (sX ca sb v cap od ml (nI n) f fd)) (hcap : cap = 16 ∨ cap = 34) (hn : n ≤ cap) (hL : sb_Lat t n f) (hf : sb_Fit f) : xZ l yJ5_setLength_d00df (xws yJ5_setLength_d00df cJ5_setLength_d00df 2 none) 4 1 34 D ca z G (sX ca sb v cap od ml (nI n) f fd) ad av [.ref sb, .int 0] μ (xQv D ca z G μ (fun X1 => xTx ca sb od fd 0 t X1)) := by
  refine xm_g (by decide) rfl (Nat.le_of_ble_eq_true rfl) [(0, .ref sb), (1, .int 0)] rfl ?_
  intro p e s m args below meth c ls hx hb hr hml hlocks hts hown hK hE hR hS hl
  have hts : ∀ w ∈ xAll, w.before args s = true := fun w hw => hts w (List.mem_cons_of_mem _ hw)
  refine lv_iload_n (pc := 0) hx hb dJ5_setLength_d00df_0 rfl (lv_at hl 1 rfl) ?_
  refine lv_if_ge (pc := 1) (tgt := 13) hx hb dJ5_setLength_d00df_1 (by decide) (fun _ => ?_) (fun c1 => absurd (by decide) c1)
  refine lv_aload_n (pc := 13) hx hb dJ5_setLength_d00df_13 rfl (lv_at hl 0 rfl) ?_
  refine lv_iload_n (pc := 14) hx hb dJ5_setLength_d00df_14 rfl (lv_at hl 1 rfl) ?_
  refine xq_v (pc := 15) (va_runV (As := [.int (nI 0)]) (rest := []) ⟨hx, hb, hml, hown, hts⟩ (mJ5_ensureCapacityInternal_d00df hF hXD hcap (q := 0) (by omega) hf) (xcwP 1 4 hts q_instanceMethod_J5_ensureCapacityInternal_d00df (hE.2.2.2.2.2.2.2.1 _ (List.mem_of_getElem? (i := 15) rfl)) q_instantiable_J4 q_selC_J5_isLatin1_aae02 rfl q_initialized_J5 q_code_J5_ensureCapacityInternal_d00df (by decide +kernel) q_m_J5_100 ⟨Nat.le_of_ble_eq_true rfl, Nat.le_of_ble_eq_true rfl⟩) ⟨xSt_blind, xSr hK hR, xSt_at hR hK hE hS⟩ rfl rfl hl.1 rfl (lv_room (Nat.le_of_ble_eq_true rfl)) dJ5_setLength_d00df_15 ⟨Nat.le_of_ble_eq_true rfl, Nat.le_of_ble_eq_true rfl⟩) hS (fun X1 H locs hk hF hXD hR hS => ?_)
  obtain ⟨v1, cap1, f1, rfl, hcap1, hq1, hcc, hff, hf1⟩ := hk
  refine lv_aload_n (pc := 18) hx hb dJ5_setLength_d00df_18 rfl (lv_at hl 0 rfl) ?_
  refine sx_cnt (pc := 19) hx hb hts hown hK hR q_f_J5_79 dJ5_setLength_d00df_19 ?_
  refine lv_iload_n (pc := 22) hx hb dJ5_setLength_d00df_22 rfl (lv_at hl 1 rfl) ?_
  refine lv_icmp_ge (pc := 23) (tgt := 63) hx hb dJ5_setLength_d00df_23 (by decide) (fun _ => ?_) (fun c1 => absurd (nI_pos' (by omega)) c1)
  refine lv_aload_n (pc := 63) hx hb dJ5_setLength_d00df_63 rfl (lv_at hl 0 rfl) ?_
  refine sx_cnt (pc := 64) hx hb hts hown hK hR q_f_J5_79 dJ5_setLength_d00df_64 ?_
  refine lv_iload_n (pc := 67) hx hb dJ5_setLength_d00df_67 rfl (lv_at hl 1 rfl) ?_
  refine lv_icmp_le (pc := 68) (tgt := 76) hx hb dJ5_setLength_d00df_68 (by decide) (fun _ => ?_) (fun _ => ?_)
  · refine lv_aload_n (pc := 76) hx hb dJ5_setLength_d00df_76 rfl (lv_at hl 0 rfl) ?_
    refine lv_iload_n (pc := 77) hx hb dJ5_setLength_d00df_77 rfl (lv_at hl 1 rfl) ?_
    refine sx_putc (k1 := nI 0) (pc := 78) hx hb hts hown hK hR hF hXD hS q_f_J5_79 dJ5_setLength_d00df_78 (fun H locs hR hF hXD hS => ?_)
    exact xg_v (pc := 81) hx hb hr hlocks ⟨v1, cap1, _, f1, rfl, hcap1, Nat.zero_le _, fun j hj => absurd hj (Nat.not_lt_zero j), hf1⟩ hF hXD hR hK hS (Nat.le_of_ble_eq_true rfl) (Nat.le_of_ble_eq_true rfl) dJ5_setLength_d00df_81
  · refine lv_aload_n (pc := 71) hx hb dJ5_setLength_d00df_71 rfl (lv_at hl 0 rfl) ?_
    refine lv_iconst (pc := 72) hx hb dJ5_setLength_d00df_72 kc_1 ?_
    refine sx_putm (pc := 73) hx hb hts hown hK hR hF hXD hS q_f_J5_73 dJ5_setLength_d00df_73 (fun H locs hR hF hXD hS => ?_)
    refine lv_aload_n (pc := 76) hx hb dJ5_setLength_d00df_76 rfl (lv_at hl 0 rfl) ?_
    refine lv_iload_n (pc := 77) hx hb dJ5_setLength_d00df_77 rfl (lv_at hl 1 rfl) ?_
    refine sx_putc (k1 := nI 0) (pc := 78) hx hb hts hown hK hR hF hXD hS q_f_J5_79 dJ5_setLength_d00df_78 (fun H locs hR hF hXD hS => ?_)
    exact xg_v (pc := 81) hx hb hr hlocks ⟨v1, cap1, _, f1, rfl, hcap1, Nat.zero_le _, fun j hj => absurd hj (Nat.not_lt_zero j), hf1⟩ hF hXD hR hK hS (Nat.le_of_ble_eq_true rfl) (Nat.le_of_ble_eq_true rfl) dJ5_setLength_d00df_81
set_option maxHeartbeats 1000000 in
set_option maxRecDepth 20000 in
theorem mJ5_length_8abf5 {l : Launch} {D : va_G} {ca : Nat → ClassId} {z : Nat} {G : xG} {ad av : Nat → Nat} {sb v cap od : Nat} {ml k : Int32} {f : Nat → Int32} {fd : Nat → UInt64} {μ : xM}  : xMi l yJ5_length_8abf5 (xws yJ5_length_8abf5 cJ5_length_8abf5 1 (some .int)) 0 D ca z G (sX ca sb v cap od ml k f fd) ad av [.ref sb] μ k μ := by
  refine xm_i (by decide) rfl (Nat.le_of_ble_eq_true rfl) [(0, .ref sb)] rfl ?_
  intro p e s m args below meth c ls hx hb hr hml hlocks hts hown hK hE hR hS hl
  have hts : ∀ w ∈ xAll, w.before args s = true := fun w hw => hts w (List.mem_cons_of_mem _ hw)
  refine lv_aload_n (pc := 0) hx hb dJ5_length_8abf5_0 rfl (lv_at hl 0 rfl) ?_
  refine sx_cnt (pc := 1) hx hb hts hown hK hR q_f_J5_79 dJ5_length_8abf5_1 ?_
  exact xf_i (pc := 4) hx hb hr rfl hlocks rfl hR hK hS dJ5_length_8abf5_4
theorem xnc : ∀ {c : Nat}, c < 256 → narrow .char (.int (nI c)) = .int (nI c) := by
  have h : ∀ c, c < 256 → narrow .char (.int (nI c)) = .int (nI c) := by decide +kernel
  intro c hc
  exact h c hc
set_option maxHeartbeats 1000000 in
set_option maxRecDepth 20000 in
theorem mJ5_charAt_5068e {l : Launch} {D : va_G} {ca : Nat → ClassId} {z : Nat} {G : xG} {ad av : Nat → Nat} {sb v cap od : Nat} {ml : Int32} {f : Nat → Int32} {fd : Nat → UInt64} {μ : xM} {n : Nat} {t : Nat → Nat} (hF : xFix z G (sX ca sb v cap od ml (nI n) f fd)) (hXD : va_D (fun q => z ≤ q) (sX ca sb v cap od ml (nI n) f fd)) (hcap : cap = 16 ∨ cap = 34) (hn : n ≤ cap) (hL : sb_Lat t n f) (hf : sb_Fit f) {j : Nat} (hj : j < n) : xMi l yJ5_charAt_5068e (xws yJ5_charAt_5068e cJ5_charAt_5068e 5 (some .char)) 2 D ca z G (sX ca sb v cap od ml (nI n) f fd) ad av [.ref sb, .int (nI j)] μ (nI (t j)) μ := by
  refine xm_i (by decide) rfl (Nat.le_of_ble_eq_true rfl) [(0, .ref sb), (1, .int (nI j))] rfl ?_
  intro p e s m args below meth c ls hx hb hr hml hlocks hts hown hK hE hR hS hl
  have hts : ∀ w ∈ xAll, w.before args s = true := fun w hw => hts w (List.mem_cons_of_mem _ hw)
  refine lv_aload_n (pc := 0) hx hb dJ5_charAt_5068e_0 rfl (lv_at hl 0 rfl) ?_
  refine sx_cod (pc := 1) hx hb hts hown hK hR q_f_J5_22 dJ5_charAt_5068e_1 ?_
  refine lv_istore_n (pc := 4) (lv' := [(2, .int _), (0, .ref _), (1, .int _)]) hx hb dJ5_charAt_5068e_4 rfl hl (Nat.le_of_ble_eq_true rfl) rfl (fun ls hl => ?_)
  refine lv_aload_n (pc := 5) hx hb dJ5_charAt_5068e_5 rfl (lv_at hl 1 rfl) ?_
  refine sx_val (pc := 6) hx hb hts hown hK hR q_f_J5_15 dJ5_charAt_5068e_6 ?_
  refine lv_astore_n (pc := 9) (lv' := [(3, .ref _), (2, .int _), (0, .ref _), (1, .int _)]) hx hb dJ5_charAt_5068e_9 rfl hl (Nat.le_of_ble_eq_true rfl) rfl (fun ls hl => ?_)
  refine lv_aload_n (pc := 10) hx hb dJ5_charAt_5068e_10 rfl (lv_at hl 2 rfl) ?_
  refine sx_cnt (pc := 11) hx hb hts hown hK hR q_f_J5_79 dJ5_charAt_5068e_11 ?_
  refine lv_aload_n (pc := 14) hx hb dJ5_charAt_5068e_14 rfl (lv_at hl 0 rfl) ?_
  refine sx_len (pc := 15) hx hb hK hR dJ5_charAt_5068e_15 ?_
  refine lv_iload_n (pc := 16) hx hb dJ5_charAt_5068e_16 rfl (lv_at hl 1 rfl) ?_
  refine lv_ishr (pc := 17) hx hb dJ5_charAt_5068e_17 ?_
  rw [sb_shr0]
  refine va_mmin (pc := 18) hx hb (hml.trans hl.1.symm) hown (hts _ q_m_J5_138) (hts _ q_static_min) (hts _ q_initialized_Math) (hts _ q_code_min) (Nat.le_of_ble_eq_true rfl) (Nat.le_of_ble_eq_true rfl) (Nat.le_of_ble_eq_true rfl) (Nat.le_of_ble_eq_true rfl) dJ5_charAt_5068e_18 ?_
  have e1 : (if nI cap < nI n then nI cap else nI n) = nI n := if_neg (nI_nlt hn (by omega))
  have e2 : fJ0_checkIndex_df160 (nI j) (nI n) μ = some μ := by
      unfold fJ0_checkIndex_df160 fJ3_checkIndex_8e157
      rw [if_neg (nI_pos (by omega)), if_pos (nI_lt hj (by omega))]
      rfl
  rw [e1]
  refine lv_istore (pc := 21) (lv' := [(4, .int _), (3, .ref _), (2, .int _), (0, .ref _), (1, .int _)]) hx hb dJ5_charAt_5068e_21 hl (Nat.le_of_ble_eq_true rfl) rfl (fun ls hl => ?_)
  refine lv_iload_n (pc := 23) hx hb dJ5_charAt_5068e_23 rfl (lv_at hl 4 rfl) ?_
  refine lv_iload (pc := 24) hx hb dJ5_charAt_5068e_24 (lv_at hl 0 rfl) ?_
  refine xc_vS (pc := 26) (As := [.int _, .int _]) (rest := []) ⟨hx, hb, hml, hown, hts⟩ (mJ0_checkIndex_df160 hF _ _ e2) (xcwS 2 hts fdJ0_checkIndex_df160 q_m_J5_144 ⟨Nat.le_of_ble_eq_true rfl, Nat.le_of_ble_eq_true rfl⟩) hR hK hE hS rfl hl.1 rfl (Nat.le_of_ble_eq_true rfl) dJ5_charAt_5068e_26 ⟨Nat.le_of_ble_eq_true rfl, Nat.le_of_ble_eq_true rfl⟩ (fun H locs hR hS => ?_)
  refine lv_iload_n (pc := 29) hx hb dJ5_charAt_5068e_29 rfl (lv_at hl 2 rfl) ?_
  refine lv_if_ne (pc := 30) (tgt := 42) hx hb dJ5_charAt_5068e_30 (by decide) (fun c1 => absurd rfl c1) (fun _ => ?_)
  refine lv_aload_n (pc := 33) hx hb dJ5_charAt_5068e_33 rfl (lv_at hl 1 rfl) ?_
  refine lv_iload_n (pc := 34) hx hb dJ5_charAt_5068e_34 rfl (lv_at hl 4 rfl) ?_
  refine sx_bald (pc := 35) hx hb hK hR (vp_in_nI (by omega) (by omega)) dJ5_charAt_5068e_35 ?_
  rw [nI_clamp (by omega), (hL j hj).2]
  refine lv_sipush (pc := 36) hx hb dJ5_charAt_5068e_36 ks_255 ?_
  refine lv_iand (pc := 39) hx hb dJ5_charAt_5068e_39 ?_
  rw [show sb_b (t j) &&& (255 : Int32) = nI (t j) from (sb_byte _ (hL j hj).1).1]
  refine lv_i2c (pc := 40) hx hb dJ5_charAt_5068e_40 (sb_byte _ (hL j hj).1).2.1 ?_
  exact xf_i (pc := 41) hx hb hr (xnc (hL j hj).1) hlocks rfl hR hK hS dJ5_charAt_5068e_41
