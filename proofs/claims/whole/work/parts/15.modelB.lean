set_option maxHeartbeats 1000000 in
set_option maxRecDepth 20000 in
theorem mX8_claim {l : Launch} {D : va_G} {ca : Nat → ClassId} {z : Nat} {G : xG} {X : va_W} {ad av : Nat → Nat} (hF : xFix z G X) (h0 : Nat) (p1 : Int32) (k0 : xI_Model G h0) {μ μ1 : xM} {r : Int32} (h : fX8_claim h0 p1 μ = some (r, μ1)) : xMi l yX8_claim (xws yX8_claim cX8_claim 3 (some .int)) 2 D ca z G X ad av [.ref h0, .int p1] μ r μ1 := by
  refine xm_i (by decide) rfl (Nat.le_of_ble_eq_true rfl) [(0, .ref h0), (1, .int p1)] rfl ?_
  intro p e s m args below meth c ls hx hb hr hml hlocks hts hown hK hE hR hS hl
  have hts : ∀ w ∈ xAll, w.before args s = true := fun w hw => hts w (List.mem_cons_of_mem _ hw)
  rw [fX8_claim] at h
  refine lv_aload_n (pc := 0) hx hb dX8_claim_0 rfl (lv_at hl 0 rfl) ?_
  refine lv_iload_n (pc := 1) hx hb dX8_claim_1 rfl (lv_at hl 1 rfl) ?_
  refine lv_iconst (pc := 2) hx hb dX8_claim_2 kc_0 ?_
  refine lv_iconst (pc := 3) hx hb dX8_claim_3 kc_5 ?_
  obtain ⟨r1, m1, c1, h⟩ := xb_inv h
  refine xc_iS (pc := 4) (As := [.int _, .int _, .int _]) (rest := [.ref _]) ⟨hx, hb, hml, hown, hts⟩ (mX8_in hF _ _ _  c1) (xcwS 3 hts fdX8_in q_m_X8_59 ⟨Nat.le_of_ble_eq_true rfl, Nat.le_of_ble_eq_true rfl⟩) hR hK hE hS rfl hl.1 rfl (Nat.le_of_ble_eq_true rfl) dX8_claim_4 ⟨Nat.zero_le _, Nat.zero_le _⟩ (fun H locs hR hS => ?_)
  refine lv_if_eq (pc := 7) (tgt := 14) hx hb dX8_claim_7 (by decide) (fun c2 => ?_) (fun c2 => ?_)
  · have h := xpos c2 h
    refine lv_iconst (pc := 14) hx hb dX8_claim_14 kc_1 ?_
    obtain ⟨r3, m3, c3, h⟩ := xb_inv h
    refine xc_iV (pc := 15) (As := [.int _]) (rest := []) ⟨hx, hb, hml, hown, hts⟩ (mX8_fails hF _ _ k0 c3) (xcwV 1 hts fdX8_fails q_m_X8_67 ⟨Nat.le_of_ble_eq_true rfl, Nat.le_of_ble_eq_true rfl⟩) (xRecv hK hR (ci := 12) rfl k0.1) hR hK hE hS rfl hl.1 rfl (Nat.le_of_ble_eq_true rfl) dX8_claim_15 ⟨Nat.zero_le _, Nat.zero_le _⟩ (fun H locs hR hS => ?_)
    refine lv_if_eq (pc := 18) (tgt := 23) hx hb dX8_claim_18 (by decide) (fun c4 => ?_) (fun c4 => ?_)
    · have h := xpos c4 h
      refine lv_aload_n (pc := 23) hx hb dX8_claim_23 rfl (lv_at hl 0 rfl) ?_
      refine xr_getR (pc := 24) (ci := 12) hx hb hts inX8 hown hK hR rfl k0.1 0 (Nat.le_of_ble_eq_true rfl) rfl k0.2.1.1 (hts _ q_f_X8_7) (fun _ h9 => h9) dX8_claim_24 ?_
      refine lv_sipush (pc := 27) hx hb dX8_claim_27 ks_187 ?_
      refine lv_iload_n (pc := 30) hx hb dX8_claim_30 rfl (lv_at hl 1 rfl) ?_
      refine lv_iadd (pc := 31) hx hb dX8_claim_31 ?_
      obtain ⟨c5, h⟩ := xk_inv h
      refine xr_ialdk (pc := 32) (Int32.toNatClampNeg (((187 : Int32) + p1))) hx hb hK hR k0.2.1.2.1 k0.2.1.2.2 rfl c5 dX8_claim_32 ?_
      refine lv_istore_n (pc := 33) (lv' := [(2, .int _), (0, .ref _), (1, .int _)]) hx hb dX8_claim_33 rfl hl (Nat.le_of_ble_eq_true rfl) rfl (fun ls hl => ?_)
      refine lv_iload_n (pc := 34) hx hb dX8_claim_34 rfl (lv_at hl 0 rfl) ?_
      refine lv_if_ne (pc := 35) (tgt := 52) hx hb dX8_claim_35 (by decide) (fun c6 => ?_) (fun c6 => ?_)
      · have h := xneg c6 h
        refine lv_iload_n (pc := 52) hx hb dX8_claim_52 rfl (lv_at hl 0 rfl) ?_
        refine lv_aload_n (pc := 53) hx hb dX8_claim_53 rfl (lv_at hl 1 rfl) ?_
        refine xr_getR (pc := 54) (ci := 12) hx hb hts inX8 hown hK hR rfl k0.1 0 (Nat.le_of_ble_eq_true rfl) rfl k0.2.1.1 (hts _ q_f_X8_7) (fun _ h9 => h9) dX8_claim_54 ?_
        refine lv_iconst (pc := 57) hx hb dX8_claim_57 kc_4 ?_
        refine xr_ialdk (pc := 58) 4 hx hb hK hR k0.2.1.2.1 k0.2.1.2.2 tn_4 (vl_4 (by decide)) dX8_claim_58 ?_
        refine lv_icmp_le (pc := 59) (tgt := 75) hx hb dX8_claim_59 (by decide) (fun c7 => ?_) (fun c7 => ?_)
        · have h := xpos c7 h
          refine lv_aload_n (pc := 75) hx hb dX8_claim_75 rfl (lv_at hl 1 rfl) ?_
          refine lv_aload_n (pc := 76) hx hb dX8_claim_76 rfl (lv_at hl 1 rfl) ?_
          refine xr_getR (pc := 77) (ci := 12) hx hb hts inX8 hown hK hR rfl k0.1 0 (Nat.le_of_ble_eq_true rfl) rfl k0.2.1.1 (hts _ q_f_X8_7) (fun _ h9 => h9) dX8_claim_77 ?_
          obtain ⟨m8, c8, h⟩ := xbv_inv h
          refine xc_vV (pc := 80) (As := [.ref _]) (rest := []) ⟨hx, hb, hml, hown, hts⟩ (mX8_keeps hF _ _ k0 k0.2.1.2 c8) (xcwV 1 hts fdX8_keeps q_m_X8_75 ⟨Nat.le_of_ble_eq_true rfl, Nat.le_of_ble_eq_true rfl⟩) (xRecv hK hR (ci := 12) rfl k0.1) hR hK hE hS rfl hl.1 rfl (Nat.le_of_ble_eq_true rfl) dX8_claim_80 ⟨Nat.zero_le _, Nat.zero_le _⟩ (fun H locs hR hS => ?_)
          refine lv_aload_n (pc := 83) hx hb dX8_claim_83 rfl (lv_at hl 1 rfl) ?_
          refine xr_getR (pc := 84) (ci := 12) hx hb hts inX8 hown hK hR rfl k0.1 0 (Nat.le_of_ble_eq_true rfl) rfl k0.2.1.1 (hts _ q_f_X8_7) (fun _ h9 => h9) dX8_claim_84 ?_
          refine lv_sipush (pc := 87) hx hb dX8_claim_87 ks_187 ?_
          refine lv_iload_n (pc := 90) hx hb dX8_claim_90 rfl (lv_at hl 2 rfl) ?_
          refine lv_iadd (pc := 91) hx hb dX8_claim_91 ?_
          refine lv_iconst (pc := 92) hx hb dX8_claim_92 kc_0 ?_
          obtain ⟨c9, h⟩ := xk_inv h
          refine xr_iastk (pc := 93) (Int32.toNatClampNeg (((187 : Int32) + p1))) hx hb hK hR hF hS k0.2.1.2.1 k0.2.1.2.2 rfl c9 dX8_claim_93 (fun H locs hR hS => ?_)
          refine lv_aload_n (pc := 94) hx hb dX8_claim_94 rfl (lv_at hl 1 rfl) ?_
          refine xr_getR (pc := 95) (ci := 12) hx hb hts inX8 hown hK hR rfl k0.1 0 (Nat.le_of_ble_eq_true rfl) rfl k0.2.1.1 (hts _ q_f_X8_7) (fun _ h9 => h9) dX8_claim_95 ?_
          refine lv_sipush (pc := 98) hx hb dX8_claim_98 ks_193 ?_
          refine lv_iload_n (pc := 101) hx hb dX8_claim_101 rfl (lv_at hl 2 rfl) ?_
          refine lv_iadd (pc := 102) hx hb dX8_claim_102 ?_
          refine lv_dup2_11 (pc := 103) hx hb dX8_claim_103 rfl rfl ?_
          obtain ⟨c10, h⟩ := xk_inv h
          refine xr_ialdk (pc := 104) (Int32.toNatClampNeg (((193 : Int32) + p1))) hx hb hK hR k0.2.1.2.1 k0.2.1.2.2 rfl c10 dX8_claim_104 ?_
          refine lv_iload_n (pc := 105) hx hb dX8_claim_105 rfl (lv_at hl 0 rfl) ?_
          refine lv_iadd (pc := 106) hx hb dX8_claim_106 ?_
          obtain ⟨c11, h⟩ := xk_inv h
          refine xr_iastk (pc := 107) (Int32.toNatClampNeg (((193 : Int32) + p1))) hx hb hK hR hF hS k0.2.1.2.1 k0.2.1.2.2 rfl c11 dX8_claim_107 (fun H locs hR hS => ?_)
          refine lv_aload_n (pc := 108) hx hb dX8_claim_108 rfl (lv_at hl 1 rfl) ?_
          refine xr_getR (pc := 109) (ci := 12) hx hb hts inX8 hown hK hR rfl k0.1 0 (Nat.le_of_ble_eq_true rfl) rfl k0.2.1.1 (hts _ q_f_X8_7) (fun _ h9 => h9) dX8_claim_109 ?_
          refine lv_iconst (pc := 112) hx hb dX8_claim_112 kc_4 ?_
          refine lv_dup2_11 (pc := 113) hx hb dX8_claim_113 rfl rfl ?_
          refine xr_ialdk (pc := 114) 4 hx hb hK hR k0.2.1.2.1 k0.2.1.2.2 tn_4 (vl_4 (by decide)) dX8_claim_114 ?_
          refine lv_iload_n (pc := 115) hx hb dX8_claim_115 rfl (lv_at hl 0 rfl) ?_
          refine lv_isub (pc := 116) hx hb dX8_claim_116 ?_
          refine xr_iastk (pc := 117) 4 hx hb hK hR hF hS k0.2.1.2.1 k0.2.1.2.2 tn_4 (vl_4 (by decide)) dX8_claim_117 (fun H locs hR hS => ?_)
          refine lv_aload_n (pc := 118) hx hb dX8_claim_118 rfl (lv_at hl 1 rfl) ?_
          refine xr_getR (pc := 119) (ci := 12) hx hb hts inX8 hown hK hR rfl k0.1 0 (Nat.le_of_ble_eq_true rfl) rfl k0.2.1.1 (hts _ q_f_X8_7) (fun _ h9 => h9) dX8_claim_119 ?_
          refine lv_bipush (pc := 122) hx hb dX8_claim_122 kb_8 ?_
          refine lv_dup2_11 (pc := 124) hx hb dX8_claim_124 rfl rfl ?_
          refine xr_ialdk (pc := 125) 8 hx hb hK hR k0.2.1.2.1 k0.2.1.2.2 tn_8 (vl_8 (by decide)) dX8_claim_125 ?_
          refine lv_iload_n (pc := 126) hx hb dX8_claim_126 rfl (lv_at hl 0 rfl) ?_
          refine lv_iadd (pc := 127) hx hb dX8_claim_127 ?_
          refine xr_iastk (pc := 128) 8 hx hb hK hR hF hS k0.2.1.2.1 k0.2.1.2.2 tn_8 (vl_8 (by decide)) dX8_claim_128 (fun H locs hR hS => ?_)
          refine lv_iload_n (pc := 129) hx hb dX8_claim_129 rfl (lv_at hl 0 rfl) ?_
          exact xf_i (pc := 130) hx hb hr rfl hlocks h hR hK hS dX8_claim_130
        · have h := xneg c7 h
          refine lv_aload_n (pc := 62) hx hb dX8_claim_62 rfl (lv_at hl 1 rfl) ?_
          refine lv_iconst (pc := 63) hx hb dX8_claim_63 kc_2 ?_
          refine lv_iconst (pc := 64) hx hb dX8_claim_64 kc_3 ?_
          refine lv_aload_n (pc := 65) hx hb dX8_claim_65 rfl (lv_at hl 1 rfl) ?_
          refine xr_getR (pc := 66) (ci := 12) hx hb hts inX8 hown hK hR rfl k0.1 0 (Nat.le_of_ble_eq_true rfl) rfl k0.2.1.1 (hts _ q_f_X8_7) (fun _ h9 => h9) dX8_claim_66 ?_
          refine lv_iconst (pc := 69) hx hb dX8_claim_69 kc_4 ?_
          refine xr_ialdk (pc := 70) 4 hx hb hK hR k0.2.1.2.1 k0.2.1.2.2 tn_4 (vl_4 (by decide)) dX8_claim_70 ?_
          obtain ⟨r12, m12, c12, h⟩ := xb_inv h
          refine xc_iV (pc := 71) (As := [.int _, .int _, .int _]) (rest := []) ⟨hx, hb, hml, hown, hts⟩ (mX8_refuses hF _ _ _ _ k0 c12) (xcwV 3 hts fdX8_refuses q_m_X8_71 ⟨Nat.le_of_ble_eq_true rfl, Nat.le_of_ble_eq_true rfl⟩) (xRecv hK hR (ci := 12) rfl k0.1) hR hK hE hS rfl hl.1 rfl (Nat.le_of_ble_eq_true rfl) dX8_claim_71 ⟨Nat.zero_le _, Nat.zero_le _⟩ (fun H locs hR hS => ?_)
          exact xf_i (pc := 74) hx hb hr rfl hlocks h hR hK hS dX8_claim_74
      · have h := xpos c6 h
        refine lv_aload_n (pc := 38) hx hb dX8_claim_38 rfl (lv_at hl 1 rfl) ?_
        refine lv_iconst (pc := 39) hx hb dX8_claim_39 kc_2 ?_
        refine lv_bipush (pc := 40) hx hb dX8_claim_40 kb_9 ?_
        refine lv_aload_n (pc := 42) hx hb dX8_claim_42 rfl (lv_at hl 1 rfl) ?_
        refine lv_iload_n (pc := 43) hx hb dX8_claim_43 rfl (lv_at hl 2 rfl) ?_
        refine lv_iconst (pc := 44) hx hb dX8_claim_44 kc_3 ?_
        obtain ⟨r13, m13, c13, h⟩ := xb_inv h
        refine xc_iV (pc := 45) (As := [.int _, .int _]) (rest := [.int _, .int _, .ref _]) ⟨hx, hb, hml, hown, hts⟩ (mX8_ofOwner hF _ _ _ k0 c13) (xcwV 2 hts fdX8_ofOwner q_m_X8_101 ⟨Nat.le_of_ble_eq_true rfl, Nat.le_of_ble_eq_true rfl⟩) (xRecv hK hR (ci := 12) rfl k0.1) hR hK hE hS rfl hl.1 rfl (Nat.le_of_ble_eq_true rfl) dX8_claim_45 ⟨Nat.zero_le _, Nat.zero_le _⟩ (fun H locs hR hS => ?_)
        obtain ⟨r14, m14, c14, h⟩ := xb_inv h
        refine xc_iV (pc := 48) (As := [.int _, .int _, .int _]) (rest := []) ⟨hx, hb, hml, hown, hts⟩ (mX8_refuses hF _ _ _ _ k0 c14) (xcwV 3 hts fdX8_refuses q_m_X8_71 ⟨Nat.le_of_ble_eq_true rfl, Nat.le_of_ble_eq_true rfl⟩) (xRecv hK hR (ci := 12) rfl k0.1) hR hK hE hS rfl hl.1 rfl (Nat.le_of_ble_eq_true rfl) dX8_claim_48 ⟨Nat.zero_le _, Nat.zero_le _⟩ (fun H locs hR hS => ?_)
        exact xf_i (pc := 51) hx hb hr rfl hlocks h hR hK hS dX8_claim_51
    · have h := xneg c4 h
      refine lv_iconst (pc := 21) hx hb dX8_claim_21 kc_0 ?_
      exact xf_i (pc := 22) hx hb hr rfl hlocks h hR hK hS dX8_claim_22
  · have h := xneg c2 h
    refine lv_iconst (pc := 10) hx hb dX8_claim_10 kc_0 ?_
    refine lv_goto (pc := 11) (tgt := 15) hx hb dX8_claim_11 (by decide) ?_
    obtain ⟨r15, m15, c15, h⟩ := xb_inv h
    refine xc_iV (pc := 15) (As := [.int _]) (rest := []) ⟨hx, hb, hml, hown, hts⟩ (mX8_fails hF _ _ k0 c15) (xcwV 1 hts fdX8_fails q_m_X8_67 ⟨Nat.le_of_ble_eq_true rfl, Nat.le_of_ble_eq_true rfl⟩) (xRecv hK hR (ci := 12) rfl k0.1) hR hK hE hS rfl hl.1 rfl (Nat.le_of_ble_eq_true rfl) dX8_claim_15 ⟨Nat.zero_le _, Nat.zero_le _⟩ (fun H locs hR hS => ?_)
    refine lv_if_eq (pc := 18) (tgt := 23) hx hb dX8_claim_18 (by decide) (fun c16 => ?_) (fun c16 => ?_)
    · have h := xpos c16 h
      refine lv_aload_n (pc := 23) hx hb dX8_claim_23 rfl (lv_at hl 0 rfl) ?_
      refine xr_getR (pc := 24) (ci := 12) hx hb hts inX8 hown hK hR rfl k0.1 0 (Nat.le_of_ble_eq_true rfl) rfl k0.2.1.1 (hts _ q_f_X8_7) (fun _ h9 => h9) dX8_claim_24 ?_
      refine lv_sipush (pc := 27) hx hb dX8_claim_27 ks_187 ?_
      refine lv_iload_n (pc := 30) hx hb dX8_claim_30 rfl (lv_at hl 1 rfl) ?_
      refine lv_iadd (pc := 31) hx hb dX8_claim_31 ?_
      obtain ⟨c17, h⟩ := xk_inv h
      refine xr_ialdk (pc := 32) (Int32.toNatClampNeg (((187 : Int32) + p1))) hx hb hK hR k0.2.1.2.1 k0.2.1.2.2 rfl c17 dX8_claim_32 ?_
      refine lv_istore_n (pc := 33) (lv' := [(2, .int _), (0, .ref _), (1, .int _)]) hx hb dX8_claim_33 rfl hl (Nat.le_of_ble_eq_true rfl) rfl (fun ls hl => ?_)
      refine lv_iload_n (pc := 34) hx hb dX8_claim_34 rfl (lv_at hl 0 rfl) ?_
      refine lv_if_ne (pc := 35) (tgt := 52) hx hb dX8_claim_35 (by decide) (fun c18 => ?_) (fun c18 => ?_)
      · have h := xneg c18 h
        refine lv_iload_n (pc := 52) hx hb dX8_claim_52 rfl (lv_at hl 0 rfl) ?_
        refine lv_aload_n (pc := 53) hx hb dX8_claim_53 rfl (lv_at hl 1 rfl) ?_
        refine xr_getR (pc := 54) (ci := 12) hx hb hts inX8 hown hK hR rfl k0.1 0 (Nat.le_of_ble_eq_true rfl) rfl k0.2.1.1 (hts _ q_f_X8_7) (fun _ h9 => h9) dX8_claim_54 ?_
        refine lv_iconst (pc := 57) hx hb dX8_claim_57 kc_4 ?_
        refine xr_ialdk (pc := 58) 4 hx hb hK hR k0.2.1.2.1 k0.2.1.2.2 tn_4 (vl_4 (by decide)) dX8_claim_58 ?_
        refine lv_icmp_le (pc := 59) (tgt := 75) hx hb dX8_claim_59 (by decide) (fun c19 => ?_) (fun c19 => ?_)
        · have h := xpos c19 h
          refine lv_aload_n (pc := 75) hx hb dX8_claim_75 rfl (lv_at hl 1 rfl) ?_
          refine lv_aload_n (pc := 76) hx hb dX8_claim_76 rfl (lv_at hl 1 rfl) ?_
          refine xr_getR (pc := 77) (ci := 12) hx hb hts inX8 hown hK hR rfl k0.1 0 (Nat.le_of_ble_eq_true rfl) rfl k0.2.1.1 (hts _ q_f_X8_7) (fun _ h9 => h9) dX8_claim_77 ?_
          obtain ⟨m20, c20, h⟩ := xbv_inv h
          refine xc_vV (pc := 80) (As := [.ref _]) (rest := []) ⟨hx, hb, hml, hown, hts⟩ (mX8_keeps hF _ _ k0 k0.2.1.2 c20) (xcwV 1 hts fdX8_keeps q_m_X8_75 ⟨Nat.le_of_ble_eq_true rfl, Nat.le_of_ble_eq_true rfl⟩) (xRecv hK hR (ci := 12) rfl k0.1) hR hK hE hS rfl hl.1 rfl (Nat.le_of_ble_eq_true rfl) dX8_claim_80 ⟨Nat.zero_le _, Nat.zero_le _⟩ (fun H locs hR hS => ?_)
          refine lv_aload_n (pc := 83) hx hb dX8_claim_83 rfl (lv_at hl 1 rfl) ?_
          refine xr_getR (pc := 84) (ci := 12) hx hb hts inX8 hown hK hR rfl k0.1 0 (Nat.le_of_ble_eq_true rfl) rfl k0.2.1.1 (hts _ q_f_X8_7) (fun _ h9 => h9) dX8_claim_84 ?_
          refine lv_sipush (pc := 87) hx hb dX8_claim_87 ks_187 ?_
          refine lv_iload_n (pc := 90) hx hb dX8_claim_90 rfl (lv_at hl 2 rfl) ?_
          refine lv_iadd (pc := 91) hx hb dX8_claim_91 ?_
          refine lv_iconst (pc := 92) hx hb dX8_claim_92 kc_0 ?_
          obtain ⟨c21, h⟩ := xk_inv h
          refine xr_iastk (pc := 93) (Int32.toNatClampNeg (((187 : Int32) + p1))) hx hb hK hR hF hS k0.2.1.2.1 k0.2.1.2.2 rfl c21 dX8_claim_93 (fun H locs hR hS => ?_)
          refine lv_aload_n (pc := 94) hx hb dX8_claim_94 rfl (lv_at hl 1 rfl) ?_
          refine xr_getR (pc := 95) (ci := 12) hx hb hts inX8 hown hK hR rfl k0.1 0 (Nat.le_of_ble_eq_true rfl) rfl k0.2.1.1 (hts _ q_f_X8_7) (fun _ h9 => h9) dX8_claim_95 ?_
          refine lv_sipush (pc := 98) hx hb dX8_claim_98 ks_193 ?_
          refine lv_iload_n (pc := 101) hx hb dX8_claim_101 rfl (lv_at hl 2 rfl) ?_
          refine lv_iadd (pc := 102) hx hb dX8_claim_102 ?_
          refine lv_dup2_11 (pc := 103) hx hb dX8_claim_103 rfl rfl ?_
          obtain ⟨c22, h⟩ := xk_inv h
          refine xr_ialdk (pc := 104) (Int32.toNatClampNeg (((193 : Int32) + p1))) hx hb hK hR k0.2.1.2.1 k0.2.1.2.2 rfl c22 dX8_claim_104 ?_
          refine lv_iload_n (pc := 105) hx hb dX8_claim_105 rfl (lv_at hl 0 rfl) ?_
          refine lv_iadd (pc := 106) hx hb dX8_claim_106 ?_
          obtain ⟨c23, h⟩ := xk_inv h
          refine xr_iastk (pc := 107) (Int32.toNatClampNeg (((193 : Int32) + p1))) hx hb hK hR hF hS k0.2.1.2.1 k0.2.1.2.2 rfl c23 dX8_claim_107 (fun H locs hR hS => ?_)
          refine lv_aload_n (pc := 108) hx hb dX8_claim_108 rfl (lv_at hl 1 rfl) ?_
          refine xr_getR (pc := 109) (ci := 12) hx hb hts inX8 hown hK hR rfl k0.1 0 (Nat.le_of_ble_eq_true rfl) rfl k0.2.1.1 (hts _ q_f_X8_7) (fun _ h9 => h9) dX8_claim_109 ?_
          refine lv_iconst (pc := 112) hx hb dX8_claim_112 kc_4 ?_
          refine lv_dup2_11 (pc := 113) hx hb dX8_claim_113 rfl rfl ?_
          refine xr_ialdk (pc := 114) 4 hx hb hK hR k0.2.1.2.1 k0.2.1.2.2 tn_4 (vl_4 (by decide)) dX8_claim_114 ?_
          refine lv_iload_n (pc := 115) hx hb dX8_claim_115 rfl (lv_at hl 0 rfl) ?_
          refine lv_isub (pc := 116) hx hb dX8_claim_116 ?_
          refine xr_iastk (pc := 117) 4 hx hb hK hR hF hS k0.2.1.2.1 k0.2.1.2.2 tn_4 (vl_4 (by decide)) dX8_claim_117 (fun H locs hR hS => ?_)
          refine lv_aload_n (pc := 118) hx hb dX8_claim_118 rfl (lv_at hl 1 rfl) ?_
          refine xr_getR (pc := 119) (ci := 12) hx hb hts inX8 hown hK hR rfl k0.1 0 (Nat.le_of_ble_eq_true rfl) rfl k0.2.1.1 (hts _ q_f_X8_7) (fun _ h9 => h9) dX8_claim_119 ?_
          refine lv_bipush (pc := 122) hx hb dX8_claim_122 kb_8 ?_
          refine lv_dup2_11 (pc := 124) hx hb dX8_claim_124 rfl rfl ?_
          refine xr_ialdk (pc := 125) 8 hx hb hK hR k0.2.1.2.1 k0.2.1.2.2 tn_8 (vl_8 (by decide)) dX8_claim_125 ?_
          refine lv_iload_n (pc := 126) hx hb dX8_claim_126 rfl (lv_at hl 0 rfl) ?_
          refine lv_iadd (pc := 127) hx hb dX8_claim_127 ?_
          refine xr_iastk (pc := 128) 8 hx hb hK hR hF hS k0.2.1.2.1 k0.2.1.2.2 tn_8 (vl_8 (by decide)) dX8_claim_128 (fun H locs hR hS => ?_)
          refine lv_iload_n (pc := 129) hx hb dX8_claim_129 rfl (lv_at hl 0 rfl) ?_
          exact xf_i (pc := 130) hx hb hr rfl hlocks h hR hK hS dX8_claim_130
        · have h := xneg c19 h
          refine lv_aload_n (pc := 62) hx hb dX8_claim_62 rfl (lv_at hl 1 rfl) ?_
          refine lv_iconst (pc := 63) hx hb dX8_claim_63 kc_2 ?_
          refine lv_iconst (pc := 64) hx hb dX8_claim_64 kc_3 ?_
          refine lv_aload_n (pc := 65) hx hb dX8_claim_65 rfl (lv_at hl 1 rfl) ?_
          refine xr_getR (pc := 66) (ci := 12) hx hb hts inX8 hown hK hR rfl k0.1 0 (Nat.le_of_ble_eq_true rfl) rfl k0.2.1.1 (hts _ q_f_X8_7) (fun _ h9 => h9) dX8_claim_66 ?_
          refine lv_iconst (pc := 69) hx hb dX8_claim_69 kc_4 ?_
          refine xr_ialdk (pc := 70) 4 hx hb hK hR k0.2.1.2.1 k0.2.1.2.2 tn_4 (vl_4 (by decide)) dX8_claim_70 ?_
          obtain ⟨r24, m24, c24, h⟩ := xb_inv h
          refine xc_iV (pc := 71) (As := [.int _, .int _, .int _]) (rest := []) ⟨hx, hb, hml, hown, hts⟩ (mX8_refuses hF _ _ _ _ k0 c24) (xcwV 3 hts fdX8_refuses q_m_X8_71 ⟨Nat.le_of_ble_eq_true rfl, Nat.le_of_ble_eq_true rfl⟩) (xRecv hK hR (ci := 12) rfl k0.1) hR hK hE hS rfl hl.1 rfl (Nat.le_of_ble_eq_true rfl) dX8_claim_71 ⟨Nat.zero_le _, Nat.zero_le _⟩ (fun H locs hR hS => ?_)
          exact xf_i (pc := 74) hx hb hr rfl hlocks h hR hK hS dX8_claim_74
      · have h := xpos c18 h
        refine lv_aload_n (pc := 38) hx hb dX8_claim_38 rfl (lv_at hl 1 rfl) ?_
        refine lv_iconst (pc := 39) hx hb dX8_claim_39 kc_2 ?_
        refine lv_bipush (pc := 40) hx hb dX8_claim_40 kb_9 ?_
        refine lv_aload_n (pc := 42) hx hb dX8_claim_42 rfl (lv_at hl 1 rfl) ?_
        refine lv_iload_n (pc := 43) hx hb dX8_claim_43 rfl (lv_at hl 2 rfl) ?_
        refine lv_iconst (pc := 44) hx hb dX8_claim_44 kc_3 ?_
        obtain ⟨r25, m25, c25, h⟩ := xb_inv h
        refine xc_iV (pc := 45) (As := [.int _, .int _]) (rest := [.int _, .int _, .ref _]) ⟨hx, hb, hml, hown, hts⟩ (mX8_ofOwner hF _ _ _ k0 c25) (xcwV 2 hts fdX8_ofOwner q_m_X8_101 ⟨Nat.le_of_ble_eq_true rfl, Nat.le_of_ble_eq_true rfl⟩) (xRecv hK hR (ci := 12) rfl k0.1) hR hK hE hS rfl hl.1 rfl (Nat.le_of_ble_eq_true rfl) dX8_claim_45 ⟨Nat.zero_le _, Nat.zero_le _⟩ (fun H locs hR hS => ?_)
        obtain ⟨r26, m26, c26, h⟩ := xb_inv h
        refine xc_iV (pc := 48) (As := [.int _, .int _, .int _]) (rest := []) ⟨hx, hb, hml, hown, hts⟩ (mX8_refuses hF _ _ _ _ k0 c26) (xcwV 3 hts fdX8_refuses q_m_X8_71 ⟨Nat.le_of_ble_eq_true rfl, Nat.le_of_ble_eq_true rfl⟩) (xRecv hK hR (ci := 12) rfl k0.1) hR hK hE hS rfl hl.1 rfl (Nat.le_of_ble_eq_true rfl) dX8_claim_48 ⟨Nat.zero_le _, Nat.zero_le _⟩ (fun H locs hR hS => ?_)
        exact xf_i (pc := 51) hx hb hr rfl hlocks h hR hK hS dX8_claim_51
    · have h := xneg c16 h
      refine lv_iconst (pc := 21) hx hb dX8_claim_21 kc_0 ?_
      exact xf_i (pc := 22) hx hb hr rfl hlocks h hR hK hS dX8_claim_22
set_option maxHeartbeats 1000000 in
set_option maxRecDepth 20000 in
theorem wX8_lotAt_30 {p : Program} {l : Launch} {e : Env} {s : State} {m : MethodId} {args : Array Value} {below : List Frame} {meth : Method} {c : Code} {D : va_G} {ca : Nat → ClassId} {z : Nat} {G : xG} {X : va_W} {ad av : Nat → Nat} {Q : State → Prop} {RT : Option FieldType} (hF : xFix z G X) (h0 : Nat) (p1 : Int32) (k0 : xI_Model G h0) (hx : p.tables.exec = Jvm.exec) (hb : c.code = cX8_lotAt) (hr : meth.sig.returnType = RT) (hml : c.maxLocals = 5) (hlocks : meth.locks = false) (hts : ∀ w ∈ xAll, w.before args s = true) (hown : s.vm.findClass RX8 = some m.cls) (hK : va_K D vwCl (xT ca) s) (hE : xEv z ad av s s.heap) {q : Int32 × Int32 × xM} :
    ∀ (n : Nat) (x2 : Int32) (x3 : Int32) (x4 : Int32) (μ : xM) (H : Heap) (locs : List Loc) (ls : Array Slot), lX8_lotAt_30 h0 p1 n x2 x3 x4 μ = some q → xRep D ca G X μ H → va_S (fun q => z ≤ q) s.heap H locs → lv_has ls 5 [(0, .ref h0), (1, .int p1), (2, .int x2), (3, .int x3), (4, .int x4)] → (∀ (H : Heap) (locs : List Loc) (ls : Array Slot), xRep D ca G X (q.2.2) H → va_S (fun q => z ≤ q) s.heap H locs → lv_has ls 5 [(0, .ref h0), (1, .int p1), (2, .int x2), (3, .int (q.1)), (4, .int (q.2.1))] → W p l e (xRm 1 0 0) s m args below meth c H locs 0 0 Q (F0 m 84 ls [])) → W p l e (xRm 1 0 0) s m args below meth c H locs 0 0 Q (F0 m 30 ls []) := by
  intro n
  induction n with
  | zero => intro x2 x3 x4 μ H locs ls h; cases h
  | succ n ih =>
    intro x2 x3 x4 μ H locs ls h hR hS hl kk
    rw [lX8_lotAt_30] at h
    refine lv_iload (pc := 30) hx hb dX8_lotAt_30 (lv_at hl 4 rfl) ?_
    refine lv_aload_n (pc := 32) hx hb dX8_lotAt_32 rfl (lv_at hl 0 rfl) ?_
    refine xr_getR (pc := 33) (ci := 12) hx hb hts inX8 hown hK hR rfl k0.1 0 (Nat.le_of_ble_eq_true rfl) rfl k0.2.1.1 (hts _ q_f_X8_7) (fun _ h9 => h9) dX8_lotAt_33 ?_
    refine lv_iconst (pc := 36) hx hb dX8_lotAt_36 kc_1 ?_
    refine xr_ialdk (pc := 37) 1 hx hb hK hR k0.2.1.2.1 k0.2.1.2.2 tn_1 (vl_1 (by decide)) dX8_lotAt_37 ?_
    refine lv_icmp_ge (pc := 38) (tgt := 84) hx hb dX8_lotAt_38 (by decide) (fun c4 => ?_) (fun c4 => ?_)
    · have h := xpos c4 h
      cases h
      exact kk H locs ls hR hS (lv_sub hl [0, 1, 2, 3, 4] rfl)
    · have h := xneg c4 h
      refine lv_iload_n (pc := 41) hx hb dX8_lotAt_41 rfl (lv_at hl 3 rfl) ?_
      refine lv_aload_n (pc := 42) hx hb dX8_lotAt_42 rfl (lv_at hl 0 rfl) ?_
      refine lv_iload (pc := 43) hx hb dX8_lotAt_43 (lv_at hl 4 rfl) ?_
      refine lv_iconst (pc := 45) hx hb dX8_lotAt_45 kc_4 ?_
      obtain ⟨r5, m5, c5, h⟩ := xb_inv h
      refine xc_iV (pc := 46) (As := [.int _, .int _]) (rest := [.int _]) ⟨hx, hb, hml, hown, hts⟩ (mX8_of hF _ _ _ k0 c5) (xcwV 2 hts fdX8_of q_m_X8_63 ⟨Nat.le_of_ble_eq_true rfl, Nat.le_of_ble_eq_true rfl⟩) (xRecv hK hR (ci := 12) rfl k0.1) hR hK hE hS rfl hl.1 rfl (Nat.le_of_ble_eq_true rfl) dX8_lotAt_46 ⟨Nat.zero_le _, Nat.zero_le _⟩ (fun H locs hR hS => ?_)
      refine lv_iconst (pc := 49) hx hb dX8_lotAt_49 kc_1 ?_
      refine lv_icmp_ne (pc := 50) (tgt := 75) hx hb dX8_lotAt_50 (by decide) (fun c6 => ?_) (fun c6 => ?_)
      · have h := xneg c6 h
        refine lv_iconst (pc := 75) hx hb dX8_lotAt_75 kc_0 ?_
        refine lv_iadd (pc := 76) hx hb dX8_lotAt_76 ?_
        refine lv_istore_n (pc := 77) (lv' := [(3, .int _), (0, .ref _), (1, .int _), (2, .int _), (4, .int _)]) hx hb dX8_lotAt_77 rfl hl (Nat.le_of_ble_eq_true rfl) rfl (fun ls hl => ?_)
        refine lv_iinc (pc := 78) (lv' := [(4, .int _), (3, .int _), (0, .ref _), (1, .int _), (2, .int _)]) hx hb dX8_lotAt_78 hl (k := 4) rfl (xinc kc_1) (Nat.le_of_ble_eq_true rfl) rfl (fun ls hl => ?_)
        refine lv_goto (pc := 81) (tgt := 30) hx hb dX8_lotAt_81 (by decide) ?_
        exact ih _ _ _ _ _ _ _ h hR hS (lv_sub hl [2, 3, 4, 1, 0] rfl) kk
      · have h := xpos c6 h
        refine lv_aload_n (pc := 53) hx hb dX8_lotAt_53 rfl (lv_at hl 0 rfl) ?_
        refine lv_iload (pc := 54) hx hb dX8_lotAt_54 (lv_at hl 4 rfl) ?_
        refine lv_bipush (pc := 56) hx hb dX8_lotAt_56 kb_10 ?_
        obtain ⟨r7, m7, c7, h⟩ := xb_inv h
        refine xc_iV (pc := 58) (As := [.int _, .int _]) (rest := [.int _]) ⟨hx, hb, hml, hown, hts⟩ (mX8_of hF _ _ _ k0 c7) (xcwV 2 hts fdX8_of q_m_X8_63 ⟨Nat.le_of_ble_eq_true rfl, Nat.le_of_ble_eq_true rfl⟩) (xRecv hK hR (ci := 12) rfl k0.1) hR hK hE hS rfl hl.1 rfl (Nat.le_of_ble_eq_true rfl) dX8_lotAt_58 ⟨Nat.zero_le _, Nat.zero_le _⟩ (fun H locs hR hS => ?_)
        refine lv_aload_n (pc := 61) hx hb dX8_lotAt_61 rfl (lv_at hl 0 rfl) ?_
        refine lv_iload_n (pc := 62) hx hb dX8_lotAt_62 rfl (lv_at hl 2 rfl) ?_
        refine lv_bipush (pc := 63) hx hb dX8_lotAt_63 kb_10 ?_
        obtain ⟨r8, m8, c8, h⟩ := xb_inv h
        refine xc_iV (pc := 65) (As := [.int _, .int _]) (rest := [.int _, .int _]) ⟨hx, hb, hml, hown, hts⟩ (mX8_of hF _ _ _ k0 c8) (xcwV 2 hts fdX8_of q_m_X8_63 ⟨Nat.le_of_ble_eq_true rfl, Nat.le_of_ble_eq_true rfl⟩) (xRecv hK hR (ci := 12) rfl k0.1) hR hK hE hS rfl hl.1 rfl (Nat.le_of_ble_eq_true rfl) dX8_lotAt_65 ⟨Nat.zero_le _, Nat.zero_le _⟩ (fun H locs hR hS => ?_)
        refine lv_icmp_ge (pc := 68) (tgt := 75) hx hb dX8_lotAt_68 (by decide) (fun c9 => ?_) (fun c9 => ?_)
        · have h := xpos c9 h
          refine lv_iconst (pc := 75) hx hb dX8_lotAt_75 kc_0 ?_
          refine lv_iadd (pc := 76) hx hb dX8_lotAt_76 ?_
          refine lv_istore_n (pc := 77) (lv' := [(3, .int _), (0, .ref _), (1, .int _), (2, .int _), (4, .int _)]) hx hb dX8_lotAt_77 rfl hl (Nat.le_of_ble_eq_true rfl) rfl (fun ls hl => ?_)
          refine lv_iinc (pc := 78) (lv' := [(4, .int _), (3, .int _), (0, .ref _), (1, .int _), (2, .int _)]) hx hb dX8_lotAt_78 hl (k := 4) rfl (xinc kc_1) (Nat.le_of_ble_eq_true rfl) rfl (fun ls hl => ?_)
          refine lv_goto (pc := 81) (tgt := 30) hx hb dX8_lotAt_81 (by decide) ?_
          exact ih _ _ _ _ _ _ _ h hR hS (lv_sub hl [2, 3, 4, 1, 0] rfl) kk
        · have h := xneg c9 h
          refine lv_iconst (pc := 71) hx hb dX8_lotAt_71 kc_1 ?_
          refine lv_goto (pc := 72) (tgt := 76) hx hb dX8_lotAt_72 (by decide) ?_
          refine lv_iadd (pc := 76) hx hb dX8_lotAt_76 ?_
          refine lv_istore_n (pc := 77) (lv' := [(3, .int _), (0, .ref _), (1, .int _), (2, .int _), (4, .int _)]) hx hb dX8_lotAt_77 rfl hl (Nat.le_of_ble_eq_true rfl) rfl (fun ls hl => ?_)
          refine lv_iinc (pc := 78) (lv' := [(4, .int _), (3, .int _), (0, .ref _), (1, .int _), (2, .int _)]) hx hb dX8_lotAt_78 hl (k := 4) rfl (xinc kc_1) (Nat.le_of_ble_eq_true rfl) rfl (fun ls hl => ?_)
          refine lv_goto (pc := 81) (tgt := 30) hx hb dX8_lotAt_81 (by decide) ?_
          exact ih _ _ _ _ _ _ _ h hR hS (lv_sub hl [2, 3, 4, 1, 0] rfl) kk
set_option maxHeartbeats 1000000 in
set_option maxRecDepth 20000 in
theorem wX8_lotAt_2 {p : Program} {l : Launch} {e : Env} {s : State} {m : MethodId} {args : Array Value} {below : List Frame} {meth : Method} {c : Code} {D : va_G} {ca : Nat → ClassId} {z : Nat} {G : xG} {X : va_W} {ad av : Nat → Nat} (hF : xFix z G X) (h0 : Nat) (p1 : Int32) (k0 : xI_Model G h0) (hx : p.tables.exec = Jvm.exec) (hb : c.code = cX8_lotAt) (hr : meth.sig.returnType = (some .int)) (hml : c.maxLocals = 5) (hlocks : meth.locks = false) (hts : ∀ w ∈ xAll, w.before args s = true) (hown : s.vm.findClass RX8 = some m.cls) (hK : va_K D vwCl (xT ca) s) (hE : xEv z ad av s s.heap) {μ1 : xM} {r : Int32} :
    ∀ (n : Nat) (x2 : Int32) (μ : xM) (H : Heap) (locs : List Loc) (ls : Array Slot), lX8_lotAt_2 h0 p1 n x2 μ = some (r, μ1) → xRep D ca G X μ H → va_S (fun q => z ≤ q) s.heap H locs → lv_has ls 5 [(0, .ref h0), (1, .int p1), (2, .int x2)] → W p l e (xRm 1 0 0) s m args below meth c H locs 0 0 (MQ below (va_Qi (fun (r' : Int32) (_ : Unit) => r' = r) (fun _ t => xB D ca G X μ1 t) (fun q => z ≤ q)) args s 0 0 (fun q => z ≤ q)) (F0 m 2 ls []) := by
  intro n
  induction n with
  | zero => intro x2 μ H locs ls h; cases h
  | succ n ih =>
    intro x2 μ H locs ls h hR hS hl
    rw [lX8_lotAt_2] at h
    refine lv_iload_n (pc := 2) hx hb dX8_lotAt_2 rfl (lv_at hl 2 rfl) ?_
    refine lv_aload_n (pc := 3) hx hb dX8_lotAt_3 rfl (lv_at hl 0 rfl) ?_
    refine xr_getR (pc := 4) (ci := 12) hx hb hts inX8 hown hK hR rfl k0.1 0 (Nat.le_of_ble_eq_true rfl) rfl k0.2.1.1 (hts _ q_f_X8_7) (fun _ h9 => h9) dX8_lotAt_4 ?_
    refine lv_iconst (pc := 7) hx hb dX8_lotAt_7 kc_1 ?_
    refine xr_ialdk (pc := 8) 1 hx hb hK hR k0.2.1.2.1 k0.2.1.2.2 tn_1 (vl_1 (by decide)) dX8_lotAt_8 ?_
    refine lv_icmp_ge (pc := 9) (tgt := 105) hx hb dX8_lotAt_9 (by decide) (fun c1 => ?_) (fun c1 => ?_)
    · have h := xpos c1 h
      refine lv_aload_n (pc := 105) hx hb dX8_lotAt_105 rfl (lv_at hl 0 rfl) ?_
      refine lv_iconst (pc := 106) hx hb dX8_lotAt_106 kc_1 ?_
      refine xr_putI (pc := 107) (ci := 12) (ty := .int) hx hb hts inX8 tyX8 tyX8_ok nmX8 hown hK hR hF hS rfl k0.1 7 (Nat.le_of_ble_eq_true rfl) rfl (hts _ q_f_X8_39) (fun _ h9 => h9) rfl rfl rfl rfl dX8_lotAt_107 (fun H locs hR hS => ?_)
      refine lv_iconst (pc := 110) hx hb dX8_lotAt_110 kc_0 ?_
      exact xf_i (pc := 111) hx hb hr rfl hlocks h hR hK hS dX8_lotAt_111
    · have h := xneg c1 h
      refine lv_aload_n (pc := 12) hx hb dX8_lotAt_12 rfl (lv_at hl 0 rfl) ?_
      refine lv_iload_n (pc := 13) hx hb dX8_lotAt_13 rfl (lv_at hl 2 rfl) ?_
      refine lv_iconst (pc := 14) hx hb dX8_lotAt_14 kc_4 ?_
      obtain ⟨r2, m2, c2, h⟩ := xb_inv h
      refine xc_iV (pc := 15) (As := [.int _, .int _]) (rest := []) ⟨hx, hb, hml, hown, hts⟩ (mX8_of hF _ _ _ k0 c2) (xcwV 2 hts fdX8_of q_m_X8_63 ⟨Nat.le_of_ble_eq_true rfl, Nat.le_of_ble_eq_true rfl⟩) (xRecv hK hR (ci := 12) rfl k0.1) hR hK hE hS rfl hl.1 rfl (Nat.le_of_ble_eq_true rfl) dX8_lotAt_15 ⟨Nat.zero_le _, Nat.zero_le _⟩ (fun H locs hR hS => ?_)
      refine lv_iconst (pc := 18) hx hb dX8_lotAt_18 kc_1 ?_
      refine lv_icmp_eq (pc := 19) (tgt := 25) hx hb dX8_lotAt_19 (by decide) (fun c3 => ?_) (fun c3 => ?_)
      · have h := xpos c3 h
        refine lv_iconst (pc := 25) hx hb dX8_lotAt_25 kc_0 ?_
        refine lv_istore_n (pc := 26) (lv' := [(3, .int _), (0, .ref _), (1, .int _), (2, .int _)]) hx hb dX8_lotAt_26 rfl hl (Nat.le_of_ble_eq_true rfl) rfl (fun ls hl => ?_)
        refine lv_iconst (pc := 27) hx hb dX8_lotAt_27 kc_0 ?_
        refine lv_istore (pc := 28) (lv' := [(4, .int _), (3, .int _), (0, .ref _), (1, .int _), (2, .int _)]) hx hb dX8_lotAt_28 hl (Nat.le_of_ble_eq_true rfl) rfl (fun ls hl => ?_)
        obtain ⟨q10, c10, h⟩ := xbt_inv h
        refine wX8_lotAt_30 hF h0 p1 k0 hx hb hr hml hlocks hts hown hK hE _ _ _ _ _ _ _ _ c10 hR hS (lv_sub hl [2, 3, 4, 1, 0] rfl) (fun H locs ls hR hS hl => ?_)
        refine lv_iload_n (pc := 84) hx hb dX8_lotAt_84 rfl (lv_at hl 3 rfl) ?_
        refine lv_iload_n (pc := 85) hx hb dX8_lotAt_85 rfl (lv_at hl 1 rfl) ?_
        refine lv_icmp_eq (pc := 86) (tgt := 92) hx hb dX8_lotAt_86 (by decide) (fun c11 => ?_) (fun c11 => ?_)
        · have h := xpos c11 h
          refine lv_aload_n (pc := 92) hx hb dX8_lotAt_92 rfl (lv_at hl 0 rfl) ?_
          refine lv_iconst (pc := 93) hx hb dX8_lotAt_93 kc_0 ?_
          refine xr_putI (pc := 94) (ci := 12) (ty := .int) hx hb hts inX8 tyX8 tyX8_ok nmX8 hown hK hR hF hS rfl k0.1 7 (Nat.le_of_ble_eq_true rfl) rfl (hts _ q_f_X8_39) (fun _ h9 => h9) rfl rfl rfl rfl dX8_lotAt_94 (fun H locs hR hS => ?_)
          refine lv_iload_n (pc := 97) hx hb dX8_lotAt_97 rfl (lv_at hl 2 rfl) ?_
          exact xf_i (pc := 98) hx hb hr rfl hlocks h hR hK hS dX8_lotAt_98
        · have h := xneg c11 h
          refine lv_goto (pc := 89) (tgt := 99) hx hb dX8_lotAt_89 (by decide) ?_
          refine lv_iinc (pc := 99) (lv' := [(2, .int _), (0, .ref _), (1, .int _), (3, .int _), (4, .int _)]) hx hb dX8_lotAt_99 hl (k := 2) rfl (xinc kc_1) (Nat.le_of_ble_eq_true rfl) rfl (fun ls hl => ?_)
          refine lv_goto (pc := 102) (tgt := 2) hx hb dX8_lotAt_102 (by decide) ?_
          exact ih _ _ _ _ _ h hR hS (lv_sub hl [1, 2, 0] rfl)
      · have h := xneg c3 h
        refine lv_goto (pc := 22) (tgt := 99) hx hb dX8_lotAt_22 (by decide) ?_
        refine lv_iinc (pc := 99) (lv' := [(2, .int _), (0, .ref _), (1, .int _)]) hx hb dX8_lotAt_99 hl (k := 2) rfl (xinc kc_1) (Nat.le_of_ble_eq_true rfl) rfl (fun ls hl => ?_)
        refine lv_goto (pc := 102) (tgt := 2) hx hb dX8_lotAt_102 (by decide) ?_
        exact ih _ _ _ _ _ h hR hS (lv_sub hl [1, 2, 0] rfl)
set_option maxHeartbeats 1000000 in
set_option maxRecDepth 20000 in
theorem mX8_lotAt {l : Launch} {D : va_G} {ca : Nat → ClassId} {z : Nat} {G : xG} {X : va_W} {ad av : Nat → Nat} (hF : xFix z G X) (h0 : Nat) (p1 : Int32) (k0 : xI_Model G h0) {μ μ1 : xM} {r : Int32} (h : fX8_lotAt h0 p1 μ = some (r, μ1)) : xMi l yX8_lotAt (xws yX8_lotAt cX8_lotAt 5 (some .int)) 1 D ca z G X ad av [.ref h0, .int p1] μ r μ1 := by
  refine xm_i (by decide) rfl (Nat.le_of_ble_eq_true rfl) [(0, .ref h0), (1, .int p1)] rfl ?_
  intro p e s m args below meth c ls hx hb hr hml hlocks hts hown hK hE hR hS hl
  have hts : ∀ w ∈ xAll, w.before args s = true := fun w hw => hts w (List.mem_cons_of_mem _ hw)
  rw [fX8_lotAt] at h
  refine lv_iconst (pc := 0) hx hb dX8_lotAt_0 kc_0 ?_
  refine lv_istore_n (pc := 1) (lv' := [(2, .int _), (0, .ref _), (1, .int _)]) hx hb dX8_lotAt_1 rfl hl (Nat.le_of_ble_eq_true rfl) rfl (fun ls hl => ?_)
  exact wX8_lotAt_2 hF h0 p1 k0 hx hb hr hml hlocks hts hown hK hE _ _ _ _ _ _ h hR hS (lv_sub hl [1, 2, 0] rfl)
set_option maxHeartbeats 1000000 in
set_option maxRecDepth 20000 in
theorem wX8_ranked_30 {p : Program} {l : Launch} {e : Env} {s : State} {m : MethodId} {args : Array Value} {below : List Frame} {meth : Method} {c : Code} {D : va_G} {ca : Nat → ClassId} {z : Nat} {G : xG} {X : va_W} {ad av : Nat → Nat} {Q : State → Prop} {RT : Option FieldType} (hF : xFix z G X) (h0 : Nat) (p1 : Int32) (k0 : xI_Model G h0) (hx : p.tables.exec = Jvm.exec) (hb : c.code = cX8_ranked) (hr : meth.sig.returnType = RT) (hml : c.maxLocals = 5) (hlocks : meth.locks = false) (hts : ∀ w ∈ xAll, w.before args s = true) (hown : s.vm.findClass RX8 = some m.cls) (hK : va_K D vwCl (xT ca) s) (hE : xEv z ad av s s.heap) {q : Int32 × Int32 × xM} :
    ∀ (n : Nat) (x2 : Int32) (x3 : Int32) (x4 : Int32) (μ : xM) (H : Heap) (locs : List Loc) (ls : Array Slot), lX8_ranked_30 h0 p1 n x2 x3 x4 μ = some q → xRep D ca G X μ H → va_S (fun q => z ≤ q) s.heap H locs → lv_has ls 5 [(0, .ref h0), (1, .int p1), (2, .int x2), (3, .int x3), (4, .int x4)] → (∀ (H : Heap) (locs : List Loc) (ls : Array Slot), xRep D ca G X (q.2.2) H → va_S (fun q => z ≤ q) s.heap H locs → lv_has ls 5 [(0, .ref h0), (1, .int p1), (2, .int x2), (3, .int (q.1)), (4, .int (q.2.1))] → W p l e (xRm 1 0 0) s m args below meth c H locs 0 0 Q (F0 m 108 ls [])) → W p l e (xRm 1 0 0) s m args below meth c H locs 0 0 Q (F0 m 30 ls []) := by
  intro n
  induction n with
  | zero => intro x2 x3 x4 μ H locs ls h; cases h
  | succ n ih =>
    intro x2 x3 x4 μ H locs ls h hR hS hl kk
    rw [lX8_ranked_30] at h
    refine lv_iload (pc := 30) hx hb dX8_ranked_30 (lv_at hl 4 rfl) ?_
    refine lv_aload_n (pc := 32) hx hb dX8_ranked_32 rfl (lv_at hl 0 rfl) ?_
    refine xr_getR (pc := 33) (ci := 12) hx hb hts inX8 hown hK hR rfl k0.1 0 (Nat.le_of_ble_eq_true rfl) rfl k0.2.1.1 (hts _ q_f_X8_7) (fun _ h9 => h9) dX8_ranked_33 ?_
    refine lv_iconst (pc := 36) hx hb dX8_ranked_36 kc_1 ?_
    refine xr_ialdk (pc := 37) 1 hx hb hK hR k0.2.1.2.1 k0.2.1.2.2 tn_1 (vl_1 (by decide)) dX8_ranked_37 ?_
    refine lv_icmp_ge (pc := 38) (tgt := 108) hx hb dX8_ranked_38 (by decide) (fun c4 => ?_) (fun c4 => ?_)
    · have h := xpos c4 h
      cases h
      exact kk H locs ls hR hS (lv_sub hl [0, 1, 2, 3, 4] rfl)
    · have h := xneg c4 h
      refine lv_iload_n (pc := 41) hx hb dX8_ranked_41 rfl (lv_at hl 3 rfl) ?_
      refine lv_aload_n (pc := 42) hx hb dX8_ranked_42 rfl (lv_at hl 0 rfl) ?_
      refine lv_iload (pc := 43) hx hb dX8_ranked_43 (lv_at hl 4 rfl) ?_
      refine lv_iconst (pc := 45) hx hb dX8_ranked_45 kc_4 ?_
      obtain ⟨r5, m5, c5, h⟩ := xb_inv h
      refine xc_iV (pc := 46) (As := [.int _, .int _]) (rest := [.int _]) ⟨hx, hb, hml, hown, hts⟩ (mX8_of hF _ _ _ k0 c5) (xcwV 2 hts fdX8_of q_m_X8_63 ⟨Nat.le_of_ble_eq_true rfl, Nat.le_of_ble_eq_true rfl⟩) (xRecv hK hR (ci := 12) rfl k0.1) hR hK hE hS rfl hl.1 rfl (Nat.le_of_ble_eq_true rfl) dX8_ranked_46 ⟨Nat.zero_le _, Nat.zero_le _⟩ (fun H locs hR hS => ?_)
      refine lv_iconst (pc := 49) hx hb dX8_ranked_49 kc_1 ?_
      refine lv_icmp_ne (pc := 50) (tgt := 99) hx hb dX8_ranked_50 (by decide) (fun c6 => ?_) (fun c6 => ?_)
      · have h := xneg c6 h
        refine lv_iconst (pc := 99) hx hb dX8_ranked_99 kc_0 ?_
        refine lv_iadd (pc := 100) hx hb dX8_ranked_100 ?_
        refine lv_istore_n (pc := 101) (lv' := [(3, .int _), (0, .ref _), (1, .int _), (2, .int _), (4, .int _)]) hx hb dX8_ranked_101 rfl hl (Nat.le_of_ble_eq_true rfl) rfl (fun ls hl => ?_)
        refine lv_iinc (pc := 102) (lv' := [(4, .int _), (3, .int _), (0, .ref _), (1, .int _), (2, .int _)]) hx hb dX8_ranked_102 hl (k := 4) rfl (xinc kc_1) (Nat.le_of_ble_eq_true rfl) rfl (fun ls hl => ?_)
        refine lv_goto (pc := 105) (tgt := 30) hx hb dX8_ranked_105 (by decide) ?_
        exact ih _ _ _ _ _ _ _ h hR hS (lv_sub hl [2, 3, 4, 1, 0] rfl) kk
      · have h := xpos c6 h
        refine lv_aload_n (pc := 53) hx hb dX8_ranked_53 rfl (lv_at hl 0 rfl) ?_
        refine lv_iload (pc := 54) hx hb dX8_ranked_54 (lv_at hl 4 rfl) ?_
        refine lv_bipush (pc := 56) hx hb dX8_ranked_56 kb_7 ?_
        obtain ⟨r7, m7, c7, h⟩ := xb_inv h
        refine xc_iV (pc := 58) (As := [.int _, .int _]) (rest := [.int _]) ⟨hx, hb, hml, hown, hts⟩ (mX8_of hF _ _ _ k0 c7) (xcwV 2 hts fdX8_of q_m_X8_63 ⟨Nat.le_of_ble_eq_true rfl, Nat.le_of_ble_eq_true rfl⟩) (xRecv hK hR (ci := 12) rfl k0.1) hR hK hE hS rfl hl.1 rfl (Nat.le_of_ble_eq_true rfl) dX8_ranked_58 ⟨Nat.zero_le _, Nat.zero_le _⟩ (fun H locs hR hS => ?_)
        refine lv_aload_n (pc := 61) hx hb dX8_ranked_61 rfl (lv_at hl 0 rfl) ?_
        refine lv_iload_n (pc := 62) hx hb dX8_ranked_62 rfl (lv_at hl 2 rfl) ?_
        refine lv_bipush (pc := 63) hx hb dX8_ranked_63 kb_7 ?_
        obtain ⟨r8, m8, c8, h⟩ := xb_inv h
        refine xc_iV (pc := 65) (As := [.int _, .int _]) (rest := [.int _, .int _]) ⟨hx, hb, hml, hown, hts⟩ (mX8_of hF _ _ _ k0 c8) (xcwV 2 hts fdX8_of q_m_X8_63 ⟨Nat.le_of_ble_eq_true rfl, Nat.le_of_ble_eq_true rfl⟩) (xRecv hK hR (ci := 12) rfl k0.1) hR hK hE hS rfl hl.1 rfl (Nat.le_of_ble_eq_true rfl) dX8_ranked_65 ⟨Nat.zero_le _, Nat.zero_le _⟩ (fun H locs hR hS => ?_)
        refine lv_icmp_gt (pc := 68) (tgt := 95) hx hb dX8_ranked_68 (by decide) (fun c9 => ?_) (fun c9 => ?_)
        · have h := xpos c9 h
          refine lv_iconst (pc := 95) hx hb dX8_ranked_95 kc_1 ?_
          refine lv_goto (pc := 96) (tgt := 100) hx hb dX8_ranked_96 (by decide) ?_
          refine lv_iadd (pc := 100) hx hb dX8_ranked_100 ?_
          refine lv_istore_n (pc := 101) (lv' := [(3, .int _), (0, .ref _), (1, .int _), (2, .int _), (4, .int _)]) hx hb dX8_ranked_101 rfl hl (Nat.le_of_ble_eq_true rfl) rfl (fun ls hl => ?_)
          refine lv_iinc (pc := 102) (lv' := [(4, .int _), (3, .int _), (0, .ref _), (1, .int _), (2, .int _)]) hx hb dX8_ranked_102 hl (k := 4) rfl (xinc kc_1) (Nat.le_of_ble_eq_true rfl) rfl (fun ls hl => ?_)
          refine lv_goto (pc := 105) (tgt := 30) hx hb dX8_ranked_105 (by decide) ?_
          exact ih _ _ _ _ _ _ _ h hR hS (lv_sub hl [2, 3, 4, 1, 0] rfl) kk
        · have h := xneg c9 h
          refine lv_aload_n (pc := 71) hx hb dX8_ranked_71 rfl (lv_at hl 0 rfl) ?_
          refine lv_iload (pc := 72) hx hb dX8_ranked_72 (lv_at hl 4 rfl) ?_
          refine lv_bipush (pc := 74) hx hb dX8_ranked_74 kb_7 ?_
          obtain ⟨r10, m10, c10, h⟩ := xb_inv h
          refine xc_iV (pc := 76) (As := [.int _, .int _]) (rest := [.int _]) ⟨hx, hb, hml, hown, hts⟩ (mX8_of hF _ _ _ k0 c10) (xcwV 2 hts fdX8_of q_m_X8_63 ⟨Nat.le_of_ble_eq_true rfl, Nat.le_of_ble_eq_true rfl⟩) (xRecv hK hR (ci := 12) rfl k0.1) hR hK hE hS rfl hl.1 rfl (Nat.le_of_ble_eq_true rfl) dX8_ranked_76 ⟨Nat.zero_le _, Nat.zero_le _⟩ (fun H locs hR hS => ?_)
          refine lv_aload_n (pc := 79) hx hb dX8_ranked_79 rfl (lv_at hl 0 rfl) ?_
          refine lv_iload_n (pc := 80) hx hb dX8_ranked_80 rfl (lv_at hl 2 rfl) ?_
          refine lv_bipush (pc := 81) hx hb dX8_ranked_81 kb_7 ?_
          obtain ⟨r11, m11, c11, h⟩ := xb_inv h
          refine xc_iV (pc := 83) (As := [.int _, .int _]) (rest := [.int _, .int _]) ⟨hx, hb, hml, hown, hts⟩ (mX8_of hF _ _ _ k0 c11) (xcwV 2 hts fdX8_of q_m_X8_63 ⟨Nat.le_of_ble_eq_true rfl, Nat.le_of_ble_eq_true rfl⟩) (xRecv hK hR (ci := 12) rfl k0.1) hR hK hE hS rfl hl.1 rfl (Nat.le_of_ble_eq_true rfl) dX8_ranked_83 ⟨Nat.zero_le _, Nat.zero_le _⟩ (fun H locs hR hS => ?_)
          refine lv_icmp_ne (pc := 86) (tgt := 99) hx hb dX8_ranked_86 (by decide) (fun c12 => ?_) (fun c12 => ?_)
          · have h := xneg c12 h
            refine lv_iconst (pc := 99) hx hb dX8_ranked_99 kc_0 ?_
            refine lv_iadd (pc := 100) hx hb dX8_ranked_100 ?_
            refine lv_istore_n (pc := 101) (lv' := [(3, .int _), (0, .ref _), (1, .int _), (2, .int _), (4, .int _)]) hx hb dX8_ranked_101 rfl hl (Nat.le_of_ble_eq_true rfl) rfl (fun ls hl => ?_)
            refine lv_iinc (pc := 102) (lv' := [(4, .int _), (3, .int _), (0, .ref _), (1, .int _), (2, .int _)]) hx hb dX8_ranked_102 hl (k := 4) rfl (xinc kc_1) (Nat.le_of_ble_eq_true rfl) rfl (fun ls hl => ?_)
            refine lv_goto (pc := 105) (tgt := 30) hx hb dX8_ranked_105 (by decide) ?_
            exact ih _ _ _ _ _ _ _ h hR hS (lv_sub hl [2, 3, 4, 1, 0] rfl) kk
          · have h := xpos c12 h
            refine lv_iload (pc := 89) hx hb dX8_ranked_89 (lv_at hl 4 rfl) ?_
            refine lv_iload_n (pc := 91) hx hb dX8_ranked_91 rfl (lv_at hl 2 rfl) ?_
            refine lv_icmp_ge (pc := 92) (tgt := 99) hx hb dX8_ranked_92 (by decide) (fun c13 => ?_) (fun c13 => ?_)
            · have h := xpos c13 h
              refine lv_iconst (pc := 99) hx hb dX8_ranked_99 kc_0 ?_
              refine lv_iadd (pc := 100) hx hb dX8_ranked_100 ?_
              refine lv_istore_n (pc := 101) (lv' := [(3, .int _), (0, .ref _), (1, .int _), (2, .int _), (4, .int _)]) hx hb dX8_ranked_101 rfl hl (Nat.le_of_ble_eq_true rfl) rfl (fun ls hl => ?_)
              refine lv_iinc (pc := 102) (lv' := [(4, .int _), (3, .int _), (0, .ref _), (1, .int _), (2, .int _)]) hx hb dX8_ranked_102 hl (k := 4) rfl (xinc kc_1) (Nat.le_of_ble_eq_true rfl) rfl (fun ls hl => ?_)
              refine lv_goto (pc := 105) (tgt := 30) hx hb dX8_ranked_105 (by decide) ?_
              exact ih _ _ _ _ _ _ _ h hR hS (lv_sub hl [2, 3, 4, 1, 0] rfl) kk
            · have h := xneg c13 h
              refine lv_iconst (pc := 95) hx hb dX8_ranked_95 kc_1 ?_
              refine lv_goto (pc := 96) (tgt := 100) hx hb dX8_ranked_96 (by decide) ?_
              refine lv_iadd (pc := 100) hx hb dX8_ranked_100 ?_
              refine lv_istore_n (pc := 101) (lv' := [(3, .int _), (0, .ref _), (1, .int _), (2, .int _), (4, .int _)]) hx hb dX8_ranked_101 rfl hl (Nat.le_of_ble_eq_true rfl) rfl (fun ls hl => ?_)
              refine lv_iinc (pc := 102) (lv' := [(4, .int _), (3, .int _), (0, .ref _), (1, .int _), (2, .int _)]) hx hb dX8_ranked_102 hl (k := 4) rfl (xinc kc_1) (Nat.le_of_ble_eq_true rfl) rfl (fun ls hl => ?_)
              refine lv_goto (pc := 105) (tgt := 30) hx hb dX8_ranked_105 (by decide) ?_
              exact ih _ _ _ _ _ _ _ h hR hS (lv_sub hl [2, 3, 4, 1, 0] rfl) kk
set_option maxHeartbeats 1000000 in
set_option maxRecDepth 20000 in
theorem wX8_ranked_2 {p : Program} {l : Launch} {e : Env} {s : State} {m : MethodId} {args : Array Value} {below : List Frame} {meth : Method} {c : Code} {D : va_G} {ca : Nat → ClassId} {z : Nat} {G : xG} {X : va_W} {ad av : Nat → Nat} (hF : xFix z G X) (h0 : Nat) (p1 : Int32) (k0 : xI_Model G h0) (hx : p.tables.exec = Jvm.exec) (hb : c.code = cX8_ranked) (hr : meth.sig.returnType = (some .int)) (hml : c.maxLocals = 5) (hlocks : meth.locks = false) (hts : ∀ w ∈ xAll, w.before args s = true) (hown : s.vm.findClass RX8 = some m.cls) (hK : va_K D vwCl (xT ca) s) (hE : xEv z ad av s s.heap) {μ1 : xM} {r : Int32} :
    ∀ (n : Nat) (x2 : Int32) (μ : xM) (H : Heap) (locs : List Loc) (ls : Array Slot), lX8_ranked_2 h0 p1 n x2 μ = some (r, μ1) → xRep D ca G X μ H → va_S (fun q => z ≤ q) s.heap H locs → lv_has ls 5 [(0, .ref h0), (1, .int p1), (2, .int x2)] → W p l e (xRm 1 0 0) s m args below meth c H locs 0 0 (MQ below (va_Qi (fun (r' : Int32) (_ : Unit) => r' = r) (fun _ t => xB D ca G X μ1 t) (fun q => z ≤ q)) args s 0 0 (fun q => z ≤ q)) (F0 m 2 ls []) := by
  intro n
  induction n with
  | zero => intro x2 μ H locs ls h; cases h
  | succ n ih =>
    intro x2 μ H locs ls h hR hS hl
    rw [lX8_ranked_2] at h
    refine lv_iload_n (pc := 2) hx hb dX8_ranked_2 rfl (lv_at hl 2 rfl) ?_
    refine lv_aload_n (pc := 3) hx hb dX8_ranked_3 rfl (lv_at hl 0 rfl) ?_
    refine xr_getR (pc := 4) (ci := 12) hx hb hts inX8 hown hK hR rfl k0.1 0 (Nat.le_of_ble_eq_true rfl) rfl k0.2.1.1 (hts _ q_f_X8_7) (fun _ h9 => h9) dX8_ranked_4 ?_
    refine lv_iconst (pc := 7) hx hb dX8_ranked_7 kc_1 ?_
    refine xr_ialdk (pc := 8) 1 hx hb hK hR k0.2.1.2.1 k0.2.1.2.2 tn_1 (vl_1 (by decide)) dX8_ranked_8 ?_
    refine lv_icmp_ge (pc := 9) (tgt := 129) hx hb dX8_ranked_9 (by decide) (fun c1 => ?_) (fun c1 => ?_)
    · have h := xpos c1 h
      refine lv_aload_n (pc := 129) hx hb dX8_ranked_129 rfl (lv_at hl 0 rfl) ?_
      refine lv_iconst (pc := 130) hx hb dX8_ranked_130 kc_1 ?_
      refine xr_putI (pc := 131) (ci := 12) (ty := .int) hx hb hts inX8 tyX8 tyX8_ok nmX8 hown hK hR hF hS rfl k0.1 7 (Nat.le_of_ble_eq_true rfl) rfl (hts _ q_f_X8_39) (fun _ h9 => h9) rfl rfl rfl rfl dX8_ranked_131 (fun H locs hR hS => ?_)
      refine lv_iconst (pc := 134) hx hb dX8_ranked_134 kc_0 ?_
      exact xf_i (pc := 135) hx hb hr rfl hlocks h hR hK hS dX8_ranked_135
    · have h := xneg c1 h
      refine lv_aload_n (pc := 12) hx hb dX8_ranked_12 rfl (lv_at hl 0 rfl) ?_
      refine lv_iload_n (pc := 13) hx hb dX8_ranked_13 rfl (lv_at hl 2 rfl) ?_
      refine lv_iconst (pc := 14) hx hb dX8_ranked_14 kc_4 ?_
      obtain ⟨r2, m2, c2, h⟩ := xb_inv h
      refine xc_iV (pc := 15) (As := [.int _, .int _]) (rest := []) ⟨hx, hb, hml, hown, hts⟩ (mX8_of hF _ _ _ k0 c2) (xcwV 2 hts fdX8_of q_m_X8_63 ⟨Nat.le_of_ble_eq_true rfl, Nat.le_of_ble_eq_true rfl⟩) (xRecv hK hR (ci := 12) rfl k0.1) hR hK hE hS rfl hl.1 rfl (Nat.le_of_ble_eq_true rfl) dX8_ranked_15 ⟨Nat.zero_le _, Nat.zero_le _⟩ (fun H locs hR hS => ?_)
      refine lv_iconst (pc := 18) hx hb dX8_ranked_18 kc_1 ?_
      refine lv_icmp_eq (pc := 19) (tgt := 25) hx hb dX8_ranked_19 (by decide) (fun c3 => ?_) (fun c3 => ?_)
      · have h := xpos c3 h
        refine lv_iconst (pc := 25) hx hb dX8_ranked_25 kc_0 ?_
        refine lv_istore_n (pc := 26) (lv' := [(3, .int _), (0, .ref _), (1, .int _), (2, .int _)]) hx hb dX8_ranked_26 rfl hl (Nat.le_of_ble_eq_true rfl) rfl (fun ls hl => ?_)
        refine lv_iconst (pc := 27) hx hb dX8_ranked_27 kc_0 ?_
        refine lv_istore (pc := 28) (lv' := [(4, .int _), (3, .int _), (0, .ref _), (1, .int _), (2, .int _)]) hx hb dX8_ranked_28 hl (Nat.le_of_ble_eq_true rfl) rfl (fun ls hl => ?_)
        obtain ⟨q14, c14, h⟩ := xbt_inv h
        refine wX8_ranked_30 hF h0 p1 k0 hx hb hr hml hlocks hts hown hK hE _ _ _ _ _ _ _ _ c14 hR hS (lv_sub hl [2, 3, 4, 1, 0] rfl) (fun H locs ls hR hS hl => ?_)
        refine lv_iload_n (pc := 108) hx hb dX8_ranked_108 rfl (lv_at hl 3 rfl) ?_
        refine lv_iload_n (pc := 109) hx hb dX8_ranked_109 rfl (lv_at hl 1 rfl) ?_
        refine lv_icmp_eq (pc := 110) (tgt := 116) hx hb dX8_ranked_110 (by decide) (fun c15 => ?_) (fun c15 => ?_)
        · have h := xpos c15 h
          refine lv_aload_n (pc := 116) hx hb dX8_ranked_116 rfl (lv_at hl 0 rfl) ?_
          refine lv_iconst (pc := 117) hx hb dX8_ranked_117 kc_0 ?_
          refine xr_putI (pc := 118) (ci := 12) (ty := .int) hx hb hts inX8 tyX8 tyX8_ok nmX8 hown hK hR hF hS rfl k0.1 7 (Nat.le_of_ble_eq_true rfl) rfl (hts _ q_f_X8_39) (fun _ h9 => h9) rfl rfl rfl rfl dX8_ranked_118 (fun H locs hR hS => ?_)
          refine lv_iload_n (pc := 121) hx hb dX8_ranked_121 rfl (lv_at hl 2 rfl) ?_
          exact xf_i (pc := 122) hx hb hr rfl hlocks h hR hK hS dX8_ranked_122
        · have h := xneg c15 h
          refine lv_goto (pc := 113) (tgt := 123) hx hb dX8_ranked_113 (by decide) ?_
          refine lv_iinc (pc := 123) (lv' := [(2, .int _), (0, .ref _), (1, .int _), (3, .int _), (4, .int _)]) hx hb dX8_ranked_123 hl (k := 2) rfl (xinc kc_1) (Nat.le_of_ble_eq_true rfl) rfl (fun ls hl => ?_)
          refine lv_goto (pc := 126) (tgt := 2) hx hb dX8_ranked_126 (by decide) ?_
          exact ih _ _ _ _ _ h hR hS (lv_sub hl [1, 2, 0] rfl)
      · have h := xneg c3 h
        refine lv_goto (pc := 22) (tgt := 123) hx hb dX8_ranked_22 (by decide) ?_
        refine lv_iinc (pc := 123) (lv' := [(2, .int _), (0, .ref _), (1, .int _)]) hx hb dX8_ranked_123 hl (k := 2) rfl (xinc kc_1) (Nat.le_of_ble_eq_true rfl) rfl (fun ls hl => ?_)
        refine lv_goto (pc := 126) (tgt := 2) hx hb dX8_ranked_126 (by decide) ?_
        exact ih _ _ _ _ _ h hR hS (lv_sub hl [1, 2, 0] rfl)
set_option maxHeartbeats 1000000 in
set_option maxRecDepth 20000 in
theorem mX8_ranked {l : Launch} {D : va_G} {ca : Nat → ClassId} {z : Nat} {G : xG} {X : va_W} {ad av : Nat → Nat} (hF : xFix z G X) (h0 : Nat) (p1 : Int32) (k0 : xI_Model G h0) {μ μ1 : xM} {r : Int32} (h : fX8_ranked h0 p1 μ = some (r, μ1)) : xMi l yX8_ranked (xws yX8_ranked cX8_ranked 5 (some .int)) 1 D ca z G X ad av [.ref h0, .int p1] μ r μ1 := by
  refine xm_i (by decide) rfl (Nat.le_of_ble_eq_true rfl) [(0, .ref h0), (1, .int p1)] rfl ?_
  intro p e s m args below meth c ls hx hb hr hml hlocks hts hown hK hE hR hS hl
  have hts : ∀ w ∈ xAll, w.before args s = true := fun w hw => hts w (List.mem_cons_of_mem _ hw)
  rw [fX8_ranked] at h
  refine lv_iconst (pc := 0) hx hb dX8_ranked_0 kc_0 ?_
  refine lv_istore_n (pc := 1) (lv' := [(2, .int _), (0, .ref _), (1, .int _)]) hx hb dX8_ranked_1 rfl hl (Nat.le_of_ble_eq_true rfl) rfl (fun ls hl => ?_)
  exact wX8_ranked_2 hF h0 p1 k0 hx hb hr hml hlocks hts hown hK hE _ _ _ _ _ _ h hR hS (lv_sub hl [1, 2, 0] rfl)
set_option maxHeartbeats 1000000 in
set_option maxRecDepth 20000 in
theorem mX8_isOver {l : Launch} {D : va_G} {ca : Nat → ClassId} {z : Nat} {G : xG} {X : va_W} {ad av : Nat → Nat} (hF : xFix z G X) (h0 : Nat) (p1 : Int32) (p2 : Int32) (k0 : xI_Model G h0) {μ μ1 : xM} {r : Int32} (h : fX8_isOver h0 p1 p2 μ = some (r, μ1)) : xMi l yX8_isOver (xws yX8_isOver cX8_isOver 3 (some .boolean)) 1 D ca z G X ad av [.ref h0, .int p1, .int p2] μ r μ1 := by
  refine xm_i (by decide) rfl (Nat.le_of_ble_eq_true rfl) [(0, .ref h0), (1, .int p1), (2, .int p2)] rfl ?_
  intro p e s m args below meth c ls hx hb hr hml hlocks hts hown hK hE hR hS hl
  have hts : ∀ w ∈ xAll, w.before args s = true := fun w hw => hts w (List.mem_cons_of_mem _ hw)
  rw [fX8_isOver] at h
  refine lv_aload_n (pc := 0) hx hb dX8_isOver_0 rfl (lv_at hl 0 rfl) ?_
  refine xr_getR (pc := 1) (ci := 12) hx hb hts inX8 hown hK hR rfl k0.1 0 (Nat.le_of_ble_eq_true rfl) rfl k0.2.1.1 (hts _ q_f_X8_7) (fun _ h9 => h9) dX8_isOver_1 ?_
  refine lv_iconst (pc := 4) hx hb dX8_isOver_4 kc_0 ?_
  refine xr_ialdk (pc := 5) 0 hx hb hK hR k0.2.1.2.1 k0.2.1.2.2 tn_0 (vl_0 (by decide)) dX8_isOver_5 ?_
  refine lv_iload_n (pc := 6) hx hb dX8_isOver_6 rfl (lv_at hl 2 rfl) ?_
  refine lv_iadd (pc := 7) hx hb dX8_isOver_7 ?_
  refine lv_aload_n (pc := 8) hx hb dX8_isOver_8 rfl (lv_at hl 0 rfl) ?_
  refine lv_iload_n (pc := 9) hx hb dX8_isOver_9 rfl (lv_at hl 1 rfl) ?_
  refine lv_iconst (pc := 10) hx hb dX8_isOver_10 kc_5 ?_
  obtain ⟨r1, m1, c1, h⟩ := xb_inv h
  refine xc_iV (pc := 11) (As := [.int _, .int _]) (rest := [.int _]) ⟨hx, hb, hml, hown, hts⟩ (mX8_of hF _ _ _ k0 c1) (xcwV 2 hts fdX8_of q_m_X8_63 ⟨Nat.le_of_ble_eq_true rfl, Nat.le_of_ble_eq_true rfl⟩) (xRecv hK hR (ci := 12) rfl k0.1) hR hK hE hS rfl hl.1 rfl (Nat.le_of_ble_eq_true rfl) dX8_isOver_11 ⟨Nat.zero_le _, Nat.zero_le _⟩ (fun H locs hR hS => ?_)
  refine lv_isub (pc := 14) hx hb dX8_isOver_14 ?_
  refine lv_bipush (pc := 15) hx hb dX8_isOver_15 kb_9 ?_
  refine lv_icmp_lt (pc := 17) (tgt := 24) hx hb dX8_isOver_17 (by decide) (fun c2 => ?_) (fun c2 => ?_)
  · have h := xpos c2 h
    refine lv_iconst (pc := 24) hx hb dX8_isOver_24 kc_0 ?_
    exact xf_i (pc := 25) hx hb hr rfl hlocks h hR hK hS dX8_isOver_25
  · have h := xneg c2 h
    refine lv_iconst (pc := 20) hx hb dX8_isOver_20 kc_1 ?_
    refine lv_goto (pc := 21) (tgt := 25) hx hb dX8_isOver_21 (by decide) ?_
    exact xf_i (pc := 25) hx hb hr rfl hlocks h hR hK hS dX8_isOver_25
set_option maxHeartbeats 1000000 in
set_option maxRecDepth 20000 in
theorem mX8_isNoQuote {l : Launch} {D : va_G} {ca : Nat → ClassId} {z : Nat} {G : xG} {X : va_W} {ad av : Nat → Nat} (hF : xFix z G X) (h0 : Nat) (p1 : Int32) (p2 : Int32) (k0 : xI_Model G h0) {μ μ1 : xM} {r : Int32} (h : fX8_isNoQuote h0 p1 p2 μ = some (r, μ1)) : xMi l yX8_isNoQuote (xws yX8_isNoQuote cX8_isNoQuote 3 (some .boolean)) 2 D ca z G X ad av [.ref h0, .int p1, .int p2] μ r μ1 := by
  refine xm_i (by decide) rfl (Nat.le_of_ble_eq_true rfl) [(0, .ref h0), (1, .int p1), (2, .int p2)] rfl ?_
  intro p e s m args below meth c ls hx hb hr hml hlocks hts hown hK hE hR hS hl
  have hts : ∀ w ∈ xAll, w.before args s = true := fun w hw => hts w (List.mem_cons_of_mem _ hw)
  rw [fX8_isNoQuote] at h
  refine lv_aload_n (pc := 0) hx hb dX8_isNoQuote_0 rfl (lv_at hl 0 rfl) ?_
  refine lv_aload_n (pc := 1) hx hb dX8_isNoQuote_1 rfl (lv_at hl 0 rfl) ?_
  refine lv_iload_n (pc := 2) hx hb dX8_isNoQuote_2 rfl (lv_at hl 1 rfl) ?_
  obtain ⟨r1, m1, c1, h⟩ := xb_inv h
  refine xc_iV (pc := 3) (As := [.int _]) (rest := [.ref _]) ⟨hx, hb, hml, hown, hts⟩ (mX8_isTicket hF _ _ k0 c1) (xcwV 1 hts fdX8_isTicket q_m_X8_94 ⟨Nat.le_of_ble_eq_true rfl, Nat.le_of_ble_eq_true rfl⟩) (xRecv hK hR (ci := 12) rfl k0.1) hR hK hE hS rfl hl.1 rfl (Nat.le_of_ble_eq_true rfl) dX8_isNoQuote_3 ⟨Nat.zero_le _, Nat.zero_le _⟩ (fun H locs hR hS => ?_)
  refine lv_if_ne (pc := 6) (tgt := 13) hx hb dX8_isNoQuote_6 (by decide) (fun c2 => ?_) (fun c2 => ?_)
  · have h := xneg c2 h
    refine lv_iload_n (pc := 13) hx hb dX8_isNoQuote_13 rfl (lv_at hl 2 rfl) ?_
    refine lv_iconst (pc := 14) hx hb dX8_isNoQuote_14 kc_0 ?_
    refine lv_bipush (pc := 15) hx hb dX8_isNoQuote_15 kb_20 ?_
    obtain ⟨r3, m3, c3, h⟩ := xb_inv h
    refine xc_iS (pc := 17) (As := [.int _, .int _, .int _]) (rest := [.ref _]) ⟨hx, hb, hml, hown, hts⟩ (mX8_in hF _ _ _  c3) (xcwS 3 hts fdX8_in q_m_X8_59 ⟨Nat.le_of_ble_eq_true rfl, Nat.le_of_ble_eq_true rfl⟩) hR hK hE hS rfl hl.1 rfl (Nat.le_of_ble_eq_true rfl) dX8_isNoQuote_17 ⟨Nat.zero_le _, Nat.zero_le _⟩ (fun H locs hR hS => ?_)
    refine lv_if_ne (pc := 20) (tgt := 27) hx hb dX8_isNoQuote_20 (by decide) (fun c4 => ?_) (fun c4 => ?_)
    · have h := xneg c4 h
      refine lv_aload_n (pc := 27) hx hb dX8_isNoQuote_27 rfl (lv_at hl 0 rfl) ?_
      refine lv_iload_n (pc := 28) hx hb dX8_isNoQuote_28 rfl (lv_at hl 1 rfl) ?_
      refine lv_iconst (pc := 29) hx hb dX8_isNoQuote_29 kc_4 ?_
      obtain ⟨r5, m5, c5, h⟩ := xb_inv h
      refine xc_iV (pc := 30) (As := [.int _, .int _]) (rest := [.ref _]) ⟨hx, hb, hml, hown, hts⟩ (mX8_of hF _ _ _ k0 c5) (xcwV 2 hts fdX8_of q_m_X8_63 ⟨Nat.le_of_ble_eq_true rfl, Nat.le_of_ble_eq_true rfl⟩) (xRecv hK hR (ci := 12) rfl k0.1) hR hK hE hS rfl hl.1 rfl (Nat.le_of_ble_eq_true rfl) dX8_isNoQuote_30 ⟨Nat.zero_le _, Nat.zero_le _⟩ (fun H locs hR hS => ?_)
      refine lv_if_ne (pc := 33) (tgt := 49) hx hb dX8_isNoQuote_33 (by decide) (fun c6 => ?_) (fun c6 => ?_)
      · have h := xneg c6 h
        refine lv_iconst (pc := 49) hx hb dX8_isNoQuote_49 kc_3 ?_
        refine lv_goto (pc := 50) (tgt := 54) hx hb dX8_isNoQuote_50 (by decide) ?_
        obtain ⟨r7, m7, c7, h⟩ := xb_inv h
        refine xc_iV (pc := 54) (As := [.int _]) (rest := []) ⟨hx, hb, hml, hown, hts⟩ (mX8_fails hF _ _ k0 c7) (xcwV 1 hts fdX8_fails q_m_X8_67 ⟨Nat.le_of_ble_eq_true rfl, Nat.le_of_ble_eq_true rfl⟩) (xRecv hK hR (ci := 12) rfl k0.1) hR hK hE hS rfl hl.1 rfl (Nat.le_of_ble_eq_true rfl) dX8_isNoQuote_54 ⟨Nat.zero_le _, Nat.zero_le _⟩ (fun H locs hR hS => ?_)
        obtain ⟨c8, h⟩ := xk_inv h
        exact xf_i (pc := 57) hx hb hr c8.1 hlocks h hR hK hS dX8_isNoQuote_57
      · have h := xpos c6 h
        refine lv_iload_n (pc := 36) hx hb dX8_isNoQuote_36 rfl (lv_at hl 2 rfl) ?_
        refine lv_if_le (pc := 37) (tgt := 53) hx hb dX8_isNoQuote_37 (by decide) (fun c9 => ?_) (fun c9 => ?_)
        · have h := xpos c9 h
          refine lv_iconst (pc := 53) hx hb dX8_isNoQuote_53 kc_0 ?_
          obtain ⟨r10, m10, c10, h⟩ := xb_inv h
          refine xc_iV (pc := 54) (As := [.int _]) (rest := []) ⟨hx, hb, hml, hown, hts⟩ (mX8_fails hF _ _ k0 c10) (xcwV 1 hts fdX8_fails q_m_X8_67 ⟨Nat.le_of_ble_eq_true rfl, Nat.le_of_ble_eq_true rfl⟩) (xRecv hK hR (ci := 12) rfl k0.1) hR hK hE hS rfl hl.1 rfl (Nat.le_of_ble_eq_true rfl) dX8_isNoQuote_54 ⟨Nat.zero_le _, Nat.zero_le _⟩ (fun H locs hR hS => ?_)
          obtain ⟨c11, h⟩ := xk_inv h
          exact xf_i (pc := 57) hx hb hr c11.1 hlocks h hR hK hS dX8_isNoQuote_57
        · have h := xneg c9 h
          refine lv_aload_n (pc := 40) hx hb dX8_isNoQuote_40 rfl (lv_at hl 0 rfl) ?_
          refine lv_iload_n (pc := 41) hx hb dX8_isNoQuote_41 rfl (lv_at hl 1 rfl) ?_
          refine lv_iload_n (pc := 42) hx hb dX8_isNoQuote_42 rfl (lv_at hl 2 rfl) ?_
          obtain ⟨r12, m12, c12, h⟩ := xb_inv h
          refine xc_iV (pc := 43) (As := [.int _, .int _]) (rest := [.ref _]) ⟨hx, hb, hml, hown, hts⟩ (mX8_isOver hF _ _ _ k0 c12) (xcwV 2 hts fdX8_isOver q_m_X8_104 ⟨Nat.le_of_ble_eq_true rfl, Nat.le_of_ble_eq_true rfl⟩) (xRecv hK hR (ci := 12) rfl k0.1) hR hK hE hS rfl hl.1 rfl (Nat.le_of_ble_eq_true rfl) dX8_isNoQuote_43 ⟨Nat.zero_le _, Nat.zero_le _⟩ (fun H locs hR hS => ?_)
          refine lv_if_eq (pc := 46) (tgt := 53) hx hb dX8_isNoQuote_46 (by decide) (fun c13 => ?_) (fun c13 => ?_)
          · have h := xpos c13 h
            refine lv_iconst (pc := 53) hx hb dX8_isNoQuote_53 kc_0 ?_
            obtain ⟨r14, m14, c14, h⟩ := xb_inv h
            refine xc_iV (pc := 54) (As := [.int _]) (rest := []) ⟨hx, hb, hml, hown, hts⟩ (mX8_fails hF _ _ k0 c14) (xcwV 1 hts fdX8_fails q_m_X8_67 ⟨Nat.le_of_ble_eq_true rfl, Nat.le_of_ble_eq_true rfl⟩) (xRecv hK hR (ci := 12) rfl k0.1) hR hK hE hS rfl hl.1 rfl (Nat.le_of_ble_eq_true rfl) dX8_isNoQuote_54 ⟨Nat.zero_le _, Nat.zero_le _⟩ (fun H locs hR hS => ?_)
            obtain ⟨c15, h⟩ := xk_inv h
            exact xf_i (pc := 57) hx hb hr c15.1 hlocks h hR hK hS dX8_isNoQuote_57
          · have h := xneg c13 h
            refine lv_iconst (pc := 49) hx hb dX8_isNoQuote_49 kc_3 ?_
            refine lv_goto (pc := 50) (tgt := 54) hx hb dX8_isNoQuote_50 (by decide) ?_
            obtain ⟨r16, m16, c16, h⟩ := xb_inv h
            refine xc_iV (pc := 54) (As := [.int _]) (rest := []) ⟨hx, hb, hml, hown, hts⟩ (mX8_fails hF _ _ k0 c16) (xcwV 1 hts fdX8_fails q_m_X8_67 ⟨Nat.le_of_ble_eq_true rfl, Nat.le_of_ble_eq_true rfl⟩) (xRecv hK hR (ci := 12) rfl k0.1) hR hK hE hS rfl hl.1 rfl (Nat.le_of_ble_eq_true rfl) dX8_isNoQuote_54 ⟨Nat.zero_le _, Nat.zero_le _⟩ (fun H locs hR hS => ?_)
            obtain ⟨c17, h⟩ := xk_inv h
            exact xf_i (pc := 57) hx hb hr c17.1 hlocks h hR hK hS dX8_isNoQuote_57
    · have h := xpos c4 h
      refine lv_iconst (pc := 23) hx hb dX8_isNoQuote_23 kc_2 ?_
      refine lv_goto (pc := 24) (tgt := 54) hx hb dX8_isNoQuote_24 (by decide) ?_
      obtain ⟨r18, m18, c18, h⟩ := xb_inv h
      refine xc_iV (pc := 54) (As := [.int _]) (rest := []) ⟨hx, hb, hml, hown, hts⟩ (mX8_fails hF _ _ k0 c18) (xcwV 1 hts fdX8_fails q_m_X8_67 ⟨Nat.le_of_ble_eq_true rfl, Nat.le_of_ble_eq_true rfl⟩) (xRecv hK hR (ci := 12) rfl k0.1) hR hK hE hS rfl hl.1 rfl (Nat.le_of_ble_eq_true rfl) dX8_isNoQuote_54 ⟨Nat.zero_le _, Nat.zero_le _⟩ (fun H locs hR hS => ?_)
      obtain ⟨c19, h⟩ := xk_inv h
      exact xf_i (pc := 57) hx hb hr c19.1 hlocks h hR hK hS dX8_isNoQuote_57
  · have h := xpos c2 h
    refine lv_iconst (pc := 9) hx hb dX8_isNoQuote_9 kc_1 ?_
    refine lv_goto (pc := 10) (tgt := 54) hx hb dX8_isNoQuote_10 (by decide) ?_
    obtain ⟨r20, m20, c20, h⟩ := xb_inv h
    refine xc_iV (pc := 54) (As := [.int _]) (rest := []) ⟨hx, hb, hml, hown, hts⟩ (mX8_fails hF _ _ k0 c20) (xcwV 1 hts fdX8_fails q_m_X8_67 ⟨Nat.le_of_ble_eq_true rfl, Nat.le_of_ble_eq_true rfl⟩) (xRecv hK hR (ci := 12) rfl k0.1) hR hK hE hS rfl hl.1 rfl (Nat.le_of_ble_eq_true rfl) dX8_isNoQuote_54 ⟨Nat.zero_le _, Nat.zero_le _⟩ (fun H locs hR hS => ?_)
    obtain ⟨c21, h⟩ := xk_inv h
    exact xf_i (pc := 57) hx hb hr c21.1 hlocks h hR hK hS dX8_isNoQuote_57
set_option maxHeartbeats 1000000 in
set_option maxRecDepth 20000 in
theorem mX8_quote {l : Launch} {D : va_G} {ca : Nat → ClassId} {z : Nat} {G : xG} {X : va_W} {ad av : Nat → Nat} (hF : xFix z G X) (h0 : Nat) (p1 : Int32) (p2 : Int32) (k0 : xI_Model G h0) {μ μ1 : xM} {r : Int32} (h : fX8_quote h0 p1 p2 μ = some (r, μ1)) : xMi l yX8_quote (xws yX8_quote cX8_quote 3 (some .int)) 3 D ca z G X ad av [.ref h0, .int p1, .int p2] μ r μ1 := by
  refine xm_i (by decide) rfl (Nat.le_of_ble_eq_true rfl) [(0, .ref h0), (1, .int p1), (2, .int p2)] rfl ?_
  intro p e s m args below meth c ls hx hb hr hml hlocks hts hown hK hE hR hS hl
  have hts : ∀ w ∈ xAll, w.before args s = true := fun w hw => hts w (List.mem_cons_of_mem _ hw)
  rw [fX8_quote] at h
  refine lv_aload_n (pc := 0) hx hb dX8_quote_0 rfl (lv_at hl 0 rfl) ?_
  refine lv_iload_n (pc := 1) hx hb dX8_quote_1 rfl (lv_at hl 1 rfl) ?_
  refine lv_iload_n (pc := 2) hx hb dX8_quote_2 rfl (lv_at hl 2 rfl) ?_
  obtain ⟨r1, m1, c1, h⟩ := xb_inv h
  refine xc_iV (pc := 3) (As := [.int _, .int _]) (rest := []) ⟨hx, hb, hml, hown, hts⟩ (mX8_isNoQuote hF _ _ _ k0 c1) (xcwV 2 hts fdX8_isNoQuote q_m_X8_108 ⟨Nat.le_of_ble_eq_true rfl, Nat.le_of_ble_eq_true rfl⟩) (xRecv hK hR (ci := 12) rfl k0.1) hR hK hE hS rfl hl.1 rfl (Nat.le_of_ble_eq_true rfl) dX8_quote_3 ⟨Nat.zero_le _, Nat.zero_le _⟩ (fun H locs hR hS => ?_)
  refine lv_if_eq (pc := 6) (tgt := 13) hx hb dX8_quote_6 (by decide) (fun c2 => ?_) (fun c2 => ?_)
  · have h := xpos c2 h
    refine lv_aload_n (pc := 13) hx hb dX8_quote_13 rfl (lv_at hl 0 rfl) ?_
    refine lv_iload_n (pc := 14) hx hb dX8_quote_14 rfl (lv_at hl 1 rfl) ?_
    obtain ⟨r3, m3, c3, h⟩ := xb_inv h
    refine xc_iV (pc := 15) (As := [.int _]) (rest := []) ⟨hx, hb, hml, hown, hts⟩ (mX8_owed hF _ _ k0 c3) (xcwV 1 hts fdX8_owed q_m_X8_87 ⟨Nat.le_of_ble_eq_true rfl, Nat.le_of_ble_eq_true rfl⟩) (xRecv hK hR (ci := 12) rfl k0.1) hR hK hE hS rfl hl.1 rfl (Nat.le_of_ble_eq_true rfl) dX8_quote_15 ⟨Nat.zero_le _, Nat.zero_le _⟩ (fun H locs hR hS => ?_)
    refine lv_iload_n (pc := 18) hx hb dX8_quote_18 rfl (lv_at hl 2 rfl) ?_
    refine lv_aload_n (pc := 19) hx hb dX8_quote_19 rfl (lv_at hl 0 rfl) ?_
    refine lv_iload_n (pc := 20) hx hb dX8_quote_20 rfl (lv_at hl 1 rfl) ?_
    obtain ⟨r4, m4, c4, h⟩ := xb_inv h
    refine xc_iV (pc := 21) (As := [.int _]) (rest := [.int _, .int _]) ⟨hx, hb, hml, hown, hts⟩ (mX8_weekly hF _ _ k0 c4) (xcwV 1 hts fdX8_weekly q_m_X8_83 ⟨Nat.le_of_ble_eq_true rfl, Nat.le_of_ble_eq_true rfl⟩) (xRecv hK hR (ci := 12) rfl k0.1) hR hK hE hS rfl hl.1 rfl (Nat.le_of_ble_eq_true rfl) dX8_quote_21 ⟨Nat.zero_le _, Nat.zero_le _⟩ (fun H locs hR hS => ?_)
    refine lv_imul (pc := 24) hx hb dX8_quote_24 ?_
    refine lv_iadd (pc := 25) hx hb dX8_quote_25 ?_
    exact xf_i (pc := 26) hx hb hr rfl hlocks h hR hK hS dX8_quote_26
  · have h := xneg c2 h
    refine lv_iconst (pc := 9) hx hb dX8_quote_9 kc_0 ?_
    refine lv_goto (pc := 10) (tgt := 26) hx hb dX8_quote_10 (by decide) ?_
    exact xf_i (pc := 26) hx hb hr rfl hlocks h hR hK hS dX8_quote_26
set_option maxHeartbeats 1000000 in
set_option maxRecDepth 20000 in
theorem wX8_quoteAgain_20 {p : Program} {l : Launch} {e : Env} {s : State} {m : MethodId} {args : Array Value} {below : List Frame} {meth : Method} {c : Code} {D : va_G} {ca : Nat → ClassId} {z : Nat} {G : xG} {X : va_W} {ad av : Nat → Nat} (hF : xFix z G X) (h0 : Nat) (p1 : Int32) (p2 : Int32) (k0 : xI_Model G h0) (hx : p.tables.exec = Jvm.exec) (hb : c.code = cX8_quoteAgain) (hr : meth.sig.returnType = (some .int)) (hml : c.maxLocals = 5) (hlocks : meth.locks = false) (hts : ∀ w ∈ xAll, w.before args s = true) (hown : s.vm.findClass RX8 = some m.cls) (hK : va_K D vwCl (xT ca) s) (hE : xEv z ad av s s.heap) {μ1 : xM} {r : Int32} :
    ∀ (n : Nat) (x3 : Int32) (x4 : Int32) (μ : xM) (H : Heap) (locs : List Loc) (ls : Array Slot), lX8_quoteAgain_20 h0 p1 p2 n x3 x4 μ = some (r, μ1) → xRep D ca G X μ H → va_S (fun q => z ≤ q) s.heap H locs → lv_has ls 5 [(0, .ref h0), (1, .int p1), (2, .int p2), (3, .int x3), (4, .int x4)] → W p l e (xRm 3 0 0) s m args below meth c H locs 0 0 (MQ below (va_Qi (fun (r' : Int32) (_ : Unit) => r' = r) (fun _ t => xB D ca G X μ1 t) (fun q => z ≤ q)) args s 0 0 (fun q => z ≤ q)) (F0 m 20 ls []) := by
  intro n
  induction n with
  | zero => intro x3 x4 μ H locs ls h; cases h
  | succ n ih =>
    intro x3 x4 μ H locs ls h hR hS hl
    rw [lX8_quoteAgain_20] at h
    refine lv_iload (pc := 20) hx hb dX8_quoteAgain_20 (lv_at hl 4 rfl) ?_
    refine lv_iload_n (pc := 22) hx hb dX8_quoteAgain_22 rfl (lv_at hl 2 rfl) ?_
    refine lv_icmp_ge (pc := 23) (tgt := 40) hx hb dX8_quoteAgain_23 (by decide) (fun c4 => ?_) (fun c4 => ?_)
    · have h := xpos c4 h
      refine lv_iload_n (pc := 40) hx hb dX8_quoteAgain_40 rfl (lv_at hl 3 rfl) ?_
      exact xf_i (pc := 41) hx hb hr rfl hlocks h hR hK hS dX8_quoteAgain_41
    · have h := xneg c4 h
      refine lv_iload_n (pc := 26) hx hb dX8_quoteAgain_26 rfl (lv_at hl 3 rfl) ?_
      refine lv_aload_n (pc := 27) hx hb dX8_quoteAgain_27 rfl (lv_at hl 0 rfl) ?_
      refine lv_iload_n (pc := 28) hx hb dX8_quoteAgain_28 rfl (lv_at hl 1 rfl) ?_
      obtain ⟨r5, m5, c5, h⟩ := xb_inv h
      refine xc_iV (pc := 29) (As := [.int _]) (rest := [.int _]) ⟨hx, hb, hml, hown, hts⟩ (mX8_weekly hF _ _ k0 c5) (xcwV 1 hts fdX8_weekly q_m_X8_83 ⟨Nat.le_of_ble_eq_true rfl, Nat.le_of_ble_eq_true rfl⟩) (xRecv hK hR (ci := 12) rfl k0.1) hR hK hE hS rfl hl.1 rfl (Nat.le_of_ble_eq_true rfl) dX8_quoteAgain_29 ⟨Nat.zero_le _, Nat.zero_le _⟩ (fun H locs hR hS => ?_)
      refine lv_iadd (pc := 32) hx hb dX8_quoteAgain_32 ?_
      refine lv_istore_n (pc := 33) (lv' := [(3, .int _), (0, .ref _), (1, .int _), (2, .int _), (4, .int _)]) hx hb dX8_quoteAgain_33 rfl hl (Nat.le_of_ble_eq_true rfl) rfl (fun ls hl => ?_)
      refine lv_iinc (pc := 34) (lv' := [(4, .int _), (3, .int _), (0, .ref _), (1, .int _), (2, .int _)]) hx hb dX8_quoteAgain_34 hl (k := 4) rfl (xinc kc_1) (Nat.le_of_ble_eq_true rfl) rfl (fun ls hl => ?_)
      refine lv_goto (pc := 37) (tgt := 20) hx hb dX8_quoteAgain_37 (by decide) ?_
      exact ih _ _ _ _ _ _ h hR hS (lv_sub hl [2, 3, 4, 1, 0] rfl)
set_option maxHeartbeats 1000000 in
set_option maxRecDepth 20000 in
theorem mX8_quoteAgain {l : Launch} {D : va_G} {ca : Nat → ClassId} {z : Nat} {G : xG} {X : va_W} {ad av : Nat → Nat} (hF : xFix z G X) (h0 : Nat) (p1 : Int32) (p2 : Int32) (k0 : xI_Model G h0) {μ μ1 : xM} {r : Int32} (h : fX8_quoteAgain h0 p1 p2 μ = some (r, μ1)) : xMi l yX8_quoteAgain (xws yX8_quoteAgain cX8_quoteAgain 5 (some .int)) 3 D ca z G X ad av [.ref h0, .int p1, .int p2] μ r μ1 := by
  refine xm_i (by decide) rfl (Nat.le_of_ble_eq_true rfl) [(0, .ref h0), (1, .int p1), (2, .int p2)] rfl ?_
  intro p e s m args below meth c ls hx hb hr hml hlocks hts hown hK hE hR hS hl
  have hts : ∀ w ∈ xAll, w.before args s = true := fun w hw => hts w (List.mem_cons_of_mem _ hw)
  rw [fX8_quoteAgain] at h
  refine lv_aload_n (pc := 0) hx hb dX8_quoteAgain_0 rfl (lv_at hl 0 rfl) ?_
  refine lv_iload_n (pc := 1) hx hb dX8_quoteAgain_1 rfl (lv_at hl 1 rfl) ?_
  refine lv_iload_n (pc := 2) hx hb dX8_quoteAgain_2 rfl (lv_at hl 2 rfl) ?_
  obtain ⟨r1, m1, c1, h⟩ := xb_inv h
  refine xc_iV (pc := 3) (As := [.int _, .int _]) (rest := []) ⟨hx, hb, hml, hown, hts⟩ (mX8_isNoQuote hF _ _ _ k0 c1) (xcwV 2 hts fdX8_isNoQuote q_m_X8_108 ⟨Nat.le_of_ble_eq_true rfl, Nat.le_of_ble_eq_true rfl⟩) (xRecv hK hR (ci := 12) rfl k0.1) hR hK hE hS rfl hl.1 rfl (Nat.le_of_ble_eq_true rfl) dX8_quoteAgain_3 ⟨Nat.zero_le _, Nat.zero_le _⟩ (fun H locs hR hS => ?_)
  refine lv_if_eq (pc := 6) (tgt := 11) hx hb dX8_quoteAgain_6 (by decide) (fun c2 => ?_) (fun c2 => ?_)
  · have h := xpos c2 h
    refine lv_aload_n (pc := 11) hx hb dX8_quoteAgain_11 rfl (lv_at hl 0 rfl) ?_
    refine lv_iload_n (pc := 12) hx hb dX8_quoteAgain_12 rfl (lv_at hl 1 rfl) ?_
    obtain ⟨r3, m3, c3, h⟩ := xb_inv h
    refine xc_iV (pc := 13) (As := [.int _]) (rest := []) ⟨hx, hb, hml, hown, hts⟩ (mX8_owed hF _ _ k0 c3) (xcwV 1 hts fdX8_owed q_m_X8_87 ⟨Nat.le_of_ble_eq_true rfl, Nat.le_of_ble_eq_true rfl⟩) (xRecv hK hR (ci := 12) rfl k0.1) hR hK hE hS rfl hl.1 rfl (Nat.le_of_ble_eq_true rfl) dX8_quoteAgain_13 ⟨Nat.zero_le _, Nat.zero_le _⟩ (fun H locs hR hS => ?_)
    refine lv_istore_n (pc := 16) (lv' := [(3, .int _), (0, .ref _), (1, .int _), (2, .int _)]) hx hb dX8_quoteAgain_16 rfl hl (Nat.le_of_ble_eq_true rfl) rfl (fun ls hl => ?_)
    refine lv_iconst (pc := 17) hx hb dX8_quoteAgain_17 kc_0 ?_
    refine lv_istore (pc := 18) (lv' := [(4, .int _), (3, .int _), (0, .ref _), (1, .int _), (2, .int _)]) hx hb dX8_quoteAgain_18 hl (Nat.le_of_ble_eq_true rfl) rfl (fun ls hl => ?_)
    exact wX8_quoteAgain_20 hF h0 p1 p2 k0 hx hb hr hml hlocks hts hown hK hE _ _ _ _ _ _ _ h hR hS (lv_sub hl [2, 3, 4, 1, 0] rfl)
  · have h := xneg c2 h
    refine lv_iconst (pc := 9) hx hb dX8_quoteAgain_9 kc_0 ?_
    exact xf_i (pc := 10) hx hb hr rfl hlocks h hR hK hS dX8_quoteAgain_10
set_option maxHeartbeats 1000000 in
set_option maxRecDepth 20000 in
theorem wX8_lotsIn_4 {p : Program} {l : Launch} {e : Env} {s : State} {m : MethodId} {args : Array Value} {below : List Frame} {meth : Method} {c : Code} {D : va_G} {ca : Nat → ClassId} {z : Nat} {G : xG} {X : va_W} {ad av : Nat → Nat} (hF : xFix z G X) (h0 : Nat) (p1 : Int32) (k0 : xI_Model G h0) (hx : p.tables.exec = Jvm.exec) (hb : c.code = cX8_lotsIn) (hr : meth.sig.returnType = (some .int)) (hml : c.maxLocals = 4) (hlocks : meth.locks = false) (hts : ∀ w ∈ xAll, w.before args s = true) (hown : s.vm.findClass RX8 = some m.cls) (hK : va_K D vwCl (xT ca) s) (hE : xEv z ad av s s.heap) {μ1 : xM} {r : Int32} :
    ∀ (n : Nat) (x2 : Int32) (x3 : Int32) (μ : xM) (H : Heap) (locs : List Loc) (ls : Array Slot), lX8_lotsIn_4 h0 p1 n x2 x3 μ = some (r, μ1) → xRep D ca G X μ H → va_S (fun q => z ≤ q) s.heap H locs → lv_has ls 4 [(0, .ref h0), (1, .int p1), (2, .int x2), (3, .int x3)] → W p l e (xRm 2 0 0) s m args below meth c H locs 0 0 (MQ below (va_Qi (fun (r' : Int32) (_ : Unit) => r' = r) (fun _ t => xB D ca G X μ1 t) (fun q => z ≤ q)) args s 0 0 (fun q => z ≤ q)) (F0 m 4 ls []) := by
  intro n
  induction n with
  | zero => intro x2 x3 μ H locs ls h; cases h
  | succ n ih =>
    intro x2 x3 μ H locs ls h hR hS hl
    rw [lX8_lotsIn_4] at h
    refine lv_iload_n (pc := 4) hx hb dX8_lotsIn_4 rfl (lv_at hl 3 rfl) ?_
    refine lv_aload_n (pc := 5) hx hb dX8_lotsIn_5 rfl (lv_at hl 0 rfl) ?_
    refine xr_getR (pc := 6) (ci := 12) hx hb hts inX8 hown hK hR rfl k0.1 0 (Nat.le_of_ble_eq_true rfl) rfl k0.2.1.1 (hts _ q_f_X8_7) (fun _ h9 => h9) dX8_lotsIn_6 ?_
    refine lv_iconst (pc := 9) hx hb dX8_lotsIn_9 kc_1 ?_
    refine xr_ialdk (pc := 10) 1 hx hb hK hR k0.2.1.2.1 k0.2.1.2.2 tn_1 (vl_1 (by decide)) dX8_lotsIn_10 ?_
    refine lv_icmp_ge (pc := 11) (tgt := 46) hx hb dX8_lotsIn_11 (by decide) (fun c1 => ?_) (fun c1 => ?_)
    · have h := xpos c1 h
      refine lv_iload_n (pc := 46) hx hb dX8_lotsIn_46 rfl (lv_at hl 2 rfl) ?_
      exact xf_i (pc := 47) hx hb hr rfl hlocks h hR hK hS dX8_lotsIn_47
    · have h := xneg c1 h
      refine lv_iload_n (pc := 14) hx hb dX8_lotsIn_14 rfl (lv_at hl 2 rfl) ?_
      refine lv_aload_n (pc := 15) hx hb dX8_lotsIn_15 rfl (lv_at hl 0 rfl) ?_
      refine lv_iload_n (pc := 16) hx hb dX8_lotsIn_16 rfl (lv_at hl 3 rfl) ?_
      refine lv_iconst (pc := 17) hx hb dX8_lotsIn_17 kc_4 ?_
      obtain ⟨r2, m2, c2, h⟩ := xb_inv h
      refine xc_iV (pc := 18) (As := [.int _, .int _]) (rest := [.int _]) ⟨hx, hb, hml, hown, hts⟩ (mX8_of hF _ _ _ k0 c2) (xcwV 2 hts fdX8_of q_m_X8_63 ⟨Nat.le_of_ble_eq_true rfl, Nat.le_of_ble_eq_true rfl⟩) (xRecv hK hR (ci := 12) rfl k0.1) hR hK hE hS rfl hl.1 rfl (Nat.le_of_ble_eq_true rfl) dX8_lotsIn_18 ⟨Nat.zero_le _, Nat.zero_le _⟩ (fun H locs hR hS => ?_)
      refine lv_if_ne (pc := 21) (tgt := 37) hx hb dX8_lotsIn_21 (by decide) (fun c3 => ?_) (fun c3 => ?_)
      · have h := xneg c3 h
        refine lv_iconst (pc := 37) hx hb dX8_lotsIn_37 kc_0 ?_
        refine lv_iadd (pc := 38) hx hb dX8_lotsIn_38 ?_
        refine lv_istore_n (pc := 39) (lv' := [(2, .int _), (0, .ref _), (1, .int _), (3, .int _)]) hx hb dX8_lotsIn_39 rfl hl (Nat.le_of_ble_eq_true rfl) rfl (fun ls hl => ?_)
        refine lv_iinc (pc := 40) (lv' := [(3, .int _), (2, .int _), (0, .ref _), (1, .int _)]) hx hb dX8_lotsIn_40 hl (k := 3) rfl (xinc kc_1) (Nat.le_of_ble_eq_true rfl) rfl (fun ls hl => ?_)
        refine lv_goto (pc := 43) (tgt := 4) hx hb dX8_lotsIn_43 (by decide) ?_
        exact ih _ _ _ _ _ _ h hR hS (lv_sub hl [2, 3, 1, 0] rfl)
      · have h := xpos c3 h
        refine lv_aload_n (pc := 24) hx hb dX8_lotsIn_24 rfl (lv_at hl 0 rfl) ?_
        refine lv_iload_n (pc := 25) hx hb dX8_lotsIn_25 rfl (lv_at hl 3 rfl) ?_
        refine lv_iload_n (pc := 26) hx hb dX8_lotsIn_26 rfl (lv_at hl 1 rfl) ?_
        obtain ⟨r4, m4, c4, h⟩ := xb_inv h
        refine xc_iV (pc := 27) (As := [.int _, .int _]) (rest := [.int _]) ⟨hx, hb, hml, hown, hts⟩ (mX8_isOver hF _ _ _ k0 c4) (xcwV 2 hts fdX8_isOver q_m_X8_104 ⟨Nat.le_of_ble_eq_true rfl, Nat.le_of_ble_eq_true rfl⟩) (xRecv hK hR (ci := 12) rfl k0.1) hR hK hE hS rfl hl.1 rfl (Nat.le_of_ble_eq_true rfl) dX8_lotsIn_27 ⟨Nat.zero_le _, Nat.zero_le _⟩ (fun H locs hR hS => ?_)
        refine lv_if_eq (pc := 30) (tgt := 37) hx hb dX8_lotsIn_30 (by decide) (fun c5 => ?_) (fun c5 => ?_)
        · have h := xpos c5 h
          refine lv_iconst (pc := 37) hx hb dX8_lotsIn_37 kc_0 ?_
          refine lv_iadd (pc := 38) hx hb dX8_lotsIn_38 ?_
          refine lv_istore_n (pc := 39) (lv' := [(2, .int _), (0, .ref _), (1, .int _), (3, .int _)]) hx hb dX8_lotsIn_39 rfl hl (Nat.le_of_ble_eq_true rfl) rfl (fun ls hl => ?_)
          refine lv_iinc (pc := 40) (lv' := [(3, .int _), (2, .int _), (0, .ref _), (1, .int _)]) hx hb dX8_lotsIn_40 hl (k := 3) rfl (xinc kc_1) (Nat.le_of_ble_eq_true rfl) rfl (fun ls hl => ?_)
          refine lv_goto (pc := 43) (tgt := 4) hx hb dX8_lotsIn_43 (by decide) ?_
          exact ih _ _ _ _ _ _ h hR hS (lv_sub hl [2, 3, 1, 0] rfl)
        · have h := xneg c5 h
          refine lv_iconst (pc := 33) hx hb dX8_lotsIn_33 kc_1 ?_
          refine lv_goto (pc := 34) (tgt := 38) hx hb dX8_lotsIn_34 (by decide) ?_
          refine lv_iadd (pc := 38) hx hb dX8_lotsIn_38 ?_
          refine lv_istore_n (pc := 39) (lv' := [(2, .int _), (0, .ref _), (1, .int _), (3, .int _)]) hx hb dX8_lotsIn_39 rfl hl (Nat.le_of_ble_eq_true rfl) rfl (fun ls hl => ?_)
          refine lv_iinc (pc := 40) (lv' := [(3, .int _), (2, .int _), (0, .ref _), (1, .int _)]) hx hb dX8_lotsIn_40 hl (k := 3) rfl (xinc kc_1) (Nat.le_of_ble_eq_true rfl) rfl (fun ls hl => ?_)
          refine lv_goto (pc := 43) (tgt := 4) hx hb dX8_lotsIn_43 (by decide) ?_
          exact ih _ _ _ _ _ _ h hR hS (lv_sub hl [2, 3, 1, 0] rfl)
set_option maxHeartbeats 1000000 in
set_option maxRecDepth 20000 in
theorem mX8_lotsIn {l : Launch} {D : va_G} {ca : Nat → ClassId} {z : Nat} {G : xG} {X : va_W} {ad av : Nat → Nat} (hF : xFix z G X) (h0 : Nat) (p1 : Int32) (k0 : xI_Model G h0) {μ μ1 : xM} {r : Int32} (h : fX8_lotsIn h0 p1 μ = some (r, μ1)) : xMi l yX8_lotsIn (xws yX8_lotsIn cX8_lotsIn 4 (some .int)) 2 D ca z G X ad av [.ref h0, .int p1] μ r μ1 := by
  refine xm_i (by decide) rfl (Nat.le_of_ble_eq_true rfl) [(0, .ref h0), (1, .int p1)] rfl ?_
  intro p e s m args below meth c ls hx hb hr hml hlocks hts hown hK hE hR hS hl
  have hts : ∀ w ∈ xAll, w.before args s = true := fun w hw => hts w (List.mem_cons_of_mem _ hw)
  rw [fX8_lotsIn] at h
  refine lv_iconst (pc := 0) hx hb dX8_lotsIn_0 kc_0 ?_
  refine lv_istore_n (pc := 1) (lv' := [(2, .int _), (0, .ref _), (1, .int _)]) hx hb dX8_lotsIn_1 rfl hl (Nat.le_of_ble_eq_true rfl) rfl (fun ls hl => ?_)
  refine lv_iconst (pc := 2) hx hb dX8_lotsIn_2 kc_0 ?_
  refine lv_istore_n (pc := 3) (lv' := [(3, .int _), (2, .int _), (0, .ref _), (1, .int _)]) hx hb dX8_lotsIn_3 rfl hl (Nat.le_of_ble_eq_true rfl) rfl (fun ls hl => ?_)
  exact wX8_lotsIn_4 hF h0 p1 k0 hx hb hr hml hlocks hts hown hK hE _ _ _ _ _ _ _ h hR hS (lv_sub hl [2, 3, 1, 0] rfl)
set_option maxHeartbeats 1000000 in
set_option maxRecDepth 20000 in
theorem mX8_willBeLots {l : Launch} {D : va_G} {ca : Nat → ClassId} {z : Nat} {G : xG} {X : va_W} {ad av : Nat → Nat} (hF : xFix z G X) (h0 : Nat) (p1 : Int32) (k0 : xI_Model G h0) {μ μ1 : xM} {r : Int32} (h : fX8_willBeLots h0 p1 μ = some (r, μ1)) : xMi l yX8_willBeLots (xws yX8_willBeLots cX8_willBeLots 2 (some .int)) 3 D ca z G X ad av [.ref h0, .int p1] μ r μ1 := by
  refine xm_i (by decide) rfl (Nat.le_of_ble_eq_true rfl) [(0, .ref h0), (1, .int p1)] rfl ?_
  intro p e s m args below meth c ls hx hb hr hml hlocks hts hown hK hE hR hS hl
  have hts : ∀ w ∈ xAll, w.before args s = true := fun w hw => hts w (List.mem_cons_of_mem _ hw)
  rw [fX8_willBeLots] at h
  refine lv_aload_n (pc := 0) hx hb dX8_willBeLots_0 rfl (lv_at hl 0 rfl) ?_
  refine lv_iload_n (pc := 1) hx hb dX8_willBeLots_1 rfl (lv_at hl 1 rfl) ?_
  refine lv_iconst (pc := 2) hx hb dX8_willBeLots_2 kc_0 ?_
  refine lv_bipush (pc := 3) hx hb dX8_willBeLots_3 kb_20 ?_
  obtain ⟨r1, m1, c1, h⟩ := xb_inv h
  refine xc_iS (pc := 5) (As := [.int _, .int _, .int _]) (rest := [.ref _]) ⟨hx, hb, hml, hown, hts⟩ (mX8_in hF _ _ _  c1) (xcwS 3 hts fdX8_in q_m_X8_59 ⟨Nat.le_of_ble_eq_true rfl, Nat.le_of_ble_eq_true rfl⟩) hR hK hE hS rfl hl.1 rfl (Nat.le_of_ble_eq_true rfl) dX8_willBeLots_5 ⟨Nat.zero_le _, Nat.zero_le _⟩ (fun H locs hR hS => ?_)
  refine lv_if_eq (pc := 8) (tgt := 15) hx hb dX8_willBeLots_8 (by decide) (fun c2 => ?_) (fun c2 => ?_)
  · have h := xpos c2 h
    refine lv_iconst (pc := 15) hx hb dX8_willBeLots_15 kc_1 ?_
    obtain ⟨r3, m3, c3, h⟩ := xb_inv h
    refine xc_iV (pc := 16) (As := [.int _]) (rest := []) ⟨hx, hb, hml, hown, hts⟩ (mX8_fails hF _ _ k0 c3) (xcwV 1 hts fdX8_fails q_m_X8_67 ⟨Nat.le_of_ble_eq_true rfl, Nat.le_of_ble_eq_true rfl⟩) (xRecv hK hR (ci := 12) rfl k0.1) hR hK hE hS rfl hl.1 rfl (Nat.le_of_ble_eq_true rfl) dX8_willBeLots_16 ⟨Nat.zero_le _, Nat.zero_le _⟩ (fun H locs hR hS => ?_)
    refine lv_if_eq (pc := 19) (tgt := 26) hx hb dX8_willBeLots_19 (by decide) (fun c4 => ?_) (fun c4 => ?_)
    · have h := xpos c4 h
      refine lv_aload_n (pc := 26) hx hb dX8_willBeLots_26 rfl (lv_at hl 0 rfl) ?_
      refine lv_iload_n (pc := 27) hx hb dX8_willBeLots_27 rfl (lv_at hl 1 rfl) ?_
      obtain ⟨r5, m5, c5, h⟩ := xb_inv h
      refine xc_iV (pc := 28) (As := [.int _]) (rest := []) ⟨hx, hb, hml, hown, hts⟩ (mX8_lotsIn hF _ _ k0 c5) (xcwV 1 hts fdX8_lotsIn q_m_X8_111 ⟨Nat.le_of_ble_eq_true rfl, Nat.le_of_ble_eq_true rfl⟩) (xRecv hK hR (ci := 12) rfl k0.1) hR hK hE hS rfl hl.1 rfl (Nat.le_of_ble_eq_true rfl) dX8_willBeLots_28 ⟨Nat.zero_le _, Nat.zero_le _⟩ (fun H locs hR hS => ?_)
      exact xf_i (pc := 31) hx hb hr rfl hlocks h hR hK hS dX8_willBeLots_31
    · have h := xneg c4 h
      refine lv_iconst (pc := 22) hx hb dX8_willBeLots_22 kc_0 ?_
      refine lv_goto (pc := 23) (tgt := 31) hx hb dX8_willBeLots_23 (by decide) ?_
      exact xf_i (pc := 31) hx hb hr rfl hlocks h hR hK hS dX8_willBeLots_31
  · have h := xneg c2 h
    refine lv_iconst (pc := 11) hx hb dX8_willBeLots_11 kc_0 ?_
    refine lv_goto (pc := 12) (tgt := 16) hx hb dX8_willBeLots_12 (by decide) ?_
    obtain ⟨r6, m6, c6, h⟩ := xb_inv h
    refine xc_iV (pc := 16) (As := [.int _]) (rest := []) ⟨hx, hb, hml, hown, hts⟩ (mX8_fails hF _ _ k0 c6) (xcwV 1 hts fdX8_fails q_m_X8_67 ⟨Nat.le_of_ble_eq_true rfl, Nat.le_of_ble_eq_true rfl⟩) (xRecv hK hR (ci := 12) rfl k0.1) hR hK hE hS rfl hl.1 rfl (Nat.le_of_ble_eq_true rfl) dX8_willBeLots_16 ⟨Nat.zero_le _, Nat.zero_le _⟩ (fun H locs hR hS => ?_)
    refine lv_if_eq (pc := 19) (tgt := 26) hx hb dX8_willBeLots_19 (by decide) (fun c7 => ?_) (fun c7 => ?_)
    · have h := xpos c7 h
      refine lv_aload_n (pc := 26) hx hb dX8_willBeLots_26 rfl (lv_at hl 0 rfl) ?_
      refine lv_iload_n (pc := 27) hx hb dX8_willBeLots_27 rfl (lv_at hl 1 rfl) ?_
      obtain ⟨r8, m8, c8, h⟩ := xb_inv h
      refine xc_iV (pc := 28) (As := [.int _]) (rest := []) ⟨hx, hb, hml, hown, hts⟩ (mX8_lotsIn hF _ _ k0 c8) (xcwV 1 hts fdX8_lotsIn q_m_X8_111 ⟨Nat.le_of_ble_eq_true rfl, Nat.le_of_ble_eq_true rfl⟩) (xRecv hK hR (ci := 12) rfl k0.1) hR hK hE hS rfl hl.1 rfl (Nat.le_of_ble_eq_true rfl) dX8_willBeLots_28 ⟨Nat.zero_le _, Nat.zero_le _⟩ (fun H locs hR hS => ?_)
      exact xf_i (pc := 31) hx hb hr rfl hlocks h hR hK hS dX8_willBeLots_31
    · have h := xneg c7 h
      refine lv_iconst (pc := 22) hx hb dX8_willBeLots_22 kc_0 ?_
      refine lv_goto (pc := 23) (tgt := 31) hx hb dX8_willBeLots_23 (by decide) ?_
      exact xf_i (pc := 31) hx hb hr rfl hlocks h hR hK hS dX8_willBeLots_31
set_option maxHeartbeats 1000000 in
set_option maxRecDepth 20000 in
theorem mX8_willBeLotsAgain {l : Launch} {D : va_G} {ca : Nat → ClassId} {z : Nat} {G : xG} {X : va_W} {ad av : Nat → Nat} (hF : xFix z G X) (h0 : Nat) (p1 : Int32) (k0 : xI_Model G h0) {μ μ1 : xM} {r : Int32} (h : fX8_willBeLotsAgain h0 p1 μ = some (r, μ1)) : xMi l yX8_willBeLotsAgain (xws yX8_willBeLotsAgain cX8_willBeLotsAgain 2 (some .int)) 3 D ca z G X ad av [.ref h0, .int p1] μ r μ1 := by
  refine xm_i (by decide) rfl (Nat.le_of_ble_eq_true rfl) [(0, .ref h0), (1, .int p1)] rfl ?_
  intro p e s m args below meth c ls hx hb hr hml hlocks hts hown hK hE hR hS hl
  have hts : ∀ w ∈ xAll, w.before args s = true := fun w hw => hts w (List.mem_cons_of_mem _ hw)
  rw [fX8_willBeLotsAgain] at h
  refine lv_aload_n (pc := 0) hx hb dX8_willBeLotsAgain_0 rfl (lv_at hl 0 rfl) ?_
  refine lv_iload_n (pc := 1) hx hb dX8_willBeLotsAgain_1 rfl (lv_at hl 1 rfl) ?_
  refine lv_iconst (pc := 2) hx hb dX8_willBeLotsAgain_2 kc_0 ?_
  refine lv_bipush (pc := 3) hx hb dX8_willBeLotsAgain_3 kb_20 ?_
  obtain ⟨r1, m1, c1, h⟩ := xb_inv h
  refine xc_iS (pc := 5) (As := [.int _, .int _, .int _]) (rest := [.ref _]) ⟨hx, hb, hml, hown, hts⟩ (mX8_in hF _ _ _  c1) (xcwS 3 hts fdX8_in q_m_X8_59 ⟨Nat.le_of_ble_eq_true rfl, Nat.le_of_ble_eq_true rfl⟩) hR hK hE hS rfl hl.1 rfl (Nat.le_of_ble_eq_true rfl) dX8_willBeLotsAgain_5 ⟨Nat.zero_le _, Nat.zero_le _⟩ (fun H locs hR hS => ?_)
  refine lv_if_eq (pc := 8) (tgt := 15) hx hb dX8_willBeLotsAgain_8 (by decide) (fun c2 => ?_) (fun c2 => ?_)
  · have h := xpos c2 h
    refine lv_iconst (pc := 15) hx hb dX8_willBeLotsAgain_15 kc_1 ?_
    obtain ⟨r3, m3, c3, h⟩ := xb_inv h
    refine xc_iV (pc := 16) (As := [.int _]) (rest := []) ⟨hx, hb, hml, hown, hts⟩ (mX8_fails hF _ _ k0 c3) (xcwV 1 hts fdX8_fails q_m_X8_67 ⟨Nat.le_of_ble_eq_true rfl, Nat.le_of_ble_eq_true rfl⟩) (xRecv hK hR (ci := 12) rfl k0.1) hR hK hE hS rfl hl.1 rfl (Nat.le_of_ble_eq_true rfl) dX8_willBeLotsAgain_16 ⟨Nat.zero_le _, Nat.zero_le _⟩ (fun H locs hR hS => ?_)
    refine lv_if_eq (pc := 19) (tgt := 26) hx hb dX8_willBeLotsAgain_19 (by decide) (fun c4 => ?_) (fun c4 => ?_)
    · have h := xpos c4 h
      refine lv_aload_n (pc := 26) hx hb dX8_willBeLotsAgain_26 rfl (lv_at hl 0 rfl) ?_
      refine lv_iload_n (pc := 27) hx hb dX8_willBeLotsAgain_27 rfl (lv_at hl 1 rfl) ?_
      obtain ⟨r5, m5, c5, h⟩ := xb_inv h
      refine xc_iV (pc := 28) (As := [.int _]) (rest := []) ⟨hx, hb, hml, hown, hts⟩ (mX8_lotsIn hF _ _ k0 c5) (xcwV 1 hts fdX8_lotsIn q_m_X8_111 ⟨Nat.le_of_ble_eq_true rfl, Nat.le_of_ble_eq_true rfl⟩) (xRecv hK hR (ci := 12) rfl k0.1) hR hK hE hS rfl hl.1 rfl (Nat.le_of_ble_eq_true rfl) dX8_willBeLotsAgain_28 ⟨Nat.zero_le _, Nat.zero_le _⟩ (fun H locs hR hS => ?_)
      exact xf_i (pc := 31) hx hb hr rfl hlocks h hR hK hS dX8_willBeLotsAgain_31
    · have h := xneg c4 h
      refine lv_iconst (pc := 22) hx hb dX8_willBeLotsAgain_22 kc_0 ?_
      refine lv_goto (pc := 23) (tgt := 31) hx hb dX8_willBeLotsAgain_23 (by decide) ?_
      exact xf_i (pc := 31) hx hb hr rfl hlocks h hR hK hS dX8_willBeLotsAgain_31
  · have h := xneg c2 h
    refine lv_iconst (pc := 11) hx hb dX8_willBeLotsAgain_11 kc_0 ?_
    refine lv_goto (pc := 12) (tgt := 16) hx hb dX8_willBeLotsAgain_12 (by decide) ?_
    obtain ⟨r6, m6, c6, h⟩ := xb_inv h
    refine xc_iV (pc := 16) (As := [.int _]) (rest := []) ⟨hx, hb, hml, hown, hts⟩ (mX8_fails hF _ _ k0 c6) (xcwV 1 hts fdX8_fails q_m_X8_67 ⟨Nat.le_of_ble_eq_true rfl, Nat.le_of_ble_eq_true rfl⟩) (xRecv hK hR (ci := 12) rfl k0.1) hR hK hE hS rfl hl.1 rfl (Nat.le_of_ble_eq_true rfl) dX8_willBeLotsAgain_16 ⟨Nat.zero_le _, Nat.zero_le _⟩ (fun H locs hR hS => ?_)
    refine lv_if_eq (pc := 19) (tgt := 26) hx hb dX8_willBeLotsAgain_19 (by decide) (fun c7 => ?_) (fun c7 => ?_)
    · have h := xpos c7 h
      refine lv_aload_n (pc := 26) hx hb dX8_willBeLotsAgain_26 rfl (lv_at hl 0 rfl) ?_
      refine lv_iload_n (pc := 27) hx hb dX8_willBeLotsAgain_27 rfl (lv_at hl 1 rfl) ?_
      obtain ⟨r8, m8, c8, h⟩ := xb_inv h
      refine xc_iV (pc := 28) (As := [.int _]) (rest := []) ⟨hx, hb, hml, hown, hts⟩ (mX8_lotsIn hF _ _ k0 c8) (xcwV 1 hts fdX8_lotsIn q_m_X8_111 ⟨Nat.le_of_ble_eq_true rfl, Nat.le_of_ble_eq_true rfl⟩) (xRecv hK hR (ci := 12) rfl k0.1) hR hK hE hS rfl hl.1 rfl (Nat.le_of_ble_eq_true rfl) dX8_willBeLotsAgain_28 ⟨Nat.zero_le _, Nat.zero_le _⟩ (fun H locs hR hS => ?_)
      exact xf_i (pc := 31) hx hb hr rfl hlocks h hR hK hS dX8_willBeLotsAgain_31
    · have h := xneg c7 h
      refine lv_iconst (pc := 22) hx hb dX8_willBeLotsAgain_22 kc_0 ?_
      refine lv_goto (pc := 23) (tgt := 31) hx hb dX8_willBeLotsAgain_23 (by decide) ?_
      exact xf_i (pc := 31) hx hb hr rfl hlocks h hR hK hS dX8_willBeLotsAgain_31
set_option maxHeartbeats 1000000 in
set_option maxRecDepth 20000 in
theorem wX8_willReserve_61 {p : Program} {l : Launch} {e : Env} {s : State} {m : MethodId} {args : Array Value} {below : List Frame} {meth : Method} {c : Code} {D : va_G} {ca : Nat → ClassId} {z : Nat} {G : xG} {X : va_W} {ad av : Nat → Nat} (hF : xFix z G X) (h0 : Nat) (p1 : Int32) (p2 : Int32) (k0 : xI_Model G h0) (hx : p.tables.exec = Jvm.exec) (hb : c.code = cX8_willReserve) (hr : meth.sig.returnType = (some .int)) (hml : c.maxLocals = 5) (hlocks : meth.locks = false) (hts : ∀ w ∈ xAll, w.before args s = true) (hown : s.vm.findClass RX8 = some m.cls) (hK : va_K D vwCl (xT ca) s) (hE : xEv z ad av s s.heap) {μ1 : xM} {r : Int32} :
    ∀ (n : Nat) (x3 : Int32) (x4 : Int32) (μ : xM) (H : Heap) (locs : List Loc) (ls : Array Slot), lX8_willReserve_61 h0 p1 p2 n x3 x4 μ = some (r, μ1) → xRep D ca G X μ H → va_S (fun q => z ≤ q) s.heap H locs → lv_has ls 5 [(0, .ref h0), (1, .int p1), (2, .int p2), (3, .int x3), (4, .int x4)] → W p l e (xRm 2 0 0) s m args below meth c H locs 0 0 (MQ below (va_Qi (fun (r' : Int32) (_ : Unit) => r' = r) (fun _ t => xB D ca G X μ1 t) (fun q => z ≤ q)) args s 0 0 (fun q => z ≤ q)) (F0 m 61 ls []) := by
  intro n
  induction n with
  | zero => intro x3 x4 μ H locs ls h; cases h
  | succ n ih =>
    intro x3 x4 μ H locs ls h hR hS hl
    rw [lX8_willReserve_61] at h
    refine lv_iload (pc := 61) hx hb dX8_willReserve_61 (lv_at hl 4 rfl) ?_
    refine lv_iload_n (pc := 63) hx hb dX8_willReserve_63 rfl (lv_at hl 2 rfl) ?_
    refine lv_icmp_ge (pc := 64) (tgt := 80) hx hb dX8_willReserve_64 (by decide) (fun c10 => ?_) (fun c10 => ?_)
    · have h := xpos c10 h
      refine lv_iload_n (pc := 80) hx hb dX8_willReserve_80 rfl (lv_at hl 3 rfl) ?_
      exact xf_i (pc := 81) hx hb hr rfl hlocks h hR hK hS dX8_willReserve_81
    · have h := xneg c10 h
      refine lv_iload_n (pc := 67) hx hb dX8_willReserve_67 rfl (lv_at hl 3 rfl) ?_
      refine lv_iload_n (pc := 68) hx hb dX8_willReserve_68 rfl (lv_at hl 3 rfl) ?_
      refine lv_bipush (pc := 69) hx hb dX8_willReserve_69 kb_10 ?_
      refine lv_idiv (pc := 71) hx hb dX8_willReserve_71 (by decide) ?_
      refine lv_isub (pc := 72) hx hb dX8_willReserve_72 ?_
      refine lv_istore_n (pc := 73) (lv' := [(3, .int _), (0, .ref _), (1, .int _), (2, .int _), (4, .int _)]) hx hb dX8_willReserve_73 rfl hl (Nat.le_of_ble_eq_true rfl) rfl (fun ls hl => ?_)
      refine lv_iinc (pc := 74) (lv' := [(4, .int _), (3, .int _), (0, .ref _), (1, .int _), (2, .int _)]) hx hb dX8_willReserve_74 hl (k := 4) rfl (xinc kc_1) (Nat.le_of_ble_eq_true rfl) rfl (fun ls hl => ?_)
      refine lv_goto (pc := 77) (tgt := 61) hx hb dX8_willReserve_77 (by decide) ?_
      exact ih _ _ _ _ _ _ h hR hS (lv_sub hl [2, 3, 4, 1, 0] rfl)
set_option maxHeartbeats 1000000 in
set_option maxRecDepth 20000 in
theorem mX8_willReserve {l : Launch} {D : va_G} {ca : Nat → ClassId} {z : Nat} {G : xG} {X : va_W} {ad av : Nat → Nat} (hF : xFix z G X) (h0 : Nat) (p1 : Int32) (p2 : Int32) (k0 : xI_Model G h0) {μ μ1 : xM} {r : Int32} (h : fX8_willReserve h0 p1 p2 μ = some (r, μ1)) : xMi l yX8_willReserve (xws yX8_willReserve cX8_willReserve 5 (some .int)) 2 D ca z G X ad av [.ref h0, .int p1, .int p2] μ r μ1 := by
  refine xm_i (by decide) rfl (Nat.le_of_ble_eq_true rfl) [(0, .ref h0), (1, .int p1), (2, .int p2)] rfl ?_
  intro p e s m args below meth c ls hx hb hr hml hlocks hts hown hK hE hR hS hl
  have hts : ∀ w ∈ xAll, w.before args s = true := fun w hw => hts w (List.mem_cons_of_mem _ hw)
  rw [fX8_willReserve] at h
  refine lv_aload_n (pc := 0) hx hb dX8_willReserve_0 rfl (lv_at hl 0 rfl) ?_
  refine lv_aload_n (pc := 1) hx hb dX8_willReserve_1 rfl (lv_at hl 0 rfl) ?_
  refine lv_iload_n (pc := 2) hx hb dX8_willReserve_2 rfl (lv_at hl 1 rfl) ?_
  obtain ⟨r1, m1, c1, h⟩ := xb_inv h
  refine xc_iV (pc := 3) (As := [.int _]) (rest := [.ref _]) ⟨hx, hb, hml, hown, hts⟩ (mX8_isTicket hF _ _ k0 c1) (xcwV 1 hts fdX8_isTicket q_m_X8_94 ⟨Nat.le_of_ble_eq_true rfl, Nat.le_of_ble_eq_true rfl⟩) (xRecv hK hR (ci := 12) rfl k0.1) hR hK hE hS rfl hl.1 rfl (Nat.le_of_ble_eq_true rfl) dX8_willReserve_3 ⟨Nat.zero_le _, Nat.zero_le _⟩ (fun H locs hR hS => ?_)
  refine lv_if_ne (pc := 6) (tgt := 13) hx hb dX8_willReserve_6 (by decide) (fun c2 => ?_) (fun c2 => ?_)
  · have h := xneg c2 h
    refine lv_iload_n (pc := 13) hx hb dX8_willReserve_13 rfl (lv_at hl 2 rfl) ?_
    refine lv_iconst (pc := 14) hx hb dX8_willReserve_14 kc_0 ?_
    refine lv_bipush (pc := 15) hx hb dX8_willReserve_15 kb_20 ?_
    obtain ⟨r3, m3, c3, h⟩ := xb_inv h
    refine xc_iS (pc := 17) (As := [.int _, .int _, .int _]) (rest := [.ref _]) ⟨hx, hb, hml, hown, hts⟩ (mX8_in hF _ _ _  c3) (xcwS 3 hts fdX8_in q_m_X8_59 ⟨Nat.le_of_ble_eq_true rfl, Nat.le_of_ble_eq_true rfl⟩) hR hK hE hS rfl hl.1 rfl (Nat.le_of_ble_eq_true rfl) dX8_willReserve_17 ⟨Nat.zero_le _, Nat.zero_le _⟩ (fun H locs hR hS => ?_)
    refine lv_if_ne (pc := 20) (tgt := 27) hx hb dX8_willReserve_20 (by decide) (fun c4 => ?_) (fun c4 => ?_)
    · have h := xneg c4 h
      refine lv_aload_n (pc := 27) hx hb dX8_willReserve_27 rfl (lv_at hl 0 rfl) ?_
      refine lv_iload_n (pc := 28) hx hb dX8_willReserve_28 rfl (lv_at hl 1 rfl) ?_
      refine lv_iconst (pc := 29) hx hb dX8_willReserve_29 kc_4 ?_
      obtain ⟨r5, m5, c5, h⟩ := xb_inv h
      refine xc_iV (pc := 30) (As := [.int _, .int _]) (rest := [.ref _]) ⟨hx, hb, hml, hown, hts⟩ (mX8_of hF _ _ _ k0 c5) (xcwV 2 hts fdX8_of q_m_X8_63 ⟨Nat.le_of_ble_eq_true rfl, Nat.le_of_ble_eq_true rfl⟩) (xRecv hK hR (ci := 12) rfl k0.1) hR hK hE hS rfl hl.1 rfl (Nat.le_of_ble_eq_true rfl) dX8_willReserve_30 ⟨Nat.zero_le _, Nat.zero_le _⟩ (fun H locs hR hS => ?_)
      refine lv_iconst (pc := 33) hx hb dX8_willReserve_33 kc_1 ?_
      refine lv_icmp_eq (pc := 34) (tgt := 41) hx hb dX8_willReserve_34 (by decide) (fun c6 => ?_) (fun c6 => ?_)
      · have h := xpos c6 h
        refine lv_iconst (pc := 41) hx hb dX8_willReserve_41 kc_0 ?_
        obtain ⟨r7, m7, c7, h⟩ := xb_inv h
        refine xc_iV (pc := 42) (As := [.int _]) (rest := []) ⟨hx, hb, hml, hown, hts⟩ (mX8_fails hF _ _ k0 c7) (xcwV 1 hts fdX8_fails q_m_X8_67 ⟨Nat.le_of_ble_eq_true rfl, Nat.le_of_ble_eq_true rfl⟩) (xRecv hK hR (ci := 12) rfl k0.1) hR hK hE hS rfl hl.1 rfl (Nat.le_of_ble_eq_true rfl) dX8_willReserve_42 ⟨Nat.zero_le _, Nat.zero_le _⟩ (fun H locs hR hS => ?_)
        refine lv_if_eq (pc := 45) (tgt := 50) hx hb dX8_willReserve_45 (by decide) (fun c8 => ?_) (fun c8 => ?_)
        · have h := xpos c8 h
          refine lv_aload_n (pc := 50) hx hb dX8_willReserve_50 rfl (lv_at hl 0 rfl) ?_
          refine lv_iload_n (pc := 51) hx hb dX8_willReserve_51 rfl (lv_at hl 1 rfl) ?_
          refine lv_bipush (pc := 52) hx hb dX8_willReserve_52 kb_7 ?_
          obtain ⟨r9, m9, c9, h⟩ := xb_inv h
          refine xc_iV (pc := 54) (As := [.int _, .int _]) (rest := []) ⟨hx, hb, hml, hown, hts⟩ (mX8_of hF _ _ _ k0 c9) (xcwV 2 hts fdX8_of q_m_X8_63 ⟨Nat.le_of_ble_eq_true rfl, Nat.le_of_ble_eq_true rfl⟩) (xRecv hK hR (ci := 12) rfl k0.1) hR hK hE hS rfl hl.1 rfl (Nat.le_of_ble_eq_true rfl) dX8_willReserve_54 ⟨Nat.zero_le _, Nat.zero_le _⟩ (fun H locs hR hS => ?_)
          refine lv_istore_n (pc := 57) (lv' := [(3, .int _), (0, .ref _), (1, .int _), (2, .int _)]) hx hb dX8_willReserve_57 rfl hl (Nat.le_of_ble_eq_true rfl) rfl (fun ls hl => ?_)
          refine lv_iconst (pc := 58) hx hb dX8_willReserve_58 kc_0 ?_
          refine lv_istore (pc := 59) (lv' := [(4, .int _), (3, .int _), (0, .ref _), (1, .int _), (2, .int _)]) hx hb dX8_willReserve_59 hl (Nat.le_of_ble_eq_true rfl) rfl (fun ls hl => ?_)
          exact wX8_willReserve_61 hF h0 p1 p2 k0 hx hb hr hml hlocks hts hown hK hE _ _ _ _ _ _ _ h hR hS (lv_sub hl [2, 3, 4, 1, 0] rfl)
        · have h := xneg c8 h
          refine lv_iconst (pc := 48) hx hb dX8_willReserve_48 kc_0 ?_
          exact xf_i (pc := 49) hx hb hr rfl hlocks h hR hK hS dX8_willReserve_49
      · have h := xneg c6 h
        refine lv_iconst (pc := 37) hx hb dX8_willReserve_37 kc_3 ?_
        refine lv_goto (pc := 38) (tgt := 42) hx hb dX8_willReserve_38 (by decide) ?_
        obtain ⟨r11, m11, c11, h⟩ := xb_inv h
        refine xc_iV (pc := 42) (As := [.int _]) (rest := []) ⟨hx, hb, hml, hown, hts⟩ (mX8_fails hF _ _ k0 c11) (xcwV 1 hts fdX8_fails q_m_X8_67 ⟨Nat.le_of_ble_eq_true rfl, Nat.le_of_ble_eq_true rfl⟩) (xRecv hK hR (ci := 12) rfl k0.1) hR hK hE hS rfl hl.1 rfl (Nat.le_of_ble_eq_true rfl) dX8_willReserve_42 ⟨Nat.zero_le _, Nat.zero_le _⟩ (fun H locs hR hS => ?_)
        refine lv_if_eq (pc := 45) (tgt := 50) hx hb dX8_willReserve_45 (by decide) (fun c12 => ?_) (fun c12 => ?_)
        · have h := xpos c12 h
          refine lv_aload_n (pc := 50) hx hb dX8_willReserve_50 rfl (lv_at hl 0 rfl) ?_
          refine lv_iload_n (pc := 51) hx hb dX8_willReserve_51 rfl (lv_at hl 1 rfl) ?_
          refine lv_bipush (pc := 52) hx hb dX8_willReserve_52 kb_7 ?_
          obtain ⟨r13, m13, c13, h⟩ := xb_inv h
          refine xc_iV (pc := 54) (As := [.int _, .int _]) (rest := []) ⟨hx, hb, hml, hown, hts⟩ (mX8_of hF _ _ _ k0 c13) (xcwV 2 hts fdX8_of q_m_X8_63 ⟨Nat.le_of_ble_eq_true rfl, Nat.le_of_ble_eq_true rfl⟩) (xRecv hK hR (ci := 12) rfl k0.1) hR hK hE hS rfl hl.1 rfl (Nat.le_of_ble_eq_true rfl) dX8_willReserve_54 ⟨Nat.zero_le _, Nat.zero_le _⟩ (fun H locs hR hS => ?_)
          refine lv_istore_n (pc := 57) (lv' := [(3, .int _), (0, .ref _), (1, .int _), (2, .int _)]) hx hb dX8_willReserve_57 rfl hl (Nat.le_of_ble_eq_true rfl) rfl (fun ls hl => ?_)
          refine lv_iconst (pc := 58) hx hb dX8_willReserve_58 kc_0 ?_
          refine lv_istore (pc := 59) (lv' := [(4, .int _), (3, .int _), (0, .ref _), (1, .int _), (2, .int _)]) hx hb dX8_willReserve_59 hl (Nat.le_of_ble_eq_true rfl) rfl (fun ls hl => ?_)
          exact wX8_willReserve_61 hF h0 p1 p2 k0 hx hb hr hml hlocks hts hown hK hE _ _ _ _ _ _ _ h hR hS (lv_sub hl [2, 3, 4, 1, 0] rfl)
        · have h := xneg c12 h
          refine lv_iconst (pc := 48) hx hb dX8_willReserve_48 kc_0 ?_
          exact xf_i (pc := 49) hx hb hr rfl hlocks h hR hK hS dX8_willReserve_49
    · have h := xpos c4 h
      refine lv_iconst (pc := 23) hx hb dX8_willReserve_23 kc_2 ?_
      refine lv_goto (pc := 24) (tgt := 42) hx hb dX8_willReserve_24 (by decide) ?_
      obtain ⟨r14, m14, c14, h⟩ := xb_inv h
      refine xc_iV (pc := 42) (As := [.int _]) (rest := []) ⟨hx, hb, hml, hown, hts⟩ (mX8_fails hF _ _ k0 c14) (xcwV 1 hts fdX8_fails q_m_X8_67 ⟨Nat.le_of_ble_eq_true rfl, Nat.le_of_ble_eq_true rfl⟩) (xRecv hK hR (ci := 12) rfl k0.1) hR hK hE hS rfl hl.1 rfl (Nat.le_of_ble_eq_true rfl) dX8_willReserve_42 ⟨Nat.zero_le _, Nat.zero_le _⟩ (fun H locs hR hS => ?_)
      refine lv_if_eq (pc := 45) (tgt := 50) hx hb dX8_willReserve_45 (by decide) (fun c15 => ?_) (fun c15 => ?_)
      · have h := xpos c15 h
        refine lv_aload_n (pc := 50) hx hb dX8_willReserve_50 rfl (lv_at hl 0 rfl) ?_
        refine lv_iload_n (pc := 51) hx hb dX8_willReserve_51 rfl (lv_at hl 1 rfl) ?_
        refine lv_bipush (pc := 52) hx hb dX8_willReserve_52 kb_7 ?_
        obtain ⟨r16, m16, c16, h⟩ := xb_inv h
        refine xc_iV (pc := 54) (As := [.int _, .int _]) (rest := []) ⟨hx, hb, hml, hown, hts⟩ (mX8_of hF _ _ _ k0 c16) (xcwV 2 hts fdX8_of q_m_X8_63 ⟨Nat.le_of_ble_eq_true rfl, Nat.le_of_ble_eq_true rfl⟩) (xRecv hK hR (ci := 12) rfl k0.1) hR hK hE hS rfl hl.1 rfl (Nat.le_of_ble_eq_true rfl) dX8_willReserve_54 ⟨Nat.zero_le _, Nat.zero_le _⟩ (fun H locs hR hS => ?_)
        refine lv_istore_n (pc := 57) (lv' := [(3, .int _), (0, .ref _), (1, .int _), (2, .int _)]) hx hb dX8_willReserve_57 rfl hl (Nat.le_of_ble_eq_true rfl) rfl (fun ls hl => ?_)
        refine lv_iconst (pc := 58) hx hb dX8_willReserve_58 kc_0 ?_
        refine lv_istore (pc := 59) (lv' := [(4, .int _), (3, .int _), (0, .ref _), (1, .int _), (2, .int _)]) hx hb dX8_willReserve_59 hl (Nat.le_of_ble_eq_true rfl) rfl (fun ls hl => ?_)
        exact wX8_willReserve_61 hF h0 p1 p2 k0 hx hb hr hml hlocks hts hown hK hE _ _ _ _ _ _ _ h hR hS (lv_sub hl [2, 3, 4, 1, 0] rfl)
      · have h := xneg c15 h
        refine lv_iconst (pc := 48) hx hb dX8_willReserve_48 kc_0 ?_
        exact xf_i (pc := 49) hx hb hr rfl hlocks h hR hK hS dX8_willReserve_49
  · have h := xpos c2 h
    refine lv_iconst (pc := 9) hx hb dX8_willReserve_9 kc_1 ?_
    refine lv_goto (pc := 10) (tgt := 42) hx hb dX8_willReserve_10 (by decide) ?_
    obtain ⟨r17, m17, c17, h⟩ := xb_inv h
    refine xc_iV (pc := 42) (As := [.int _]) (rest := []) ⟨hx, hb, hml, hown, hts⟩ (mX8_fails hF _ _ k0 c17) (xcwV 1 hts fdX8_fails q_m_X8_67 ⟨Nat.le_of_ble_eq_true rfl, Nat.le_of_ble_eq_true rfl⟩) (xRecv hK hR (ci := 12) rfl k0.1) hR hK hE hS rfl hl.1 rfl (Nat.le_of_ble_eq_true rfl) dX8_willReserve_42 ⟨Nat.zero_le _, Nat.zero_le _⟩ (fun H locs hR hS => ?_)
    refine lv_if_eq (pc := 45) (tgt := 50) hx hb dX8_willReserve_45 (by decide) (fun c18 => ?_) (fun c18 => ?_)
    · have h := xpos c18 h
      refine lv_aload_n (pc := 50) hx hb dX8_willReserve_50 rfl (lv_at hl 0 rfl) ?_
      refine lv_iload_n (pc := 51) hx hb dX8_willReserve_51 rfl (lv_at hl 1 rfl) ?_
      refine lv_bipush (pc := 52) hx hb dX8_willReserve_52 kb_7 ?_
      obtain ⟨r19, m19, c19, h⟩ := xb_inv h
      refine xc_iV (pc := 54) (As := [.int _, .int _]) (rest := []) ⟨hx, hb, hml, hown, hts⟩ (mX8_of hF _ _ _ k0 c19) (xcwV 2 hts fdX8_of q_m_X8_63 ⟨Nat.le_of_ble_eq_true rfl, Nat.le_of_ble_eq_true rfl⟩) (xRecv hK hR (ci := 12) rfl k0.1) hR hK hE hS rfl hl.1 rfl (Nat.le_of_ble_eq_true rfl) dX8_willReserve_54 ⟨Nat.zero_le _, Nat.zero_le _⟩ (fun H locs hR hS => ?_)
      refine lv_istore_n (pc := 57) (lv' := [(3, .int _), (0, .ref _), (1, .int _), (2, .int _)]) hx hb dX8_willReserve_57 rfl hl (Nat.le_of_ble_eq_true rfl) rfl (fun ls hl => ?_)
      refine lv_iconst (pc := 58) hx hb dX8_willReserve_58 kc_0 ?_
      refine lv_istore (pc := 59) (lv' := [(4, .int _), (3, .int _), (0, .ref _), (1, .int _), (2, .int _)]) hx hb dX8_willReserve_59 hl (Nat.le_of_ble_eq_true rfl) rfl (fun ls hl => ?_)
      exact wX8_willReserve_61 hF h0 p1 p2 k0 hx hb hr hml hlocks hts hown hK hE _ _ _ _ _ _ _ h hR hS (lv_sub hl [2, 3, 4, 1, 0] rfl)
    · have h := xneg c18 h
      refine lv_iconst (pc := 48) hx hb dX8_willReserve_48 kc_0 ?_
      exact xf_i (pc := 49) hx hb hr rfl hlocks h hR hK hS dX8_willReserve_49
set_option maxHeartbeats 1000000 in
set_option maxRecDepth 20000 in
theorem wX8_owedBy_4 {p : Program} {l : Launch} {e : Env} {s : State} {m : MethodId} {args : Array Value} {below : List Frame} {meth : Method} {c : Code} {D : va_G} {ca : Nat → ClassId} {z : Nat} {G : xG} {X : va_W} {ad av : Nat → Nat} (hF : xFix z G X) (h0 : Nat) (p1 : Int32) (k0 : xI_Model G h0) (hx : p.tables.exec = Jvm.exec) (hb : c.code = cX8_owedBy) (hr : meth.sig.returnType = (some .int)) (hml : c.maxLocals = 4) (hlocks : meth.locks = false) (hts : ∀ w ∈ xAll, w.before args s = true) (hown : s.vm.findClass RX8 = some m.cls) (hK : va_K D vwCl (xT ca) s) (hE : xEv z ad av s s.heap) {μ1 : xM} {r : Int32} :
    ∀ (n : Nat) (x2 : Int32) (x3 : Int32) (μ : xM) (H : Heap) (locs : List Loc) (ls : Array Slot), lX8_owedBy_4 h0 p1 n x2 x3 μ = some (r, μ1) → xRep D ca G X μ H → va_S (fun q => z ≤ q) s.heap H locs → lv_has ls 4 [(0, .ref h0), (1, .int p1), (2, .int x2), (3, .int x3)] → W p l e (xRm 2 0 0) s m args below meth c H locs 0 0 (MQ below (va_Qi (fun (r' : Int32) (_ : Unit) => r' = r) (fun _ t => xB D ca G X μ1 t) (fun q => z ≤ q)) args s 0 0 (fun q => z ≤ q)) (F0 m 4 ls []) := by
  intro n
  induction n with
  | zero => intro x2 x3 μ H locs ls h; cases h
  | succ n ih =>
    intro x2 x3 μ H locs ls h hR hS hl
    rw [lX8_owedBy_4] at h
    refine lv_iload_n (pc := 4) hx hb dX8_owedBy_4 rfl (lv_at hl 3 rfl) ?_
    refine lv_aload_n (pc := 5) hx hb dX8_owedBy_5 rfl (lv_at hl 0 rfl) ?_
    refine xr_getR (pc := 6) (ci := 12) hx hb hts inX8 hown hK hR rfl k0.1 0 (Nat.le_of_ble_eq_true rfl) rfl k0.2.1.1 (hts _ q_f_X8_7) (fun _ h9 => h9) dX8_owedBy_6 ?_
    refine lv_iconst (pc := 9) hx hb dX8_owedBy_9 kc_1 ?_
    refine xr_ialdk (pc := 10) 1 hx hb hK hR k0.2.1.2.1 k0.2.1.2.2 tn_1 (vl_1 (by decide)) dX8_owedBy_10 ?_
    refine lv_icmp_ge (pc := 11) (tgt := 51) hx hb dX8_owedBy_11 (by decide) (fun c1 => ?_) (fun c1 => ?_)
    · have h := xpos c1 h
      refine lv_iload_n (pc := 51) hx hb dX8_owedBy_51 rfl (lv_at hl 2 rfl) ?_
      exact xf_i (pc := 52) hx hb hr rfl hlocks h hR hK hS dX8_owedBy_52
    · have h := xneg c1 h
      refine lv_iload_n (pc := 14) hx hb dX8_owedBy_14 rfl (lv_at hl 2 rfl) ?_
      refine lv_aload_n (pc := 15) hx hb dX8_owedBy_15 rfl (lv_at hl 0 rfl) ?_
      refine lv_iload_n (pc := 16) hx hb dX8_owedBy_16 rfl (lv_at hl 3 rfl) ?_
      refine lv_iconst (pc := 17) hx hb dX8_owedBy_17 kc_0 ?_
      obtain ⟨r2, m2, c2, h⟩ := xb_inv h
      refine xc_iV (pc := 18) (As := [.int _, .int _]) (rest := [.int _]) ⟨hx, hb, hml, hown, hts⟩ (mX8_of hF _ _ _ k0 c2) (xcwV 2 hts fdX8_of q_m_X8_63 ⟨Nat.le_of_ble_eq_true rfl, Nat.le_of_ble_eq_true rfl⟩) (xRecv hK hR (ci := 12) rfl k0.1) hR hK hE hS rfl hl.1 rfl (Nat.le_of_ble_eq_true rfl) dX8_owedBy_18 ⟨Nat.zero_le _, Nat.zero_le _⟩ (fun H locs hR hS => ?_)
      refine lv_iload_n (pc := 21) hx hb dX8_owedBy_21 rfl (lv_at hl 1 rfl) ?_
      refine lv_icmp_ne (pc := 22) (tgt := 42) hx hb dX8_owedBy_22 (by decide) (fun c3 => ?_) (fun c3 => ?_)
      · have h := xneg c3 h
        refine lv_iconst (pc := 42) hx hb dX8_owedBy_42 kc_0 ?_
        refine lv_iadd (pc := 43) hx hb dX8_owedBy_43 ?_
        refine lv_istore_n (pc := 44) (lv' := [(2, .int _), (0, .ref _), (1, .int _), (3, .int _)]) hx hb dX8_owedBy_44 rfl hl (Nat.le_of_ble_eq_true rfl) rfl (fun ls hl => ?_)
        refine lv_iinc (pc := 45) (lv' := [(3, .int _), (2, .int _), (0, .ref _), (1, .int _)]) hx hb dX8_owedBy_45 hl (k := 3) rfl (xinc kc_1) (Nat.le_of_ble_eq_true rfl) rfl (fun ls hl => ?_)
        refine lv_goto (pc := 48) (tgt := 4) hx hb dX8_owedBy_48 (by decide) ?_
        exact ih _ _ _ _ _ _ h hR hS (lv_sub hl [2, 3, 1, 0] rfl)
      · have h := xpos c3 h
        refine lv_aload_n (pc := 25) hx hb dX8_owedBy_25 rfl (lv_at hl 0 rfl) ?_
        refine lv_iload_n (pc := 26) hx hb dX8_owedBy_26 rfl (lv_at hl 3 rfl) ?_
        refine lv_iconst (pc := 27) hx hb dX8_owedBy_27 kc_4 ?_
        obtain ⟨r4, m4, c4, h⟩ := xb_inv h
        refine xc_iV (pc := 28) (As := [.int _, .int _]) (rest := [.int _]) ⟨hx, hb, hml, hown, hts⟩ (mX8_of hF _ _ _ k0 c4) (xcwV 2 hts fdX8_of q_m_X8_63 ⟨Nat.le_of_ble_eq_true rfl, Nat.le_of_ble_eq_true rfl⟩) (xRecv hK hR (ci := 12) rfl k0.1) hR hK hE hS rfl hl.1 rfl (Nat.le_of_ble_eq_true rfl) dX8_owedBy_28 ⟨Nat.zero_le _, Nat.zero_le _⟩ (fun H locs hR hS => ?_)
        refine lv_if_ne (pc := 31) (tgt := 42) hx hb dX8_owedBy_31 (by decide) (fun c5 => ?_) (fun c5 => ?_)
        · have h := xneg c5 h
          refine lv_iconst (pc := 42) hx hb dX8_owedBy_42 kc_0 ?_
          refine lv_iadd (pc := 43) hx hb dX8_owedBy_43 ?_
          refine lv_istore_n (pc := 44) (lv' := [(2, .int _), (0, .ref _), (1, .int _), (3, .int _)]) hx hb dX8_owedBy_44 rfl hl (Nat.le_of_ble_eq_true rfl) rfl (fun ls hl => ?_)
          refine lv_iinc (pc := 45) (lv' := [(3, .int _), (2, .int _), (0, .ref _), (1, .int _)]) hx hb dX8_owedBy_45 hl (k := 3) rfl (xinc kc_1) (Nat.le_of_ble_eq_true rfl) rfl (fun ls hl => ?_)
          refine lv_goto (pc := 48) (tgt := 4) hx hb dX8_owedBy_48 (by decide) ?_
          exact ih _ _ _ _ _ _ h hR hS (lv_sub hl [2, 3, 1, 0] rfl)
        · have h := xpos c5 h
          refine lv_aload_n (pc := 34) hx hb dX8_owedBy_34 rfl (lv_at hl 0 rfl) ?_
          refine lv_iload_n (pc := 35) hx hb dX8_owedBy_35 rfl (lv_at hl 3 rfl) ?_
          obtain ⟨r6, m6, c6, h⟩ := xb_inv h
          refine xc_iV (pc := 36) (As := [.int _]) (rest := [.int _]) ⟨hx, hb, hml, hown, hts⟩ (mX8_owed hF _ _ k0 c6) (xcwV 1 hts fdX8_owed q_m_X8_87 ⟨Nat.le_of_ble_eq_true rfl, Nat.le_of_ble_eq_true rfl⟩) (xRecv hK hR (ci := 12) rfl k0.1) hR hK hE hS rfl hl.1 rfl (Nat.le_of_ble_eq_true rfl) dX8_owedBy_36 ⟨Nat.zero_le _, Nat.zero_le _⟩ (fun H locs hR hS => ?_)
          refine lv_goto (pc := 39) (tgt := 43) hx hb dX8_owedBy_39 (by decide) ?_
          refine lv_iadd (pc := 43) hx hb dX8_owedBy_43 ?_
          refine lv_istore_n (pc := 44) (lv' := [(2, .int _), (0, .ref _), (1, .int _), (3, .int _)]) hx hb dX8_owedBy_44 rfl hl (Nat.le_of_ble_eq_true rfl) rfl (fun ls hl => ?_)
          refine lv_iinc (pc := 45) (lv' := [(3, .int _), (2, .int _), (0, .ref _), (1, .int _)]) hx hb dX8_owedBy_45 hl (k := 3) rfl (xinc kc_1) (Nat.le_of_ble_eq_true rfl) rfl (fun ls hl => ?_)
          refine lv_goto (pc := 48) (tgt := 4) hx hb dX8_owedBy_48 (by decide) ?_
          exact ih _ _ _ _ _ _ h hR hS (lv_sub hl [2, 3, 1, 0] rfl)
set_option maxHeartbeats 1000000 in
set_option maxRecDepth 20000 in
theorem mX8_owedBy {l : Launch} {D : va_G} {ca : Nat → ClassId} {z : Nat} {G : xG} {X : va_W} {ad av : Nat → Nat} (hF : xFix z G X) (h0 : Nat) (p1 : Int32) (k0 : xI_Model G h0) {μ μ1 : xM} {r : Int32} (h : fX8_owedBy h0 p1 μ = some (r, μ1)) : xMi l yX8_owedBy (xws yX8_owedBy cX8_owedBy 4 (some .int)) 2 D ca z G X ad av [.ref h0, .int p1] μ r μ1 := by
  refine xm_i (by decide) rfl (Nat.le_of_ble_eq_true rfl) [(0, .ref h0), (1, .int p1)] rfl ?_
  intro p e s m args below meth c ls hx hb hr hml hlocks hts hown hK hE hR hS hl
  have hts : ∀ w ∈ xAll, w.before args s = true := fun w hw => hts w (List.mem_cons_of_mem _ hw)
  rw [fX8_owedBy] at h
  refine lv_iconst (pc := 0) hx hb dX8_owedBy_0 kc_0 ?_
  refine lv_istore_n (pc := 1) (lv' := [(2, .int _), (0, .ref _), (1, .int _)]) hx hb dX8_owedBy_1 rfl hl (Nat.le_of_ble_eq_true rfl) rfl (fun ls hl => ?_)
  refine lv_iconst (pc := 2) hx hb dX8_owedBy_2 kc_0 ?_
  refine lv_istore_n (pc := 3) (lv' := [(3, .int _), (2, .int _), (0, .ref _), (1, .int _)]) hx hb dX8_owedBy_3 rfl hl (Nat.le_of_ble_eq_true rfl) rfl (fun ls hl => ?_)
  exact wX8_owedBy_4 hF h0 p1 k0 hx hb hr hml hlocks hts hown hK hE _ _ _ _ _ _ _ h hR hS (lv_sub hl [2, 3, 1, 0] rfl)
set_option maxHeartbeats 1000000 in
set_option maxRecDepth 20000 in
theorem mX8_ownerOf {l : Launch} {D : va_G} {ca : Nat → ClassId} {z : Nat} {G : xG} {X : va_W} {ad av : Nat → Nat} (hF : xFix z G X) (h0 : Nat) (p1 : Int32) (p2 : Int32) (k0 : xI_Model G h0) {μ μ1 : xM} {r : Int32} (h : fX8_ownerOf h0 p1 p2 μ = some (r, μ1)) : xMi l yX8_ownerOf (xws yX8_ownerOf cX8_ownerOf 3 (some .int)) 3 D ca z G X ad av [.ref h0, .int p1, .int p2] μ r μ1 := by
  refine xm_i (by decide) rfl (Nat.le_of_ble_eq_true rfl) [(0, .ref h0), (1, .int p1), (2, .int p2)] rfl ?_
  intro p e s m args below meth c ls hx hb hr hml hlocks hts hown hK hE hR hS hl
  have hts : ∀ w ∈ xAll, w.before args s = true := fun w hw => hts w (List.mem_cons_of_mem _ hw)
  rw [fX8_ownerOf] at h
  refine lv_aload_n (pc := 0) hx hb dX8_ownerOf_0 rfl (lv_at hl 0 rfl) ?_
  refine lv_iload_n (pc := 1) hx hb dX8_ownerOf_1 rfl (lv_at hl 1 rfl) ?_
  refine lv_iconst (pc := 2) hx hb dX8_ownerOf_2 kc_0 ?_
  refine lv_iconst (pc := 3) hx hb dX8_ownerOf_3 kc_5 ?_
  obtain ⟨r1, m1, c1, h⟩ := xb_inv h
  refine xc_iS (pc := 4) (As := [.int _, .int _, .int _]) (rest := [.ref _]) ⟨hx, hb, hml, hown, hts⟩ (mX8_in hF _ _ _  c1) (xcwS 3 hts fdX8_in q_m_X8_59 ⟨Nat.le_of_ble_eq_true rfl, Nat.le_of_ble_eq_true rfl⟩) hR hK hE hS rfl hl.1 rfl (Nat.le_of_ble_eq_true rfl) dX8_ownerOf_4 ⟨Nat.zero_le _, Nat.zero_le _⟩ (fun H locs hR hS => ?_)
  refine lv_if_ne (pc := 7) (tgt := 14) hx hb dX8_ownerOf_7 (by decide) (fun c2 => ?_) (fun c2 => ?_)
  · have h := xneg c2 h
    refine lv_iload_n (pc := 14) hx hb dX8_ownerOf_14 rfl (lv_at hl 2 rfl) ?_
    refine lv_iconst (pc := 15) hx hb dX8_ownerOf_15 kc_0 ?_
    refine lv_bipush (pc := 16) hx hb dX8_ownerOf_16 kb_6 ?_
    obtain ⟨r3, m3, c3, h⟩ := xb_inv h
    refine xc_iS (pc := 18) (As := [.int _, .int _, .int _]) (rest := [.ref _]) ⟨hx, hb, hml, hown, hts⟩ (mX8_in hF _ _ _  c3) (xcwS 3 hts fdX8_in q_m_X8_59 ⟨Nat.le_of_ble_eq_true rfl, Nat.le_of_ble_eq_true rfl⟩) hR hK hE hS rfl hl.1 rfl (Nat.le_of_ble_eq_true rfl) dX8_ownerOf_18 ⟨Nat.zero_le _, Nat.zero_le _⟩ (fun H locs hR hS => ?_)
    refine lv_if_eq (pc := 21) (tgt := 28) hx hb dX8_ownerOf_21 (by decide) (fun c4 => ?_) (fun c4 => ?_)
    · have h := xpos c4 h
      refine lv_iconst (pc := 28) hx hb dX8_ownerOf_28 kc_2 ?_
      obtain ⟨r5, m5, c5, h⟩ := xb_inv h
      refine xc_iV (pc := 29) (As := [.int _]) (rest := []) ⟨hx, hb, hml, hown, hts⟩ (mX8_fails hF _ _ k0 c5) (xcwV 1 hts fdX8_fails q_m_X8_67 ⟨Nat.le_of_ble_eq_true rfl, Nat.le_of_ble_eq_true rfl⟩) (xRecv hK hR (ci := 12) rfl k0.1) hR hK hE hS rfl hl.1 rfl (Nat.le_of_ble_eq_true rfl) dX8_ownerOf_29 ⟨Nat.zero_le _, Nat.zero_le _⟩ (fun H locs hR hS => ?_)
      refine lv_if_eq (pc := 32) (tgt := 37) hx hb dX8_ownerOf_32 (by decide) (fun c6 => ?_) (fun c6 => ?_)
      · have h := xpos c6 h
        refine lv_iload_n (pc := 37) hx hb dX8_ownerOf_37 rfl (lv_at hl 2 rfl) ?_
        by_cases c7 : p2 = (0 : Int32)
        · have h := xpos c7 h
          refine lv_tableIn (pc := 38) (tgt := 76) hx hb dX8_ownerOf_38 (by rw [c7]; decide) (by rw [c7]; decide) (by rw [c7]; rfl) (by decide) ?_
          refine lv_aload_n (pc := 76) hx hb dX8_ownerOf_76 rfl (lv_at hl 0 rfl) ?_
          refine lv_iload_n (pc := 77) hx hb dX8_ownerOf_77 rfl (lv_at hl 1 rfl) ?_
          refine lv_iconst (pc := 78) hx hb dX8_ownerOf_78 kc_0 ?_
          obtain ⟨r8, m8, c8, h⟩ := xb_inv h
          refine xc_iV (pc := 79) (As := [.int _, .int _]) (rest := []) ⟨hx, hb, hml, hown, hts⟩ (mX8_ofOwner hF _ _ _ k0 c8) (xcwV 2 hts fdX8_ofOwner q_m_X8_101 ⟨Nat.le_of_ble_eq_true rfl, Nat.le_of_ble_eq_true rfl⟩) (xRecv hK hR (ci := 12) rfl k0.1) hR hK hE hS rfl hl.1 rfl (Nat.le_of_ble_eq_true rfl) dX8_ownerOf_79 ⟨Nat.zero_le _, Nat.zero_le _⟩ (fun H locs hR hS => ?_)
          exact xf_i (pc := 82) hx hb hr rfl hlocks h hR hK hS dX8_ownerOf_82
        have h := xneg c7 h
        by_cases c9 : p2 = (1 : Int32)
        · have h := xpos c9 h
          refine lv_tableIn (pc := 38) (tgt := 83) hx hb dX8_ownerOf_38 (by rw [c9]; decide) (by rw [c9]; decide) (by rw [c9]; rfl) (by decide) ?_
          refine lv_aload_n (pc := 83) hx hb dX8_ownerOf_83 rfl (lv_at hl 0 rfl) ?_
          refine lv_iload_n (pc := 84) hx hb dX8_ownerOf_84 rfl (lv_at hl 1 rfl) ?_
          obtain ⟨r10, m10, c10, h⟩ := xb_inv h
          refine xc_iV (pc := 85) (As := [.int _]) (rest := []) ⟨hx, hb, hml, hown, hts⟩ (mX8_owedBy hF _ _ k0 c10) (xcwV 1 hts fdX8_owedBy q_m_X8_114 ⟨Nat.le_of_ble_eq_true rfl, Nat.le_of_ble_eq_true rfl⟩) (xRecv hK hR (ci := 12) rfl k0.1) hR hK hE hS rfl hl.1 rfl (Nat.le_of_ble_eq_true rfl) dX8_ownerOf_85 ⟨Nat.zero_le _, Nat.zero_le _⟩ (fun H locs hR hS => ?_)
          exact xf_i (pc := 88) hx hb hr rfl hlocks h hR hK hS dX8_ownerOf_88
        have h := xneg c9 h
        by_cases c11 : p2 = (2 : Int32)
        · have h := xpos c11 h
          refine lv_tableIn (pc := 38) (tgt := 89) hx hb dX8_ownerOf_38 (by rw [c11]; decide) (by rw [c11]; decide) (by rw [c11]; rfl) (by decide) ?_
          refine lv_aload_n (pc := 89) hx hb dX8_ownerOf_89 rfl (lv_at hl 0 rfl) ?_
          refine lv_iload_n (pc := 90) hx hb dX8_ownerOf_90 rfl (lv_at hl 1 rfl) ?_
          refine lv_iconst (pc := 91) hx hb dX8_ownerOf_91 kc_1 ?_
          obtain ⟨r12, m12, c12, h⟩ := xb_inv h
          refine xc_iV (pc := 92) (As := [.int _, .int _]) (rest := []) ⟨hx, hb, hml, hown, hts⟩ (mX8_ofOwner hF _ _ _ k0 c12) (xcwV 2 hts fdX8_ofOwner q_m_X8_101 ⟨Nat.le_of_ble_eq_true rfl, Nat.le_of_ble_eq_true rfl⟩) (xRecv hK hR (ci := 12) rfl k0.1) hR hK hE hS rfl hl.1 rfl (Nat.le_of_ble_eq_true rfl) dX8_ownerOf_92 ⟨Nat.zero_le _, Nat.zero_le _⟩ (fun H locs hR hS => ?_)
          exact xf_i (pc := 95) hx hb hr rfl hlocks h hR hK hS dX8_ownerOf_95
        have h := xneg c11 h
        by_cases c13 : p2 = (3 : Int32)
        · have h := xpos c13 h
          refine lv_tableIn (pc := 38) (tgt := 96) hx hb dX8_ownerOf_38 (by rw [c13]; decide) (by rw [c13]; decide) (by rw [c13]; rfl) (by decide) ?_
          refine lv_aload_n (pc := 96) hx hb dX8_ownerOf_96 rfl (lv_at hl 0 rfl) ?_
          refine lv_iload_n (pc := 97) hx hb dX8_ownerOf_97 rfl (lv_at hl 1 rfl) ?_
          refine lv_iconst (pc := 98) hx hb dX8_ownerOf_98 kc_2 ?_
          obtain ⟨r14, m14, c14, h⟩ := xb_inv h
          refine xc_iV (pc := 99) (As := [.int _, .int _]) (rest := []) ⟨hx, hb, hml, hown, hts⟩ (mX8_ofOwner hF _ _ _ k0 c14) (xcwV 2 hts fdX8_ofOwner q_m_X8_101 ⟨Nat.le_of_ble_eq_true rfl, Nat.le_of_ble_eq_true rfl⟩) (xRecv hK hR (ci := 12) rfl k0.1) hR hK hE hS rfl hl.1 rfl (Nat.le_of_ble_eq_true rfl) dX8_ownerOf_99 ⟨Nat.zero_le _, Nat.zero_le _⟩ (fun H locs hR hS => ?_)
          exact xf_i (pc := 102) hx hb hr rfl hlocks h hR hK hS dX8_ownerOf_102
        have h := xneg c13 h
        by_cases c15 : p2 = (4 : Int32)
        · have h := xpos c15 h
          refine lv_tableIn (pc := 38) (tgt := 103) hx hb dX8_ownerOf_38 (by rw [c15]; decide) (by rw [c15]; decide) (by rw [c15]; rfl) (by decide) ?_
          refine lv_aload_n (pc := 103) hx hb dX8_ownerOf_103 rfl (lv_at hl 0 rfl) ?_
          refine lv_iload_n (pc := 104) hx hb dX8_ownerOf_104 rfl (lv_at hl 1 rfl) ?_
          refine lv_iconst (pc := 105) hx hb dX8_ownerOf_105 kc_3 ?_
          obtain ⟨r16, m16, c16, h⟩ := xb_inv h
          refine xc_iV (pc := 106) (As := [.int _, .int _]) (rest := []) ⟨hx, hb, hml, hown, hts⟩ (mX8_ofOwner hF _ _ _ k0 c16) (xcwV 2 hts fdX8_ofOwner q_m_X8_101 ⟨Nat.le_of_ble_eq_true rfl, Nat.le_of_ble_eq_true rfl⟩) (xRecv hK hR (ci := 12) rfl k0.1) hR hK hE hS rfl hl.1 rfl (Nat.le_of_ble_eq_true rfl) dX8_ownerOf_106 ⟨Nat.zero_le _, Nat.zero_le _⟩ (fun H locs hR hS => ?_)
          exact xf_i (pc := 109) hx hb hr rfl hlocks h hR hK hS dX8_ownerOf_109
        have h := xneg c15 h
        by_cases c17 : p2 = (5 : Int32)
        · have h := xpos c17 h
          refine lv_tableIn (pc := 38) (tgt := 110) hx hb dX8_ownerOf_38 (by rw [c17]; decide) (by rw [c17]; decide) (by rw [c17]; rfl) (by decide) ?_
          refine lv_aload_n (pc := 110) hx hb dX8_ownerOf_110 rfl (lv_at hl 0 rfl) ?_
          refine xr_getR (pc := 111) (ci := 12) hx hb hts inX8 hown hK hR rfl k0.1 0 (Nat.le_of_ble_eq_true rfl) rfl k0.2.1.1 (hts _ q_f_X8_7) (fun _ h9 => h9) dX8_ownerOf_111 ?_
          refine lv_sipush (pc := 114) hx hb dX8_ownerOf_114 ks_187 ?_
          refine lv_iload_n (pc := 117) hx hb dX8_ownerOf_117 rfl (lv_at hl 1 rfl) ?_
          refine lv_iadd (pc := 118) hx hb dX8_ownerOf_118 ?_
          obtain ⟨c18, h⟩ := xk_inv h
          refine xr_ialdk (pc := 119) (Int32.toNatClampNeg (((187 : Int32) + p1))) hx hb hK hR k0.2.1.2.1 k0.2.1.2.2 rfl c18 dX8_ownerOf_119 ?_
          exact xf_i (pc := 120) hx hb hr rfl hlocks h hR hK hS dX8_ownerOf_120
        have h := xneg c17 h
        refine lv_tableOut (pc := 38) (tgt := 121) hx hb dX8_ownerOf_38 (by have z7 := xnek ti_0 c7; have z9 := xnek ti_1 c9; have z11 := xnek ti_2 c11; have z13 := xnek ti_3 c13; have z15 := xnek ti_4 c15; have z17 := xnek ti_5 c17; omega) (by decide) ?_
        refine lv_aload_n (pc := 121) hx hb dX8_ownerOf_121 rfl (lv_at hl 0 rfl) ?_
        refine xr_getR (pc := 122) (ci := 12) hx hb hts inX8 hown hK hR rfl k0.1 0 (Nat.le_of_ble_eq_true rfl) rfl k0.2.1.1 (hts _ q_f_X8_7) (fun _ h9 => h9) dX8_ownerOf_122 ?_
        refine lv_sipush (pc := 125) hx hb dX8_ownerOf_125 ks_193 ?_
        refine lv_iload_n (pc := 128) hx hb dX8_ownerOf_128 rfl (lv_at hl 1 rfl) ?_
        refine lv_iadd (pc := 129) hx hb dX8_ownerOf_129 ?_
        obtain ⟨c19, h⟩ := xk_inv h
        refine xr_ialdk (pc := 130) (Int32.toNatClampNeg (((193 : Int32) + p1))) hx hb hK hR k0.2.1.2.1 k0.2.1.2.2 rfl c19 dX8_ownerOf_130 ?_
        exact xf_i (pc := 131) hx hb hr rfl hlocks h hR hK hS dX8_ownerOf_131
      · have h := xneg c6 h
        refine lv_iconst (pc := 35) hx hb dX8_ownerOf_35 kc_0 ?_
        exact xf_i (pc := 36) hx hb hr rfl hlocks h hR hK hS dX8_ownerOf_36
    · have h := xneg c4 h
      refine lv_iconst (pc := 24) hx hb dX8_ownerOf_24 kc_0 ?_
      refine lv_goto (pc := 25) (tgt := 29) hx hb dX8_ownerOf_25 (by decide) ?_
      obtain ⟨r20, m20, c20, h⟩ := xb_inv h
      refine xc_iV (pc := 29) (As := [.int _]) (rest := []) ⟨hx, hb, hml, hown, hts⟩ (mX8_fails hF _ _ k0 c20) (xcwV 1 hts fdX8_fails q_m_X8_67 ⟨Nat.le_of_ble_eq_true rfl, Nat.le_of_ble_eq_true rfl⟩) (xRecv hK hR (ci := 12) rfl k0.1) hR hK hE hS rfl hl.1 rfl (Nat.le_of_ble_eq_true rfl) dX8_ownerOf_29 ⟨Nat.zero_le _, Nat.zero_le _⟩ (fun H locs hR hS => ?_)
      refine lv_if_eq (pc := 32) (tgt := 37) hx hb dX8_ownerOf_32 (by decide) (fun c21 => ?_) (fun c21 => ?_)
      · have h := xpos c21 h
        refine lv_iload_n (pc := 37) hx hb dX8_ownerOf_37 rfl (lv_at hl 2 rfl) ?_
        by_cases c22 : p2 = (0 : Int32)
        · have h := xpos c22 h
          refine lv_tableIn (pc := 38) (tgt := 76) hx hb dX8_ownerOf_38 (by rw [c22]; decide) (by rw [c22]; decide) (by rw [c22]; rfl) (by decide) ?_
          refine lv_aload_n (pc := 76) hx hb dX8_ownerOf_76 rfl (lv_at hl 0 rfl) ?_
          refine lv_iload_n (pc := 77) hx hb dX8_ownerOf_77 rfl (lv_at hl 1 rfl) ?_
          refine lv_iconst (pc := 78) hx hb dX8_ownerOf_78 kc_0 ?_
          obtain ⟨r23, m23, c23, h⟩ := xb_inv h
          refine xc_iV (pc := 79) (As := [.int _, .int _]) (rest := []) ⟨hx, hb, hml, hown, hts⟩ (mX8_ofOwner hF _ _ _ k0 c23) (xcwV 2 hts fdX8_ofOwner q_m_X8_101 ⟨Nat.le_of_ble_eq_true rfl, Nat.le_of_ble_eq_true rfl⟩) (xRecv hK hR (ci := 12) rfl k0.1) hR hK hE hS rfl hl.1 rfl (Nat.le_of_ble_eq_true rfl) dX8_ownerOf_79 ⟨Nat.zero_le _, Nat.zero_le _⟩ (fun H locs hR hS => ?_)
          exact xf_i (pc := 82) hx hb hr rfl hlocks h hR hK hS dX8_ownerOf_82
        have h := xneg c22 h
        by_cases c24 : p2 = (1 : Int32)
        · have h := xpos c24 h
          refine lv_tableIn (pc := 38) (tgt := 83) hx hb dX8_ownerOf_38 (by rw [c24]; decide) (by rw [c24]; decide) (by rw [c24]; rfl) (by decide) ?_
          refine lv_aload_n (pc := 83) hx hb dX8_ownerOf_83 rfl (lv_at hl 0 rfl) ?_
          refine lv_iload_n (pc := 84) hx hb dX8_ownerOf_84 rfl (lv_at hl 1 rfl) ?_
          obtain ⟨r25, m25, c25, h⟩ := xb_inv h
          refine xc_iV (pc := 85) (As := [.int _]) (rest := []) ⟨hx, hb, hml, hown, hts⟩ (mX8_owedBy hF _ _ k0 c25) (xcwV 1 hts fdX8_owedBy q_m_X8_114 ⟨Nat.le_of_ble_eq_true rfl, Nat.le_of_ble_eq_true rfl⟩) (xRecv hK hR (ci := 12) rfl k0.1) hR hK hE hS rfl hl.1 rfl (Nat.le_of_ble_eq_true rfl) dX8_ownerOf_85 ⟨Nat.zero_le _, Nat.zero_le _⟩ (fun H locs hR hS => ?_)
          exact xf_i (pc := 88) hx hb hr rfl hlocks h hR hK hS dX8_ownerOf_88
        have h := xneg c24 h
        by_cases c26 : p2 = (2 : Int32)
        · have h := xpos c26 h
          refine lv_tableIn (pc := 38) (tgt := 89) hx hb dX8_ownerOf_38 (by rw [c26]; decide) (by rw [c26]; decide) (by rw [c26]; rfl) (by decide) ?_
          refine lv_aload_n (pc := 89) hx hb dX8_ownerOf_89 rfl (lv_at hl 0 rfl) ?_
          refine lv_iload_n (pc := 90) hx hb dX8_ownerOf_90 rfl (lv_at hl 1 rfl) ?_
          refine lv_iconst (pc := 91) hx hb dX8_ownerOf_91 kc_1 ?_
          obtain ⟨r27, m27, c27, h⟩ := xb_inv h
          refine xc_iV (pc := 92) (As := [.int _, .int _]) (rest := []) ⟨hx, hb, hml, hown, hts⟩ (mX8_ofOwner hF _ _ _ k0 c27) (xcwV 2 hts fdX8_ofOwner q_m_X8_101 ⟨Nat.le_of_ble_eq_true rfl, Nat.le_of_ble_eq_true rfl⟩) (xRecv hK hR (ci := 12) rfl k0.1) hR hK hE hS rfl hl.1 rfl (Nat.le_of_ble_eq_true rfl) dX8_ownerOf_92 ⟨Nat.zero_le _, Nat.zero_le _⟩ (fun H locs hR hS => ?_)
          exact xf_i (pc := 95) hx hb hr rfl hlocks h hR hK hS dX8_ownerOf_95
        have h := xneg c26 h
        by_cases c28 : p2 = (3 : Int32)
        · have h := xpos c28 h
          refine lv_tableIn (pc := 38) (tgt := 96) hx hb dX8_ownerOf_38 (by rw [c28]; decide) (by rw [c28]; decide) (by rw [c28]; rfl) (by decide) ?_
          refine lv_aload_n (pc := 96) hx hb dX8_ownerOf_96 rfl (lv_at hl 0 rfl) ?_
          refine lv_iload_n (pc := 97) hx hb dX8_ownerOf_97 rfl (lv_at hl 1 rfl) ?_
          refine lv_iconst (pc := 98) hx hb dX8_ownerOf_98 kc_2 ?_
          obtain ⟨r29, m29, c29, h⟩ := xb_inv h
          refine xc_iV (pc := 99) (As := [.int _, .int _]) (rest := []) ⟨hx, hb, hml, hown, hts⟩ (mX8_ofOwner hF _ _ _ k0 c29) (xcwV 2 hts fdX8_ofOwner q_m_X8_101 ⟨Nat.le_of_ble_eq_true rfl, Nat.le_of_ble_eq_true rfl⟩) (xRecv hK hR (ci := 12) rfl k0.1) hR hK hE hS rfl hl.1 rfl (Nat.le_of_ble_eq_true rfl) dX8_ownerOf_99 ⟨Nat.zero_le _, Nat.zero_le _⟩ (fun H locs hR hS => ?_)
          exact xf_i (pc := 102) hx hb hr rfl hlocks h hR hK hS dX8_ownerOf_102
        have h := xneg c28 h
        by_cases c30 : p2 = (4 : Int32)
        · have h := xpos c30 h
          refine lv_tableIn (pc := 38) (tgt := 103) hx hb dX8_ownerOf_38 (by rw [c30]; decide) (by rw [c30]; decide) (by rw [c30]; rfl) (by decide) ?_
          refine lv_aload_n (pc := 103) hx hb dX8_ownerOf_103 rfl (lv_at hl 0 rfl) ?_
          refine lv_iload_n (pc := 104) hx hb dX8_ownerOf_104 rfl (lv_at hl 1 rfl) ?_
          refine lv_iconst (pc := 105) hx hb dX8_ownerOf_105 kc_3 ?_
          obtain ⟨r31, m31, c31, h⟩ := xb_inv h
          refine xc_iV (pc := 106) (As := [.int _, .int _]) (rest := []) ⟨hx, hb, hml, hown, hts⟩ (mX8_ofOwner hF _ _ _ k0 c31) (xcwV 2 hts fdX8_ofOwner q_m_X8_101 ⟨Nat.le_of_ble_eq_true rfl, Nat.le_of_ble_eq_true rfl⟩) (xRecv hK hR (ci := 12) rfl k0.1) hR hK hE hS rfl hl.1 rfl (Nat.le_of_ble_eq_true rfl) dX8_ownerOf_106 ⟨Nat.zero_le _, Nat.zero_le _⟩ (fun H locs hR hS => ?_)
          exact xf_i (pc := 109) hx hb hr rfl hlocks h hR hK hS dX8_ownerOf_109
        have h := xneg c30 h
        by_cases c32 : p2 = (5 : Int32)
        · have h := xpos c32 h
          refine lv_tableIn (pc := 38) (tgt := 110) hx hb dX8_ownerOf_38 (by rw [c32]; decide) (by rw [c32]; decide) (by rw [c32]; rfl) (by decide) ?_
          refine lv_aload_n (pc := 110) hx hb dX8_ownerOf_110 rfl (lv_at hl 0 rfl) ?_
          refine xr_getR (pc := 111) (ci := 12) hx hb hts inX8 hown hK hR rfl k0.1 0 (Nat.le_of_ble_eq_true rfl) rfl k0.2.1.1 (hts _ q_f_X8_7) (fun _ h9 => h9) dX8_ownerOf_111 ?_
          refine lv_sipush (pc := 114) hx hb dX8_ownerOf_114 ks_187 ?_
          refine lv_iload_n (pc := 117) hx hb dX8_ownerOf_117 rfl (lv_at hl 1 rfl) ?_
          refine lv_iadd (pc := 118) hx hb dX8_ownerOf_118 ?_
          obtain ⟨c33, h⟩ := xk_inv h
          refine xr_ialdk (pc := 119) (Int32.toNatClampNeg (((187 : Int32) + p1))) hx hb hK hR k0.2.1.2.1 k0.2.1.2.2 rfl c33 dX8_ownerOf_119 ?_
          exact xf_i (pc := 120) hx hb hr rfl hlocks h hR hK hS dX8_ownerOf_120
        have h := xneg c32 h
        refine lv_tableOut (pc := 38) (tgt := 121) hx hb dX8_ownerOf_38 (by have z22 := xnek ti_0 c22; have z24 := xnek ti_1 c24; have z26 := xnek ti_2 c26; have z28 := xnek ti_3 c28; have z30 := xnek ti_4 c30; have z32 := xnek ti_5 c32; omega) (by decide) ?_
        refine lv_aload_n (pc := 121) hx hb dX8_ownerOf_121 rfl (lv_at hl 0 rfl) ?_
        refine xr_getR (pc := 122) (ci := 12) hx hb hts inX8 hown hK hR rfl k0.1 0 (Nat.le_of_ble_eq_true rfl) rfl k0.2.1.1 (hts _ q_f_X8_7) (fun _ h9 => h9) dX8_ownerOf_122 ?_
        refine lv_sipush (pc := 125) hx hb dX8_ownerOf_125 ks_193 ?_
        refine lv_iload_n (pc := 128) hx hb dX8_ownerOf_128 rfl (lv_at hl 1 rfl) ?_
        refine lv_iadd (pc := 129) hx hb dX8_ownerOf_129 ?_
        obtain ⟨c34, h⟩ := xk_inv h
        refine xr_ialdk (pc := 130) (Int32.toNatClampNeg (((193 : Int32) + p1))) hx hb hK hR k0.2.1.2.1 k0.2.1.2.2 rfl c34 dX8_ownerOf_130 ?_
        exact xf_i (pc := 131) hx hb hr rfl hlocks h hR hK hS dX8_ownerOf_131
      · have h := xneg c21 h
        refine lv_iconst (pc := 35) hx hb dX8_ownerOf_35 kc_0 ?_
        exact xf_i (pc := 36) hx hb hr rfl hlocks h hR hK hS dX8_ownerOf_36
  · have h := xpos c2 h
    refine lv_iconst (pc := 10) hx hb dX8_ownerOf_10 kc_1 ?_
    refine lv_goto (pc := 11) (tgt := 29) hx hb dX8_ownerOf_11 (by decide) ?_
    obtain ⟨r35, m35, c35, h⟩ := xb_inv h
    refine xc_iV (pc := 29) (As := [.int _]) (rest := []) ⟨hx, hb, hml, hown, hts⟩ (mX8_fails hF _ _ k0 c35) (xcwV 1 hts fdX8_fails q_m_X8_67 ⟨Nat.le_of_ble_eq_true rfl, Nat.le_of_ble_eq_true rfl⟩) (xRecv hK hR (ci := 12) rfl k0.1) hR hK hE hS rfl hl.1 rfl (Nat.le_of_ble_eq_true rfl) dX8_ownerOf_29 ⟨Nat.zero_le _, Nat.zero_le _⟩ (fun H locs hR hS => ?_)
    refine lv_if_eq (pc := 32) (tgt := 37) hx hb dX8_ownerOf_32 (by decide) (fun c36 => ?_) (fun c36 => ?_)
    · have h := xpos c36 h
      refine lv_iload_n (pc := 37) hx hb dX8_ownerOf_37 rfl (lv_at hl 2 rfl) ?_
      by_cases c37 : p2 = (0 : Int32)
      · have h := xpos c37 h
        refine lv_tableIn (pc := 38) (tgt := 76) hx hb dX8_ownerOf_38 (by rw [c37]; decide) (by rw [c37]; decide) (by rw [c37]; rfl) (by decide) ?_
        refine lv_aload_n (pc := 76) hx hb dX8_ownerOf_76 rfl (lv_at hl 0 rfl) ?_
        refine lv_iload_n (pc := 77) hx hb dX8_ownerOf_77 rfl (lv_at hl 1 rfl) ?_
        refine lv_iconst (pc := 78) hx hb dX8_ownerOf_78 kc_0 ?_
        obtain ⟨r38, m38, c38, h⟩ := xb_inv h
        refine xc_iV (pc := 79) (As := [.int _, .int _]) (rest := []) ⟨hx, hb, hml, hown, hts⟩ (mX8_ofOwner hF _ _ _ k0 c38) (xcwV 2 hts fdX8_ofOwner q_m_X8_101 ⟨Nat.le_of_ble_eq_true rfl, Nat.le_of_ble_eq_true rfl⟩) (xRecv hK hR (ci := 12) rfl k0.1) hR hK hE hS rfl hl.1 rfl (Nat.le_of_ble_eq_true rfl) dX8_ownerOf_79 ⟨Nat.zero_le _, Nat.zero_le _⟩ (fun H locs hR hS => ?_)
        exact xf_i (pc := 82) hx hb hr rfl hlocks h hR hK hS dX8_ownerOf_82
      have h := xneg c37 h
      by_cases c39 : p2 = (1 : Int32)
      · have h := xpos c39 h
        refine lv_tableIn (pc := 38) (tgt := 83) hx hb dX8_ownerOf_38 (by rw [c39]; decide) (by rw [c39]; decide) (by rw [c39]; rfl) (by decide) ?_
        refine lv_aload_n (pc := 83) hx hb dX8_ownerOf_83 rfl (lv_at hl 0 rfl) ?_
        refine lv_iload_n (pc := 84) hx hb dX8_ownerOf_84 rfl (lv_at hl 1 rfl) ?_
        obtain ⟨r40, m40, c40, h⟩ := xb_inv h
        refine xc_iV (pc := 85) (As := [.int _]) (rest := []) ⟨hx, hb, hml, hown, hts⟩ (mX8_owedBy hF _ _ k0 c40) (xcwV 1 hts fdX8_owedBy q_m_X8_114 ⟨Nat.le_of_ble_eq_true rfl, Nat.le_of_ble_eq_true rfl⟩) (xRecv hK hR (ci := 12) rfl k0.1) hR hK hE hS rfl hl.1 rfl (Nat.le_of_ble_eq_true rfl) dX8_ownerOf_85 ⟨Nat.zero_le _, Nat.zero_le _⟩ (fun H locs hR hS => ?_)
        exact xf_i (pc := 88) hx hb hr rfl hlocks h hR hK hS dX8_ownerOf_88
      have h := xneg c39 h
      by_cases c41 : p2 = (2 : Int32)
      · have h := xpos c41 h
        refine lv_tableIn (pc := 38) (tgt := 89) hx hb dX8_ownerOf_38 (by rw [c41]; decide) (by rw [c41]; decide) (by rw [c41]; rfl) (by decide) ?_
        refine lv_aload_n (pc := 89) hx hb dX8_ownerOf_89 rfl (lv_at hl 0 rfl) ?_
        refine lv_iload_n (pc := 90) hx hb dX8_ownerOf_90 rfl (lv_at hl 1 rfl) ?_
        refine lv_iconst (pc := 91) hx hb dX8_ownerOf_91 kc_1 ?_
        obtain ⟨r42, m42, c42, h⟩ := xb_inv h
        refine xc_iV (pc := 92) (As := [.int _, .int _]) (rest := []) ⟨hx, hb, hml, hown, hts⟩ (mX8_ofOwner hF _ _ _ k0 c42) (xcwV 2 hts fdX8_ofOwner q_m_X8_101 ⟨Nat.le_of_ble_eq_true rfl, Nat.le_of_ble_eq_true rfl⟩) (xRecv hK hR (ci := 12) rfl k0.1) hR hK hE hS rfl hl.1 rfl (Nat.le_of_ble_eq_true rfl) dX8_ownerOf_92 ⟨Nat.zero_le _, Nat.zero_le _⟩ (fun H locs hR hS => ?_)
        exact xf_i (pc := 95) hx hb hr rfl hlocks h hR hK hS dX8_ownerOf_95
      have h := xneg c41 h
      by_cases c43 : p2 = (3 : Int32)
      · have h := xpos c43 h
        refine lv_tableIn (pc := 38) (tgt := 96) hx hb dX8_ownerOf_38 (by rw [c43]; decide) (by rw [c43]; decide) (by rw [c43]; rfl) (by decide) ?_
        refine lv_aload_n (pc := 96) hx hb dX8_ownerOf_96 rfl (lv_at hl 0 rfl) ?_
        refine lv_iload_n (pc := 97) hx hb dX8_ownerOf_97 rfl (lv_at hl 1 rfl) ?_
        refine lv_iconst (pc := 98) hx hb dX8_ownerOf_98 kc_2 ?_
        obtain ⟨r44, m44, c44, h⟩ := xb_inv h
        refine xc_iV (pc := 99) (As := [.int _, .int _]) (rest := []) ⟨hx, hb, hml, hown, hts⟩ (mX8_ofOwner hF _ _ _ k0 c44) (xcwV 2 hts fdX8_ofOwner q_m_X8_101 ⟨Nat.le_of_ble_eq_true rfl, Nat.le_of_ble_eq_true rfl⟩) (xRecv hK hR (ci := 12) rfl k0.1) hR hK hE hS rfl hl.1 rfl (Nat.le_of_ble_eq_true rfl) dX8_ownerOf_99 ⟨Nat.zero_le _, Nat.zero_le _⟩ (fun H locs hR hS => ?_)
        exact xf_i (pc := 102) hx hb hr rfl hlocks h hR hK hS dX8_ownerOf_102
      have h := xneg c43 h
      by_cases c45 : p2 = (4 : Int32)
      · have h := xpos c45 h
        refine lv_tableIn (pc := 38) (tgt := 103) hx hb dX8_ownerOf_38 (by rw [c45]; decide) (by rw [c45]; decide) (by rw [c45]; rfl) (by decide) ?_
        refine lv_aload_n (pc := 103) hx hb dX8_ownerOf_103 rfl (lv_at hl 0 rfl) ?_
        refine lv_iload_n (pc := 104) hx hb dX8_ownerOf_104 rfl (lv_at hl 1 rfl) ?_
        refine lv_iconst (pc := 105) hx hb dX8_ownerOf_105 kc_3 ?_
        obtain ⟨r46, m46, c46, h⟩ := xb_inv h
        refine xc_iV (pc := 106) (As := [.int _, .int _]) (rest := []) ⟨hx, hb, hml, hown, hts⟩ (mX8_ofOwner hF _ _ _ k0 c46) (xcwV 2 hts fdX8_ofOwner q_m_X8_101 ⟨Nat.le_of_ble_eq_true rfl, Nat.le_of_ble_eq_true rfl⟩) (xRecv hK hR (ci := 12) rfl k0.1) hR hK hE hS rfl hl.1 rfl (Nat.le_of_ble_eq_true rfl) dX8_ownerOf_106 ⟨Nat.zero_le _, Nat.zero_le _⟩ (fun H locs hR hS => ?_)
        exact xf_i (pc := 109) hx hb hr rfl hlocks h hR hK hS dX8_ownerOf_109
      have h := xneg c45 h
      by_cases c47 : p2 = (5 : Int32)
      · have h := xpos c47 h
        refine lv_tableIn (pc := 38) (tgt := 110) hx hb dX8_ownerOf_38 (by rw [c47]; decide) (by rw [c47]; decide) (by rw [c47]; rfl) (by decide) ?_
        refine lv_aload_n (pc := 110) hx hb dX8_ownerOf_110 rfl (lv_at hl 0 rfl) ?_
        refine xr_getR (pc := 111) (ci := 12) hx hb hts inX8 hown hK hR rfl k0.1 0 (Nat.le_of_ble_eq_true rfl) rfl k0.2.1.1 (hts _ q_f_X8_7) (fun _ h9 => h9) dX8_ownerOf_111 ?_
        refine lv_sipush (pc := 114) hx hb dX8_ownerOf_114 ks_187 ?_
        refine lv_iload_n (pc := 117) hx hb dX8_ownerOf_117 rfl (lv_at hl 1 rfl) ?_
        refine lv_iadd (pc := 118) hx hb dX8_ownerOf_118 ?_
        obtain ⟨c48, h⟩ := xk_inv h
        refine xr_ialdk (pc := 119) (Int32.toNatClampNeg (((187 : Int32) + p1))) hx hb hK hR k0.2.1.2.1 k0.2.1.2.2 rfl c48 dX8_ownerOf_119 ?_
        exact xf_i (pc := 120) hx hb hr rfl hlocks h hR hK hS dX8_ownerOf_120
      have h := xneg c47 h
      refine lv_tableOut (pc := 38) (tgt := 121) hx hb dX8_ownerOf_38 (by have z37 := xnek ti_0 c37; have z39 := xnek ti_1 c39; have z41 := xnek ti_2 c41; have z43 := xnek ti_3 c43; have z45 := xnek ti_4 c45; have z47 := xnek ti_5 c47; omega) (by decide) ?_
      refine lv_aload_n (pc := 121) hx hb dX8_ownerOf_121 rfl (lv_at hl 0 rfl) ?_
      refine xr_getR (pc := 122) (ci := 12) hx hb hts inX8 hown hK hR rfl k0.1 0 (Nat.le_of_ble_eq_true rfl) rfl k0.2.1.1 (hts _ q_f_X8_7) (fun _ h9 => h9) dX8_ownerOf_122 ?_
      refine lv_sipush (pc := 125) hx hb dX8_ownerOf_125 ks_193 ?_
      refine lv_iload_n (pc := 128) hx hb dX8_ownerOf_128 rfl (lv_at hl 1 rfl) ?_
      refine lv_iadd (pc := 129) hx hb dX8_ownerOf_129 ?_
      obtain ⟨c49, h⟩ := xk_inv h
      refine xr_ialdk (pc := 130) (Int32.toNatClampNeg (((193 : Int32) + p1))) hx hb hK hR k0.2.1.2.1 k0.2.1.2.2 rfl c49 dX8_ownerOf_130 ?_
      exact xf_i (pc := 131) hx hb hr rfl hlocks h hR hK hS dX8_ownerOf_131
    · have h := xneg c36 h
      refine lv_iconst (pc := 35) hx hb dX8_ownerOf_35 kc_0 ?_
      exact xf_i (pc := 36) hx hb hr rfl hlocks h hR hK hS dX8_ownerOf_36
set_option maxHeartbeats 1000000 in
set_option maxRecDepth 20000 in
theorem mX8_cash {l : Launch} {D : va_G} {ca : Nat → ClassId} {z : Nat} {G : xG} {X : va_W} {ad av : Nat → Nat} (hF : xFix z G X) (h0 : Nat) (p1 : Int32) (k0 : xI_Model G h0) {μ μ1 : xM} {r : Int32} (h : fX8_cash h0 p1 μ = some (r, μ1)) : xMi l yX8_cash (xws yX8_cash cX8_cash 2 (some .int)) 0 D ca z G X ad av [.ref h0, .int p1] μ r μ1 := by
  refine xm_i (by decide) rfl (Nat.le_of_ble_eq_true rfl) [(0, .ref h0), (1, .int p1)] rfl ?_
  intro p e s m args below meth c ls hx hb hr hml hlocks hts hown hK hE hR hS hl
  have hts : ∀ w ∈ xAll, w.before args s = true := fun w hw => hts w (List.mem_cons_of_mem _ hw)
  rw [fX8_cash] at h
  refine lv_aload_n (pc := 0) hx hb dX8_cash_0 rfl (lv_at hl 0 rfl) ?_
  refine lv_iconst (pc := 1) hx hb dX8_cash_1 kc_0 ?_
  refine xr_putI (pc := 2) (ci := 12) (ty := .int) hx hb hts inX8 tyX8 tyX8_ok nmX8 hown hK hR hF hS rfl k0.1 7 (Nat.le_of_ble_eq_true rfl) rfl (hts _ q_f_X8_39) (fun _ h9 => h9) rfl rfl rfl rfl dX8_cash_2 (fun H locs hR hS => ?_)
  refine lv_iload_n (pc := 5) hx hb dX8_cash_5 rfl (lv_at hl 1 rfl) ?_
  refine lv_if_eq (pc := 6) (tgt := 46) hx hb dX8_cash_6 (by decide) (fun c1 => ?_) (fun c1 => ?_)
  · have h := xpos c1 h
    refine lv_aload_n (pc := 46) hx hb dX8_cash_46 rfl (lv_at hl 0 rfl) ?_
    refine xr_getR (pc := 47) (ci := 12) hx hb hts inX8 hown hK hR rfl k0.1 0 (Nat.le_of_ble_eq_true rfl) rfl k0.2.1.1 (hts _ q_f_X8_7) (fun _ h9 => h9) dX8_cash_47 ?_
    refine lv_iconst (pc := 50) hx hb dX8_cash_50 kc_4 ?_
    refine xr_ialdk (pc := 51) 4 hx hb hK hR k0.2.1.2.1 k0.2.1.2.2 tn_4 (vl_4 (by decide)) dX8_cash_51 ?_
    exact xf_i (pc := 52) hx hb hr rfl hlocks h hR hK hS dX8_cash_52
  · have h := xneg c1 h
    refine lv_sipush (pc := 9) hx hb dX8_cash_9 ks_2000 ?_
    refine lv_aload_n (pc := 12) hx hb dX8_cash_12 rfl (lv_at hl 0 rfl) ?_
    refine xr_getR (pc := 13) (ci := 12) hx hb hts inX8 hown hK hR rfl k0.1 0 (Nat.le_of_ble_eq_true rfl) rfl k0.2.1.1 (hts _ q_f_X8_7) (fun _ h9 => h9) dX8_cash_13 ?_
    refine lv_iconst (pc := 16) hx hb dX8_cash_16 kc_5 ?_
    refine xr_ialdk (pc := 17) 5 hx hb hK hR k0.2.1.2.1 k0.2.1.2.2 tn_5 (vl_5 (by decide)) dX8_cash_17 ?_
    refine lv_isub (pc := 18) hx hb dX8_cash_18 ?_
    refine lv_aload_n (pc := 19) hx hb dX8_cash_19 rfl (lv_at hl 0 rfl) ?_
    refine xr_getR (pc := 20) (ci := 12) hx hb hts inX8 hown hK hR rfl k0.1 0 (Nat.le_of_ble_eq_true rfl) rfl k0.2.1.1 (hts _ q_f_X8_7) (fun _ h9 => h9) dX8_cash_20 ?_
    refine lv_bipush (pc := 23) hx hb dX8_cash_23 kb_6 ?_
    refine xr_ialdk (pc := 25) 6 hx hb hK hR k0.2.1.2.1 k0.2.1.2.2 tn_6 (vl_6 (by decide)) dX8_cash_25 ?_
    refine lv_iadd (pc := 26) hx hb dX8_cash_26 ?_
    refine lv_aload_n (pc := 27) hx hb dX8_cash_27 rfl (lv_at hl 0 rfl) ?_
    refine xr_getR (pc := 28) (ci := 12) hx hb hts inX8 hown hK hR rfl k0.1 0 (Nat.le_of_ble_eq_true rfl) rfl k0.2.1.1 (hts _ q_f_X8_7) (fun _ h9 => h9) dX8_cash_28 ?_
    refine lv_bipush (pc := 31) hx hb dX8_cash_31 kb_7 ?_
    refine xr_ialdk (pc := 33) 7 hx hb hK hR k0.2.1.2.1 k0.2.1.2.2 tn_7 (vl_7 (by decide)) dX8_cash_33 ?_
    refine lv_iadd (pc := 34) hx hb dX8_cash_34 ?_
    refine lv_aload_n (pc := 35) hx hb dX8_cash_35 rfl (lv_at hl 0 rfl) ?_
    refine xr_getR (pc := 36) (ci := 12) hx hb hts inX8 hown hK hR rfl k0.1 0 (Nat.le_of_ble_eq_true rfl) rfl k0.2.1.1 (hts _ q_f_X8_7) (fun _ h9 => h9) dX8_cash_36 ?_
    refine lv_bipush (pc := 39) hx hb dX8_cash_39 kb_8 ?_
    refine xr_ialdk (pc := 41) 8 hx hb hK hR k0.2.1.2.1 k0.2.1.2.2 tn_8 (vl_8 (by decide)) dX8_cash_41 ?_
    refine lv_isub (pc := 42) hx hb dX8_cash_42 ?_
    refine lv_goto (pc := 43) (tgt := 52) hx hb dX8_cash_43 (by decide) ?_
    exact xf_i (pc := 52) hx hb hr rfl hlocks h hR hK hS dX8_cash_52
set_option maxHeartbeats 1000000 in
set_option maxRecDepth 20000 in
theorem mX8_isWell {l : Launch} {D : va_G} {ca : Nat → ClassId} {z : Nat} {G : xG} {X : va_W} {ad av : Nat → Nat} (hF : xFix z G X) (h0 : Nat) (k0 : xI_Model G h0) {μ μ1 : xM} {r : Int32} (h : fX8_isWell h0 μ = some (r, μ1)) : xMi l yX8_isWell (xws yX8_isWell cX8_isWell 1 (some .boolean)) 0 D ca z G X ad av [.ref h0] μ r μ1 := by
  refine xm_i (by decide) rfl (Nat.le_of_ble_eq_true rfl) [(0, .ref h0)] rfl ?_
  intro p e s m args below meth c ls hx hb hr hml hlocks hts hown hK hE hR hS hl
  have hts : ∀ w ∈ xAll, w.before args s = true := fun w hw => hts w (List.mem_cons_of_mem _ hw)
  rw [fX8_isWell] at h
  refine lv_aload_n (pc := 0) hx hb dX8_isWell_0 rfl (lv_at hl 0 rfl) ?_
  refine lv_iconst (pc := 1) hx hb dX8_isWell_1 kc_0 ?_
  refine xr_putI (pc := 2) (ci := 12) (ty := .int) hx hb hts inX8 tyX8 tyX8_ok nmX8 hown hK hR hF hS rfl k0.1 7 (Nat.le_of_ble_eq_true rfl) rfl (hts _ q_f_X8_39) (fun _ h9 => h9) rfl rfl rfl rfl dX8_isWell_2 (fun H locs hR hS => ?_)
  refine lv_aload_n (pc := 5) hx hb dX8_isWell_5 rfl (lv_at hl 0 rfl) ?_
  refine xr_getR (pc := 6) (ci := 12) hx hb hts inX8 hown hK hR rfl k0.1 0 (Nat.le_of_ble_eq_true rfl) rfl k0.2.1.1 (hts _ q_f_X8_7) (fun _ h9 => h9) dX8_isWell_6 ?_
  refine lv_iconst (pc := 9) hx hb dX8_isWell_9 kc_4 ?_
  refine xr_ialdk (pc := 10) 4 hx hb hK hR k0.2.1.2.1 k0.2.1.2.2 tn_4 (vl_4 (by decide)) dX8_isWell_10 ?_
  refine lv_sipush (pc := 11) hx hb dX8_isWell_11 ks_2000 ?_
  refine lv_aload_n (pc := 14) hx hb dX8_isWell_14 rfl (lv_at hl 0 rfl) ?_
  refine xr_getR (pc := 15) (ci := 12) hx hb hts inX8 hown hK hR rfl k0.1 0 (Nat.le_of_ble_eq_true rfl) rfl k0.2.1.1 (hts _ q_f_X8_7) (fun _ h9 => h9) dX8_isWell_15 ?_
  refine lv_iconst (pc := 18) hx hb dX8_isWell_18 kc_5 ?_
  refine xr_ialdk (pc := 19) 5 hx hb hK hR k0.2.1.2.1 k0.2.1.2.2 tn_5 (vl_5 (by decide)) dX8_isWell_19 ?_
  refine lv_isub (pc := 20) hx hb dX8_isWell_20 ?_
  refine lv_aload_n (pc := 21) hx hb dX8_isWell_21 rfl (lv_at hl 0 rfl) ?_
  refine xr_getR (pc := 22) (ci := 12) hx hb hts inX8 hown hK hR rfl k0.1 0 (Nat.le_of_ble_eq_true rfl) rfl k0.2.1.1 (hts _ q_f_X8_7) (fun _ h9 => h9) dX8_isWell_22 ?_
  refine lv_bipush (pc := 25) hx hb dX8_isWell_25 kb_6 ?_
  refine xr_ialdk (pc := 27) 6 hx hb hK hR k0.2.1.2.1 k0.2.1.2.2 tn_6 (vl_6 (by decide)) dX8_isWell_27 ?_
  refine lv_iadd (pc := 28) hx hb dX8_isWell_28 ?_
  refine lv_aload_n (pc := 29) hx hb dX8_isWell_29 rfl (lv_at hl 0 rfl) ?_
  refine xr_getR (pc := 30) (ci := 12) hx hb hts inX8 hown hK hR rfl k0.1 0 (Nat.le_of_ble_eq_true rfl) rfl k0.2.1.1 (hts _ q_f_X8_7) (fun _ h9 => h9) dX8_isWell_30 ?_
  refine lv_bipush (pc := 33) hx hb dX8_isWell_33 kb_7 ?_
  refine xr_ialdk (pc := 35) 7 hx hb hK hR k0.2.1.2.1 k0.2.1.2.2 tn_7 (vl_7 (by decide)) dX8_isWell_35 ?_
  refine lv_iadd (pc := 36) hx hb dX8_isWell_36 ?_
  refine lv_aload_n (pc := 37) hx hb dX8_isWell_37 rfl (lv_at hl 0 rfl) ?_
  refine xr_getR (pc := 38) (ci := 12) hx hb hts inX8 hown hK hR rfl k0.1 0 (Nat.le_of_ble_eq_true rfl) rfl k0.2.1.1 (hts _ q_f_X8_7) (fun _ h9 => h9) dX8_isWell_38 ?_
  refine lv_bipush (pc := 41) hx hb dX8_isWell_41 kb_8 ?_
  refine xr_ialdk (pc := 43) 8 hx hb hK hR k0.2.1.2.1 k0.2.1.2.2 tn_8 (vl_8 (by decide)) dX8_isWell_43 ?_
  refine lv_isub (pc := 44) hx hb dX8_isWell_44 ?_
  refine lv_icmp_ne (pc := 45) (tgt := 52) hx hb dX8_isWell_45 (by decide) (fun c1 => ?_) (fun c1 => ?_)
  · have h := xneg c1 h
    refine lv_iconst (pc := 52) hx hb dX8_isWell_52 kc_0 ?_
    exact xf_i (pc := 53) hx hb hr rfl hlocks h hR hK hS dX8_isWell_53
  · have h := xpos c1 h
    refine lv_iconst (pc := 48) hx hb dX8_isWell_48 kc_1 ?_
    refine lv_goto (pc := 49) (tgt := 53) hx hb dX8_isWell_49 (by decide) ?_
    exact xf_i (pc := 53) hx hb hr rfl hlocks h hR hK hS dX8_isWell_53
