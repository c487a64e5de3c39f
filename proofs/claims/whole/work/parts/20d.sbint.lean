set_option maxHeartbeats 1000000 in
set_option maxRecDepth 20000 in
theorem mJ1_canEncode_fc78d {l : Launch} {D : va_G} {ca : Nat → ClassId} {z : Nat} {G : xG} {X : va_W} {ad av : Nat → Nat} (hF : xFix z G X) (p0 : Int32)  {μ μ1 : xM} {r : Int32} (h : fJ1_canEncode_fc78d p0 μ = some (r, μ1)) : xMi l yJ1_canEncode_fc78d (xws yJ1_canEncode_fc78d cJ1_canEncode_fc78d 1 (some .boolean)) 0 D ca z G X ad av [.int p0] μ r μ1 := by
  refine xm_i (by decide) rfl (Nat.le_of_ble_eq_true rfl) [(0, .int p0)] rfl ?_
  intro p e s m args below meth c ls hx hb hr hml hlocks hts hown hK hE hR hS hl
  have hts : ∀ w ∈ xAll, w.before args s = true := fun w hw => hts w (List.mem_cons_of_mem _ hw)
  rw [fJ1_canEncode_fc78d] at h
  refine lv_iload_n (pc := 0) hx hb dJ1_canEncode_fc78d_0 rfl (lv_at hl 0 rfl) ?_
  refine lv_sipush (pc := 1) hx hb dJ1_canEncode_fc78d_1 ks_255 ?_
  refine lv_icmp_gt (pc := 4) (tgt := 11) hx hb dJ1_canEncode_fc78d_4 (by decide) (fun c1 => ?_) (fun c1 => ?_)
  · have h := xpos c1 h
    refine lv_iconst (pc := 11) hx hb dJ1_canEncode_fc78d_11 kc_0 ?_
    exact xf_i (pc := 12) hx hb hr rfl hlocks h hR hK hS dJ1_canEncode_fc78d_12
  · have h := xneg c1 h
    refine lv_iconst (pc := 7) hx hb dJ1_canEncode_fc78d_7 kc_1 ?_
    refine lv_goto (pc := 8) (tgt := 12) hx hb dJ1_canEncode_fc78d_8 (by decide) ?_
    exact xf_i (pc := 12) hx hb hr rfl hlocks h hR hK hS dJ1_canEncode_fc78d_12
set_option maxHeartbeats 1000000 in
set_option maxRecDepth 20000 in
theorem wJ6_stringSize_0f7a4_16 {p : Program} {l : Launch} {e : Env} {s : State} {m : MethodId} {args : Array Value} {below : List Frame} {meth : Method} {c : Code} {D : va_G} {ca : Nat → ClassId} {z : Nat} {G : xG} {X : va_W} {ad av : Nat → Nat} (hF : xFix z G X) (p0 : Int32)  (hx : p.tables.exec = Jvm.exec) (hb : c.code = cJ6_stringSize_0f7a4) (hr : meth.sig.returnType = (some .int)) (hml : c.maxLocals = 4) (hlocks : meth.locks = false) (hts : ∀ w ∈ xAll, w.before args s = true) (hown : s.vm.findClass RJ6 = some m.cls) (hK : va_K D vwCl (xT ca) s) (hE : xEv z ad av s s.heap) {μ1 : xM} {r : Int32} :
    ∀ (n : Nat) (x0 : Int32) (x1 : Int32) (x2 : Int32) (x3 : Int32) (μ : xM) (H : Heap) (locs : List Loc) (ls : Array Slot), lJ6_stringSize_0f7a4_16 p0 n x0 x1 x2 x3 μ = some (r, μ1) → xRep D ca G X μ H → va_S (fun q => z ≤ q) s.heap H locs → lv_has ls 4 [(0, .int x0), (1, .int x1), (2, .int x2), (3, .int x3)] → W p l e (xRm 0 0 0) s m args below meth c H locs 0 0 (MQ below (va_Qi (fun (r' : Int32) (_ : Unit) => r' = r) (fun _ t => xB D ca G X μ1 t) (fun q => z ≤ q)) args s 0 0 (fun q => z ≤ q)) (F0 m 16 ls []) := by
  intro n
  induction n with
  | zero => intro x0 x1 x2 x3 μ H locs ls h; cases h
  | succ n ih =>
    intro x0 x1 x2 x3 μ H locs ls h hR hS hl
    rw [lJ6_stringSize_0f7a4_16] at h
    refine lv_iload_n (pc := 16) hx hb dJ6_stringSize_0f7a4_16 rfl (lv_at hl 3 rfl) ?_
    refine lv_bipush (pc := 17) hx hb dJ6_stringSize_0f7a4_17 kb_10 ?_
    refine lv_icmp_ge (pc := 19) (tgt := 42) hx hb dJ6_stringSize_0f7a4_19 (by decide) (fun c2 => ?_) (fun c2 => ?_)
    · have h := xpos c2 h
      refine lv_bipush (pc := 42) hx hb dJ6_stringSize_0f7a4_42 kb_10 ?_
      refine lv_iload_n (pc := 44) hx hb dJ6_stringSize_0f7a4_44 rfl (lv_at hl 1 rfl) ?_
      refine lv_iadd (pc := 45) hx hb dJ6_stringSize_0f7a4_45 ?_
      exact xf_i (pc := 46) hx hb hr rfl hlocks h hR hK hS dJ6_stringSize_0f7a4_46
    · have h := xneg c2 h
      refine lv_iload_n (pc := 22) hx hb dJ6_stringSize_0f7a4_22 rfl (lv_at hl 0 rfl) ?_
      refine lv_iload_n (pc := 23) hx hb dJ6_stringSize_0f7a4_23 rfl (lv_at hl 2 rfl) ?_
      refine lv_icmp_le (pc := 24) (tgt := 31) hx hb dJ6_stringSize_0f7a4_24 (by decide) (fun c3 => ?_) (fun c3 => ?_)
      · have h := xpos c3 h
        refine lv_bipush (pc := 31) hx hb dJ6_stringSize_0f7a4_31 kb_10 ?_
        refine lv_iload_n (pc := 33) hx hb dJ6_stringSize_0f7a4_33 rfl (lv_at hl 2 rfl) ?_
        refine lv_imul (pc := 34) hx hb dJ6_stringSize_0f7a4_34 ?_
        refine lv_istore_n (pc := 35) (lv' := [(2, .int _), (0, .int _), (1, .int _), (3, .int _)]) hx hb dJ6_stringSize_0f7a4_35 rfl hl (Nat.le_of_ble_eq_true rfl) rfl (fun ls hl => ?_)
        refine lv_iinc (pc := 36) (lv' := [(3, .int _), (2, .int _), (0, .int _), (1, .int _)]) hx hb dJ6_stringSize_0f7a4_36 hl (k := 3) rfl (xinc kc_1) (Nat.le_of_ble_eq_true rfl) rfl (fun ls hl => ?_)
        refine lv_goto (pc := 39) (tgt := 16) hx hb dJ6_stringSize_0f7a4_39 (by decide) ?_
        exact ih _ _ _ _ _ _ _ _ h hR hS (lv_sub hl [2, 3, 1, 0] rfl)
      · have h := xneg c3 h
        refine lv_iload_n (pc := 27) hx hb dJ6_stringSize_0f7a4_27 rfl (lv_at hl 3 rfl) ?_
        refine lv_iload_n (pc := 28) hx hb dJ6_stringSize_0f7a4_28 rfl (lv_at hl 1 rfl) ?_
        refine lv_iadd (pc := 29) hx hb dJ6_stringSize_0f7a4_29 ?_
        exact xf_i (pc := 30) hx hb hr rfl hlocks h hR hK hS dJ6_stringSize_0f7a4_30
set_option maxHeartbeats 1000000 in
set_option maxRecDepth 20000 in
theorem mJ6_stringSize_0f7a4 {l : Launch} {D : va_G} {ca : Nat → ClassId} {z : Nat} {G : xG} {X : va_W} {ad av : Nat → Nat} (hF : xFix z G X) (p0 : Int32)  {μ μ1 : xM} {r : Int32} (h : fJ6_stringSize_0f7a4 p0 μ = some (r, μ1)) : xMi l yJ6_stringSize_0f7a4 (xws yJ6_stringSize_0f7a4 cJ6_stringSize_0f7a4 4 (some .int)) 0 D ca z G X ad av [.int p0] μ r μ1 := by
  refine xm_i (by decide) rfl (Nat.le_of_ble_eq_true rfl) [(0, .int p0)] rfl ?_
  intro p e s m args below meth c ls hx hb hr hml hlocks hts hown hK hE hR hS hl
  have hts : ∀ w ∈ xAll, w.before args s = true := fun w hw => hts w (List.mem_cons_of_mem _ hw)
  rw [fJ6_stringSize_0f7a4] at h
  refine lv_iconst (pc := 0) hx hb dJ6_stringSize_0f7a4_0 kc_1 ?_
  refine lv_istore_n (pc := 1) (lv' := [(1, .int _), (0, .int _)]) hx hb dJ6_stringSize_0f7a4_1 rfl hl (Nat.le_of_ble_eq_true rfl) rfl (fun ls hl => ?_)
  refine lv_iload_n (pc := 2) hx hb dJ6_stringSize_0f7a4_2 rfl (lv_at hl 1 rfl) ?_
  refine lv_if_lt (pc := 3) (tgt := 11) hx hb dJ6_stringSize_0f7a4_3 (by decide) (fun c1 => ?_) (fun c1 => ?_)
  · have h := xpos c1 h
    refine lv_bipush (pc := 11) hx hb dJ6_stringSize_0f7a4_11 kb_m10 ?_
    refine lv_istore_n (pc := 13) (lv' := [(2, .int _), (1, .int _), (0, .int _)]) hx hb dJ6_stringSize_0f7a4_13 rfl hl (Nat.le_of_ble_eq_true rfl) rfl (fun ls hl => ?_)
    refine lv_iconst (pc := 14) hx hb dJ6_stringSize_0f7a4_14 kc_1 ?_
    refine lv_istore_n (pc := 15) (lv' := [(3, .int _), (2, .int _), (1, .int _), (0, .int _)]) hx hb dJ6_stringSize_0f7a4_15 rfl hl (Nat.le_of_ble_eq_true rfl) rfl (fun ls hl => ?_)
    exact wJ6_stringSize_0f7a4_16 hF p0  hx hb hr hml hlocks hts hown hK hE _ _ _ _ _ _ _ _ _ h hR hS (lv_sub hl [3, 2, 1, 0] rfl)
  · have h := xneg c1 h
    refine lv_iconst (pc := 6) hx hb dJ6_stringSize_0f7a4_6 kc_0 ?_
    refine lv_istore_n (pc := 7) (lv' := [(1, .int _), (0, .int _)]) hx hb dJ6_stringSize_0f7a4_7 rfl hl (Nat.le_of_ble_eq_true rfl) rfl (fun ls hl => ?_)
    refine lv_iload_n (pc := 8) hx hb dJ6_stringSize_0f7a4_8 rfl (lv_at hl 1 rfl) ?_
    refine lv_ineg (pc := 9) hx hb dJ6_stringSize_0f7a4_9 ?_
    refine lv_istore_n (pc := 10) (lv' := [(0, .int _), (1, .int _)]) hx hb dJ6_stringSize_0f7a4_10 rfl hl (Nat.le_of_ble_eq_true rfl) rfl (fun ls hl => ?_)
    refine lv_bipush (pc := 11) hx hb dJ6_stringSize_0f7a4_11 kb_m10 ?_
    refine lv_istore_n (pc := 13) (lv' := [(2, .int _), (0, .int _), (1, .int _)]) hx hb dJ6_stringSize_0f7a4_13 rfl hl (Nat.le_of_ble_eq_true rfl) rfl (fun ls hl => ?_)
    refine lv_iconst (pc := 14) hx hb dJ6_stringSize_0f7a4_14 kc_1 ?_
    refine lv_istore_n (pc := 15) (lv' := [(3, .int _), (2, .int _), (0, .int _), (1, .int _)]) hx hb dJ6_stringSize_0f7a4_15 rfl hl (Nat.le_of_ble_eq_true rfl) rfl (fun ls hl => ?_)
    exact wJ6_stringSize_0f7a4_16 hF p0  hx hb hr hml hlocks hts hown hK hE _ _ _ _ _ _ _ _ _ h hR hS (lv_sub hl [2, 3, 1, 0] rfl)
set_option maxHeartbeats 1000000 in
set_option maxRecDepth 20000 in
theorem mJ8_newLength_cabcc {l : Launch} {D : va_G} {ca : Nat → ClassId} {z : Nat} {G : xG} {X : va_W} {ad av : Nat → Nat} (hF : xFix z G X) (p0 : Int32) (p1 : Int32) (p2 : Int32)  {μ μ1 : xM} {r : Int32} (h : fJ8_newLength_cabcc p0 p1 p2 μ = some (r, μ1)) : xMi l yJ8_newLength_cabcc (xws yJ8_newLength_cabcc cJ8_newLength_cabcc 4 (some .int)) 1 D ca z G X ad av [.int p0, .int p1, .int p2] μ r μ1 := by
  refine xm_i (by decide) rfl (Nat.le_of_ble_eq_true rfl) [(0, .int p0), (1, .int p1), (2, .int p2)] rfl ?_
  intro p e s m args below meth c ls hx hb hr hml hlocks hts hown hK hE hR hS hl
  have hts : ∀ w ∈ xAll, w.before args s = true := fun w hw => hts w (List.mem_cons_of_mem _ hw)
  rw [fJ8_newLength_cabcc] at h
  refine lv_iload_n (pc := 0) hx hb dJ8_newLength_cabcc_0 rfl (lv_at hl 0 rfl) ?_
  refine lv_iload_n (pc := 1) hx hb dJ8_newLength_cabcc_1 rfl (lv_at hl 1 rfl) ?_
  refine lv_iload_n (pc := 2) hx hb dJ8_newLength_cabcc_2 rfl (lv_at hl 2 rfl) ?_
  refine va_mmax (pc := 3) hx hb (hml.trans hl.1.symm) hown (hts _ q_m_J8_194) (hts _ q_static_max) (hts _ q_initialized_Math) (hts _ q_code_max) (Nat.le_of_ble_eq_true rfl) (Nat.le_of_ble_eq_true rfl) (Nat.le_refl _) (Nat.le_refl _) dJ8_newLength_cabcc_3 ?_
  refine lv_iadd (pc := 6) hx hb dJ8_newLength_cabcc_6 ?_
  refine lv_istore_n (pc := 7) (lv' := [(3, .int _), (0, .int _), (1, .int _), (2, .int _)]) hx hb dJ8_newLength_cabcc_7 rfl hl (Nat.le_of_ble_eq_true rfl) rfl (fun ls hl => ?_)
  refine lv_iconst (pc := 8) hx hb dJ8_newLength_cabcc_8 kc_0 ?_
  refine lv_iload_n (pc := 9) hx hb dJ8_newLength_cabcc_9 rfl (lv_at hl 0 rfl) ?_
  refine lv_icmp_ge (pc := 10) (tgt := 21) hx hb dJ8_newLength_cabcc_10 (by decide) (fun c1 => ?_) (fun c1 => ?_)
  · have h := xpos c1 h
    refine lv_iload_n (pc := 21) hx hb dJ8_newLength_cabcc_21 rfl (lv_at hl 1 rfl) ?_
    refine lv_iload_n (pc := 22) hx hb dJ8_newLength_cabcc_22 rfl (lv_at hl 2 rfl) ?_
    cases h
  · have h := xneg c1 h
    refine lv_iload_n (pc := 13) hx hb dJ8_newLength_cabcc_13 rfl (lv_at hl 0 rfl) ?_
    refine lv_ldc (pc := 14) hx hb hown (hts _ q_k_J8_200) dJ8_newLength_cabcc_14 ?_
    refine lv_icmp_gt (pc := 16) (tgt := 21) hx hb dJ8_newLength_cabcc_16 (by decide) (fun c2 => ?_) (fun c2 => ?_)
    · have h := xpos c2 h
      refine lv_iload_n (pc := 21) hx hb dJ8_newLength_cabcc_21 rfl (lv_at hl 1 rfl) ?_
      refine lv_iload_n (pc := 22) hx hb dJ8_newLength_cabcc_22 rfl (lv_at hl 2 rfl) ?_
      cases h
    · have h := xneg c2 h
      refine lv_iload_n (pc := 19) hx hb dJ8_newLength_cabcc_19 rfl (lv_at hl 0 rfl) ?_
      exact xf_i (pc := 20) hx hb hr rfl hlocks h hR hK hS dJ8_newLength_cabcc_20
