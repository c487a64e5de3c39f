theorem xsz {w : Nat} (hw : w < 1000) (μ : xM) : fJ6_stringSize_0f7a4 (nI w) μ = some (nI (sb_dg w), μ) := by
  have c1 : (10 : Int32) * (-10 : Int32) = -nI 100 := by decide
  have c2 : (10 : Int32) * (-nI 100) = -nI 1000 := by decide
  unfold fJ6_stringSize_0f7a4
  rw [if_neg (nI_pos (by omega)), show xfu = 4093 + 1 + 1 + 1 from rfl, lJ6_stringSize_0f7a4_16, if_neg (by decide)]
  by_cases h1 : 10 ≤ w
  · rw [if_pos (show -nI w ≤ (-10 : Int32) from (sb_nle (b := 10) (by omega) (by decide)).mpr h1), lJ6_stringSize_0f7a4_16, if_neg (by decide), c1]
    by_cases h2 : 100 ≤ w
    · rw [if_pos ((sb_nle (by omega) (by decide)).mpr h2), lJ6_stringSize_0f7a4_16, if_neg (by decide), c2, if_neg (fun h => absurd ((sb_nle (by omega) (by decide)).mp h) (by omega)), show sb_dg w = 3 by unfold sb_dg; rw [if_neg (by omega), if_neg (by omega), if_pos hw]]
      rfl
    · rw [if_neg (fun h => h2 ((sb_nle (by omega) (by decide)).mp h)), show sb_dg w = 2 by unfold sb_dg; rw [if_neg (by omega), if_pos (by omega)]]
      rfl
  · rw [if_neg (show ¬ -nI w ≤ (-10 : Int32) from fun h => h1 ((sb_nle (b := 10) (by omega) (by decide)).mp (show -nI w ≤ -nI 10 from h))), show sb_dg w = 1 by unfold sb_dg; rw [if_pos (by omega)]]
    rfl
set_option maxHeartbeats 1000000 in
set_option maxRecDepth 20000 in
theorem wJ6_22 {p : Program} {l : Launch} {e : Env} {s : State} {m : MethodId} {args : Array Value} {below : List Frame} {meth : Method} {c : Code} {D : va_G} {ca : Nat → ClassId} {z : Nat} {G : xG} {ad av : Nat → Nat} {sb v cap od : Nat} {ml k : Int32} {fd : Nat → UInt64} {μ : xM} {n : Nat} {Kf : Int32 → va_W → Prop} (hx : p.tables.exec = Jvm.exec) (hb : c.code = cJ6_getChars_ba4f3) (hr : meth.sig.returnType = (some .int)) (hlocks : meth.locks = false) (hts : ∀ w ∈ xAll, w.before args s = true) (hown : s.vm.findClass RJ6 = some m.cls) (hK : va_K D vwCl (xT ca) s) (hE : xEv z ad av s s.heap) (hcap : cap ≤ 65536) :
    ∀ (F w q : Nat) (f : Nat → Int32) (H : Heap) (locs : List Loc) (ls : Array Slot), w < F → w < 2 ^ 31 → q = n + sb_dg w → q ≤ cap → xRep D ca G (sX ca sb v cap od ml k f fd) μ H → xFix z G (sX ca sb v cap od ml k f fd) → va_D (fun q => z ≤ q) (sX ca sb v cap od ml k f fd) → va_S (fun q => z ≤ q) s.heap H locs → lv_has ls 7 [(0, .int (-nI w)), (5, .int (nI q)), (6, .int 0), (2, .ref v)] →
      (∀ f1 : Nat → Int32, (∀ j, j < n ∨ q ≤ j → f1 j = f j) → (∀ i, i < sb_dg w → f1 (q - 1 - i) = sb_b (48 + w / 10 ^ i % 10)) → (sb_Fit f → sb_Fit f1) → Kf (nI n) (sX ca sb v cap od ml k f1 fd)) →
      W p l e (xRm 0 0 0) s m args below meth c H locs 0 0 (MQ below (xQi D ca z G μ Kf) args s 0 0 (fun q => z ≤ q)) (F0 m 22 ls []) := by
  obtain ⟨t6, h6, h6'⟩ := hE.2.2.2.2.2.1
  obtain ⟨t7, h7, h7'⟩ := hE.2.2.2.2.2.2.1
  intro F
  induction F with
  | zero => intro w q f H locs ls h; omega
  | succ F ih =>
    intro w q f H locs ls hwf hw hq hqc hR hF hXD hS hl hP
    have hd1 := (sb_dg_in w).1
    have ew : (nI w).toNatClampNeg = w := nI_clamp hw
    refine lv_iload_n (pc := 22) hx hb dJ6_getChars_ba4f3_22 rfl (lv_at hl 0 rfl) ?_
    refine lv_bipush (pc := 23) hx hb dJ6_getChars_ba4f3_23 kb_m100 ?_
    refine lv_icmp_gt (pc := 25) (tgt := 72) hx hb dJ6_getChars_ba4f3_25 (by decide) (fun c1 => ?_) (fun c1 => ?_)
    · have h100 : w < 100 := (sb_nlt (a := 100) (by decide) hw).mp (show -nI 100 < -nI w from c1)
      refine lv_aload_n (pc := 72) hx hb dJ6_getChars_ba4f3_72 rfl (lv_at hl 3 rfl) ?_
      refine lv_iinc (pc := 73) (lv' := [(5, .int _), (0, .int _), (6, .int _), (2, .ref _)]) hx hb dJ6_getChars_ba4f3_73 hl (k := 1) rfl ((xinc kc_m1).trans (sb_m1 (by omega))) (Nat.le_of_ble_eq_true rfl) rfl (fun ls hl => ?_)
      refine lv_iload (pc := 76) hx hb dJ6_getChars_ba4f3_76 (lv_at hl 0 rfl) ?_
      refine va_gets (pc := 78) hx hb h7 hS hown (hts _ q_f_J6_83) (fun _ h9 => h9) dJ6_getChars_ba4f3_78 ?_
      refine lv_iload_n (pc := 81) hx hb dJ6_getChars_ba4f3_81 rfl (lv_at hl 1 rfl) ?_
      refine lv_ineg (pc := 82) hx hb dJ6_getChars_ba4f3_82 ?_
      rw [Int32.neg_neg]
      refine va_tb (pc := 83) hx hb h7' hS (vp_in_nI h100 (by decide)) (v := .int (nI (48 + w % 10))) (by rw [ew]; rfl) dJ6_getChars_ba4f3_83 ?_
      refine sx_bast (pc := 84) hx hb hK hR hF hXD hS (q - 1) (nI_clamp (by omega)) (vp_in_nI (by omega) (by omega)) (sb_b (48 + w % 10)) (vp_nar_byte _) dJ6_getChars_ba4f3_84 (fun H locs hR hF hXD hS => ?_)
      refine lv_iload_n (pc := 85) hx hb dJ6_getChars_ba4f3_85 rfl (lv_at hl 1 rfl) ?_
      refine lv_bipush (pc := 86) hx hb dJ6_getChars_ba4f3_86 kb_m9 ?_
      refine lv_icmp_ge (pc := 88) (tgt := 104) hx hb dJ6_getChars_ba4f3_88 (by decide) (fun c2 => ?_) (fun c2 => ?_)
      · have h9 : w < 10 := by have := (sb_nle (a := 9) (by decide) hw).mp (show -nI 9 ≤ -nI w from c2); omega
        refine lv_iload (pc := 104) hx hb dJ6_getChars_ba4f3_104 (lv_at hl 2 rfl) ?_
        refine lv_if_eq (pc := 106) (tgt := 118) hx hb dJ6_getChars_ba4f3_106 (by decide) (fun _ => ?_) (fun c9 => absurd rfl c9)
        refine lv_iload (pc := 118) hx hb dJ6_getChars_ba4f3_118 (lv_at hl 0 rfl) ?_
        have hd : sb_dg w = 1 := if_pos h9
        rw [show nI (q - 1) = nI n from congrArg nI (by omega)]
        refine xg_i (pc := 120) hx hb hr rfl hlocks (hP _ (fun j hj => pk_un (by omega)) (fun i hi => ?_) (fun hf => sb_fitU hf (sb_fitB _))) hF hXD hR hK hS (Nat.le_of_ble_eq_true rfl) (Nat.le_of_ble_eq_true rfl) dJ6_getChars_ba4f3_120
        obtain rfl : i = 0 := by omega
        rw [Nat.sub_zero, pk_us, Nat.pow_zero, Nat.div_one]
      · have h9 : ¬ w < 10 := fun h => c2 (show -nI 9 ≤ -nI w from (sb_nle (by decide) hw).mpr (by omega))
        have hd : sb_dg w = 2 := by rw [sb_dg, if_neg h9, if_pos h100]
        refine lv_aload_n (pc := 91) hx hb dJ6_getChars_ba4f3_91 rfl (lv_at hl 3 rfl) ?_
        refine lv_iinc (pc := 92) (lv' := [(5, .int _), (0, .int _), (6, .int _), (2, .ref _)]) hx hb dJ6_getChars_ba4f3_92 hl (k := 0) rfl ((xinc kc_m1).trans (sb_m1 (by omega))) (Nat.le_of_ble_eq_true rfl) rfl (fun ls hl => ?_)
        refine lv_iload (pc := 95) hx hb dJ6_getChars_ba4f3_95 (lv_at hl 0 rfl) ?_
        refine va_gets (pc := 97) hx hb h6 hS hown (hts _ q_f_J6_87) (fun _ h9 => h9) dJ6_getChars_ba4f3_97 ?_
        refine lv_iload_n (pc := 100) hx hb dJ6_getChars_ba4f3_100 rfl (lv_at hl 1 rfl) ?_
        refine lv_ineg (pc := 101) hx hb dJ6_getChars_ba4f3_101 ?_
        rw [Int32.neg_neg]
        refine va_tb (pc := 102) hx hb h6' hS (vp_in_nI h100 (by decide)) (v := .int (nI (48 + w / 10))) (by rw [ew]; rfl) dJ6_getChars_ba4f3_102 ?_
        refine sx_bast (pc := 103) hx hb hK hR hF hXD hS (q - 1 - 1) (nI_clamp (by omega)) (vp_in_nI (by omega) (by omega)) (sb_b (48 + w / 10)) (vp_nar_byte _) dJ6_getChars_ba4f3_103 (fun H locs hR hF hXD hS => ?_)
        refine lv_iload (pc := 104) hx hb dJ6_getChars_ba4f3_104 (lv_at hl 2 rfl) ?_
        refine lv_if_eq (pc := 106) (tgt := 118) hx hb dJ6_getChars_ba4f3_106 (by decide) (fun _ => ?_) (fun c9 => absurd rfl c9)
        refine lv_iload (pc := 118) hx hb dJ6_getChars_ba4f3_118 (lv_at hl 0 rfl) ?_
        rw [show nI (q - 1 - 1) = nI n from congrArg nI (by omega)]
        have d2 : w / 10 % 10 = w / 10 := by omega
        refine xg_i (pc := 120) hx hb hr rfl hlocks (hP _ (fun j hj => by rw [pk_un (by omega), pk_un (by omega)]) (fun i hi => ?_) (fun hf => sb_fitU (sb_fitU hf (sb_fitB _)) (sb_fitB _))) hF hXD hR hK hS (Nat.le_of_ble_eq_true rfl) (Nat.le_of_ble_eq_true rfl) dJ6_getChars_ba4f3_120
        obtain rfl | rfl : i = 0 ∨ i = 1 := by omega
        · rw [Nat.sub_zero, pk_un (by omega), pk_us, Nat.pow_zero, Nat.div_one]
        · rw [pk_us, Nat.pow_one, d2]
    · have h100 : ¬ w < 100 := fun h => c1 (show -nI 100 < -nI w from (sb_nlt (by decide) hw).mpr h)
      have hd := sb_dg100 (w := w) (by omega) hw
      have hd2 := (sb_dg_in (w / 100)).1
      have er : (nI (w % 100)).toNatClampNeg = w % 100 := nI_clamp (by omega)
      refine lv_iload_n (pc := 28) hx hb dJ6_getChars_ba4f3_28 rfl (lv_at hl 0 rfl) ?_
      refine lv_bipush (pc := 29) hx hb dJ6_getChars_ba4f3_29 kb_100 ?_
      refine lv_idiv (pc := 31) hx hb dJ6_getChars_ba4f3_31 (by decide) ?_
      rw [sb_ndiv hw]
      refine lv_istore_n (pc := 32) (lv' := [(3, .int _), (0, .int _), (5, .int _), (6, .int _), (2, .ref _)]) hx hb dJ6_getChars_ba4f3_32 rfl hl (Nat.le_of_ble_eq_true rfl) rfl (fun ls hl => ?_)
      refine lv_iload_n (pc := 33) hx hb dJ6_getChars_ba4f3_33 rfl (lv_at hl 0 rfl) ?_
      refine lv_bipush (pc := 34) hx hb dJ6_getChars_ba4f3_34 kb_100 ?_
      refine lv_imul (pc := 36) hx hb dJ6_getChars_ba4f3_36 ?_
      refine lv_iload_n (pc := 37) hx hb dJ6_getChars_ba4f3_37 rfl (lv_at hl 1 rfl) ?_
      refine lv_isub (pc := 38) hx hb dJ6_getChars_ba4f3_38 ?_
      rw [sb_nrem hw]
      refine lv_istore (pc := 39) (lv' := [(4, .int _), (3, .int _), (0, .int _), (5, .int _), (6, .int _), (2, .ref _)]) hx hb dJ6_getChars_ba4f3_39 hl (Nat.le_of_ble_eq_true rfl) rfl (fun ls hl => ?_)
      refine lv_iload_n (pc := 41) hx hb dJ6_getChars_ba4f3_41 rfl (lv_at hl 1 rfl) ?_
      refine lv_istore_n (pc := 42) (lv' := [(0, .int _), (4, .int _), (3, .int _), (5, .int _), (6, .int _), (2, .ref _)]) hx hb dJ6_getChars_ba4f3_42 rfl hl (Nat.le_of_ble_eq_true rfl) rfl (fun ls hl => ?_)
      refine lv_aload_n (pc := 43) hx hb dJ6_getChars_ba4f3_43 rfl (lv_at hl 5 rfl) ?_
      refine lv_iinc (pc := 44) (lv' := [(5, .int _), (0, .int _), (4, .int _), (3, .int _), (6, .int _), (2, .ref _)]) hx hb dJ6_getChars_ba4f3_44 hl (k := 3) rfl ((xinc kc_m1).trans (sb_m1 (by omega))) (Nat.le_of_ble_eq_true rfl) rfl (fun ls hl => ?_)
      refine lv_iload (pc := 47) hx hb dJ6_getChars_ba4f3_47 (lv_at hl 0 rfl) ?_
      refine va_gets (pc := 49) hx hb h7 hS hown (hts _ q_f_J6_83) (fun _ h9 => h9) dJ6_getChars_ba4f3_49 ?_
      refine lv_iload (pc := 52) hx hb dJ6_getChars_ba4f3_52 (lv_at hl 2 rfl) ?_
      refine va_tb (pc := 54) hx hb h7' hS (vp_in_nI (by omega) (by decide)) (v := .int (nI (48 + w % 10))) (by rw [er]; show Value.int (nI (48 + w % 100 % 10)) = _; rw [show w % 100 % 10 = w % 10 by omega]) dJ6_getChars_ba4f3_54 ?_
      refine sx_bast (pc := 55) hx hb hK hR hF hXD hS (q - 1) (nI_clamp (by omega)) (vp_in_nI (by omega) (by omega)) (sb_b (48 + w % 10)) (vp_nar_byte _) dJ6_getChars_ba4f3_55 (fun H locs hR hF hXD hS => ?_)
      refine lv_aload_n (pc := 56) hx hb dJ6_getChars_ba4f3_56 rfl (lv_at hl 5 rfl) ?_
      refine lv_iinc (pc := 57) (lv' := [(5, .int _), (0, .int _), (4, .int _), (3, .int _), (6, .int _), (2, .ref _)]) hx hb dJ6_getChars_ba4f3_57 hl (k := 0) rfl ((xinc kc_m1).trans (sb_m1 (by omega))) (Nat.le_of_ble_eq_true rfl) rfl (fun ls hl => ?_)
      refine lv_iload (pc := 60) hx hb dJ6_getChars_ba4f3_60 (lv_at hl 0 rfl) ?_
      refine va_gets (pc := 62) hx hb h6 hS hown (hts _ q_f_J6_87) (fun _ h9 => h9) dJ6_getChars_ba4f3_62 ?_
      refine lv_iload (pc := 65) hx hb dJ6_getChars_ba4f3_65 (lv_at hl 2 rfl) ?_
      refine va_tb (pc := 67) hx hb h6' hS (vp_in_nI (by omega) (by decide)) (v := .int (nI (48 + w / 10 % 10))) (by rw [er]; show Value.int (nI (48 + w % 100 / 10)) = _; rw [show w % 100 / 10 = w / 10 % 10 by omega]) dJ6_getChars_ba4f3_67 ?_
      refine sx_bast (pc := 68) hx hb hK hR hF hXD hS (q - 1 - 1) (nI_clamp (by omega)) (vp_in_nI (by omega) (by omega)) (sb_b (48 + w / 10 % 10)) (vp_nar_byte _) dJ6_getChars_ba4f3_68 (fun H locs hR hF hXD hS => ?_)
      refine lv_goto (pc := 69) (tgt := 22) hx hb dJ6_getChars_ba4f3_69 (by decide) ?_
      refine ih (w / 100) (q - 1 - 1) _ H locs ls (by omega) (by omega) (by omega) (by omega) hR hF hXD hS (lv_sub hl [1, 0, 4, 5] rfl) (fun f1 h1 h2 h3 => ?_)
      refine hP f1 (fun j hj => by rw [h1 j (by omega), pk_un (by omega), pk_un (by omega)]) (fun i hi => ?_) (fun hf => h3 (sb_fitU (sb_fitU hf (sb_fitB _)) (sb_fitB _)))
      match i, hi with
      | 0, _ => rw [Nat.sub_zero, h1 _ (by omega), pk_un (by omega), pk_us, Nat.pow_zero, Nat.div_one]
      | 1, _ => rw [h1 _ (by omega), pk_us, Nat.pow_one]
      | k + 2, hi => rw [show q - 1 - (k + 2) = q - 1 - 1 - 1 - k by omega, h2 k (by omega), Nat.div_div_eq_div_mul, show 100 * 10 ^ k = 10 ^ (k + 2) by rw [show k + 2 = k + 1 + 1 from rfl, Nat.pow_succ, Nat.pow_succ]; omega]
set_option maxHeartbeats 1000000 in
set_option maxRecDepth 20000 in
theorem mJ6_getChars_ba4f3 {l : Launch} {D : va_G} {ca : Nat → ClassId} {z : Nat} {G : xG} {ad av : Nat → Nat} {sb v cap od : Nat} {ml k : Int32} {f : Nat → Int32} {fd : Nat → UInt64} {μ : xM} (hF : xFix z G (sX ca sb v cap od ml k f fd)) (hXD : va_D (fun q => z ≤ q) (sX ca sb v cap od ml k f fd)) {n w : Nat} (hw : w < 2 ^ 31) (hq : n + sb_dg w ≤ cap) (hcap : cap ≤ 65536) (hf : sb_Fit f) : xZ l yJ6_getChars_ba4f3 (xws yJ6_getChars_ba4f3 cJ6_getChars_ba4f3 7 (some .int)) 0 0 0 D ca z G (sX ca sb v cap od ml k f fd) ad av [.int (nI w), .int (nI (n + sb_dg w)), .ref v] μ (xQi D ca z G μ (fun _ X1 => ∃ f1 : Nat → Int32, X1 = sX ca sb v cap od ml k f1 fd ∧ (∀ j, j < n → f1 j = f j) ∧ (∀ i, i < sb_dg w → f1 (n + sb_dg w - 1 - i) = sb_b (48 + w / 10 ^ i % 10)) ∧ sb_Fit f1)) := by
  refine xm_g (by decide) rfl (Nat.le_of_ble_eq_true rfl) [(0, .int (nI w)), (1, .int (nI (n + sb_dg w))), (2, .ref v)] rfl ?_
  intro p e s m args below meth c ls hx hb hr hml hlocks hts hown hK hE hR hS hl
  have hts : ∀ w ∈ xAll, w.before args s = true := fun w hw => hts w (List.mem_cons_of_mem _ hw)
  refine lv_iload_n (pc := 0) hx hb dJ6_getChars_ba4f3_0 rfl (lv_at hl 1 rfl) ?_
  refine lv_istore (pc := 1) (lv' := [(5, .int _), (0, .int _), (1, .int _), (2, .ref _)]) hx hb dJ6_getChars_ba4f3_1 hl (Nat.le_of_ble_eq_true rfl) rfl (fun ls hl => ?_)
  refine lv_iload_n (pc := 3) hx hb dJ6_getChars_ba4f3_3 rfl (lv_at hl 1 rfl) ?_
  refine lv_if_ge (pc := 4) (tgt := 11) hx hb dJ6_getChars_ba4f3_4 (by decide) (fun _ => ?_) (fun c1 => absurd (nI_pos' hw) c1)
  refine lv_iconst (pc := 11) hx hb dJ6_getChars_ba4f3_11 kc_0 ?_
  refine lv_istore (pc := 12) (lv' := [(6, .int _), (5, .int _), (0, .int _), (1, .int _), (2, .ref _)]) hx hb dJ6_getChars_ba4f3_12 hl (Nat.le_of_ble_eq_true rfl) rfl (fun ls hl => ?_)
  refine lv_iload (pc := 14) hx hb dJ6_getChars_ba4f3_14 (lv_at hl 0 rfl) ?_
  refine lv_if_ne (pc := 16) (tgt := 22) hx hb dJ6_getChars_ba4f3_16 (by decide) (fun c1 => absurd rfl c1) (fun _ => ?_)
  refine lv_iload_n (pc := 19) hx hb dJ6_getChars_ba4f3_19 rfl (lv_at hl 2 rfl) ?_
  refine lv_ineg (pc := 20) hx hb dJ6_getChars_ba4f3_20 ?_
  refine lv_istore_n (pc := 21) (lv' := [(0, .int _), (6, .int _), (5, .int _), (1, .int _), (2, .ref _)]) hx hb dJ6_getChars_ba4f3_21 rfl hl (Nat.le_of_ble_eq_true rfl) rfl (fun ls hl => ?_)
  exact wJ6_22 hx hb hr hlocks hts hown hK hE hcap (w + 1) w _ f _ _ ls (by omega) hw rfl hq hR hF hXD hS (lv_sub hl [0, 2, 1, 4] rfl) (fun f1 h1 h2 h3 => ⟨f1, rfl, fun j hj => h1 j (Or.inl hj), h2, h3 hf⟩)
set_option maxHeartbeats 1000000 in
set_option maxRecDepth 20000 in
theorem mJ5_append_c97b9 {l : Launch} {D : va_G} {ca : Nat → ClassId} {z : Nat} {G : xG} {ad av : Nat → Nat} {sb v cap od : Nat} {ml : Int32} {f : Nat → Int32} {fd : Nat → UInt64} {μ : xM} {n : Nat} {t : Nat → Nat} (hF : xFix z G (sX ca sb v cap od ml (nI n) f fd)) (hXD : va_D (fun q => z ≤ q) (sX ca sb v cap od ml (nI n) f fd)) (hcap : cap = 16 ∨ cap = 34) (hn : n ≤ cap) (hL : sb_Lat t n f) (hf : sb_Fit f) {w : Nat} (hw : w < 1000) (hn2 : n + sb_dg w ≤ 34) : xZ l yJ5_append_c97b9 (xws yJ5_append_c97b9 cJ5_append_c97b9 4 (some (.object "java/lang/AbstractStringBuilder"))) 4 1 34 D ca z G (sX ca sb v cap od ml (nI n) f fd) ad av [.ref sb, .int (nI w)] μ (xQr D ca z G μ (fun a X1 => a = sb ∧ xTx ca sb od fd (n + sb_dg w) (sb_cat t n (sb_dec w)) X1)) := by
  refine xm_g (by decide) rfl (Nat.le_of_ble_eq_true rfl) [(0, .ref sb), (1, .int (nI w))] rfl ?_
  intro p e s m args below meth c ls hx hb hr hml hlocks hts hown hK hE hR hS hl
  have hts : ∀ w ∈ xAll, w.before args s = true := fun w hw => hts w (List.mem_cons_of_mem _ hw)
  have hd := sb_dg_in w
  refine lv_aload_n (pc := 0) hx hb dJ5_append_c97b9_0 rfl (lv_at hl 0 rfl) ?_
  refine sx_cnt (pc := 1) hx hb hts hown hK hR q_f_J5_79 dJ5_append_c97b9_1 ?_
  refine lv_istore_n (pc := 4) (lv' := [(2, .int _), (0, .ref _), (1, .int _)]) hx hb dJ5_append_c97b9_4 rfl hl (Nat.le_of_ble_eq_true rfl) rfl (fun ls hl => ?_)
  refine lv_iload_n (pc := 5) hx hb dJ5_append_c97b9_5 rfl (lv_at hl 0 rfl) ?_
  refine lv_iload_n (pc := 6) hx hb dJ5_append_c97b9_6 rfl (lv_at hl 2 rfl) ?_
  refine xc_iS (pc := 7) (As := [.int _]) (rest := [.int _]) ⟨hx, hb, hml, hown, hts⟩ (mJ6_stringSize_0f7a4 hF _ (xsz hw μ)) (xcwS 1 hts fdJ6_stringSize_0f7a4 q_m_J5_245 ⟨Nat.le_of_ble_eq_true rfl, Nat.le_of_ble_eq_true rfl⟩) hR hK hE hS rfl hl.1 rfl (Nat.le_of_ble_eq_true rfl) dJ5_append_c97b9_7 ⟨Nat.le_of_ble_eq_true rfl, Nat.le_of_ble_eq_true rfl⟩ (fun H locs hR hS => ?_)
  refine lv_iadd (pc := 10) hx hb dJ5_append_c97b9_10 ?_
  rw [nI_add]
  refine lv_istore_n (pc := 11) (lv' := [(3, .int _), (2, .int _), (0, .ref _), (1, .int _)]) hx hb dJ5_append_c97b9_11 rfl hl (Nat.le_of_ble_eq_true rfl) rfl (fun ls hl => ?_)
  refine lv_aload_n (pc := 12) hx hb dJ5_append_c97b9_12 rfl (lv_at hl 2 rfl) ?_
  refine lv_iload_n (pc := 13) hx hb dJ5_append_c97b9_13 rfl (lv_at hl 0 rfl) ?_
  refine xq_v (pc := 14) (va_runV (As := [.int _]) (rest := []) ⟨hx, hb, hml, hown, hts⟩ (mJ5_ensureCapacityInternal_d00df hF hXD hcap (q := n + sb_dg w) (by omega) hf) (xcwP 1 4 hts q_instanceMethod_J5_ensureCapacityInternal_d00df (hE.2.2.2.2.2.2.2.1 _ (List.mem_of_getElem? (i := 15) rfl)) q_instantiable_J4 q_selC_J5_isLatin1_aae02 rfl q_initialized_J5 q_code_J5_ensureCapacityInternal_d00df (by decide +kernel) q_m_J5_100 ⟨Nat.le_of_ble_eq_true rfl, Nat.le_of_ble_eq_true rfl⟩) ⟨xSt_blind, xSr hK hR, xSt_at hR hK hE hS⟩ rfl rfl hl.1 rfl (lv_room (Nat.le_of_ble_eq_true rfl)) dJ5_append_c97b9_14 ⟨Nat.le_of_ble_eq_true rfl, Nat.le_of_ble_eq_true rfl⟩) hS (fun X1 H locs hk hF hXD hR hS => ?_)
  obtain ⟨v1, cap1, f1, rfl, hcap1, hq1, hcc, hff, hf1⟩ := hk
  refine lv_aload_n (pc := 17) hx hb dJ5_append_c97b9_17 rfl (lv_at hl 2 rfl) ?_
  refine xc_iV (pc := 18) (As := []) (rest := []) ⟨hx, hb, hml, hown, hts⟩ (mJ5_isLatin1_aae02) (xcwC 0 hts fcJ5_isLatin1_aae02 q_m_J5_83 ⟨Nat.le_of_ble_eq_true rfl, Nat.le_of_ble_eq_true rfl⟩) (xSr hK hR) hR hK hE hS rfl hl.1 rfl (Nat.le_of_ble_eq_true rfl) dJ5_append_c97b9_18 ⟨Nat.le_of_ble_eq_true rfl, Nat.le_of_ble_eq_true rfl⟩ (fun H locs hR hS => ?_)
  refine lv_if_eq (pc := 21) (tgt := 37) hx hb dJ5_append_c97b9_21 (by decide) (fun c1 => absurd c1 (by decide)) (fun _ => ?_)
  refine lv_iload_n (pc := 24) hx hb dJ5_append_c97b9_24 rfl (lv_at hl 3 rfl) ?_
  refine lv_iload_n (pc := 25) hx hb dJ5_append_c97b9_25 rfl (lv_at hl 0 rfl) ?_
  refine lv_aload_n (pc := 26) hx hb dJ5_append_c97b9_26 rfl (lv_at hl 2 rfl) ?_
  refine sx_val (pc := 27) hx hb hts hown hK hR q_f_J5_15 dJ5_append_c97b9_27 ?_
  refine xq_i (pc := 30) (va_runS (As := [.int _, .int _, .ref _]) (rest := []) ⟨hx, hb, hml, hown, hts⟩ (mJ6_getChars_ba4f3 hF hXD (n := n) (w := w) (by omega) (by omega) (by omega) hf1) (xcwS 3 hts fdJ6_getChars_ba4f3 q_m_J5_248 ⟨Nat.le_of_ble_eq_true rfl, Nat.le_of_ble_eq_true rfl⟩) ⟨xSt_blind, xSt_at hR hK hE hS⟩ rfl rfl hl.1 rfl (lv_room (Nat.le_of_ble_eq_true rfl)) dJ5_append_c97b9_30 ⟨Nat.le_of_ble_eq_true rfl, Nat.le_of_ble_eq_true rfl⟩) hS (fun r X1 H locs hk hF hXD hR hS => ?_)
  obtain ⟨f2, rfl, hk1, hk2, hk3⟩ := hk
  refine lv_pop (pc := 33) hx hb dJ5_append_c97b9_33 rfl ?_
  refine lv_goto (pc := 34) (tgt := 48) hx hb dJ5_append_c97b9_34 (by decide) ?_
  refine lv_aload_n (pc := 48) hx hb dJ5_append_c97b9_48 rfl (lv_at hl 2 rfl) ?_
  refine lv_iload_n (pc := 49) hx hb dJ5_append_c97b9_49 rfl (lv_at hl 0 rfl) ?_
  refine sx_putc (pc := 50) hx hb hts hown hK hR hF hXD hS q_f_J5_79 dJ5_append_c97b9_50 (fun H locs hR hF hXD hS => ?_)
  refine lv_aload_n (pc := 53) hx hb dJ5_append_c97b9_53 rfl (lv_at hl 2 rfl) ?_
  refine xg_r (pc := 54) hx hb hr (Or.inl ⟨_, rfl⟩) hlocks ⟨rfl, v1, cap1, ml, f2, rfl, hcap1, hq1, sb_latPut hL (fun j hj => by rw [hk1 j hj]; exact hff j (by omega)) (fun i hi => ?_), hk3⟩ hF hXD hR hK hS (Nat.le_of_ble_eq_true rfl) (Nat.le_of_ble_eq_true rfl) dJ5_append_c97b9_54
  have h9 := hk2 (sb_dg w - 1 - i) (by omega)
  rw [show n + sb_dg w - 1 - (sb_dg w - 1 - i) = n + i by omega] at h9
  exact ⟨by unfold sb_dec; omega, h9⟩
set_option maxHeartbeats 1000000 in
set_option maxRecDepth 20000 in
theorem mJ4_append_cf468 {l : Launch} {D : va_G} {ca : Nat → ClassId} {z : Nat} {G : xG} {ad av : Nat → Nat} {sb od : Nat} {fd : Nat → UInt64} {μ : xM} {X : va_W} {n : Nat} {t : Nat → Nat} (hX : xTx ca sb od fd n t X) (hF : xFix z G X) (hXD : va_D (fun q => z ≤ q) X) {c0 : Nat} (hc : c0 < 256) (hn2 : n + 1 ≤ 34) : xZ l yJ4_append_cf468 (xws yJ4_append_cf468 cJ4_append_cf468 2 (some (.object "java/lang/StringBuilder"))) 5 1 34 D ca z G X ad av [.ref sb, .int (nI c0)] μ (xQr D ca z G μ (fun a X1 => a = sb ∧ xTx ca sb od fd (n + 1) (sb_cat t n (fun _ => c0)) X1)) := by
  obtain ⟨v, cap, ml, f, rfl, hcap, hn, hL, hf⟩ := hX
  refine xm_g (by decide) rfl (Nat.le_of_ble_eq_true rfl) [(0, .ref sb), (1, .int (nI c0))] rfl ?_
  intro p e s m args below meth c ls hx hb hr hml hlocks hts hown hK hE hR hS hl
  have hts : ∀ w ∈ xAll, w.before args s = true := fun w hw => hts w (List.mem_cons_of_mem _ hw)
  refine lv_aload_n (pc := 0) hx hb dJ4_append_cf468_0 rfl (lv_at hl 0 rfl) ?_
  refine lv_iload_n (pc := 1) hx hb dJ4_append_cf468_1 rfl (lv_at hl 1 rfl) ?_
  refine xq_r (pc := 2) (va_runSU (As := [.int _]) (rest := []) (xSat hK) ⟨hx, hb, hml, hown, hts⟩ (mJ5_append_3fe6f hF hXD hcap hn hL hf hc hn2) (xcwU 1 hts q_instanceMethod_J5_append_3fe6f q_same_J5_append_3fe6f q_super_J4 q_initialized_J5 q_code_J5_append_3fe6f (by decide +kernel) q_m_J4_50 ⟨Nat.le_of_ble_eq_true rfl, Nat.le_of_ble_eq_true rfl⟩) ⟨xSt_blind, xSr hK hR, xSt_at hR hK hE hS⟩ rfl rfl hl.1 rfl (lv_room (Nat.le_of_ble_eq_true rfl)) dJ4_append_cf468_2 ⟨Nat.le_of_ble_eq_true rfl, Nat.le_of_ble_eq_true rfl⟩) hS (fun a X1 H locs hk hF hXD hR hS => ?_)
  have hk := hk.2
  refine lv_pop (pc := 5) hx hb dJ4_append_cf468_5 rfl ?_
  refine lv_aload_n (pc := 6) hx hb dJ4_append_cf468_6 rfl (lv_at hl 0 rfl) ?_
  exact xg_r (pc := 7) hx hb hr (Or.inl ⟨_, rfl⟩) hlocks ⟨rfl, hk⟩ hF hXD hR hK hS (Nat.le_of_ble_eq_true rfl) (Nat.le_of_ble_eq_true rfl) dJ4_append_cf468_7
set_option maxHeartbeats 1000000 in
set_option maxRecDepth 20000 in
theorem mJ4_append_bf812 {l : Launch} {D : va_G} {ca : Nat → ClassId} {z : Nat} {G : xG} {ad av : Nat → Nat} {sb od : Nat} {fd : Nat → UInt64} {μ : xM} {X : va_W} {n : Nat} {t : Nat → Nat} (hX : xTx ca sb od fd n t X) (hF : xFix z G X) (hXD : va_D (fun q => z ≤ q) X) {w : Nat} (hw : w < 1000) (hn2 : n + sb_dg w ≤ 34) : xZ l yJ4_append_bf812 (xws yJ4_append_bf812 cJ4_append_bf812 2 (some (.object "java/lang/StringBuilder"))) 5 1 34 D ca z G X ad av [.ref sb, .int (nI w)] μ (xQr D ca z G μ (fun a X1 => a = sb ∧ xTx ca sb od fd (n + sb_dg w) (sb_cat t n (sb_dec w)) X1)) := by
  obtain ⟨v, cap, ml, f, rfl, hcap, hn, hL, hf⟩ := hX
  refine xm_g (by decide) rfl (Nat.le_of_ble_eq_true rfl) [(0, .ref sb), (1, .int (nI w))] rfl ?_
  intro p e s m args below meth c ls hx hb hr hml hlocks hts hown hK hE hR hS hl
  have hts : ∀ w ∈ xAll, w.before args s = true := fun w hw => hts w (List.mem_cons_of_mem _ hw)
  refine lv_aload_n (pc := 0) hx hb dJ4_append_bf812_0 rfl (lv_at hl 0 rfl) ?_
  refine lv_iload_n (pc := 1) hx hb dJ4_append_bf812_1 rfl (lv_at hl 1 rfl) ?_
  refine xq_r (pc := 2) (va_runSU (As := [.int _]) (rest := []) (xSat hK) ⟨hx, hb, hml, hown, hts⟩ (mJ5_append_c97b9 hF hXD hcap hn hL hf hw hn2) (xcwU 1 hts q_instanceMethod_J5_append_c97b9 q_same_J5_append_c97b9 q_super_J4 q_initialized_J5 q_code_J5_append_c97b9 (by decide +kernel) q_m_J4_53 ⟨Nat.le_of_ble_eq_true rfl, Nat.le_of_ble_eq_true rfl⟩) ⟨xSt_blind, xSr hK hR, xSt_at hR hK hE hS⟩ rfl rfl hl.1 rfl (lv_room (Nat.le_of_ble_eq_true rfl)) dJ4_append_bf812_2 ⟨Nat.le_of_ble_eq_true rfl, Nat.le_of_ble_eq_true rfl⟩) hS (fun a X1 H locs hk hF hXD hR hS => ?_)
  have hk := hk.2
  refine lv_pop (pc := 5) hx hb dJ4_append_bf812_5 rfl ?_
  refine lv_aload_n (pc := 6) hx hb dJ4_append_bf812_6 rfl (lv_at hl 0 rfl) ?_
  exact xg_r (pc := 7) hx hb hr (Or.inl ⟨_, rfl⟩) hlocks ⟨rfl, hk⟩ hF hXD hR hK hS (Nat.le_of_ble_eq_true rfl) (Nat.le_of_ble_eq_true rfl) dJ4_append_bf812_7
set_option maxHeartbeats 1000000 in
set_option maxRecDepth 20000 in
theorem mJ4_setLength_d00df {l : Launch} {D : va_G} {ca : Nat → ClassId} {z : Nat} {G : xG} {ad av : Nat → Nat} {sb od : Nat} {fd : Nat → UInt64} {μ : xM} {X : va_W} {n : Nat} {t : Nat → Nat} (hX : xTx ca sb od fd n t X) (hF : xFix z G X) (hXD : va_D (fun q => z ≤ q) X) : xZ l yJ4_setLength_d00df (xws yJ4_setLength_d00df cJ4_setLength_d00df 2 none) 5 1 34 D ca z G X ad av [.ref sb, .int 0] μ (xQv D ca z G μ (fun X1 => xTx ca sb od fd 0 t X1)) := by
  obtain ⟨v, cap, ml, f, rfl, hcap, hn, hL, hf⟩ := hX
  refine xm_g (by decide) rfl (Nat.le_of_ble_eq_true rfl) [(0, .ref sb), (1, .int 0)] rfl ?_
  intro p e s m args below meth c ls hx hb hr hml hlocks hts hown hK hE hR hS hl
  have hts : ∀ w ∈ xAll, w.before args s = true := fun w hw => hts w (List.mem_cons_of_mem _ hw)
  refine lv_aload_n (pc := 0) hx hb dJ4_setLength_d00df_0 rfl (lv_at hl 0 rfl) ?_
  refine lv_iload_n (pc := 1) hx hb dJ4_setLength_d00df_1 rfl (lv_at hl 1 rfl) ?_
  refine xq_v (pc := 2) (va_runSU (As := [.int _]) (rest := []) (xSat hK) ⟨hx, hb, hml, hown, hts⟩ (mJ5_setLength_d00df hF hXD hcap hn hL hf) (xcwU 1 hts q_instanceMethod_J5_setLength_d00df q_same_J5_setLength_d00df q_super_J4 q_initialized_J5 q_code_J5_setLength_d00df (by decide +kernel) q_m_J4_333 ⟨Nat.le_of_ble_eq_true rfl, Nat.le_of_ble_eq_true rfl⟩) ⟨xSt_blind, xSr hK hR, xSt_at hR hK hE hS⟩ rfl rfl hl.1 rfl (lv_room (Nat.le_of_ble_eq_true rfl)) dJ4_setLength_d00df_2 ⟨Nat.le_of_ble_eq_true rfl, Nat.le_of_ble_eq_true rfl⟩) hS (fun X1 H locs hk hF hXD hR hS => ?_)
  exact xg_v (pc := 5) hx hb hr hlocks hk hF hXD hR hK hS (Nat.le_of_ble_eq_true rfl) (Nat.le_of_ble_eq_true rfl) dJ4_setLength_d00df_5
set_option maxHeartbeats 1000000 in
set_option maxRecDepth 20000 in
theorem mJ4_length_8abf5 {l : Launch} {D : va_G} {ca : Nat → ClassId} {z : Nat} {G : xG} {ad av : Nat → Nat} {sb od : Nat} {fd : Nat → UInt64} {μ : xM} {X : va_W} {n : Nat} {t : Nat → Nat} (hX : xTx ca sb od fd n t X) (hF : xFix z G X) (hXD : va_D (fun q => z ≤ q) X) : xMi l yJ4_length_8abf5 (xws yJ4_length_8abf5 cJ4_length_8abf5 1 (some .int)) 1 D ca z G X ad av [.ref sb] μ (nI n) μ := by
  obtain ⟨v, cap, ml, f, rfl, hcap, hn, hL, hf⟩ := hX
  refine xm_i (by decide) rfl (Nat.le_of_ble_eq_true rfl) [(0, .ref sb)] rfl ?_
  intro p e s m args below meth c ls hx hb hr hml hlocks hts hown hK hE hR hS hl
  have hts : ∀ w ∈ xAll, w.before args s = true := fun w hw => hts w (List.mem_cons_of_mem _ hw)
  refine lv_aload_n (pc := 0) hx hb dJ4_length_8abf5_0 rfl (lv_at hl 0 rfl) ?_
  refine va_calli (pc := 1) (va_runSU (As := []) (rest := []) (xSat hK) ⟨hx, hb, hml, hown, hts⟩ (mJ5_length_8abf5) (xcwU 0 hts q_instanceMethod_J5_length_8abf5 q_same_J5_length_8abf5 q_super_J4 q_initialized_J5 q_code_J5_length_8abf5 (by decide +kernel) q_m_J4_343 ⟨Nat.le_of_ble_eq_true rfl, Nat.le_of_ble_eq_true rfl⟩) ⟨xSt_blind, xSr hK hR, xSt_at hR hK hE hS⟩ rfl rfl hl.1 rfl (lv_room (Nat.le_of_ble_eq_true rfl)) dJ4_length_8abf5_1 ⟨Nat.le_of_ble_eq_true rfl, Nat.le_of_ble_eq_true rfl⟩) hS (fun q _ h => h) (fun q h => h) (fun r1 u t1 H locs ht hvm hw hB hz1 hk1 hS => ?_)
  obtain ⟨hR1, -⟩ := hB
  rw [ht] at hR1
  subst hw
  exact xf_i (pc := 4) hx hb hr rfl hlocks rfl hR1 hK hS dJ4_length_8abf5_4
set_option maxHeartbeats 1000000 in
set_option maxRecDepth 20000 in
theorem mJ4_charAt_5068e {l : Launch} {D : va_G} {ca : Nat → ClassId} {z : Nat} {G : xG} {ad av : Nat → Nat} {sb od : Nat} {fd : Nat → UInt64} {μ : xM} {X : va_W} {n : Nat} {t : Nat → Nat} (hX : xTx ca sb od fd n t X) (hF : xFix z G X) (hXD : va_D (fun q => z ≤ q) X) {j : Nat} (hj : j < n) : xMi l yJ4_charAt_5068e (xws yJ4_charAt_5068e cJ4_charAt_5068e 2 (some .char)) 3 D ca z G X ad av [.ref sb, .int (nI j)] μ (nI (t j)) μ := by
  obtain ⟨v, cap, ml, f, rfl, hcap, hn, hL, hf⟩ := hX
  refine xm_i (by decide) rfl (Nat.le_of_ble_eq_true rfl) [(0, .ref sb), (1, .int (nI j))] rfl ?_
  intro p e s m args below meth c ls hx hb hr hml hlocks hts hown hK hE hR hS hl
  have hts : ∀ w ∈ xAll, w.before args s = true := fun w hw => hts w (List.mem_cons_of_mem _ hw)
  refine lv_aload_n (pc := 0) hx hb dJ4_charAt_5068e_0 rfl (lv_at hl 0 rfl) ?_
  refine lv_iload_n (pc := 1) hx hb dJ4_charAt_5068e_1 rfl (lv_at hl 1 rfl) ?_
  refine va_calli (pc := 2) (va_runSU (As := [.int _]) (rest := []) (xSat hK) ⟨hx, hb, hml, hown, hts⟩ (mJ5_charAt_5068e hF hXD hcap hn hL hf hj) (xcwU 1 hts q_instanceMethod_J5_charAt_5068e q_same_J5_charAt_5068e q_super_J4 q_initialized_J5 q_code_J5_charAt_5068e (by decide +kernel) q_m_J4_329 ⟨Nat.le_of_ble_eq_true rfl, Nat.le_of_ble_eq_true rfl⟩) ⟨xSt_blind, xSr hK hR, xSt_at hR hK hE hS⟩ rfl rfl hl.1 rfl (lv_room (Nat.le_of_ble_eq_true rfl)) dJ4_charAt_5068e_2 ⟨Nat.le_of_ble_eq_true rfl, Nat.le_of_ble_eq_true rfl⟩) hS (fun q _ h => h) (fun q h => h) (fun r1 u t1 H locs ht hvm hw hB hz1 hk1 hS => ?_)
  obtain ⟨hR1, -⟩ := hB
  rw [ht] at hR1
  subst hw
  exact xf_i (pc := 5) hx hb hr (xnc (hL j hj).1) hlocks rfl hR1 hK hS dJ4_charAt_5068e_5
