theorem xOcc.cast {z N N1 : Nat} {G : xG} {X : va_W} (e : N = N1) (h : xOcc z G X N) : xOcc z G X N1 := e ▸ h
theorem xAb4 {D : va_G} {ca : Nat → ClassId} {z N : Nat} {G : xG} {S S1 : Nat → Bool} {X : va_W} {μ : xM} {H : Heap} {a : Nat} {v : va_E} (hR : xRep D ca (xGs G S) ((a, v) :: X) μ H) (hF : xFix z (xGs G S) ((a, v) :: X)) (hD : va_D (fun q => z ≤ q) ((a, v) :: X)) (hO : xOcc z (xGs G S) ((a, v) :: X) N) (h12 : S1 a = true ∧ ∀ b, b ≠ a → S1 b = S b) (he : G.1 a ≠ 0 ∧ (va_at D vwCl (a, v) H → xAt D ca G μ a H)) : xRep D ca (xGs G S1) X μ H ∧ xFix z (xGs G S1) X ∧ va_D (fun q => z ≤ q) X ∧ xOcc z (xGs G S1) X N := by
  obtain ⟨h1, h2, h3⟩ := xAbs hR hF hD h12.1 h12.2 he.2
  exact ⟨h1, h2, h3, hO.abs h12.1 he.1 h12.2⟩
theorem xne0 {n k : Nat} (h : n = k + 1) : n ≠ 0 := by omega
theorem xrf_upv {n st a t v : Nat} (hv : v = a + st * t) (ht : t < n) : va_up (fun j => if j < t then some (a + st * j) else none) t (some v) = fun j => if j < t + 1 then some (a + st * j) else none := by
  subst hv
  exact xrf_up ht
theorem W.cast9 {p : Program} {l : Launch} {e : Env} {R : Room} {s : State} {m : MethodId} {args : Array Value} {below : List Frame} {meth : Method} {c : Code} {H : Heap} {locs : List Loc} {cells slots c1 s1 : Nat} {Q : State → Prop} {g : JFrame} (h1 : c1 = cells) (h2 : s1 = slots) (h : W p l e R s m args below meth c H locs c1 s1 Q g) : W p l e R s m args below meth c H locs cells slots Q g := by
  subst h1
  subst h2
  exact h
theorem dfX0 : ∀ j, j < 8 → defaultValue (tyX0 j) = vp_V [.null, .null, .null, .int 0, .int 0, .int 0, .int 0, .int 0] j := by
  intro j hj
  have : ∀ j, j < 8 → defaultValue (tyX0 j) = vp_V [.null, .null, .null, .int 0, .int 0, .int 0, .int 0, .int 0] j := by decide
  exact this j hj
theorem dfX1 : ∀ j, j < 1 → defaultValue (tyX1 j) = vp_V (List.replicate 1 (.int 0)) j := by
  intro j hj
  have : ∀ j, j < 1 → defaultValue (tyX1 j) = vp_V (List.replicate 1 (.int 0)) j := by decide
  exact this j hj
theorem dfX2 : ∀ j, j < 3 → defaultValue (tyX2 j) = vp_V [.null, .int 0, .int 0] j := by
  intro j hj
  have : ∀ j, j < 3 → defaultValue (tyX2 j) = vp_V [.null, .int 0, .int 0] j := by decide
  exact this j hj
theorem dfX3 : ∀ j, j < 5 → defaultValue (tyX3 j) = vp_V [.null, .null, .int 0, .int 0, .int 0] j := by
  intro j hj
  have : ∀ j, j < 5 → defaultValue (tyX3 j) = vp_V [.null, .null, .int 0, .int 0, .int 0] j := by decide
  exact this j hj
theorem dfX4 : ∀ j, j < 5 → defaultValue (tyX4 j) = vp_V (List.replicate 5 (.int 0)) j := by
  intro j hj
  have : ∀ j, j < 5 → defaultValue (tyX4 j) = vp_V (List.replicate 5 (.int 0)) j := by decide
  exact this j hj
theorem dfX5 : ∀ j, j < 12 → defaultValue (tyX5 j) = vp_V (List.replicate 12 (.int 0)) j := by
  intro j hj
  have : ∀ j, j < 12 → defaultValue (tyX5 j) = vp_V (List.replicate 12 (.int 0)) j := by decide
  exact this j hj
theorem dfX6 : ∀ j, j < 4 → defaultValue (tyX6 j) = vp_V (List.replicate 4 (.int 0)) j := by
  intro j hj
  have : ∀ j, j < 4 → defaultValue (tyX6 j) = vp_V (List.replicate 4 (.int 0)) j := by decide
  exact this j hj
theorem dfX7 : ∀ j, j < 11 → defaultValue (tyX7 j) = vp_V [.null, .null, .null, .int 0, .null, .null, .null, .null, .null, .null, .int 0] j := by
  intro j hj
  have : ∀ j, j < 11 → defaultValue (tyX7 j) = vp_V [.null, .null, .null, .int 0, .null, .null, .null, .null, .null, .null, .int 0] j := by decide
  exact this j hj
theorem dfX8 : ∀ j, j < 20 → defaultValue (tyX8 j) = vp_V [.null, .null, .null, .null, .int 0, .int 0, .int 0, .int 0, .int 0, .int 0, .int 0, .int 0, .null, .int 0, .int 0, .null, .int 0, .int 0, .null, .int 0] j := by
  intro j hj
  have : ∀ j, j < 20 → defaultValue (tyX8 j) = vp_V [.null, .null, .null, .null, .int 0, .int 0, .int 0, .int 0, .int 0, .int 0, .int 0, .int 0, .null, .int 0, .int 0, .null, .int 0, .int 0, .null, .int 0] j := by decide
  exact this j hj
theorem dfJ4 : ∀ j, j < 4 → defaultValue (tyJ4 j) = vp_V [.null, .int 0, .int 0, .int 0] j := by
  intro j hj
  have : ∀ j, j < 4 → defaultValue (tyJ4 j) = vp_V [.null, .int 0, .int 0, .int 0] j := by decide
  exact this j hj
set_option maxHeartbeats 1000000 in
set_option maxRecDepth 20000 in
theorem mX1_init {l : Launch} {D : va_G} {ca : Nat → ClassId} {z n : Nat} {G : xG} {ad av : Nat → Nat} {S : Nat → Bool} {X : va_W} {μ : xM} {b : Nat} (hF : xFix z (xGs G S) X) (hXD : va_D (fun q => z ≤ q) X) (hO : xOcc z (xGs G S) X n) : xCt l yX1_init (xws yX1_init cX1_init 1 none) 1 0 0 D ca z G S X ad av [.ref b] μ n S X := by
  refine xm_c (by decide) rfl rfl (Nat.le_of_ble_eq_true rfl) [(0, .ref b)] rfl ?_
  intro p e s m args below meth c ls hx hb hr hml hlocks hin hts hown hK hE hR hS hAO hsz hl
  have hts : ∀ w ∈ xAll, w.before args s = true := fun w hw => hts w (List.mem_cons_of_mem _ hw)
  refine lv_aload_n (pc := 0) hx hb dX1_init_0 rfl (lv_at hl 0 rfl) ?_
  refine xn_obj (pc := 1) hx hb hts hown q_m_X1_3 (hl.1.trans hml.symm) (Nat.le_of_ble_eq_true rfl) (Nat.le_of_ble_eq_true rfl) dX1_init_1 q_oi_inst q_oi_code ?_
  exact xg_c (pc := 4) hx hb hr hlocks hF hXD hO rfl hR hK hS (Nat.le_of_ble_eq_true rfl) (Nat.le_of_ble_eq_true rfl) dX1_init_4
set_option maxHeartbeats 1000000 in
set_option maxRecDepth 20000 in
theorem mX4_init {l : Launch} {D : va_G} {ca : Nat → ClassId} {z n : Nat} {G : xG} {ad av : Nat → Nat} {S : Nat → Bool} {X : va_W} {μ : xM} {b : Nat} (hF : xFix z (xGs G S) X) (hXD : va_D (fun q => z ≤ q) X) (hO : xOcc z (xGs G S) X n) : xCt l yX4_init (xws yX4_init cX4_init 1 none) 1 0 0 D ca z G S X ad av [.ref b] μ n S X := by
  refine xm_c (by decide) rfl rfl (Nat.le_of_ble_eq_true rfl) [(0, .ref b)] rfl ?_
  intro p e s m args below meth c ls hx hb hr hml hlocks hin hts hown hK hE hR hS hAO hsz hl
  have hts : ∀ w ∈ xAll, w.before args s = true := fun w hw => hts w (List.mem_cons_of_mem _ hw)
  refine lv_aload_n (pc := 0) hx hb dX4_init_0 rfl (lv_at hl 0 rfl) ?_
  refine xn_obj (pc := 1) hx hb hts hown q_m_X4_1 (hl.1.trans hml.symm) (Nat.le_of_ble_eq_true rfl) (Nat.le_of_ble_eq_true rfl) dX4_init_1 q_oi_inst q_oi_code ?_
  exact xg_c (pc := 4) hx hb hr hlocks hF hXD hO rfl hR hK hS (Nat.le_of_ble_eq_true rfl) (Nat.le_of_ble_eq_true rfl) dX4_init_4
set_option maxHeartbeats 1000000 in
set_option maxRecDepth 20000 in
theorem mX5_init {l : Launch} {D : va_G} {ca : Nat → ClassId} {z n : Nat} {G : xG} {ad av : Nat → Nat} {S : Nat → Bool} {X : va_W} {μ : xM} {b : Nat} (hF : xFix z (xGs G S) X) (hXD : va_D (fun q => z ≤ q) X) (hO : xOcc z (xGs G S) X n) : xCt l yX5_init (xws yX5_init cX5_init 1 none) 1 0 0 D ca z G S X ad av [.ref b] μ n S X := by
  refine xm_c (by decide) rfl rfl (Nat.le_of_ble_eq_true rfl) [(0, .ref b)] rfl ?_
  intro p e s m args below meth c ls hx hb hr hml hlocks hin hts hown hK hE hR hS hAO hsz hl
  have hts : ∀ w ∈ xAll, w.before args s = true := fun w hw => hts w (List.mem_cons_of_mem _ hw)
  refine lv_aload_n (pc := 0) hx hb dX5_init_0 rfl (lv_at hl 0 rfl) ?_
  refine xn_obj (pc := 1) hx hb hts hown q_m_X5_3 (hl.1.trans hml.symm) (Nat.le_of_ble_eq_true rfl) (Nat.le_of_ble_eq_true rfl) dX5_init_1 q_oi_inst q_oi_code ?_
  exact xg_c (pc := 4) hx hb hr hlocks hF hXD hO rfl hR hK hS (Nat.le_of_ble_eq_true rfl) (Nat.le_of_ble_eq_true rfl) dX5_init_4
set_option maxHeartbeats 1000000 in
set_option maxRecDepth 20000 in
theorem mX6_init {l : Launch} {D : va_G} {ca : Nat → ClassId} {z n : Nat} {G : xG} {ad av : Nat → Nat} {S : Nat → Bool} {X : va_W} {μ : xM} {b : Nat} (hF : xFix z (xGs G S) X) (hXD : va_D (fun q => z ≤ q) X) (hO : xOcc z (xGs G S) X n) : xCt l yX6_init (xws yX6_init cX6_init 1 none) 1 0 0 D ca z G S X ad av [.ref b] μ n S X := by
  refine xm_c (by decide) rfl rfl (Nat.le_of_ble_eq_true rfl) [(0, .ref b)] rfl ?_
  intro p e s m args below meth c ls hx hb hr hml hlocks hin hts hown hK hE hR hS hAO hsz hl
  have hts : ∀ w ∈ xAll, w.before args s = true := fun w hw => hts w (List.mem_cons_of_mem _ hw)
  refine lv_aload_n (pc := 0) hx hb dX6_init_0 rfl (lv_at hl 0 rfl) ?_
  refine xn_obj (pc := 1) hx hb hts hown q_m_X6_1 (hl.1.trans hml.symm) (Nat.le_of_ble_eq_true rfl) (Nat.le_of_ble_eq_true rfl) dX6_init_1 q_oi_inst q_oi_code ?_
  exact xg_c (pc := 4) hx hb hr hlocks hF hXD hO rfl hR hK hS (Nat.le_of_ble_eq_true rfl) (Nat.le_of_ble_eq_true rfl) dX6_init_4
set_option maxHeartbeats 1000000 in
set_option maxRecDepth 20000 in
theorem mX0_init {l : Launch} {D : va_G} {ca : Nat → ClassId} {z : Nat} {G : xG} {ad av : Nat → Nat} {S : Nat → Bool} {X : va_W} {μ : xM} {b : Nat} (hL : xL_Bank G μ b) (hF : xFix z (xGs G S) ((b, .inr (4, [.null, .null, .null, .int 0, .int 0, .int 0, .int 0, .int 0])) :: X)) (hXD : va_D (fun q => z ≤ q) ((b, .inr (4, [.null, .null, .null, .int 0, .int 0, .int 0, .int 0, .int 0])) :: X)) (hO : xOcc z (xGs G S) ((b, .inr (4, [.null, .null, .null, .int 0, .int 0, .int 0, .int 0, .int 0])) :: X) (b + 1)) (hz : z ≤ b) : xCt l yX0_init (xws yX0_init cX0_init 2 none) 2 19 220 D ca z G S ((b, .inr (4, [.null, .null, .null, .int 0, .int 0, .int 0, .int 0, .int 0])) :: X) ad av [.ref b] μ (b + 1) (xRg S (b + 1) (b + 20)) ((b, .inr (4, [.ref (b + 1), .ref (b + 18), .ref (b + 19), .int 0, .int 0, .int 20, .int 5, .int 2000])) :: X) := by
  refine xm_c (by decide) rfl rfl (Nat.le_of_ble_eq_true rfl) [(0, .ref b)] rfl ?_
  intro p e s m args below meth c ls hx hb hr hml hlocks hin hts hown hK hE hR hS hAO hsz hl
  have hts : ∀ w ∈ xAll, w.before args s = true := fun w hw => hts w (List.mem_cons_of_mem _ hw)
  refine lv_aload_n (pc := 0) hx hb dX0_init_0 rfl (lv_at hl 0 rfl) ?_
  refine xn_obj (pc := 1) hx hb hts hown q_m_X0_3 (hl.1.trans hml.symm) (Nat.le_of_ble_eq_true rfl) (Nat.le_of_ble_eq_true rfl) dX0_init_1 q_oi_inst q_oi_code ?_
  refine lv_aload_n (pc := 4) hx hb dX0_init_4 rfl (lv_at hl 0 rfl) ?_
  refine lv_bipush (pc := 5) hx hb dX0_init_5 kb_16 ?_
  refine xn_anew 6 (N1 := b + 1) (pc := 7) hx hb hown q_cl_X0_9 hAO.2.2 rfl hts hK hR hF hXD hS hsz hO (by omega) (by omega) (N' := 16) (by decide) (by decide) (Nat.le_of_ble_eq_true rfl) (Nat.le_of_ble_eq_true rfl) (Nat.le_of_ble_eq_true rfl) dX0_init_7 (fun H hR hF hXD hS hO => ?_)
  refine xn_putF (ci := 4) (ty := .array (.object RX5)) (pc := 10) hx hb hts inX0 tyX0 tyX0_ok nmX0 hown hK hR hF hXD hS hO 1 rfl rfl 0 (Nat.le_of_ble_eq_true rfl) q_f_X0_11 (fun _ h9 => h9) rfl hin rfl rfl rfl rfl (Nat.le_of_ble_eq_true rfl) dX0_init_10 ((b + 1, .inl (ca 6, 16, .inr (.inr (.inr (.inr (fun _ => none)))))) :: (b, .inr (4, [.ref (b + 1), .null, .null, .int 0, .int 0, .int 0, .int 0, .int 0])) :: X) rfl (fun H locs hR hF hXD hS hO => ?_)
  refine lv_iconst (pc := 13) hx hb dX0_init_13 kc_0 ?_
  refine lv_istore_n (pc := 14) (lv' := [(1, .int _), (0, .ref _)]) hx hb dX0_init_14 rfl hl (Nat.le_of_ble_eq_true rfl) rfl (fun ls hl => ?_)
  have loop : ∀ (u t : Nat), t + u = 16 → ∀ (H : Heap) (locs : List Loc) (ls : Array Slot), xRep D ca (xGs G (xRg S (b + 2) (b + 2 + t))) ((b + 1, .inl (ca 6, 16, .inr (.inr (.inr (.inr (fun j => if j < t then some (b + 2 + 1 * j) else none)))))) :: (b, .inr (4, [.ref (b + 1), .null, .null, .int 0, .int 0, .int 0, .int 0, .int 0])) :: X) μ H → xFix z (xGs G (xRg S (b + 2) (b + 2 + t))) ((b + 1, .inl (ca 6, 16, .inr (.inr (.inr (.inr (fun j => if j < t then some (b + 2 + 1 * j) else none)))))) :: (b, .inr (4, [.ref (b + 1), .null, .null, .int 0, .int 0, .int 0, .int 0, .int 0])) :: X) → va_D (fun q => z ≤ q) ((b + 1, .inl (ca 6, 16, .inr (.inr (.inr (.inr (fun j => if j < t then some (b + 2 + 1 * j) else none)))))) :: (b, .inr (4, [.ref (b + 1), .null, .null, .int 0, .int 0, .int 0, .int 0, .int 0])) :: X) → va_S (fun q => z ≤ q) s.heap H locs → xOcc z (xGs G (xRg S (b + 2) (b + 2 + t))) ((b + 1, .inl (ca 6, 16, .inr (.inr (.inr (.inr (fun j => if j < t then some (b + 2 + 1 * j) else none)))))) :: (b, .inr (4, [.ref (b + 1), .null, .null, .int 0, .int 0, .int 0, .int 0, .int 0])) :: X) (b + 2 + t) → lv_has ls 2 [(1, .int (nI t)), (0, .ref b)] → W p l e (xRm 2 19 220) s m args below meth c H locs (1 + t) (16 + 12 * t) (MQ below (va_Qv (fun (_ : Unit) => xFix z (xGs G (xRg S (b + 1) (b + 20))) ((b, .inr (4, [.ref (b + 1), .ref (b + 18), .ref (b + 19), .int 0, .int 0, .int 20, .int 5, .int 2000])) :: X) ∧ va_D (fun q => z ≤ q) ((b, .inr (4, [.ref (b + 1), .ref (b + 18), .ref (b + 19), .int 0, .int 0, .int 20, .int 5, .int 2000])) :: X) ∧ xOcc z (xGs G (xRg S (b + 1) (b + 20))) ((b, .inr (4, [.ref (b + 1), .ref (b + 18), .ref (b + 19), .int 0, .int 0, .int 20, .int 5, .int 2000])) :: X) (b + 1 + 19)) (fun _ t => xB D ca (xGs G (xRg S (b + 1) (b + 20))) ((b, .inr (4, [.ref (b + 1), .ref (b + 18), .ref (b + 19), .int 0, .int 0, .int 20, .int 5, .int 2000])) :: X) μ t) (fun q => z ≤ q)) args s 19 220 (fun q => z ≤ q)) (F0 m 15 ls []) := by
    intro u
    induction u with
    | zero =>
      intro t ht H locs ls hR hF hXD hS hO hl
      obtain rfl : t = 16 := by omega
      refine lv_iload_n (pc := 15) hx hb dX0_init_15 rfl (lv_at hl 0 rfl) ?_
      refine lv_bipush (pc := 16) hx hb dX0_init_16 kb_16 ?_
      refine lv_icmp_ge (pc := 18) (tgt := 40) hx hb dX0_init_18 (by decide) (fun _ => ?_) (fun c1 => absurd (by decide) c1)
      refine lv_aload_n (pc := 40) hx hb dX0_init_40 rfl (lv_at hl 1 rfl) ?_
      refine lv_bipush (pc := 41) hx hb dX0_init_41 kb_6 ?_
      refine xn_newa (atype := .int) (ty := .int) 0 (N1 := b + 18) (pc := 43) hx hb q_arr_int rfl rfl xRA1 hts hK hR hF hXD hS hsz hO (by omega) (by omega) (N' := 6) (a0 := ((6, .inl (fun _ => 0)) : vp_A)) (fun cA => rfl) (by decide) (by decide) (Nat.le_of_ble_eq_true rfl) (Nat.le_of_ble_eq_true rfl) (Nat.le_of_ble_eq_true rfl) (Nat.le_of_ble_eq_true rfl) dX0_init_43 (fun H hR hF hXD hS hO => ?_)
      refine xn_putF (ci := 4) (ty := .array .int) (pc := 45) hx hb hts inX0 tyX0 tyX0_ok nmX0 hown hK hR hF hXD hS hO 2 rfl rfl 1 (Nat.le_of_ble_eq_true rfl) q_f_X0_18 (fun _ h9 => h9) rfl hin rfl rfl rfl rfl (Nat.le_of_ble_eq_true rfl) dX0_init_45 ((b + 18, .inl (ca 0, 6, .inl (fun _ => 0))) :: (b + 1, .inl (ca 6, 16, .inr (.inr (.inr (.inr (fun j => if j < 16 then some (b + 2 + 1 * j) else none)))))) :: (b, .inr (4, [.ref (b + 1), .ref (b + 18), .null, .int 0, .int 0, .int 0, .int 0, .int 0])) :: X) rfl (fun H locs hR hF hXD hS hO => ?_)
      obtain ⟨hR, hF, hXD, hO⟩ := xAb4 hR hF hXD hO (xRg_hi (S := S) (lo := b + 2) (hi := b + 18) (by omega)) ⟨xne0 hL.2.2.2.2.1.1, xAbI (t := 0) (by decide) hL.2.2.2.2.1.1 hL.2.2.2.2.1.2.1 hL.2.2.2.2.1.2.2⟩
      refine lv_aload_n (pc := 48) hx hb dX0_init_48 rfl (lv_at hl 1 rfl) ?_
      refine lv_bipush (pc := 49) hx hb dX0_init_49 kb_6 ?_
      refine xn_newa (atype := .int) (ty := .int) 0 (N1 := b + 19) (pc := 51) hx hb q_arr_int rfl rfl xRA1 hts hK hR hF hXD hS hsz hO (by omega) (by omega) (N' := 6) (a0 := ((6, .inl (fun _ => 0)) : vp_A)) (fun cA => rfl) (by decide) (by decide) (Nat.le_of_ble_eq_true rfl) (Nat.le_of_ble_eq_true rfl) (Nat.le_of_ble_eq_true rfl) (Nat.le_of_ble_eq_true rfl) dX0_init_51 (fun H hR hF hXD hS hO => ?_)
      refine xn_putF (ci := 4) (ty := .array .int) (pc := 53) hx hb hts inX0 tyX0 tyX0_ok nmX0 hown hK hR hF hXD hS hO 2 rfl rfl 2 (Nat.le_of_ble_eq_true rfl) q_f_X0_22 (fun _ h9 => h9) rfl hin rfl rfl rfl rfl (Nat.le_of_ble_eq_true rfl) dX0_init_53 ((b + 19, .inl (ca 0, 6, .inl (fun _ => 0))) :: (b + 1, .inl (ca 6, 16, .inr (.inr (.inr (.inr (fun j => if j < 16 then some (b + 2 + 1 * j) else none)))))) :: (b, .inr (4, [.ref (b + 1), .ref (b + 18), .ref (b + 19), .int 0, .int 0, .int 0, .int 0, .int 0])) :: X) rfl (fun H locs hR hF hXD hS hO => ?_)
      obtain ⟨hR, hF, hXD, hO⟩ := xAb4 hR hF hXD hO (xRg_hi (S := S) (lo := b + 2) (hi := b + 19) (by omega)) ⟨xne0 hL.2.2.2.2.2.1, xAbI (t := 0) (by decide) hL.2.2.2.2.2.1 hL.2.2.2.2.2.2.1 hL.2.2.2.2.2.2.2⟩
      obtain ⟨hR, hF, hXD, hO⟩ := xAb4 hR hF hXD hO (xRg_lo (S := S) (lo := b + 1) (hi := b + 20) (by omega)) ⟨xne0 hL.2.2.1.1, xAbR (t := 2) (by decide) hL.2.2.1.1 hL.2.2.1.2.1 hL.2.2.1.2.2⟩
      refine lv_aload_n (pc := 56) hx hb dX0_init_56 rfl (lv_at hl 1 rfl) ?_
      refine lv_iconst (pc := 57) hx hb dX0_init_57 kc_0 ?_
      refine xn_put (ci := 4) (ty := .int) (pc := 58) hx hb hts inX0 tyX0 tyX0_ok nmX0 hown hK hR hF hXD hS hO 0 rfl rfl 3 (Nat.le_of_ble_eq_true rfl) q_f_X0_25 (fun _ h9 => h9) rfl rfl rfl rfl (Nat.le_of_ble_eq_true rfl) dX0_init_58 ((b, .inr (4, [.ref (b + 1), .ref (b + 18), .ref (b + 19), .int 0, .int 0, .int 0, .int 0, .int 0])) :: X) rfl (fun H locs hR hF hXD hS hO => ?_)
      refine lv_aload_n (pc := 61) hx hb dX0_init_61 rfl (lv_at hl 1 rfl) ?_
      refine lv_iconst (pc := 62) hx hb dX0_init_62 kc_0 ?_
      refine xn_put (ci := 4) (ty := .int) (pc := 63) hx hb hts inX0 tyX0 tyX0_ok nmX0 hown hK hR hF hXD hS hO 0 rfl rfl 4 (Nat.le_of_ble_eq_true rfl) q_f_X0_29 (fun _ h9 => h9) rfl rfl rfl rfl (Nat.le_of_ble_eq_true rfl) dX0_init_63 ((b, .inr (4, [.ref (b + 1), .ref (b + 18), .ref (b + 19), .int 0, .int 0, .int 0, .int 0, .int 0])) :: X) rfl (fun H locs hR hF hXD hS hO => ?_)
      refine lv_aload_n (pc := 66) hx hb dX0_init_66 rfl (lv_at hl 1 rfl) ?_
      refine lv_bipush (pc := 67) hx hb dX0_init_67 kb_20 ?_
      refine xn_put (ci := 4) (ty := .int) (pc := 69) hx hb hts inX0 tyX0 tyX0_ok nmX0 hown hK hR hF hXD hS hO 0 rfl rfl 5 (Nat.le_of_ble_eq_true rfl) q_f_X0_32 (fun _ h9 => h9) rfl rfl rfl rfl (Nat.le_of_ble_eq_true rfl) dX0_init_69 ((b, .inr (4, [.ref (b + 1), .ref (b + 18), .ref (b + 19), .int 0, .int 0, .int 20, .int 0, .int 0])) :: X) rfl (fun H locs hR hF hXD hS hO => ?_)
      refine lv_aload_n (pc := 72) hx hb dX0_init_72 rfl (lv_at hl 1 rfl) ?_
      refine lv_iconst (pc := 73) hx hb dX0_init_73 kc_5 ?_
      refine xn_put (ci := 4) (ty := .int) (pc := 74) hx hb hts inX0 tyX0 tyX0_ok nmX0 hown hK hR hF hXD hS hO 0 rfl rfl 6 (Nat.le_of_ble_eq_true rfl) q_f_X0_35 (fun _ h9 => h9) rfl rfl rfl rfl (Nat.le_of_ble_eq_true rfl) dX0_init_74 ((b, .inr (4, [.ref (b + 1), .ref (b + 18), .ref (b + 19), .int 0, .int 0, .int 20, .int 5, .int 0])) :: X) rfl (fun H locs hR hF hXD hS hO => ?_)
      refine lv_aload_n (pc := 77) hx hb dX0_init_77 rfl (lv_at hl 1 rfl) ?_
      refine lv_sipush (pc := 78) hx hb dX0_init_78 ks_2000 ?_
      refine xn_put (ci := 4) (ty := .int) (pc := 81) hx hb hts inX0 tyX0 tyX0_ok nmX0 hown hK hR hF hXD hS hO 0 rfl rfl 7 (Nat.le_of_ble_eq_true rfl) q_f_X0_38 (fun _ h9 => h9) rfl rfl rfl rfl (Nat.le_of_ble_eq_true rfl) dX0_init_81 ((b, .inr (4, [.ref (b + 1), .ref (b + 18), .ref (b + 19), .int 0, .int 0, .int 20, .int 5, .int 2000])) :: X) rfl (fun H locs hR hF hXD hS hO => ?_)
      exact xg_c (pc := 84) hx hb hr hlocks hF hXD hO rfl hR hK hS (Nat.le_of_ble_eq_true rfl) (Nat.le_of_ble_eq_true rfl) dX0_init_84
    | succ u ih =>
      intro t ht H locs ls hR hF hXD hS hO hl
      refine lv_iload_n (pc := 15) hx hb dX0_init_15 rfl (lv_at hl 0 rfl) ?_
      refine lv_bipush (pc := 16) hx hb dX0_init_16 kb_16 ?_
      refine lv_icmp_ge (pc := 18) (tgt := 40) hx hb dX0_init_18 (by decide) (fun c1 => absurd c1 (show ¬ nI 16 ≤ nI t from nI_ge (by omega) (by decide))) (fun _ => ?_)
      refine lv_aload_n (pc := 21) hx hb dX0_init_21 rfl (lv_at hl 1 rfl) ?_
      refine xn_get (ci := 4) (pc := 22) hx hb hts inX0 hown hK hR 1 rfl rfl 0 (Nat.le_of_ble_eq_true rfl) q_f_X0_11 (fun _ h9 => h9) rfl dX0_init_22 ?_
      refine lv_iload_n (pc := 25) hx hb dX0_init_25 rfl (lv_at hl 0 rfl) ?_
      refine xn_new (ci := 9) (N1 := b + 2 + t) (pc := 26) hx hb hts inX5 tyX5 tyX5_ok hown q_cl_X0_9 q_instantiable_X5 q_initialized_X5 hK hR hF hXD hS hsz hO (by omega) (by omega) rfl (List.replicate 12 (.int 0)) (dfX5) (by show 1 + t + 1 ≤ 19; omega) (by show 16 + 12 * t + 12 ≤ 220; omega) dX0_init_26 (fun H hR hF hXD hS hO => ?_)
      refine lv_dup (pc := 29) hx hb dX0_init_29 rfl ?_
      refine xc_inN (pc := 30) (As := []) (rest := [.ref _, .int _, .ref _]) (n := b + 2 + t + 1) ⟨hx, hb, hml, hown, hts⟩ (mX5_init hF hXD hO) (xcwIN 0 hts q_instanceMethod_X5_init q_initialized_X5 q_code_X5_init (by decide +kernel) rfl (hE.2.2.2.2.2.2.2.1 _ (List.mem_of_getElem? (i := 0) rfl)) ⟨Nat.le_of_ble_eq_true rfl, Nat.le_of_ble_eq_true rfl⟩) hR hK hE hAO hS hsz hO (by omega) (by omega) rfl hl.1 rfl (Nat.le_of_ble_eq_true rfl) dX0_init_30 ⟨by show 1 + t + 1 + 0 ≤ 19; omega, by show 16 + 12 * t + 12 + 0 ≤ 220; omega⟩ (fun H locs hR hF hXD hS hO => ?_)
      refine xn_aast 1 6 (pc := 33) hx hb hK hR hF hXD hS hO rfl rfl 0 rfl (ci := 9) rfl (nI_clamp (n := t) (by omega)) (vp_in_nI (by omega) (by decide)) dX0_init_33 ((b + 2 + t, .inr (9, List.replicate 12 (.int 0))) :: (b + 1, .inl (ca 6, 16, .inr (.inr (.inr (.inr (fun j => if j < t + 1 then some (b + 2 + 1 * j) else none)))))) :: (b, .inr (4, [.ref (b + 1), .null, .null, .int 0, .int 0, .int 0, .int 0, .int 0])) :: X) (by rw [xrf_upv (st := 1) (a := b + 2) (n := 16) (v := b + 2 + t) (by omega) (by omega)]; rfl) (fun H locs hR hF hXD hS hO => ?_)
      obtain ⟨hR, hF, hXD, hO⟩ := xAb4 hR hF hXD hO (xRg_hi (S := S) (lo := b + 2) (hi := b + 2 + t) (by omega)) ⟨xne0 (hL.2.2.2.1 t (by omega)).1, xAbN (ci := 9) (hL.2.2.2.1 t (by omega)) rfl (by decide)⟩
      refine lv_iinc (pc := 34) (lv' := [(1, .int _), (0, .ref _)]) hx hb dX0_init_34 hl (k := 0) rfl ((xinc kc_1).trans (nI_1 t)) (Nat.le_of_ble_eq_true rfl) rfl (fun ls hl => ?_)
      refine lv_goto (pc := 37) (tgt := 15) hx hb dX0_init_37 (by decide) ?_
      have h9 := ih (t + 1) (by omega) H locs ls hR hF hXD hS hO hl
      exact W.cast9 (by omega) (by omega) h9
  have hS0 : xRg S (b + 2) (b + 2) = S := xRg_nil
  refine W.cast9 (by omega) (by omega) (loop 16 0 rfl H locs ls ?_ ?_ ?_ hS ?_ (lv_sub hl [0, 1] rfl))
  · rw [show b + 2 + 0 = b + 2 from rfl, hS0]; exact hR
  · rw [show b + 2 + 0 = b + 2 from rfl, hS0]; exact hF
  · exact hXD
  · rw [show b + 2 + 0 = b + 2 from rfl, hS0]; exact hO
