theorem xRg_lo2 {S : Nat → Bool} {lo mid hi : Nat} (h1 : lo ≤ mid) (h2 : mid < hi) : xRg S lo hi mid = true ∧ ∀ c, c ≠ mid → xRg S lo hi c = xRg (xRg S lo mid) (mid + 1) hi c := by
  have := xRg_lo (S := xRg S lo mid) h2
  rw [xRg_un h1 (by omega)] at this
  exact this
theorem xAbBank {D : va_G} {ca : Nat → ClassId} {G : xG} {μ : xM} {b : Nat} {H : Heap} (hL : xL_Bank G μ b) (h : va_at D vwCl (b, .inr (4, [.ref (b + 1), .ref (b + 18), .ref (b + 19), .int 0, .int 0, .int 20, .int 5, .int 2000])) H) : xAt D ca G μ b H := by
  refine xAbO hL.1.1 (ci := 4) rfl (fun k hk => ?_) h
  match k, hk with
  | 0, _ => show Value.ref (b + 1) = va_rf (G.2.1 b 0); rw [hL.1.2.1]; rfl
  | 1, _ => show Value.ref (b + 18) = va_rf (G.2.1 b 1); rw [hL.1.2.2.1]; rfl
  | 2, _ => show Value.ref (b + 19) = va_rf (G.2.1 b 2); rw [hL.1.2.2.2]; rfl
  | 3, _ => show Value.int 0 = Value.int (μ b 3); rw [hL.2.1.1]
  | 4, _ => show Value.int 0 = Value.int (μ b 4); rw [hL.2.1.2.1]
  | 5, _ => show Value.int 20 = Value.int (μ b 5); rw [hL.2.1.2.2.1]
  | 6, _ => show Value.int 5 = Value.int (μ b 6); rw [hL.2.1.2.2.2.1]
  | 7, _ => show Value.int 2000 = Value.int (μ b 7); rw [hL.2.1.2.2.2.2]
theorem xAbHist {D : va_G} {ca : Nat → ClassId} {G : xG} {μ : xM} {b : Nat} {H : Heap} (hL : xL_History G μ b) (h : va_at D vwCl (b, .inr (6, [.ref (b + 1), .int 0, .int 0])) H) : xAt D ca G μ b H := by
  refine xAbO hL.1.1 (ci := 6) rfl (fun k hk => ?_) h
  match k, hk with
  | 0, _ => show Value.ref (b + 1) = va_rf (G.2.1 b 0); rw [hL.1.2]; rfl
  | 1, _ => show Value.int 0 = Value.int (μ b 1); rw [hL.2.1.1]
  | 2, _ => show Value.int 0 = Value.int (μ b 2); rw [hL.2.1.2]
theorem xAbInp {D : va_G} {ca : Nat → ClassId} {G : xG} {μ : xM} {b : Nat} {H : Heap} (hL : xL_Input G μ b) (h : va_at D vwCl (b, .inr (7, [.ref (b + 1), .ref (b + 2), .int 0, .int 0, .int 0])) H) : xAt D ca G μ b H := by
  refine xAbO hL.1.1 (ci := 7) rfl (fun k hk => ?_) h
  match k, hk with
  | 0, _ => show Value.ref (b + 1) = va_rf (G.2.1 b 0); rw [hL.1.2.1]; rfl
  | 1, _ => show Value.ref (b + 2) = va_rf (G.2.1 b 1); rw [hL.1.2.2]; rfl
  | 2, _ => show Value.int 0 = Value.int (μ b 2); rw [hL.2.1.1]
  | 3, _ => show Value.int 0 = Value.int (μ b 3); rw [hL.2.1.2.1]
  | 4, _ => show Value.int 0 = Value.int (μ b 4); rw [hL.2.1.2.2]
section XIA
variable {p : Program} {l : Launch} {e : Env} {R : Room} {s : State} {m : MethodId} {args : Array Value} {below : List Frame} {meth : Method} {c : Code} {H : Heap} {locs : List Loc} {cells slots N0 : Nat} {Q : State → Prop}
variable {cc : ByteArray} {pc : Nat} {ls : Array Slot} {rest : List Value} {D : va_G} {ca : Nat → ClassId} {z a : Nat} {G : xG} {X : va_W} {μ : xM}
theorem xn_iast (q0 : Nat) (hx : p.tables.exec = Jvm.exec) (hb : c.code = cc) (hK : va_K D vwCl (xT ca) s) (hR : xRep D ca G X μ H) (hF : xFix z G X) (hXD : va_D (fun q => z ≤ q) X) (hS : va_S (fun q => z ≤ q) s.heap H locs) (hO : xOcc z G X N0) {n : Nat} {f : Nat → Int32} (ha : X[q0]? = some (a, .inl (ca 0, n, .inl f))) {i x : Int32} {j : Nat} (hj : i.toNatClampNeg = j) (hin : vp_in i n) (hdg : decode cc pc = .ok (.iastore, 1)) (X1 : va_W) (hX1 : X.set q0 (a, .inl (ca 0, n, .inl (upd f j x))) = X1)
    (kk : ∀ (H1 : Heap) (locs1 : List Loc), xRep D ca G X1 μ H1 → xFix z G X1 → va_D (fun q => z ≤ q) X1 → va_S (fun q => z ≤ q) s.heap H1 locs1 → xOcc z G X1 N0 → W p l e R s m args below meth c H1 locs1 cells slots Q (F0 m (pc + 1) ls rest)) : W p l e R s m args below meth c H locs cells slots Q (F0 m pc ls (.int x :: .int i :: .ref a :: rest)) := by
  subst hX1
  subst hj
  have hlt := (List.getElem?_eq_some_iff.mp ha).1
  obtain ⟨L, hP, hD, back⟩ := xBr hR hF hXD
  refine va_iast hx hb hK hP hD hS q0 0 (f := f) (n := n) (by rw [List.getElem?_append_left hlt]; exact ha) rfl hin hdg (fun H1 locs1 hP1 hD1 hS1 => ?_)
  rw [List.set_append_left _ _ hlt] at hP1 hD1
  obtain ⟨b1, b2, b3⟩ := back _ H1 hP1 hD1
  exact kk H1 locs1 b1 b2 b3 hS1 (hO.set ha)
end XIA
set_option maxHeartbeats 1000000 in
set_option maxRecDepth 20000 in
theorem mX2_init {l : Launch} {D : va_G} {ca : Nat → ClassId} {z : Nat} {G : xG} {ad av : Nat → Nat} {S : Nat → Bool} {X : va_W} {μ : xM} {b : Nat} (hL : xL_History G μ b) (hF : xFix z (xGs G S) ((b, .inr (6, [.null, .int 0, .int 0])) :: X)) (hXD : va_D (fun q => z ≤ q) ((b, .inr (6, [.null, .int 0, .int 0])) :: X)) (hO : xOcc z (xGs G S) ((b, .inr (6, [.null, .int 0, .int 0])) :: X) (b + 1)) (hz : z ≤ b) : xCt l yX2_init (xws yX2_init cX2_init 2 none) 3 161 1832 D ca z G S ((b, .inr (6, [.null, .int 0, .int 0])) :: X) ad av [.ref b] μ (b + 1) (xRg S (b + 1) (b + 162)) ((b, .inr (6, [.ref (b + 1), .int 0, .int 0])) :: X) := by
  refine xm_c (by decide) rfl rfl (Nat.le_of_ble_eq_true rfl) [(0, .ref b)] rfl ?_
  intro p e s m args below meth c ls hx hb hr hml hlocks hin hts hown hK hE hR hS hAO hsz hl
  have hts : ∀ w ∈ xAll, w.before args s = true := fun w hw => hts w (List.mem_cons_of_mem _ hw)
  refine lv_aload_n (pc := 0) hx hb dX2_init_0 rfl (lv_at hl 0 rfl) ?_
  refine xn_obj (pc := 1) hx hb hts hown q_m_X2_3 (hl.1.trans hml.symm) (Nat.le_of_ble_eq_true rfl) (Nat.le_of_ble_eq_true rfl) dX2_init_1 q_oi_inst q_oi_code ?_
  refine lv_aload_n (pc := 4) hx hb dX2_init_4 rfl (lv_at hl 0 rfl) ?_
  refine lv_bipush (pc := 5) hx hb dX2_init_5 kb_8 ?_
  refine xn_anew 4 (N1 := b + 1) (pc := 7) hx hb hown q_cl_X2_9 hAO.1 rfl hts hK hR hF hXD hS hsz hO (by omega) (by omega) (N' := 8) (by decide) (by decide) (Nat.le_of_ble_eq_true rfl) (Nat.le_of_ble_eq_true rfl) (Nat.le_of_ble_eq_true rfl) dX2_init_7 (fun H hR hF hXD hS hO => ?_)
  refine xn_putF (ci := 6) (ty := .array (.object RX0)) (pc := 10) hx hb hts inX2 tyX2 tyX2_ok nmX2 hown hK hR hF hXD hS hO 1 rfl rfl 0 (Nat.le_of_ble_eq_true rfl) q_f_X2_11 (fun _ h9 => h9) rfl hin rfl rfl rfl rfl (Nat.le_of_ble_eq_true rfl) dX2_init_10 ((b + 1, .inl (ca 4, 8, .inr (.inr (.inr (.inr (fun _ => none)))))) :: (b, .inr (6, [.ref (b + 1), .int 0, .int 0])) :: X) rfl (fun H locs hR hF hXD hS hO => ?_)
  refine lv_iconst (pc := 13) hx hb dX2_init_13 kc_0 ?_
  refine lv_istore_n (pc := 14) (lv' := [(1, .int _), (0, .ref _)]) hx hb dX2_init_14 rfl hl (Nat.le_of_ble_eq_true rfl) rfl (fun ls hl => ?_)
  have loop : ∀ (u t : Nat), t + u = 8 → ∀ (H : Heap) (locs : List Loc) (ls : Array Slot), xRep D ca (xGs G (xRg S (b + 2) (b + 2 + 20 * t))) ((b + 1, .inl (ca 4, 8, .inr (.inr (.inr (.inr (fun j => if j < t then some (b + 2 + 20 * j) else none)))))) :: (b, .inr (6, [.ref (b + 1), .int 0, .int 0])) :: X) μ H → xFix z (xGs G (xRg S (b + 2) (b + 2 + 20 * t))) ((b + 1, .inl (ca 4, 8, .inr (.inr (.inr (.inr (fun j => if j < t then some (b + 2 + 20 * j) else none)))))) :: (b, .inr (6, [.ref (b + 1), .int 0, .int 0])) :: X) → va_D (fun q => z ≤ q) ((b + 1, .inl (ca 4, 8, .inr (.inr (.inr (.inr (fun j => if j < t then some (b + 2 + 20 * j) else none)))))) :: (b, .inr (6, [.ref (b + 1), .int 0, .int 0])) :: X) → va_S (fun q => z ≤ q) s.heap H locs → xOcc z (xGs G (xRg S (b + 2) (b + 2 + 20 * t))) ((b + 1, .inl (ca 4, 8, .inr (.inr (.inr (.inr (fun j => if j < t then some (b + 2 + 20 * j) else none)))))) :: (b, .inr (6, [.ref (b + 1), .int 0, .int 0])) :: X) (b + 2 + 20 * t) → lv_has ls 2 [(1, .int (nI t)), (0, .ref b)] → W p l e (xRm 3 161 1832) s m args below meth c H locs (1 + 20 * t) (8 + 228 * t) (MQ below (va_Qv (fun (_ : Unit) => xFix z (xGs G (xRg S (b + 1) (b + 162))) ((b, .inr (6, [.ref (b + 1), .int 0, .int 0])) :: X) ∧ va_D (fun q => z ≤ q) ((b, .inr (6, [.ref (b + 1), .int 0, .int 0])) :: X) ∧ xOcc z (xGs G (xRg S (b + 1) (b + 162))) ((b, .inr (6, [.ref (b + 1), .int 0, .int 0])) :: X) (b + 1 + 161)) (fun _ t => xB D ca (xGs G (xRg S (b + 1) (b + 162))) ((b, .inr (6, [.ref (b + 1), .int 0, .int 0])) :: X) μ t) (fun q => z ≤ q)) args s 161 1832 (fun q => z ≤ q)) (F0 m 15 ls []) := by
    intro u
    induction u with
    | zero =>
      intro t ht H locs ls hR hF hXD hS hO hl
      obtain rfl : t = 8 := by omega
      refine lv_iload_n (pc := 15) hx hb dX2_init_15 rfl (lv_at hl 0 rfl) ?_
      refine lv_bipush (pc := 16) hx hb dX2_init_16 kb_8 ?_
      refine lv_icmp_ge (pc := 18) (tgt := 40) hx hb dX2_init_18 (by decide) (fun _ => ?_) (fun c1 => absurd (by decide) c1)
      obtain ⟨hR, hF, hXD, hO⟩ := xAb4 hR hF hXD hO (xRg_lo (S := S) (lo := b + 1) (hi := b + 162) (by omega)) ⟨xne0 hL.2.2.1.1, xAbR (t := 0) (by decide) hL.2.2.1.1 hL.2.2.1.2.1 hL.2.2.1.2.2⟩
      refine lv_aload_n (pc := 40) hx hb dX2_init_40 rfl (lv_at hl 1 rfl) ?_
      refine lv_iconst (pc := 41) hx hb dX2_init_41 kc_0 ?_
      refine xn_put (ci := 6) (ty := .int) (pc := 42) hx hb hts inX2 tyX2 tyX2_ok nmX2 hown hK hR hF hXD hS hO 0 rfl rfl 1 (Nat.le_of_ble_eq_true rfl) q_f_X2_18 (fun _ h9 => h9) rfl rfl rfl rfl (Nat.le_of_ble_eq_true rfl) dX2_init_42 ((b, .inr (6, [.ref (b + 1), .int 0, .int 0])) :: X) rfl (fun H locs hR hF hXD hS hO => ?_)
      refine lv_aload_n (pc := 45) hx hb dX2_init_45 rfl (lv_at hl 1 rfl) ?_
      refine lv_iconst (pc := 46) hx hb dX2_init_46 kc_0 ?_
      refine xn_put (ci := 6) (ty := .int) (pc := 47) hx hb hts inX2 tyX2 tyX2_ok nmX2 hown hK hR hF hXD hS hO 0 rfl rfl 2 (Nat.le_of_ble_eq_true rfl) q_f_X2_22 (fun _ h9 => h9) rfl rfl rfl rfl (Nat.le_of_ble_eq_true rfl) dX2_init_47 ((b, .inr (6, [.ref (b + 1), .int 0, .int 0])) :: X) rfl (fun H locs hR hF hXD hS hO => ?_)
      exact xg_c (pc := 50) hx hb hr hlocks hF hXD hO rfl hR hK hS (Nat.le_of_ble_eq_true rfl) (Nat.le_of_ble_eq_true rfl) dX2_init_50
    | succ u ih =>
      intro t ht H locs ls hR hF hXD hS hO hl
      have hLt := hL.2.2.2 t (by omega)
      refine lv_iload_n (pc := 15) hx hb dX2_init_15 rfl (lv_at hl 0 rfl) ?_
      refine lv_bipush (pc := 16) hx hb dX2_init_16 kb_8 ?_
      refine lv_icmp_ge (pc := 18) (tgt := 40) hx hb dX2_init_18 (by decide) (fun c1 => absurd c1 (show ¬ nI 8 ≤ nI t from nI_ge (by omega) (by decide))) (fun _ => ?_)
      refine lv_aload_n (pc := 21) hx hb dX2_init_21 rfl (lv_at hl 1 rfl) ?_
      refine xn_get (ci := 6) (pc := 22) hx hb hts inX2 hown hK hR 1 rfl rfl 0 (Nat.le_of_ble_eq_true rfl) q_f_X2_11 (fun _ h9 => h9) rfl dX2_init_22 ?_
      refine lv_iload_n (pc := 25) hx hb dX2_init_25 rfl (lv_at hl 0 rfl) ?_
      refine xn_new (ci := 4) (N1 := b + 2 + 20 * t) (pc := 26) hx hb hts inX0 tyX0 tyX0_ok hown q_cl_X2_9 q_instantiable_X0 q_initialized_X0 hK hR hF hXD hS hsz hO (by omega) (by omega) rfl [.null, .null, .null, .int 0, .int 0, .int 0, .int 0, .int 0] (dfX0) (by show 1 + 20 * t + 1 ≤ 161; omega) (by show 8 + 228 * t + 8 ≤ 1832; omega) dX2_init_26 (fun H hR hF hXD hS hO => ?_)
      refine lv_dup (pc := 29) hx hb dX2_init_29 rfl ?_
      refine xc_ini (pc := 30) (As := []) (rest := [.ref _, .int _, .ref _]) (n := b + 2 + 20 * t + 1) ⟨hx, hb, hml, hown, hts⟩ (mX0_init hLt hF hXD hO (by omega)) (xcwI 0 hts q_instanceMethod_X0_init q_initialized_X0 q_code_X0_init (by decide +kernel) rfl q_m_X2_17 ⟨Nat.le_of_ble_eq_true rfl, Nat.le_of_ble_eq_true rfl⟩) hR hK hE hAO hS hsz hO (by omega) (by omega) rfl hl.1 rfl (Nat.le_of_ble_eq_true rfl) dX2_init_30 ⟨by show 1 + 20 * t + 1 + 19 ≤ 161; omega, by show 8 + 228 * t + 8 + 220 ≤ 1832; omega⟩ (fun H locs hR hF hXD hS hO => ?_)
      refine xn_aast 1 4 (pc := 33) hx hb hK hR hF hXD hS hO rfl rfl 0 rfl (ci := 4) rfl (nI_clamp (n := t) (by omega)) (vp_in_nI (by omega) (by decide)) dX2_init_33 ((b + 2 + 20 * t, .inr (4, [.ref (b + 2 + 20 * t + 1), .ref (b + 2 + 20 * t + 18), .ref (b + 2 + 20 * t + 19), .int 0, .int 0, .int 20, .int 5, .int 2000])) :: (b + 1, .inl (ca 4, 8, .inr (.inr (.inr (.inr (fun j => if j < t + 1 then some (b + 2 + 20 * j) else none)))))) :: (b, .inr (6, [.ref (b + 1), .int 0, .int 0])) :: X) (by rw [xrf_upv (st := 20) (a := b + 2) (n := 8) (v := b + 2 + 20 * t) (by omega) (by omega)]; rfl) (fun H locs hR hF hXD hS hO => ?_)
      obtain ⟨hR, hF, hXD, hO⟩ := xAb4 hR hF hXD hO (xRg_lo2 (S := S) (lo := b + 2) (mid := b + 2 + 20 * t) (hi := b + 2 + 20 * (t + 1)) (by omega) (by omega)) ⟨xne0 hLt.1.1, xAbBank hLt⟩
      refine lv_iinc (pc := 34) (lv' := [(1, .int _), (0, .ref _)]) hx hb dX2_init_34 hl (k := 0) rfl ((xinc kc_1).trans (nI_1 t)) (Nat.le_of_ble_eq_true rfl) rfl (fun ls hl => ?_)
      refine lv_goto (pc := 37) (tgt := 15) hx hb dX2_init_37 (by decide) ?_
      have h9 := ih (t + 1) (by omega) H locs ls hR hF hXD hS (xOcc.cast (by omega) hO) hl
      exact W.cast9 (by omega) (by omega) h9
  have hS0 : xRg S (b + 2) (b + 2) = S := xRg_nil
  refine W.cast9 (by omega) (by omega) (loop 8 0 rfl H locs ls ?_ ?_ ?_ hS ?_ (lv_sub hl [0, 1] rfl))
  · rw [show b + 2 + 20 * 0 = b + 2 from rfl, hS0]; exact hR
  · rw [show b + 2 + 20 * 0 = b + 2 from rfl, hS0]; exact hF
  · exact hXD
  · rw [show b + 2 + 20 * 0 = b + 2 from rfl, hS0]; exact hO
set_option maxHeartbeats 1000000 in
set_option maxRecDepth 20000 in
theorem mX3_init {l : Launch} {D : va_G} {ca : Nat → ClassId} {z : Nat} {G : xG} {ad av : Nat → Nat} {S : Nat → Bool} {X : va_W} {μ : xM} {b : Nat} (hL : xL_Input G μ b) (hF : xFix z (xGs G S) ((b, .inr (7, [.null, .null, .int 0, .int 0, .int 0])) :: X)) (hXD : va_D (fun q => z ≤ q) ((b, .inr (7, [.null, .null, .int 0, .int 0, .int 0])) :: X)) (hO : xOcc z (xGs G S) ((b, .inr (7, [.null, .null, .int 0, .int 0, .int 0])) :: X) (b + 1)) (hz : z ≤ b) : xCt l yX3_init (xws yX3_init cX3_init 2 none) 2 22 180 D ca z G S ((b, .inr (7, [.null, .null, .int 0, .int 0, .int 0])) :: X) ad av [.ref b] μ (b + 1) (xRg S (b + 1) (b + 23)) ((b, .inr (7, [.ref (b + 1), .ref (b + 2), .int 0, .int 0, .int 0])) :: X) := by
  refine xm_c (by decide) rfl rfl (Nat.le_of_ble_eq_true rfl) [(0, .ref b)] rfl ?_
  intro p e s m args below meth c ls hx hb hr hml hlocks hin hts hown hK hE hR hS hAO hsz hl
  have hts : ∀ w ∈ xAll, w.before args s = true := fun w hw => hts w (List.mem_cons_of_mem _ hw)
  refine lv_aload_n (pc := 0) hx hb dX3_init_0 rfl (lv_at hl 0 rfl) ?_
  refine xn_obj (pc := 1) hx hb hts hown q_m_X3_3 (hl.1.trans hml.symm) (Nat.le_of_ble_eq_true rfl) (Nat.le_of_ble_eq_true rfl) dX3_init_1 q_oi_inst q_oi_code ?_
  refine lv_aload_n (pc := 4) hx hb dX3_init_4 rfl (lv_at hl 0 rfl) ?_
  refine lv_bipush (pc := 5) hx hb dX3_init_5 kb_60 ?_
  refine xn_newa (atype := .char) (ty := .char) 1 (N1 := b + 1) (pc := 7) hx hb q_arr_char rfl rfl xRA2 hts hK hR hF hXD hS hsz hO (by omega) (by omega) (N' := 60) (a0 := ((60, .inl (fun _ => 0)) : vp_A)) (fun cA => rfl) (by decide) (by decide) (Nat.le_of_ble_eq_true rfl) (Nat.le_of_ble_eq_true rfl) (Nat.le_of_ble_eq_true rfl) (Nat.le_of_ble_eq_true rfl) dX3_init_7 (fun H hR hF hXD hS hO => ?_)
  refine xn_putF (ci := 7) (ty := .array .char) (pc := 9) hx hb hts inX3 tyX3 tyX3_ok nmX3 hown hK hR hF hXD hS hO 1 rfl rfl 0 (Nat.le_of_ble_eq_true rfl) q_f_X3_9 (fun _ h9 => h9) rfl hin rfl rfl rfl rfl (Nat.le_of_ble_eq_true rfl) dX3_init_9 ((b + 1, .inl (ca 1, 60, .inl (fun _ => 0))) :: (b, .inr (7, [.ref (b + 1), .null, .int 0, .int 0, .int 0])) :: X) rfl (fun H locs hR hF hXD hS hO => ?_)
  have hS0 : xRg S (b + 1) (b + 1) = S := xRg_nil
  obtain ⟨hR, hF, hXD, hO⟩ := xAb4 hR hF hXD hO (show xRg S (b + 1) (b + 2) (b + 1) = true ∧ ∀ c, c ≠ b + 1 → xRg S (b + 1) (b + 2) c = S c from by have := xRg_hi (S := S) (lo := b + 1) (hi := b + 1) (by omega); rw [hS0] at this; exact this) ⟨xne0 hL.2.2.1.1, xAbI (t := 1) (by decide) hL.2.2.1.1 hL.2.2.1.2.1 hL.2.2.1.2.2⟩
  refine lv_aload_n (pc := 12) hx hb dX3_init_12 rfl (lv_at hl 0 rfl) ?_
  refine lv_bipush (pc := 13) hx hb dX3_init_13 kb_20 ?_
  refine xn_anew 5 (N1 := b + 2) (pc := 15) hx hb hown q_cl_X3_15 hAO.2.1 rfl hts hK hR hF hXD hS hsz hO (by omega) (by omega) (N' := 20) (by decide) (by decide) (Nat.le_of_ble_eq_true rfl) (Nat.le_of_ble_eq_true rfl) (Nat.le_of_ble_eq_true rfl) dX3_init_15 (fun H hR hF hXD hS hO => ?_)
  refine xn_putF (ci := 7) (ty := .array (.object RX4)) (pc := 18) hx hb hts inX3 tyX3 tyX3_ok nmX3 hown hK hR hF hXD hS hO 1 rfl rfl 1 (Nat.le_of_ble_eq_true rfl) q_f_X3_17 (fun _ h9 => h9) rfl hin rfl rfl rfl rfl (Nat.le_of_ble_eq_true rfl) dX3_init_18 ((b + 2, .inl (ca 5, 20, .inr (.inr (.inr (.inr (fun _ => none)))))) :: (b, .inr (7, [.ref (b + 1), .ref (b + 2), .int 0, .int 0, .int 0])) :: X) rfl (fun H locs hR hF hXD hS hO => ?_)
  refine lv_iconst (pc := 21) hx hb dX3_init_21 kc_0 ?_
  refine lv_istore_n (pc := 22) (lv' := [(1, .int _), (0, .ref _)]) hx hb dX3_init_22 rfl hl (Nat.le_of_ble_eq_true rfl) rfl (fun ls hl => ?_)
  have loop : ∀ (u t : Nat), t + u = 20 → ∀ (H : Heap) (locs : List Loc) (ls : Array Slot), xRep D ca (xGs G (xRg (xRg S (b + 1) (b + 2)) (b + 3) (b + 3 + t))) ((b + 2, .inl (ca 5, 20, .inr (.inr (.inr (.inr (fun j => if j < t then some (b + 3 + 1 * j) else none)))))) :: (b, .inr (7, [.ref (b + 1), .ref (b + 2), .int 0, .int 0, .int 0])) :: X) μ H → xFix z (xGs G (xRg (xRg S (b + 1) (b + 2)) (b + 3) (b + 3 + t))) ((b + 2, .inl (ca 5, 20, .inr (.inr (.inr (.inr (fun j => if j < t then some (b + 3 + 1 * j) else none)))))) :: (b, .inr (7, [.ref (b + 1), .ref (b + 2), .int 0, .int 0, .int 0])) :: X) → va_D (fun q => z ≤ q) ((b + 2, .inl (ca 5, 20, .inr (.inr (.inr (.inr (fun j => if j < t then some (b + 3 + 1 * j) else none)))))) :: (b, .inr (7, [.ref (b + 1), .ref (b + 2), .int 0, .int 0, .int 0])) :: X) → va_S (fun q => z ≤ q) s.heap H locs → xOcc z (xGs G (xRg (xRg S (b + 1) (b + 2)) (b + 3) (b + 3 + t))) ((b + 2, .inl (ca 5, 20, .inr (.inr (.inr (.inr (fun j => if j < t then some (b + 3 + 1 * j) else none)))))) :: (b, .inr (7, [.ref (b + 1), .ref (b + 2), .int 0, .int 0, .int 0])) :: X) (b + 3 + t) → lv_has ls 2 [(1, .int (nI t)), (0, .ref b)] → W p l e (xRm 2 22 180) s m args below meth c H locs (2 + t) (80 + 5 * t) (MQ below (va_Qv (fun (_ : Unit) => xFix z (xGs G (xRg S (b + 1) (b + 23))) ((b, .inr (7, [.ref (b + 1), .ref (b + 2), .int 0, .int 0, .int 0])) :: X) ∧ va_D (fun q => z ≤ q) ((b, .inr (7, [.ref (b + 1), .ref (b + 2), .int 0, .int 0, .int 0])) :: X) ∧ xOcc z (xGs G (xRg S (b + 1) (b + 23))) ((b, .inr (7, [.ref (b + 1), .ref (b + 2), .int 0, .int 0, .int 0])) :: X) (b + 1 + 22)) (fun _ t => xB D ca (xGs G (xRg S (b + 1) (b + 23))) ((b, .inr (7, [.ref (b + 1), .ref (b + 2), .int 0, .int 0, .int 0])) :: X) μ t) (fun q => z ≤ q)) args s 22 180 (fun q => z ≤ q)) (F0 m 23 ls []) := by
    intro u
    induction u with
    | zero =>
      intro t ht H locs ls hR hF hXD hS hO hl
      obtain rfl : t = 20 := by omega
      refine lv_iload_n (pc := 23) hx hb dX3_init_23 rfl (lv_at hl 0 rfl) ?_
      refine lv_bipush (pc := 24) hx hb dX3_init_24 kb_20 ?_
      refine lv_icmp_ge (pc := 26) (tgt := 48) hx hb dX3_init_26 (by decide) (fun _ => ?_) (fun c1 => absurd (by decide) c1)
      obtain ⟨hR, hF, hXD, hO⟩ := xAb4 hR hF hXD hO (xRg_lo2 (S := S) (lo := b + 1) (mid := b + 2) (hi := b + 23) (by omega) (by omega)) ⟨xne0 hL.2.2.2.1.1, xAbR (t := 1) (by decide) hL.2.2.2.1.1 hL.2.2.2.1.2.1 hL.2.2.2.1.2.2⟩
      refine lv_aload_n (pc := 48) hx hb dX3_init_48 rfl (lv_at hl 1 rfl) ?_
      refine lv_iconst (pc := 49) hx hb dX3_init_49 kc_0 ?_
      refine xn_put (ci := 7) (ty := .int) (pc := 50) hx hb hts inX3 tyX3 tyX3_ok nmX3 hown hK hR hF hXD hS hO 0 rfl rfl 2 (Nat.le_of_ble_eq_true rfl) q_f_X3_22 (fun _ h9 => h9) rfl rfl rfl rfl (Nat.le_of_ble_eq_true rfl) dX3_init_50 ((b, .inr (7, [.ref (b + 1), .ref (b + 2), .int 0, .int 0, .int 0])) :: X) rfl (fun H locs hR hF hXD hS hO => ?_)
      refine lv_aload_n (pc := 53) hx hb dX3_init_53 rfl (lv_at hl 1 rfl) ?_
      refine lv_iconst (pc := 54) hx hb dX3_init_54 kc_0 ?_
      refine xn_put (ci := 7) (ty := .int) (pc := 55) hx hb hts inX3 tyX3 tyX3_ok nmX3 hown hK hR hF hXD hS hO 0 rfl rfl 3 (Nat.le_of_ble_eq_true rfl) q_f_X3_26 (fun _ h9 => h9) rfl rfl rfl rfl (Nat.le_of_ble_eq_true rfl) dX3_init_55 ((b, .inr (7, [.ref (b + 1), .ref (b + 2), .int 0, .int 0, .int 0])) :: X) rfl (fun H locs hR hF hXD hS hO => ?_)
      refine lv_aload_n (pc := 58) hx hb dX3_init_58 rfl (lv_at hl 1 rfl) ?_
      refine lv_iconst (pc := 59) hx hb dX3_init_59 kc_0 ?_
      refine xn_put (ci := 7) (ty := .int) (pc := 60) hx hb hts inX3 tyX3 tyX3_ok nmX3 hown hK hR hF hXD hS hO 0 rfl rfl 4 (Nat.le_of_ble_eq_true rfl) q_f_X3_29 (fun _ h9 => h9) rfl rfl rfl rfl (Nat.le_of_ble_eq_true rfl) dX3_init_60 ((b, .inr (7, [.ref (b + 1), .ref (b + 2), .int 0, .int 0, .int 0])) :: X) rfl (fun H locs hR hF hXD hS hO => ?_)
      exact xg_c (pc := 63) hx hb hr hlocks hF hXD hO rfl hR hK hS (Nat.le_of_ble_eq_true rfl) (Nat.le_of_ble_eq_true rfl) dX3_init_63
    | succ u ih =>
      intro t ht H locs ls hR hF hXD hS hO hl
      have hLt := hL.2.2.2.2 t (by omega)
      refine lv_iload_n (pc := 23) hx hb dX3_init_23 rfl (lv_at hl 0 rfl) ?_
      refine lv_bipush (pc := 24) hx hb dX3_init_24 kb_20 ?_
      refine lv_icmp_ge (pc := 26) (tgt := 48) hx hb dX3_init_26 (by decide) (fun c1 => absurd c1 (show ¬ nI 20 ≤ nI t from nI_ge (by omega) (by decide))) (fun _ => ?_)
      refine lv_aload_n (pc := 29) hx hb dX3_init_29 rfl (lv_at hl 1 rfl) ?_
      refine xn_get (ci := 7) (pc := 30) hx hb hts inX3 hown hK hR 1 rfl rfl 1 (Nat.le_of_ble_eq_true rfl) q_f_X3_17 (fun _ h9 => h9) rfl dX3_init_30 ?_
      refine lv_iload_n (pc := 33) hx hb dX3_init_33 rfl (lv_at hl 0 rfl) ?_
      refine xn_new (ci := 8) (N1 := b + 3 + t) (pc := 34) hx hb hts inX4 tyX4 tyX4_ok hown q_cl_X3_15 q_instantiable_X4 q_initialized_X4 hK hR hF hXD hS hsz hO (by omega) (by omega) rfl (List.replicate 5 (.int 0)) (dfX4) (by show 2 + t + 1 ≤ 22; omega) (by show 80 + 5 * t + 5 ≤ 180; omega) dX3_init_34 (fun H hR hF hXD hS hO => ?_)
      refine lv_dup (pc := 37) hx hb dX3_init_37 rfl ?_
      refine xc_inN (pc := 38) (As := []) (rest := [.ref _, .int _, .ref _]) (n := b + 3 + t + 1) ⟨hx, hb, hml, hown, hts⟩ (mX4_init hF hXD hO) (xcwIN 0 hts q_instanceMethod_X4_init q_initialized_X4 q_code_X4_init (by decide +kernel) rfl (hE.2.2.2.2.2.2.2.1 _ (List.mem_of_getElem? (i := 3) rfl)) ⟨Nat.le_of_ble_eq_true rfl, Nat.le_of_ble_eq_true rfl⟩) hR hK hE hAO hS hsz hO (by omega) (by omega) rfl hl.1 rfl (Nat.le_of_ble_eq_true rfl) dX3_init_38 ⟨by show 2 + t + 1 + 0 ≤ 22; omega, by show 80 + 5 * t + 5 + 0 ≤ 180; omega⟩ (fun H locs hR hF hXD hS hO => ?_)
      refine xn_aast 1 5 (pc := 41) hx hb hK hR hF hXD hS hO rfl rfl 0 rfl (ci := 8) rfl (nI_clamp (n := t) (by omega)) (vp_in_nI (by omega) (by decide)) dX3_init_41 ((b + 3 + t, .inr (8, List.replicate 5 (.int 0))) :: (b + 2, .inl (ca 5, 20, .inr (.inr (.inr (.inr (fun j => if j < t + 1 then some (b + 3 + 1 * j) else none)))))) :: (b, .inr (7, [.ref (b + 1), .ref (b + 2), .int 0, .int 0, .int 0])) :: X) (by rw [xrf_upv (st := 1) (a := b + 3) (n := 20) (v := b + 3 + t) (by omega) (by omega)]; rfl) (fun H locs hR hF hXD hS hO => ?_)
      obtain ⟨hR, hF, hXD, hO⟩ := xAb4 hR hF hXD hO (xRg_hi (S := xRg S (b + 1) (b + 2)) (lo := b + 3) (hi := b + 3 + t) (by omega)) ⟨xne0 hLt.1, xAbN (ci := 8) hLt rfl (by decide)⟩
      refine lv_iinc (pc := 42) (lv' := [(1, .int _), (0, .ref _)]) hx hb dX3_init_42 hl (k := 0) rfl ((xinc kc_1).trans (nI_1 t)) (Nat.le_of_ble_eq_true rfl) rfl (fun ls hl => ?_)
      refine lv_goto (pc := 45) (tgt := 23) hx hb dX3_init_45 (by decide) ?_
      have h9 := ih (t + 1) (by omega) H locs ls hR hF hXD hS hO hl
      exact W.cast9 (by omega) (by omega) h9
  have hS3 : xRg (xRg S (b + 1) (b + 2)) (b + 3) (b + 3) = xRg S (b + 1) (b + 2) := xRg_nil
  refine W.cast9 (by omega) (by omega) (loop 20 0 rfl H locs ls ?_ ?_ ?_ hS ?_ (lv_sub hl [0, 1] rfl))
  · rw [show b + 3 + 0 = b + 3 from rfl, hS3]; exact hR
  · rw [show b + 3 + 0 = b + 3 from rfl, hS3]; exact hF
  · exact hXD
  · rw [show b + 3 + 0 = b + 3 from rfl, hS3]; exact hO
set_option maxHeartbeats 1000000 in
set_option maxRecDepth 20000 in
theorem mJ5_init_d00df {l : Launch} {D : va_G} {ca : Nat → ClassId} {z : Nat} {G : xG} {ad av : Nat → Nat} {S : Nat → Bool} {X : va_W} {μ : xM} {b : Nat} (hF : xFix z (xGs G S) ((b, .inr (1, [.null, .int 0, .int 0, .int 0])) :: X)) (hXD : va_D (fun q => z ≤ q) ((b, .inr (1, [.null, .int 0, .int 0, .int 0])) :: X)) (hO : xOcc z (xGs G S) ((b, .inr (1, [.null, .int 0, .int 0, .int 0])) :: X) (b + 1)) (hz : z ≤ b) : xCt l yJ5_init_d00df (xws yJ5_init_d00df cJ5_init_d00df 2 none) 1 1 16 D ca z G S ((b, .inr (1, [.null, .int 0, .int 0, .int 0])) :: X) ad av [.ref b, .int 16] μ (b + 1) S ((b + 1, .inl (ca 2, 16, .inl (fun _ => 0))) :: (b, .inr (1, [.ref (b + 1), .int 0, .int 0, .int 0])) :: X) := by
  refine xm_c (by decide) rfl rfl (Nat.le_of_ble_eq_true rfl) [(0, .ref b), (1, .int 16)] rfl ?_
  intro p e s m args below meth c ls hx hb hr hml hlocks hin hts hown hK hE hR hS hAO hsz hl
  have hts : ∀ w ∈ xAll, w.before args s = true := fun w hw => hts w (List.mem_cons_of_mem _ hw)
  refine lv_aload_n (pc := 0) hx hb dJ5_init_d00df_0 rfl (lv_at hl 0 rfl) ?_
  refine xn_obj (pc := 1) hx hb hts hown q_m_J5_3 (hl.1.trans hml.symm) (Nat.le_of_ble_eq_true rfl) (Nat.le_of_ble_eq_true rfl) dJ5_init_d00df_1 q_oi_inst q_oi_code ?_
  refine va_gets (pc := 4) hx hb hE.2.2.2.2.1.1 hS hown (hts _ q_f_J5_18) (fun _ h9 => h9) dJ5_init_d00df_4 ?_
  refine lv_if_eq (pc := 7) (tgt := 25) hx hb dJ5_init_d00df_7 (by decide) (fun c1 => absurd c1 (by decide)) (fun _ => ?_)
  refine lv_aload_n (pc := 10) hx hb dJ5_init_d00df_10 rfl (lv_at hl 0 rfl) ?_
  refine lv_iload_n (pc := 11) hx hb dJ5_init_d00df_11 rfl (lv_at hl 1 rfl) ?_
  refine xn_newa (atype := .byte) (ty := .byte) 2 (N1 := b + 1) (pc := 12) hx hb q_arr_byte rfl rfl xRA5 hts hK hR hF hXD hS hsz hO (by omega) (by omega) (N' := 16) (a0 := ((16, .inl (fun _ => 0)) : vp_A)) (fun cA => rfl) (by decide) (by decide) (Nat.le_of_ble_eq_true rfl) (Nat.le_of_ble_eq_true rfl) (Nat.le_of_ble_eq_true rfl) (Nat.le_of_ble_eq_true rfl) dJ5_init_d00df_12 (fun H hR hF hXD hS hO => ?_)
  refine xn_put (ci := 1) (ty := .array .byte) (pc := 14) hx hb hts inJ4 tyJ4 tyJ4_ok nmJ4 hown hK hR hF hXD hS hO 1 rfl rfl 0 (Nat.le_of_ble_eq_true rfl) q_f_J5_15 (fun _ h9 => h9) rfl rfl rfl rfl (Nat.le_of_ble_eq_true rfl) dJ5_init_d00df_14 ((b + 1, .inl (ca 2, 16, .inl (fun _ => 0))) :: (b, .inr (1, [.ref (b + 1), .int 0, .int 0, .int 0])) :: X) rfl (fun H locs hR hF hXD hS hO => ?_)
  refine lv_aload_n (pc := 17) hx hb dJ5_init_d00df_17 rfl (lv_at hl 0 rfl) ?_
  refine lv_iconst (pc := 18) hx hb dJ5_init_d00df_18 kc_0 ?_
  refine xn_put (ci := 1) (ty := .byte) (pc := 19) hx hb hts inJ4 tyJ4 tyJ4_ok nmJ4 hown hK hR hF hXD hS hO 1 rfl rfl 1 (Nat.le_of_ble_eq_true rfl) q_f_J5_22 (fun _ h9 => h9) rfl rfl rfl rfl (Nat.le_of_ble_eq_true rfl) dJ5_init_d00df_19 ((b + 1, .inl (ca 2, 16, .inl (fun _ => 0))) :: (b, .inr (1, [.ref (b + 1), .int 0, .int 0, .int 0])) :: X) rfl (fun H locs hR hF hXD hS hO => ?_)
  refine lv_goto (pc := 22) (tgt := 38) hx hb dJ5_init_d00df_22 (by decide) ?_
  exact xg_c (pc := 38) hx hb hr hlocks hF hXD hO rfl hR hK hS (Nat.le_of_ble_eq_true rfl) (Nat.le_of_ble_eq_true rfl) dJ5_init_d00df_38
set_option maxHeartbeats 1000000 in
set_option maxRecDepth 20000 in
theorem mJ4_init_da8c8 {l : Launch} {D : va_G} {ca : Nat → ClassId} {z : Nat} {G : xG} {ad av : Nat → Nat} {S : Nat → Bool} {X : va_W} {μ : xM} {b : Nat} (hF : xFix z (xGs G S) ((b, .inr (1, [.null, .int 0, .int 0, .int 0])) :: X)) (hXD : va_D (fun q => z ≤ q) ((b, .inr (1, [.null, .int 0, .int 0, .int 0])) :: X)) (hO : xOcc z (xGs G S) ((b, .inr (1, [.null, .int 0, .int 0, .int 0])) :: X) (b + 1)) (hz : z ≤ b) : xCt l yJ4_init_da8c8 (xws yJ4_init_da8c8 cJ4_init_da8c8 1 none) 2 1 16 D ca z G S ((b, .inr (1, [.null, .int 0, .int 0, .int 0])) :: X) ad av [.ref b] μ (b + 1) S ((b + 1, .inl (ca 2, 16, .inl (fun _ => 0))) :: (b, .inr (1, [.ref (b + 1), .int 0, .int 0, .int 0])) :: X) := by
  refine xm_c (by decide) rfl rfl (Nat.le_of_ble_eq_true rfl) [(0, .ref b)] rfl ?_
  intro p e s m args below meth c ls hx hb hr hml hlocks hin hts hown hK hE hR hS hAO hsz hl
  have hts : ∀ w ∈ xAll, w.before args s = true := fun w hw => hts w (List.mem_cons_of_mem _ hw)
  refine lv_aload_n (pc := 0) hx hb dJ4_init_da8c8_0 rfl (lv_at hl 0 rfl) ?_
  refine lv_bipush (pc := 1) hx hb dJ4_init_da8c8_1 kb_16 ?_
  refine xc_ini (pc := 3) (As := [.int _]) (rest := []) (n := b + 1) ⟨hx, hb, hml, hown, hts⟩ (mJ5_init_d00df hF hXD hO hz) (xcwI 1 hts q_instanceMethod_J5_init_d00df q_initialized_J5 q_code_J5_init_d00df (by decide +kernel) rfl q_m_J4_1 ⟨Nat.le_of_ble_eq_true rfl, Nat.le_of_ble_eq_true rfl⟩) hR hK hE hAO hS hsz hO (by omega) (by omega) rfl hl.1 rfl (Nat.le_of_ble_eq_true rfl) dJ4_init_da8c8_3 ⟨Nat.le_of_ble_eq_true rfl, Nat.le_of_ble_eq_true rfl⟩ (fun H locs hR hF hXD hS hO => ?_)
  exact xg_c (pc := 6) hx hb hr hlocks hF hXD hO rfl hR hK hS (Nat.le_of_ble_eq_true rfl) (Nat.le_of_ble_eq_true rfl) dJ4_init_da8c8_6
set_option maxHeartbeats 1000000 in
set_option maxRecDepth 20000 in
theorem mX7_init {l : Launch} {D : va_G} {ca : Nat → ClassId} {z : Nat} {G : xG} {ad av : Nat → Nat} {S : Nat → Bool} {X : va_W} {μ : xM} {b : Nat} (hL : xL_Coat G μ b) (hF : xFix z (xGs G S) ((b, .inr (11, [.null, .null, .null, .int 0, .null, .null, .null, .null, .null, .null, .int 0])) :: X)) (hXD : va_D (fun q => z ≤ q) ((b, .inr (11, [.null, .null, .null, .int 0, .null, .null, .null, .null, .null, .null, .int 0])) :: X)) (hO : xOcc z (xGs G S) ((b, .inr (11, [.null, .null, .null, .int 0, .null, .null, .null, .null, .null, .null, .int 0])) :: X) (b + 1)) (hz : z ≤ b) : xCt l yX7_init (xws yX7_init cX7_init 1 none) 4 250 2734 D ca z G S ((b, .inr (11, [.null, .null, .null, .int 0, .null, .null, .null, .null, .null, .null, .int 0])) :: X) ad av [.ref b] μ (b + 1) (xRg S (b + 1) (b + 249)) ((b + 250, .inl (ca 2, 16, .inl (fun _ => 0))) :: (b + 249, .inr (1, [.ref (b + 250), .int 0, .int 0, .int 0])) :: (b, .inr (11, [.ref (b + 1), .ref (b + 21), .ref (b + 41), .int 0, .ref (b + 61), .ref (b + 223), .ref (b + 224), .ref (b + 225), .ref (b + 248), .ref (b + 249), .int (-1)])) :: X) := by
  refine xm_c (by decide) rfl rfl (Nat.le_of_ble_eq_true rfl) [(0, .ref b)] rfl ?_
  intro p e s m args below meth c ls hx hb hr hml hlocks hin hts hown hK hE hR hS hAO hsz hl
  have hts : ∀ w ∈ xAll, w.before args s = true := fun w hw => hts w (List.mem_cons_of_mem _ hw)
  refine lv_aload_n (pc := 0) hx hb dX7_init_0 rfl (lv_at hl 0 rfl) ?_
  refine xn_obj (pc := 1) hx hb hts hown q_m_X7_1 (hl.1.trans hml.symm) (Nat.le_of_ble_eq_true rfl) (Nat.le_of_ble_eq_true rfl) dX7_init_1 q_oi_inst q_oi_code ?_
  have hS0 : xRg S (b + 1) (b + 1) = S := xRg_nil
  have hR : xRep D ca (xGs G (xRg S (b + 1) (b + 1))) ((b, .inr (11, [.null, .null, .null, .int 0, .null, .null, .null, .null, .null, .null, .int 0])) :: X) μ s.heap := by rw [hS0]; exact hR
  have hF : xFix z (xGs G (xRg S (b + 1) (b + 1))) ((b, .inr (11, [.null, .null, .null, .int 0, .null, .null, .null, .null, .null, .null, .int 0])) :: X) := by rw [hS0]; exact hF
  have hO : xOcc z (xGs G (xRg S (b + 1) (b + 1))) ((b, .inr (11, [.null, .null, .null, .int 0, .null, .null, .null, .null, .null, .null, .int 0])) :: X) (b + 1) := by rw [hS0]; exact hO
  refine lv_aload_n (pc := 4) hx hb dX7_init_4 rfl (lv_at hl 0 rfl) ?_
  refine xn_new (ci := 4) (N1 := b + 1) (pc := 5) hx hb hts inX0 tyX0 tyX0_ok hown q_cl_X7_7 q_instantiable_X0 q_initialized_X0 hK hR hF hXD hS hsz hO (by omega) (by omega) rfl [.null, .null, .null, .int 0, .int 0, .int 0, .int 0, .int 0] (dfX0) (Nat.le_of_ble_eq_true rfl) (Nat.le_of_ble_eq_true rfl) dX7_init_5 (fun H hR hF hXD hS hO => ?_)
  refine lv_dup (pc := 8) hx hb dX7_init_8 rfl ?_
  refine xc_ini (pc := 9) (As := []) (rest := [.ref _, .ref _]) (n := b + 2) ⟨hx, hb, hml, hown, hts⟩ (mX0_init hL.2.2.1 hF hXD hO (by omega)) (xcwI 0 hts q_instanceMethod_X0_init q_initialized_X0 q_code_X0_init (by decide +kernel) rfl q_m_X7_9 ⟨Nat.le_of_ble_eq_true rfl, Nat.le_of_ble_eq_true rfl⟩) hR hK hE hAO hS hsz hO (by omega) (by omega) rfl hl.1 rfl (Nat.le_of_ble_eq_true rfl) dX7_init_9 ⟨Nat.le_of_ble_eq_true rfl, Nat.le_of_ble_eq_true rfl⟩ (fun H locs hR hF hXD hS hO => ?_)
  refine xn_putF (ci := 11) (ty := .object RX0) (pc := 12) hx hb hts inX7 tyX7 tyX7_ok nmX7 hown hK hR hF hXD hS hO 1 rfl rfl 0 (Nat.le_of_ble_eq_true rfl) q_f_X7_10 (fun _ h9 => h9) rfl hin rfl rfl rfl rfl (Nat.le_of_ble_eq_true rfl) dX7_init_12 ((b + 1, .inr (4, [.ref (b + 1 + 1), .ref (b + 1 + 18), .ref (b + 1 + 19), .int 0, .int 0, .int 20, .int 5, .int 2000])) :: (b, .inr (11, [.ref (b + 1), .null, .null, .int 0, .null, .null, .null, .null, .null, .null, .int 0])) :: X) rfl (fun H locs hR hF hXD hS hO => ?_)
  obtain ⟨hR, hF, hXD, hO⟩ := xAb4 hR hF hXD hO (xRg_lo2 (S := S) (lo := b + 1) (mid := b + 1) (hi := b + 21) (by omega) (by omega)) ⟨xne0 hL.2.2.1.1.1, xAbBank hL.2.2.1⟩
  refine lv_aload_n (pc := 15) hx hb dX7_init_15 rfl (lv_at hl 0 rfl) ?_
  refine xn_new (ci := 4) (N1 := b + 21) (pc := 16) hx hb hts inX0 tyX0 tyX0_ok hown q_cl_X7_7 q_instantiable_X0 q_initialized_X0 hK hR hF hXD hS hsz hO (by omega) (by omega) rfl [.null, .null, .null, .int 0, .int 0, .int 0, .int 0, .int 0] (dfX0) (Nat.le_of_ble_eq_true rfl) (Nat.le_of_ble_eq_true rfl) dX7_init_16 (fun H hR hF hXD hS hO => ?_)
  refine lv_dup (pc := 19) hx hb dX7_init_19 rfl ?_
  refine xc_ini (pc := 20) (As := []) (rest := [.ref _, .ref _]) (n := b + 22) ⟨hx, hb, hml, hown, hts⟩ (mX0_init hL.2.2.2.1 hF hXD hO (by omega)) (xcwI 0 hts q_instanceMethod_X0_init q_initialized_X0 q_code_X0_init (by decide +kernel) rfl q_m_X7_9 ⟨Nat.le_of_ble_eq_true rfl, Nat.le_of_ble_eq_true rfl⟩) hR hK hE hAO hS hsz hO (by omega) (by omega) rfl hl.1 rfl (Nat.le_of_ble_eq_true rfl) dX7_init_20 ⟨Nat.le_of_ble_eq_true rfl, Nat.le_of_ble_eq_true rfl⟩ (fun H locs hR hF hXD hS hO => ?_)
  refine xn_putF (ci := 11) (ty := .object RX0) (pc := 23) hx hb hts inX7 tyX7 tyX7_ok nmX7 hown hK hR hF hXD hS hO 1 rfl rfl 1 (Nat.le_of_ble_eq_true rfl) q_f_X7_16 (fun _ h9 => h9) rfl hin rfl rfl rfl rfl (Nat.le_of_ble_eq_true rfl) dX7_init_23 ((b + 21, .inr (4, [.ref (b + 21 + 1), .ref (b + 21 + 18), .ref (b + 21 + 19), .int 0, .int 0, .int 20, .int 5, .int 2000])) :: (b, .inr (11, [.ref (b + 1), .ref (b + 21), .null, .int 0, .null, .null, .null, .null, .null, .null, .int 0])) :: X) rfl (fun H locs hR hF hXD hS hO => ?_)
  obtain ⟨hR, hF, hXD, hO⟩ := xAb4 hR hF hXD hO (xRg_lo2 (S := S) (lo := b + 1) (mid := b + 21) (hi := b + 41) (by omega) (by omega)) ⟨xne0 hL.2.2.2.1.1.1, xAbBank hL.2.2.2.1⟩
  refine lv_aload_n (pc := 26) hx hb dX7_init_26 rfl (lv_at hl 0 rfl) ?_
  refine xn_new (ci := 4) (N1 := b + 41) (pc := 27) hx hb hts inX0 tyX0 tyX0_ok hown q_cl_X7_7 q_instantiable_X0 q_initialized_X0 hK hR hF hXD hS hsz hO (by omega) (by omega) rfl [.null, .null, .null, .int 0, .int 0, .int 0, .int 0, .int 0] (dfX0) (Nat.le_of_ble_eq_true rfl) (Nat.le_of_ble_eq_true rfl) dX7_init_27 (fun H hR hF hXD hS hO => ?_)
  refine lv_dup (pc := 30) hx hb dX7_init_30 rfl ?_
  refine xc_ini (pc := 31) (As := []) (rest := [.ref _, .ref _]) (n := b + 42) ⟨hx, hb, hml, hown, hts⟩ (mX0_init hL.2.2.2.2.1 hF hXD hO (by omega)) (xcwI 0 hts q_instanceMethod_X0_init q_initialized_X0 q_code_X0_init (by decide +kernel) rfl q_m_X7_9 ⟨Nat.le_of_ble_eq_true rfl, Nat.le_of_ble_eq_true rfl⟩) hR hK hE hAO hS hsz hO (by omega) (by omega) rfl hl.1 rfl (Nat.le_of_ble_eq_true rfl) dX7_init_31 ⟨Nat.le_of_ble_eq_true rfl, Nat.le_of_ble_eq_true rfl⟩ (fun H locs hR hF hXD hS hO => ?_)
  refine xn_putF (ci := 11) (ty := .object RX0) (pc := 34) hx hb hts inX7 tyX7 tyX7_ok nmX7 hown hK hR hF hXD hS hO 1 rfl rfl 2 (Nat.le_of_ble_eq_true rfl) q_f_X7_19 (fun _ h9 => h9) rfl hin rfl rfl rfl rfl (Nat.le_of_ble_eq_true rfl) dX7_init_34 ((b + 41, .inr (4, [.ref (b + 41 + 1), .ref (b + 41 + 18), .ref (b + 41 + 19), .int 0, .int 0, .int 20, .int 5, .int 2000])) :: (b, .inr (11, [.ref (b + 1), .ref (b + 21), .ref (b + 41), .int 0, .null, .null, .null, .null, .null, .null, .int 0])) :: X) rfl (fun H locs hR hF hXD hS hO => ?_)
  obtain ⟨hR, hF, hXD, hO⟩ := xAb4 hR hF hXD hO (xRg_lo2 (S := S) (lo := b + 1) (mid := b + 41) (hi := b + 61) (by omega) (by omega)) ⟨xne0 hL.2.2.2.2.1.1.1, xAbBank hL.2.2.2.2.1⟩
  refine lv_aload_n (pc := 37) hx hb dX7_init_37 rfl (lv_at hl 0 rfl) ?_
  refine lv_iconst (pc := 38) hx hb dX7_init_38 kc_0 ?_
  refine xn_put (ci := 11) (ty := .boolean) (pc := 39) hx hb hts inX7 tyX7 tyX7_ok nmX7 hown hK hR hF hXD hS hO 0 rfl rfl 3 (Nat.le_of_ble_eq_true rfl) q_f_X7_22 (fun _ h9 => h9) rfl rfl rfl rfl (Nat.le_of_ble_eq_true rfl) dX7_init_39 ((b, .inr (11, [.ref (b + 1), .ref (b + 21), .ref (b + 41), .int 0, .null, .null, .null, .null, .null, .null, .int 0])) :: X) rfl (fun H locs hR hF hXD hS hO => ?_)
  refine lv_aload_n (pc := 42) hx hb dX7_init_42 rfl (lv_at hl 0 rfl) ?_
  refine xn_new (ci := 6) (N1 := b + 61) (pc := 43) hx hb hts inX2 tyX2 tyX2_ok hown q_cl_X7_26 q_instantiable_X2 q_initialized_X2 hK hR hF hXD hS hsz hO (by omega) (by omega) rfl [.null, .int 0, .int 0] (dfX2) (Nat.le_of_ble_eq_true rfl) (Nat.le_of_ble_eq_true rfl) dX7_init_43 (fun H hR hF hXD hS hO => ?_)
  refine lv_dup (pc := 46) hx hb dX7_init_46 rfl ?_
  refine xc_ini (pc := 47) (As := []) (rest := [.ref _, .ref _]) (n := b + 62) ⟨hx, hb, hml, hown, hts⟩ (mX2_init hL.2.2.2.2.2.1 hF hXD hO (by omega)) (xcwI 0 hts q_instanceMethod_X2_init q_initialized_X2 q_code_X2_init (by decide +kernel) rfl q_m_X7_28 ⟨Nat.le_of_ble_eq_true rfl, Nat.le_of_ble_eq_true rfl⟩) hR hK hE hAO hS hsz hO (by omega) (by omega) rfl hl.1 rfl (Nat.le_of_ble_eq_true rfl) dX7_init_47 ⟨Nat.le_of_ble_eq_true rfl, Nat.le_of_ble_eq_true rfl⟩ (fun H locs hR hF hXD hS hO => ?_)
  refine xn_putF (ci := 11) (ty := .object RX2) (pc := 50) hx hb hts inX7 tyX7 tyX7_ok nmX7 hown hK hR hF hXD hS hO 1 rfl rfl 4 (Nat.le_of_ble_eq_true rfl) q_f_X7_29 (fun _ h9 => h9) rfl hin rfl rfl rfl rfl (Nat.le_of_ble_eq_true rfl) dX7_init_50 ((b + 61, .inr (6, [.ref (b + 61 + 1), .int 0, .int 0])) :: (b, .inr (11, [.ref (b + 1), .ref (b + 21), .ref (b + 41), .int 0, .ref (b + 61), .null, .null, .null, .null, .null, .int 0])) :: X) rfl (fun H locs hR hF hXD hS hO => ?_)
  obtain ⟨hR, hF, hXD, hO⟩ := xAb4 hR hF hXD hO (xRg_lo2 (S := S) (lo := b + 1) (mid := b + 61) (hi := b + 223) (by omega) (by omega)) ⟨xne0 hL.2.2.2.2.2.1.1.1, xAbHist hL.2.2.2.2.2.1⟩
  refine lv_aload_n (pc := 53) hx hb dX7_init_53 rfl (lv_at hl 0 rfl) ?_
  refine xn_new (ci := 5) (N1 := b + 223) (pc := 54) hx hb hts inX1 tyX1 tyX1_ok hown q_cl_X7_33 q_instantiable_X1 q_initialized_X1 hK hR hF hXD hS hsz hO (by omega) (by omega) rfl (List.replicate 1 (.int 0)) (dfX1) (Nat.le_of_ble_eq_true rfl) (Nat.le_of_ble_eq_true rfl) dX7_init_54 (fun H hR hF hXD hS hO => ?_)
  refine lv_dup (pc := 57) hx hb dX7_init_57 rfl ?_
  refine xc_inN (pc := 58) (As := []) (rest := [.ref _, .ref _]) (n := b + 224) ⟨hx, hb, hml, hown, hts⟩ (mX1_init hF hXD hO) (xcwIN 0 hts q_instanceMethod_X1_init q_initialized_X1 q_code_X1_init (by decide +kernel) rfl (hE.2.2.2.2.2.2.2.1 _ (List.mem_of_getElem? (i := 1) rfl)) ⟨Nat.le_of_ble_eq_true rfl, Nat.le_of_ble_eq_true rfl⟩) hR hK hE hAO hS hsz hO (by omega) (by omega) rfl hl.1 rfl (Nat.le_of_ble_eq_true rfl) dX7_init_58 ⟨Nat.le_of_ble_eq_true rfl, Nat.le_of_ble_eq_true rfl⟩ (fun H locs hR hF hXD hS hO => ?_)
  refine xn_putF (ci := 11) (ty := .object RX1) (pc := 61) hx hb hts inX7 tyX7 tyX7_ok nmX7 hown hK hR hF hXD hS hO 1 rfl rfl 5 (Nat.le_of_ble_eq_true rfl) q_f_X7_36 (fun _ h9 => h9) rfl hin rfl rfl rfl rfl (Nat.le_of_ble_eq_true rfl) dX7_init_61 ((b + 223, .inr (5, List.replicate 1 (.int 0))) :: (b, .inr (11, [.ref (b + 1), .ref (b + 21), .ref (b + 41), .int 0, .ref (b + 61), .ref (b + 223), .null, .null, .null, .null, .int 0])) :: X) rfl (fun H locs hR hF hXD hS hO => ?_)
  obtain ⟨hR, hF, hXD, hO⟩ := xAb4 hR hF hXD hO (xRg_hi (S := S) (lo := b + 1) (hi := b + 223) (by omega)) ⟨xne0 hL.2.2.2.2.2.2.1.1, xAbN (ci := 5) hL.2.2.2.2.2.2.1 rfl (by decide)⟩
  refine lv_aload_n (pc := 64) hx hb dX7_init_64 rfl (lv_at hl 0 rfl) ?_
  refine xn_new (ci := 8) (N1 := b + 224) (pc := 65) hx hb hts inX4 tyX4 tyX4_ok hown q_cl_X7_40 q_instantiable_X4 q_initialized_X4 hK hR hF hXD hS hsz hO (by omega) (by omega) rfl (List.replicate 5 (.int 0)) (dfX4) (Nat.le_of_ble_eq_true rfl) (Nat.le_of_ble_eq_true rfl) dX7_init_65 (fun H hR hF hXD hS hO => ?_)
  refine lv_dup (pc := 68) hx hb dX7_init_68 rfl ?_
  refine xc_inN (pc := 69) (As := []) (rest := [.ref _, .ref _]) (n := b + 225) ⟨hx, hb, hml, hown, hts⟩ (mX4_init hF hXD hO) (xcwIN 0 hts q_instanceMethod_X4_init q_initialized_X4 q_code_X4_init (by decide +kernel) rfl (hE.2.2.2.2.2.2.2.1 _ (List.mem_of_getElem? (i := 2) rfl)) ⟨Nat.le_of_ble_eq_true rfl, Nat.le_of_ble_eq_true rfl⟩) hR hK hE hAO hS hsz hO (by omega) (by omega) rfl hl.1 rfl (Nat.le_of_ble_eq_true rfl) dX7_init_69 ⟨Nat.le_of_ble_eq_true rfl, Nat.le_of_ble_eq_true rfl⟩ (fun H locs hR hF hXD hS hO => ?_)
  refine xn_putF (ci := 11) (ty := .object RX4) (pc := 72) hx hb hts inX7 tyX7 tyX7_ok nmX7 hown hK hR hF hXD hS hO 1 rfl rfl 6 (Nat.le_of_ble_eq_true rfl) q_f_X7_43 (fun _ h9 => h9) rfl hin rfl rfl rfl rfl (Nat.le_of_ble_eq_true rfl) dX7_init_72 ((b + 224, .inr (8, List.replicate 5 (.int 0))) :: (b, .inr (11, [.ref (b + 1), .ref (b + 21), .ref (b + 41), .int 0, .ref (b + 61), .ref (b + 223), .ref (b + 224), .null, .null, .null, .int 0])) :: X) rfl (fun H locs hR hF hXD hS hO => ?_)
  obtain ⟨hR, hF, hXD, hO⟩ := xAb4 hR hF hXD hO (xRg_hi (S := S) (lo := b + 1) (hi := b + 224) (by omega)) ⟨xne0 hL.2.2.2.2.2.2.2.1.1, xAbN (ci := 8) hL.2.2.2.2.2.2.2.1 rfl (by decide)⟩
  refine lv_aload_n (pc := 75) hx hb dX7_init_75 rfl (lv_at hl 0 rfl) ?_
  refine xn_new (ci := 7) (N1 := b + 225) (pc := 76) hx hb hts inX3 tyX3 tyX3_ok hown q_cl_X7_47 q_instantiable_X3 q_initialized_X3 hK hR hF hXD hS hsz hO (by omega) (by omega) rfl [.null, .null, .int 0, .int 0, .int 0] (dfX3) (Nat.le_of_ble_eq_true rfl) (Nat.le_of_ble_eq_true rfl) dX7_init_76 (fun H hR hF hXD hS hO => ?_)
  refine lv_dup (pc := 79) hx hb dX7_init_79 rfl ?_
  refine xc_ini (pc := 80) (As := []) (rest := [.ref _, .ref _]) (n := b + 226) ⟨hx, hb, hml, hown, hts⟩ (mX3_init hL.2.2.2.2.2.2.2.2.1 hF hXD hO (by omega)) (xcwI 0 hts q_instanceMethod_X3_init q_initialized_X3 q_code_X3_init (by decide +kernel) rfl q_m_X7_49 ⟨Nat.le_of_ble_eq_true rfl, Nat.le_of_ble_eq_true rfl⟩) hR hK hE hAO hS hsz hO (by omega) (by omega) rfl hl.1 rfl (Nat.le_of_ble_eq_true rfl) dX7_init_80 ⟨Nat.le_of_ble_eq_true rfl, Nat.le_of_ble_eq_true rfl⟩ (fun H locs hR hF hXD hS hO => ?_)
  refine xn_putF (ci := 11) (ty := .object RX3) (pc := 83) hx hb hts inX7 tyX7 tyX7_ok nmX7 hown hK hR hF hXD hS hO 1 rfl rfl 7 (Nat.le_of_ble_eq_true rfl) q_f_X7_50 (fun _ h9 => h9) rfl hin rfl rfl rfl rfl (Nat.le_of_ble_eq_true rfl) dX7_init_83 ((b + 225, .inr (7, [.ref (b + 225 + 1), .ref (b + 225 + 2), .int 0, .int 0, .int 0])) :: (b, .inr (11, [.ref (b + 1), .ref (b + 21), .ref (b + 41), .int 0, .ref (b + 61), .ref (b + 223), .ref (b + 224), .ref (b + 225), .null, .null, .int 0])) :: X) rfl (fun H locs hR hF hXD hS hO => ?_)
  obtain ⟨hR, hF, hXD, hO⟩ := xAb4 hR hF hXD hO (xRg_lo2 (S := S) (lo := b + 1) (mid := b + 225) (hi := b + 248) (by omega) (by omega)) ⟨xne0 hL.2.2.2.2.2.2.2.2.1.1.1, xAbInp hL.2.2.2.2.2.2.2.2.1⟩
  refine lv_aload_n (pc := 86) hx hb dX7_init_86 rfl (lv_at hl 0 rfl) ?_
  refine xn_new (ci := 10) (N1 := b + 248) (pc := 87) hx hb hts inX6 tyX6 tyX6_ok hown q_cl_X7_54 q_instantiable_X6 q_initialized_X6 hK hR hF hXD hS hsz hO (by omega) (by omega) rfl (List.replicate 4 (.int 0)) (dfX6) (Nat.le_of_ble_eq_true rfl) (Nat.le_of_ble_eq_true rfl) dX7_init_87 (fun H hR hF hXD hS hO => ?_)
  refine lv_dup (pc := 90) hx hb dX7_init_90 rfl ?_
  refine xc_inN (pc := 91) (As := []) (rest := [.ref _, .ref _]) (n := b + 249) ⟨hx, hb, hml, hown, hts⟩ (mX6_init hF hXD hO) (xcwIN 0 hts q_instanceMethod_X6_init q_initialized_X6 q_code_X6_init (by decide +kernel) rfl (hE.2.2.2.2.2.2.2.1 _ (List.mem_of_getElem? (i := 4) rfl)) ⟨Nat.le_of_ble_eq_true rfl, Nat.le_of_ble_eq_true rfl⟩) hR hK hE hAO hS hsz hO (by omega) (by omega) rfl hl.1 rfl (Nat.le_of_ble_eq_true rfl) dX7_init_91 ⟨Nat.le_of_ble_eq_true rfl, Nat.le_of_ble_eq_true rfl⟩ (fun H locs hR hF hXD hS hO => ?_)
  refine xn_putF (ci := 11) (ty := .object RX6) (pc := 94) hx hb hts inX7 tyX7 tyX7_ok nmX7 hown hK hR hF hXD hS hO 1 rfl rfl 8 (Nat.le_of_ble_eq_true rfl) q_f_X7_57 (fun _ h9 => h9) rfl hin rfl rfl rfl rfl (Nat.le_of_ble_eq_true rfl) dX7_init_94 ((b + 248, .inr (10, List.replicate 4 (.int 0))) :: (b, .inr (11, [.ref (b + 1), .ref (b + 21), .ref (b + 41), .int 0, .ref (b + 61), .ref (b + 223), .ref (b + 224), .ref (b + 225), .ref (b + 248), .null, .int 0])) :: X) rfl (fun H locs hR hF hXD hS hO => ?_)
  obtain ⟨hR, hF, hXD, hO⟩ := xAb4 hR hF hXD hO (xRg_hi (S := S) (lo := b + 1) (hi := b + 248) (by omega)) ⟨xne0 hL.2.2.2.2.2.2.2.2.2.1.1, xAbN (ci := 10) hL.2.2.2.2.2.2.2.2.2.1 rfl (by decide)⟩
  refine lv_aload_n (pc := 97) hx hb dX7_init_97 rfl (lv_at hl 0 rfl) ?_
  refine xn_new (ci := 1) (N1 := b + 249) (pc := 98) hx hb hts inJ4 tyJ4 tyJ4_ok hown q_cl_X7_61 q_instantiable_J4 q_initialized_J4 hK hR hF hXD hS hsz hO (by omega) (by omega) rfl [.null, .int 0, .int 0, .int 0] (dfJ4) (Nat.le_of_ble_eq_true rfl) (Nat.le_of_ble_eq_true rfl) dX7_init_98 (fun H hR hF hXD hS hO => ?_)
  refine lv_dup (pc := 101) hx hb dX7_init_101 rfl ?_
  refine xc_ini (pc := 102) (As := []) (rest := [.ref _, .ref _]) (n := b + 250) ⟨hx, hb, hml, hown, hts⟩ (mJ4_init_da8c8 hF hXD hO (by omega)) (xcwI 0 hts q_instanceMethod_J4_init_da8c8 q_initialized_J4 q_code_J4_init_da8c8 (by decide +kernel) rfl q_m_X7_63 ⟨Nat.le_of_ble_eq_true rfl, Nat.le_of_ble_eq_true rfl⟩) hR hK hE hAO hS hsz hO (by omega) (by omega) rfl hl.1 rfl (Nat.le_of_ble_eq_true rfl) dX7_init_102 ⟨Nat.le_of_ble_eq_true rfl, Nat.le_of_ble_eq_true rfl⟩ (fun H locs hR hF hXD hS hO => ?_)
  refine xn_putF (ci := 11) (ty := .object RJ4) (pc := 105) hx hb hts inX7 tyX7 tyX7_ok nmX7 hown hK hR hF hXD hS hO 2 rfl rfl 9 (Nat.le_of_ble_eq_true rfl) q_f_X7_64 (fun _ h9 => h9) rfl hin rfl rfl rfl rfl (Nat.le_of_ble_eq_true rfl) dX7_init_105 ((b + 250, .inl (ca 2, 16, .inl (fun _ => 0))) :: (b + 249, .inr (1, [.ref (b + 250), .int 0, .int 0, .int 0])) :: (b, .inr (11, [.ref (b + 1), .ref (b + 21), .ref (b + 41), .int 0, .ref (b + 61), .ref (b + 223), .ref (b + 224), .ref (b + 225), .ref (b + 248), .ref (b + 249), .int 0])) :: X) rfl (fun H locs hR hF hXD hS hO => ?_)
  refine lv_aload_n (pc := 108) hx hb dX7_init_108 rfl (lv_at hl 0 rfl) ?_
  refine lv_iconst (pc := 109) hx hb dX7_init_109 kc_m1 ?_
  refine xn_put (ci := 11) (ty := .int) (pc := 110) hx hb hts inX7 tyX7 tyX7_ok nmX7 hown hK hR hF hXD hS hO 2 rfl rfl 10 (Nat.le_of_ble_eq_true rfl) q_f_X7_68 (fun _ h9 => h9) rfl rfl rfl rfl (Nat.le_of_ble_eq_true rfl) dX7_init_110 ((b + 250, .inl (ca 2, 16, .inl (fun _ => 0))) :: (b + 249, .inr (1, [.ref (b + 250), .int 0, .int 0, .int 0])) :: (b, .inr (11, [.ref (b + 1), .ref (b + 21), .ref (b + 41), .int 0, .ref (b + 61), .ref (b + 223), .ref (b + 224), .ref (b + 225), .ref (b + 248), .ref (b + 249), .int (-1)])) :: X) rfl (fun H locs hR hF hXD hS hO => ?_)
  exact xg_c (pc := 113) hx hb hr hlocks hF hXD hO rfl hR hK hS (Nat.le_of_ble_eq_true rfl) (Nat.le_of_ble_eq_true rfl) dX7_init_113
set_option maxHeartbeats 1000000 in
set_option maxRecDepth 20000 in
theorem mX8_init {l : Launch} {D : va_G} {ca : Nat → ClassId} {z : Nat} {G : xG} {ad av : Nat → Nat} {S : Nat → Bool} {X : va_W} {μ : xM} {b : Nat} (hL : xL_Model G μ b) (hF : xFix z (xGs G S) ((b, .inr (12, [.null, .null, .null, .null, .int 0, .int 0, .int 0, .int 0, .int 0, .int 0, .int 0, .int 0, .null, .int 0, .int 0, .null, .int 0, .int 0, .null, .int 0])) :: X)) (hXD : va_D (fun q => z ≤ q) ((b, .inr (12, [.null, .null, .null, .null, .int 0, .int 0, .int 0, .int 0, .int 0, .int 0, .int 0, .int 0, .null, .int 0, .int 0, .null, .int 0, .int 0, .null, .int 0])) :: X)) (hO : xOcc z (xGs G S) ((b, .inr (12, [.null, .null, .null, .null, .int 0, .int 0, .int 0, .int 0, .int 0, .int 0, .int 0, .int 0, .null, .int 0, .int 0, .null, .int 0, .int 0, .null, .int 0])) :: X) (b + 1)) (hz : z ≤ b) : xCt l yX8_init (xws yX8_init cX8_init 1 none) 1 7 2405 D ca z G S ((b, .inr (12, [.null, .null, .null, .null, .int 0, .int 0, .int 0, .int 0, .int 0, .int 0, .int 0, .int 0, .null, .int 0, .int 0, .null, .int 0, .int 0, .null, .int 0])) :: X) ad av [.ref b] μ (b + 1) (xRg S (b + 1) (b + 8)) ((b, .inr (12, [.ref (b + 1), .ref (b + 2), .ref (b + 3), .ref (b + 4), .int 0, .int 0, .int 0, .int 0, .int 0, .int 0, .int (-1), .int 0, .ref (b + 5), .int 0, .int (-1), .ref (b + 6), .int 0, .int 0, .ref (b + 7), .int 0])) :: X) := by
  refine xm_c (by decide) rfl rfl (Nat.le_of_ble_eq_true rfl) [(0, .ref b)] rfl ?_
  intro p e s m args below meth c ls hx hb hr hml hlocks hin hts hown hK hE hR hS hAO hsz hl
  have hts : ∀ w ∈ xAll, w.before args s = true := fun w hw => hts w (List.mem_cons_of_mem _ hw)
  refine lv_aload_n (pc := 0) hx hb dX8_init_0 rfl (lv_at hl 0 rfl) ?_
  refine xn_obj (pc := 1) hx hb hts hown q_m_X8_1 (hl.1.trans hml.symm) (Nat.le_of_ble_eq_true rfl) (Nat.le_of_ble_eq_true rfl) dX8_init_1 q_oi_inst q_oi_code ?_
  have hS0 : xRg S (b + 2) (b + 2) = S := xRg_nil
  refine lv_aload_n (pc := 4) hx hb dX8_init_4 rfl (lv_at hl 0 rfl) ?_
  refine lv_sipush (pc := 5) hx hb dX8_init_5 ks_199 ?_
  refine xn_newa (atype := .int) (ty := .int) 0 (N1 := b + 1) (pc := 8) hx hb q_arr_int rfl rfl xRA1 hts hK hR hF hXD hS hsz hO (by omega) (by omega) (N' := 199) (a0 := ((199, .inl (fun _ => 0)) : vp_A)) (fun cA => rfl) (by decide) (by decide) (Nat.le_of_ble_eq_true rfl) (Nat.le_of_ble_eq_true rfl) (Nat.le_of_ble_eq_true rfl) (Nat.le_of_ble_eq_true rfl) dX8_init_8 (fun H hR hF hXD hS hO => ?_)
  refine xn_putF (ci := 12) (ty := .array .int) (pc := 10) hx hb hts inX8 tyX8 tyX8_ok nmX8 hown hK hR hF hXD hS hO 1 rfl rfl 0 (Nat.le_of_ble_eq_true rfl) q_f_X8_7 (fun _ h9 => h9) rfl hin rfl rfl rfl rfl (Nat.le_of_ble_eq_true rfl) dX8_init_10 ((b + 1, .inl (ca 0, 199, .inl (fun _ => 0))) :: (b, .inr (12, [.ref (b + 1), .null, .null, .null, .int 0, .int 0, .int 0, .int 0, .int 0, .int 0, .int 0, .int 0, .null, .int 0, .int 0, .null, .int 0, .int 0, .null, .int 0])) :: X) rfl (fun H locs hR hF hXD hS hO => ?_)
  have hR : xRep D ca (xGs G (xRg S (b + 2) (b + 2))) ((b + 1, .inl (ca 0, 199, .inl (fun _ => 0))) :: (b, .inr (12, [.ref (b + 1), .null, .null, .null, .int 0, .int 0, .int 0, .int 0, .int 0, .int 0, .int 0, .int 0, .null, .int 0, .int 0, .null, .int 0, .int 0, .null, .int 0])) :: X) μ H := by rw [hS0]; exact hR
  have hF : xFix z (xGs G (xRg S (b + 2) (b + 2))) ((b + 1, .inl (ca 0, 199, .inl (fun _ => 0))) :: (b, .inr (12, [.ref (b + 1), .null, .null, .null, .int 0, .int 0, .int 0, .int 0, .int 0, .int 0, .int 0, .int 0, .null, .int 0, .int 0, .null, .int 0, .int 0, .null, .int 0])) :: X) := by rw [hS0]; exact hF
  have hO : xOcc z (xGs G (xRg S (b + 2) (b + 2))) ((b + 1, .inl (ca 0, 199, .inl (fun _ => 0))) :: (b, .inr (12, [.ref (b + 1), .null, .null, .null, .int 0, .int 0, .int 0, .int 0, .int 0, .int 0, .int 0, .int 0, .null, .int 0, .int 0, .null, .int 0, .int 0, .null, .int 0])) :: X) (b + 2) := by rw [hS0]; exact hO
  refine lv_aload_n (pc := 13) hx hb dX8_init_13 rfl (lv_at hl 0 rfl) ?_
  refine lv_sipush (pc := 14) hx hb dX8_init_14 ks_1592 ?_
  refine xn_newa (atype := .int) (ty := .int) 0 (N1 := b + 2) (pc := 17) hx hb q_arr_int rfl rfl xRA1 hts hK hR hF hXD hS hsz hO (by omega) (by omega) (N' := 1592) (a0 := ((1592, .inl (fun _ => 0)) : vp_A)) (fun cA => rfl) (by decide) (by decide) (Nat.le_of_ble_eq_true rfl) (Nat.le_of_ble_eq_true rfl) (Nat.le_of_ble_eq_true rfl) (Nat.le_of_ble_eq_true rfl) dX8_init_17 (fun H hR hF hXD hS hO => ?_)
  refine xn_putF (ci := 12) (ty := .array .int) (pc := 19) hx hb hts inX8 tyX8 tyX8_ok nmX8 hown hK hR hF hXD hS hO 2 rfl rfl 1 (Nat.le_of_ble_eq_true rfl) q_f_X8_13 (fun _ h9 => h9) rfl hin rfl rfl rfl rfl (Nat.le_of_ble_eq_true rfl) dX8_init_19 ((b + 2, .inl (ca 0, 1592, .inl (fun _ => 0))) :: (b + 1, .inl (ca 0, 199, .inl (fun _ => 0))) :: (b, .inr (12, [.ref (b + 1), .ref (b + 2), .null, .null, .int 0, .int 0, .int 0, .int 0, .int 0, .int 0, .int 0, .int 0, .null, .int 0, .int 0, .null, .int 0, .int 0, .null, .int 0])) :: X) rfl (fun H locs hR hF hXD hS hO => ?_)
  obtain ⟨hR, hF, hXD, hO⟩ := xAb4 hR hF hXD hO (xRg_hi (S := S) (lo := b + 2) (hi := b + 2) (by omega)) ⟨xne0 hL.2.2.2.2.1.1, xAbI (t := 0) (by decide) hL.2.2.2.2.1.1 hL.2.2.2.2.1.2.1 hL.2.2.2.2.1.2.2⟩
  refine lv_aload_n (pc := 22) hx hb dX8_init_22 rfl (lv_at hl 0 rfl) ?_
  refine lv_sipush (pc := 23) hx hb dX8_init_23 ks_199 ?_
  refine xn_newa (atype := .int) (ty := .int) 0 (N1 := b + 3) (pc := 26) hx hb q_arr_int rfl rfl xRA1 hts hK hR hF hXD hS hsz hO (by omega) (by omega) (N' := 199) (a0 := ((199, .inl (fun _ => 0)) : vp_A)) (fun cA => rfl) (by decide) (by decide) (Nat.le_of_ble_eq_true rfl) (Nat.le_of_ble_eq_true rfl) (Nat.le_of_ble_eq_true rfl) (Nat.le_of_ble_eq_true rfl) dX8_init_26 (fun H hR hF hXD hS hO => ?_)
  refine xn_putF (ci := 12) (ty := .array .int) (pc := 28) hx hb hts inX8 tyX8 tyX8_ok nmX8 hown hK hR hF hXD hS hO 2 rfl rfl 2 (Nat.le_of_ble_eq_true rfl) q_f_X8_16 (fun _ h9 => h9) rfl hin rfl rfl rfl rfl (Nat.le_of_ble_eq_true rfl) dX8_init_28 ((b + 3, .inl (ca 0, 199, .inl (fun _ => 0))) :: (b + 1, .inl (ca 0, 199, .inl (fun _ => 0))) :: (b, .inr (12, [.ref (b + 1), .ref (b + 2), .ref (b + 3), .null, .int 0, .int 0, .int 0, .int 0, .int 0, .int 0, .int 0, .int 0, .null, .int 0, .int 0, .null, .int 0, .int 0, .null, .int 0])) :: X) rfl (fun H locs hR hF hXD hS hO => ?_)
  obtain ⟨hR, hF, hXD, hO⟩ := xAb4 hR hF hXD hO (xRg_hi (S := S) (lo := b + 2) (hi := b + 3) (by omega)) ⟨xne0 hL.2.2.2.2.2.1.1, xAbI (t := 0) (by decide) hL.2.2.2.2.2.1.1 hL.2.2.2.2.2.1.2.1 hL.2.2.2.2.2.1.2.2⟩
  refine lv_aload_n (pc := 31) hx hb dX8_init_31 rfl (lv_at hl 0 rfl) ?_
  refine lv_sipush (pc := 32) hx hb dX8_init_32 ks_199 ?_
  refine xn_newa (atype := .int) (ty := .int) 0 (N1 := b + 4) (pc := 35) hx hb q_arr_int rfl rfl xRA1 hts hK hR hF hXD hS hsz hO (by omega) (by omega) (N' := 199) (a0 := ((199, .inl (fun _ => 0)) : vp_A)) (fun cA => rfl) (by decide) (by decide) (Nat.le_of_ble_eq_true rfl) (Nat.le_of_ble_eq_true rfl) (Nat.le_of_ble_eq_true rfl) (Nat.le_of_ble_eq_true rfl) dX8_init_35 (fun H hR hF hXD hS hO => ?_)
  refine xn_putF (ci := 12) (ty := .array .int) (pc := 37) hx hb hts inX8 tyX8 tyX8_ok nmX8 hown hK hR hF hXD hS hO 2 rfl rfl 3 (Nat.le_of_ble_eq_true rfl) q_f_X8_19 (fun _ h9 => h9) rfl hin rfl rfl rfl rfl (Nat.le_of_ble_eq_true rfl) dX8_init_37 ((b + 4, .inl (ca 0, 199, .inl (fun _ => 0))) :: (b + 1, .inl (ca 0, 199, .inl (fun _ => 0))) :: (b, .inr (12, [.ref (b + 1), .ref (b + 2), .ref (b + 3), .ref (b + 4), .int 0, .int 0, .int 0, .int 0, .int 0, .int 0, .int 0, .int 0, .null, .int 0, .int 0, .null, .int 0, .int 0, .null, .int 0])) :: X) rfl (fun H locs hR hF hXD hS hO => ?_)
  obtain ⟨hR, hF, hXD, hO⟩ := xAb4 hR hF hXD hO (xRg_hi (S := S) (lo := b + 2) (hi := b + 4) (by omega)) ⟨xne0 hL.2.2.2.2.2.2.1.1, xAbI (t := 0) (by decide) hL.2.2.2.2.2.2.1.1 hL.2.2.2.2.2.2.1.2.1 hL.2.2.2.2.2.2.1.2.2⟩
  refine lv_aload_n (pc := 40) hx hb dX8_init_40 rfl (lv_at hl 0 rfl) ?_
  refine lv_iconst (pc := 41) hx hb dX8_init_41 kc_m1 ?_
  refine xn_put (ci := 12) (ty := .int) (pc := 42) hx hb hts inX8 tyX8 tyX8_ok nmX8 hown hK hR hF hXD hS hO 1 rfl rfl 10 (Nat.le_of_ble_eq_true rfl) q_f_X8_22 (fun _ h9 => h9) rfl rfl rfl rfl (Nat.le_of_ble_eq_true rfl) dX8_init_42 ((b + 1, .inl (ca 0, 199, .inl (fun _ => 0))) :: (b, .inr (12, [.ref (b + 1), .ref (b + 2), .ref (b + 3), .ref (b + 4), .int 0, .int 0, .int 0, .int 0, .int 0, .int 0, .int (-1), .int 0, .null, .int 0, .int 0, .null, .int 0, .int 0, .null, .int 0])) :: X) rfl (fun H locs hR hF hXD hS hO => ?_)
  refine lv_aload_n (pc := 45) hx hb dX8_init_45 rfl (lv_at hl 0 rfl) ?_
  refine lv_bipush (pc := 46) hx hb dX8_init_46 kb_60 ?_
  refine xn_newa (atype := .int) (ty := .int) 0 (N1 := b + 5) (pc := 48) hx hb q_arr_int rfl rfl xRA1 hts hK hR hF hXD hS hsz hO (by omega) (by omega) (N' := 60) (a0 := ((60, .inl (fun _ => 0)) : vp_A)) (fun cA => rfl) (by decide) (by decide) (Nat.le_of_ble_eq_true rfl) (Nat.le_of_ble_eq_true rfl) (Nat.le_of_ble_eq_true rfl) (Nat.le_of_ble_eq_true rfl) dX8_init_48 (fun H hR hF hXD hS hO => ?_)
  refine xn_putF (ci := 12) (ty := .array .int) (pc := 50) hx hb hts inX8 tyX8 tyX8_ok nmX8 hown hK hR hF hXD hS hO 2 rfl rfl 12 (Nat.le_of_ble_eq_true rfl) q_f_X8_26 (fun _ h9 => h9) rfl hin rfl rfl rfl rfl (Nat.le_of_ble_eq_true rfl) dX8_init_50 ((b + 5, .inl (ca 0, 60, .inl (fun _ => 0))) :: (b + 1, .inl (ca 0, 199, .inl (fun _ => 0))) :: (b, .inr (12, [.ref (b + 1), .ref (b + 2), .ref (b + 3), .ref (b + 4), .int 0, .int 0, .int 0, .int 0, .int 0, .int 0, .int (-1), .int 0, .ref (b + 5), .int 0, .int 0, .null, .int 0, .int 0, .null, .int 0])) :: X) rfl (fun H locs hR hF hXD hS hO => ?_)
  obtain ⟨hR, hF, hXD, hO⟩ := xAb4 hR hF hXD hO (xRg_hi (S := S) (lo := b + 2) (hi := b + 5) (by omega)) ⟨xne0 hL.2.2.2.2.2.2.2.1.1, xAbI (t := 0) (by decide) hL.2.2.2.2.2.2.2.1.1 hL.2.2.2.2.2.2.2.1.2.1 hL.2.2.2.2.2.2.2.1.2.2⟩
  refine lv_aload_n (pc := 53) hx hb dX8_init_53 rfl (lv_at hl 0 rfl) ?_
  refine lv_iconst (pc := 54) hx hb dX8_init_54 kc_m1 ?_
  refine xn_put (ci := 12) (ty := .int) (pc := 55) hx hb hts inX8 tyX8 tyX8_ok nmX8 hown hK hR hF hXD hS hO 1 rfl rfl 14 (Nat.le_of_ble_eq_true rfl) q_f_X8_29 (fun _ h9 => h9) rfl rfl rfl rfl (Nat.le_of_ble_eq_true rfl) dX8_init_55 ((b + 1, .inl (ca 0, 199, .inl (fun _ => 0))) :: (b, .inr (12, [.ref (b + 1), .ref (b + 2), .ref (b + 3), .ref (b + 4), .int 0, .int 0, .int 0, .int 0, .int 0, .int 0, .int (-1), .int 0, .ref (b + 5), .int 0, .int (-1), .null, .int 0, .int 0, .null, .int 0])) :: X) rfl (fun H locs hR hF hXD hS hO => ?_)
  refine lv_aload_n (pc := 58) hx hb dX8_init_58 rfl (lv_at hl 0 rfl) ?_
  refine lv_bipush (pc := 59) hx hb dX8_init_59 kb_32 ?_
  refine xn_newa (atype := .char) (ty := .char) 1 (N1 := b + 6) (pc := 61) hx hb q_arr_char rfl rfl xRA2 hts hK hR hF hXD hS hsz hO (by omega) (by omega) (N' := 32) (a0 := ((32, .inl (fun _ => 0)) : vp_A)) (fun cA => rfl) (by decide) (by decide) (Nat.le_of_ble_eq_true rfl) (Nat.le_of_ble_eq_true rfl) (Nat.le_of_ble_eq_true rfl) (Nat.le_of_ble_eq_true rfl) dX8_init_61 (fun H hR hF hXD hS hO => ?_)
  refine xn_putF (ci := 12) (ty := .array .char) (pc := 63) hx hb hts inX8 tyX8 tyX8_ok nmX8 hown hK hR hF hXD hS hO 2 rfl rfl 15 (Nat.le_of_ble_eq_true rfl) q_f_X8_32 (fun _ h9 => h9) rfl hin rfl rfl rfl rfl (Nat.le_of_ble_eq_true rfl) dX8_init_63 ((b + 6, .inl (ca 1, 32, .inl (fun _ => 0))) :: (b + 1, .inl (ca 0, 199, .inl (fun _ => 0))) :: (b, .inr (12, [.ref (b + 1), .ref (b + 2), .ref (b + 3), .ref (b + 4), .int 0, .int 0, .int 0, .int 0, .int 0, .int 0, .int (-1), .int 0, .ref (b + 5), .int 0, .int (-1), .ref (b + 6), .int 0, .int 0, .null, .int 0])) :: X) rfl (fun H locs hR hF hXD hS hO => ?_)
  obtain ⟨hR, hF, hXD, hO⟩ := xAb4 hR hF hXD hO (xRg_hi (S := S) (lo := b + 2) (hi := b + 6) (by omega)) ⟨xne0 hL.2.2.2.2.2.2.2.2.1.1, xAbI (t := 1) (by decide) hL.2.2.2.2.2.2.2.2.1.1 hL.2.2.2.2.2.2.2.2.1.2.1 hL.2.2.2.2.2.2.2.2.1.2.2⟩
  refine lv_aload_n (pc := 66) hx hb dX8_init_66 rfl (lv_at hl 0 rfl) ?_
  refine lv_bipush (pc := 67) hx hb dX8_init_67 kb_124 ?_
  refine xn_newa (atype := .int) (ty := .int) 0 (N1 := b + 7) (pc := 69) hx hb q_arr_int rfl rfl xRA1 hts hK hR hF hXD hS hsz hO (by omega) (by omega) (N' := 124) (a0 := ((124, .inl (fun _ => 0)) : vp_A)) (fun cA => rfl) (by decide) (by decide) (Nat.le_of_ble_eq_true rfl) (Nat.le_of_ble_eq_true rfl) (Nat.le_of_ble_eq_true rfl) (Nat.le_of_ble_eq_true rfl) dX8_init_69 (fun H hR hF hXD hS hO => ?_)
  refine xn_putF (ci := 12) (ty := .array .int) (pc := 71) hx hb hts inX8 tyX8 tyX8_ok nmX8 hown hK hR hF hXD hS hO 2 rfl rfl 18 (Nat.le_of_ble_eq_true rfl) q_f_X8_36 (fun _ h9 => h9) rfl hin rfl rfl rfl rfl (Nat.le_of_ble_eq_true rfl) dX8_init_71 ((b + 7, .inl (ca 0, 124, .inl (fun _ => 0))) :: (b + 1, .inl (ca 0, 199, .inl (fun _ => 0))) :: (b, .inr (12, [.ref (b + 1), .ref (b + 2), .ref (b + 3), .ref (b + 4), .int 0, .int 0, .int 0, .int 0, .int 0, .int 0, .int (-1), .int 0, .ref (b + 5), .int 0, .int (-1), .ref (b + 6), .int 0, .int 0, .ref (b + 7), .int 0])) :: X) rfl (fun H locs hR hF hXD hS hO => ?_)
  obtain ⟨hR, hF, hXD, hO⟩ := xAb4 hR hF hXD hO (xRg_hi (S := S) (lo := b + 2) (hi := b + 7) (by omega)) ⟨xne0 hL.2.2.2.2.2.2.2.2.2.1, xAbI (t := 0) (by decide) hL.2.2.2.2.2.2.2.2.2.1 hL.2.2.2.2.2.2.2.2.2.2.1 hL.2.2.2.2.2.2.2.2.2.2.2⟩
  refine lv_aload_n (pc := 74) hx hb dX8_init_74 rfl (lv_at hl 0 rfl) ?_
  refine xn_get (ci := 12) (pc := 75) hx hb hts inX8 hown hK hR 1 rfl rfl 0 (Nat.le_of_ble_eq_true rfl) q_f_X8_7 (fun _ h9 => h9) rfl dX8_init_75 ?_
  refine lv_iconst (pc := 78) hx hb dX8_init_78 kc_2 ?_
  refine lv_bipush (pc := 79) hx hb dX8_init_79 kb_20 ?_
  refine xn_iast 0 (pc := 81) hx hb hK hR hF hXD hS hO rfl (n := 199) tn_2 (vl_2 (by decide)) dX8_init_81 ((b + 1, .inl (ca 0, 199, .inl (upd (fun _ => 0) 2 20))) :: (b, .inr (12, [.ref (b + 1), .ref (b + 2), .ref (b + 3), .ref (b + 4), .int 0, .int 0, .int 0, .int 0, .int 0, .int 0, .int (-1), .int 0, .ref (b + 5), .int 0, .int (-1), .ref (b + 6), .int 0, .int 0, .ref (b + 7), .int 0])) :: X) rfl (fun H locs hR hF hXD hS hO => ?_)
  refine lv_aload_n (pc := 82) hx hb dX8_init_82 rfl (lv_at hl 0 rfl) ?_
  refine xn_get (ci := 12) (pc := 83) hx hb hts inX8 hown hK hR 1 rfl rfl 0 (Nat.le_of_ble_eq_true rfl) q_f_X8_7 (fun _ h9 => h9) rfl dX8_init_83 ?_
  refine lv_iconst (pc := 86) hx hb dX8_init_86 kc_3 ?_
  refine lv_iconst (pc := 87) hx hb dX8_init_87 kc_5 ?_
  refine xn_iast 0 (pc := 88) hx hb hK hR hF hXD hS hO rfl (n := 199) tn_3 (vl_3 (by decide)) dX8_init_88 ((b + 1, .inl (ca 0, 199, .inl (upd (upd (fun _ => 0) 2 20) 3 5))) :: (b, .inr (12, [.ref (b + 1), .ref (b + 2), .ref (b + 3), .ref (b + 4), .int 0, .int 0, .int 0, .int 0, .int 0, .int 0, .int (-1), .int 0, .ref (b + 5), .int 0, .int (-1), .ref (b + 6), .int 0, .int 0, .ref (b + 7), .int 0])) :: X) rfl (fun H locs hR hF hXD hS hO => ?_)
  refine lv_aload_n (pc := 89) hx hb dX8_init_89 rfl (lv_at hl 0 rfl) ?_
  refine xn_get (ci := 12) (pc := 90) hx hb hts inX8 hown hK hR 1 rfl rfl 0 (Nat.le_of_ble_eq_true rfl) q_f_X8_7 (fun _ h9 => h9) rfl dX8_init_90 ?_
  refine lv_iconst (pc := 93) hx hb dX8_init_93 kc_4 ?_
  refine lv_sipush (pc := 94) hx hb dX8_init_94 ks_2000 ?_
  refine xn_iast 0 (pc := 97) hx hb hK hR hF hXD hS hO rfl (n := 199) tn_4 (vl_4 (by decide)) dX8_init_97 ((b + 1, .inl (ca 0, 199, .inl (upd (upd (upd (fun _ => 0) 2 20) 3 5) 4 2000))) :: (b, .inr (12, [.ref (b + 1), .ref (b + 2), .ref (b + 3), .ref (b + 4), .int 0, .int 0, .int 0, .int 0, .int 0, .int 0, .int (-1), .int 0, .ref (b + 5), .int 0, .int (-1), .ref (b + 6), .int 0, .int 0, .ref (b + 7), .int 0])) :: X) rfl (fun H locs hR hF hXD hS hO => ?_)
  obtain ⟨hR, hF, hXD, hO⟩ := xAb4 hR hF hXD hO (xRg_lo (S := S) (lo := b + 1) (hi := b + 8) (by omega)) ⟨xne0 hL.2.2.2.1.1, xAbI (t := 0) (by decide) hL.2.2.2.1.1 hL.2.2.2.1.2.1 hL.2.2.2.1.2.2⟩
  exact xg_c (pc := 98) hx hb hr hlocks hF hXD hO rfl hR hK hS (Nat.le_of_ble_eq_true rfl) (Nat.le_of_ble_eq_true rfl) dX8_init_98
