/-! THE LAW'S ENTRY, WALKED -/
set_option maxHeartbeats 4000000 in
theorem law_entry {p : Program} {l : Launch} {e : Env} {s : State} {m : MethodId} {below : List Frame} {meth : Method} {c : Code} {D : va_G} {ca : Nat → ClassId} {ad av : Nat → Nat} {b : Nat} {Q : State → Prop} (hx : p.tables.exec = Jvm.exec) (hb : c.code = cL_law) (hml : c.maxLocals = 9) (hts : ∀ w ∈ xAll, w.before #[Value.ref b] s = true) (hown : s.vm.findClass RL = some m.cls) (hK : va_K D vwCl (xT ca) s) (hE : xEv s.heap.size ad av s s.heap) (hA : xAO s) {ls : Array Slot} (hl : lv_has ls 9 [(0, .ref b)])
    (kk : ∀ (H : Heap) (locs : List Loc) (ls : Array Slot), xRep D ca (Gf s.heap.size) (sX ca (s.heap.size + 249) (s.heap.size + 250) 16 (s.heap.size + 260) 0 0 (fun _ => 0) (fun _ => 0)) (μf s.heap.size) H → xFix s.heap.size (Gf s.heap.size) (sX ca (s.heap.size + 249) (s.heap.size + 250) 16 (s.heap.size + 260) 0 0 (fun _ => 0) (fun _ => 0)) → va_D (fun q => s.heap.size ≤ q) (sX ca (s.heap.size + 249) (s.heap.size + 250) 16 (s.heap.size + 260) 0 0 (fun _ => 0) (fun _ => 0)) → va_S (fun q => s.heap.size ≤ q) s.heap H locs → lv_has ls 9 [(0, .ref b), (1, .ref s.heap.size), (2, .ref (s.heap.size + 251)), (3, .ref (s.heap.size + 259)), (4, .ref (s.heap.size + 260)), (5, .int 0)] → W p l e room_1 s m #[Value.ref b] below meth c H locs 261 5172 Q (F0 m 28 ls [])) : W p l e room_1 s m #[Value.ref b] below meth c s.heap [] 0 0 Q (F0 m 0 ls []) := by
  obtain ⟨z, hz⟩ : ∃ z, s.heap.size = z := ⟨_, rfl⟩
  rw [hz] at hE kk
  have hR0 : xRep D ca (xGs (Gf z) (fun _ => false)) [] (μf z) s.heap := ⟨fun a => by
    unfold xAt
    rw [if_pos (show (xGs (Gf z) (fun _ => false)).1 a = 0 from rfl)]
    trivial, fun k q h => by cases h⟩
  have hF0 : xFix z (xGs (Gf z) (fun _ => false)) [] := ⟨fun a h => absurd (show (xGs (Gf z) (fun _ => false)).1 a = 0 from rfl) h, fun k q h => by cases h⟩
  have hD0 : va_D (fun q => z ≤ q) [] := ⟨fun i j q r h => (by cases h), fun k q h => by cases h⟩
  have hO0 : xOcc z (xGs (Gf z) (fun _ => false)) [] z := fun a h1 h2 => absurd h1 (by omega)
  have hS0 : va_S (fun q => z ≤ q) s.heap s.heap [] := va_S.rf
  refine xn_new (ci := 11) (N1 := z) (pc := 0) hx hb hts inX7 tyX7 tyX7_ok hown q_L_cl8 q_instantiable_X7 q_initialized_X7 hK hR0 hF0 hD0 hS0 hz hO0 (by omega) (Nat.le_refl _) rfl [.null, .null, .null, .int 0, .null, .null, .null, .null, .null, .null, .int 0] dfX7 (Nat.le_of_ble_eq_true rfl) (Nat.le_of_ble_eq_true rfl) dL_law_0 (fun H hR hF hXD hS hO => ?_)
  refine lv_dup (pc := 3) hx hb dL_law_3 rfl ?_
  refine xc_ini (pc := 4) (As := []) (rest := [.ref _]) (n := z + 1) ⟨hx, hb, hml, hown, hts⟩ (mX7_init xL_coat hF hXD hO (Nat.le_refl _)) (xcwI 0 hts q_instanceMethod_X7_init q_initialized_X7 q_code_X7_init (by decide +kernel) rfl q_L_m114 ⟨Nat.le_of_ble_eq_true rfl, Nat.le_of_ble_eq_true rfl⟩) hR hK hE hA hS hz hO (by omega) (by omega) rfl hl.1 rfl (Nat.le_of_ble_eq_true rfl) dL_law_4 ⟨Nat.le_of_ble_eq_true rfl, Nat.le_of_ble_eq_true rfl⟩ (fun H locs hR hF hXD hS hO => ?_)
  refine lv_astore_n (pc := 7) (lv' := [(1, .ref _), (0, .ref _)]) hx hb dL_law_7 rfl hl (Nat.le_of_ble_eq_true rfl) rfl (fun ls hl => ?_)
  have hXD : va_D (fun q => z ≤ q) [(z, .inr (11, [.ref (z + 1), .ref (z + 21), .ref (z + 41), .int 0, .ref (z + 61), .ref (z + 223), .ref (z + 224), .ref (z + 225), .ref (z + 248), .ref (z + 249), .int (-1)])), (z + 250, .inl (ca 2, 16, .inl (fun _ => 0))), (z + 249, .inr (1, [.ref (z + 250), .int 0, .int 0, .int 0]))] := xSd (by omega) (by omega) (by omega) (by omega) (by omega) (by omega)
  obtain ⟨hR, hF, hO⟩ := xSw (Y := [(z, .inr (11, [.ref (z + 1), .ref (z + 21), .ref (z + 41), .int 0, .ref (z + 61), .ref (z + 223), .ref (z + 224), .ref (z + 225), .ref (z + 248), .ref (z + 249), .int (-1)])), (z + 250, .inl (ca 2, 16, .inl (fun _ => 0))), (z + 249, .inr (1, [.ref (z + 250), .int 0, .int 0, .int 0]))]) (fun q => by
    simp only [List.mem_cons, List.not_mem_nil, or_false]
    exact ⟨fun h => h.elim (fun h => Or.inr (Or.inr h)) (fun h => h.elim Or.inl (fun h => Or.inr (Or.inl h))), fun h => h.elim (fun h => Or.inr (Or.inl h)) (fun h => h.elim (fun h => Or.inr (Or.inr h)) Or.inl)⟩) hR hF hO
  obtain ⟨hR, hF, hXD, hO⟩ := xAb4 hR hF hXD hO (xRg_lo (S := fun _ => false) (lo := z) (hi := z + 249) (by omega)) ⟨xne9 (d := 0) (k := 12) (by decide) (by decide), xAbCoat xL_coat⟩
  refine xn_new (ci := 12) (N1 := z + 251) (pc := 8) hx hb hts inX8 tyX8 tyX8_ok hown q_L_cl115 q_instantiable_X8 q_initialized_X8 hK hR hF hXD hS hz hO (by omega) (by omega) rfl [.null, .null, .null, .null, .int 0, .int 0, .int 0, .int 0, .int 0, .int 0, .int 0, .int 0, .null, .int 0, .int 0, .null, .int 0, .int 0, .null, .int 0] dfX8 (Nat.le_of_ble_eq_true rfl) (Nat.le_of_ble_eq_true rfl) dL_law_8 (fun H hR hF hXD hS hO => ?_)
  refine lv_dup (pc := 11) hx hb dL_law_11 rfl ?_
  refine xc_ini (pc := 12) (As := []) (rest := [.ref _]) (n := z + 252) ⟨hx, hb, hml, hown, hts⟩ (mX8_init xL_model hF hXD hO (by omega)) (xcwI 0 hts q_instanceMethod_X8_init q_initialized_X8 q_code_X8_init (by decide +kernel) rfl q_L_m117 ⟨Nat.le_of_ble_eq_true rfl, Nat.le_of_ble_eq_true rfl⟩) hR hK hE hA hS hz hO (by omega) (by omega) rfl hl.1 rfl (Nat.le_of_ble_eq_true rfl) dL_law_12 ⟨Nat.le_of_ble_eq_true rfl, Nat.le_of_ble_eq_true rfl⟩ (fun H locs hR hF hXD hS hO => ?_)
  refine lv_astore_n (pc := 15) (lv' := [(2, .ref _), (1, .ref _), (0, .ref _)]) hx hb dL_law_15 rfl hl (Nat.le_of_ble_eq_true rfl) rfl (fun ls hl => ?_)
  obtain ⟨hR, hF, hXD, hO⟩ := xAb4 hR hF hXD hO (xRg_lo (S := xRg (fun _ => false) z (z + 249)) (lo := z + 251) (hi := z + 259) (by omega)) ⟨xne9 (d := 251) (k := 13) (by decide) (by decide), xAbModel xL_model⟩
  refine lv_iconst (pc := 16) hx hb dL_law_16 kc_1 ?_
  refine xn_newa (atype := .long) (ty := .long) 3 (N1 := z + 259) (pc := 17) hx hb q_arr_long rfl rfl xRA3 hts hK hR hF hXD hS hz hO (by omega) (by omega) (N' := 1) (a0 := ((1, .inr (.inl (fun _ => 0))) : vp_A)) (fun cA => rfl) (by decide) (by decide) (Nat.le_of_ble_eq_true rfl) (Nat.le_of_ble_eq_true rfl) (Nat.le_of_ble_eq_true rfl) (Nat.le_of_ble_eq_true rfl) dL_law_17 (fun H hR hF hXD hS hO => ?_)
  refine lv_astore_n (pc := 19) (lv' := [(3, .ref _), (2, .ref _), (1, .ref _), (0, .ref _)]) hx hb dL_law_19 rfl hl (Nat.le_of_ble_eq_true rfl) rfl (fun ls hl => ?_)
  obtain ⟨hR, hF, hXD, hO⟩ := xAb4 hR hF hXD hO (xRg_hi (S := xRg (fun _ => false) z (z + 249)) (lo := z + 251) (hi := z + 259) (by omega)) ⟨xne9 (d := 259) (k := 104) (by decide) (by decide), xAbLong⟩
  refine lv_iconst (pc := 20) hx hb dL_law_20 kc_1 ?_
  refine xn_newa (atype := .double) (ty := .double) 7 (N1 := z + 260) (pc := 21) hx hb q_arr_double rfl rfl xRA4 hts hK hR hF hXD hS hz hO (by omega) (by omega) (N' := 1) (a0 := ((1, .inr (.inr (.inr (.inl (fun _ => 0))))) : vp_A)) (fun cA => rfl) (by decide) (by decide) (Nat.le_of_ble_eq_true rfl) (Nat.le_of_ble_eq_true rfl) (Nat.le_of_ble_eq_true rfl) (Nat.le_of_ble_eq_true rfl) dL_law_21 (fun H hR hF hXD hS hO => ?_)
  refine lv_astore (pc := 23) (lv' := [(4, .ref _), (3, .ref _), (2, .ref _), (1, .ref _), (0, .ref _)]) hx hb dL_law_23 hl (Nat.le_of_ble_eq_true rfl) rfl (fun ls hl => ?_)
  refine lv_iconst (pc := 25) hx hb dL_law_25 kc_0 ?_
  refine lv_istore (pc := 26) (lv' := [(5, .int _), (4, .ref _), (3, .ref _), (2, .ref _), (1, .ref _), (0, .ref _)]) hx hb dL_law_26 hl (Nat.le_of_ble_eq_true rfl) rfl (fun ls hl => ?_)
  obtain ⟨hR, hF, hO⟩ := xSw (Y := sX ca (z + 249) (z + 250) 16 (z + 260) 0 0 (fun _ => 0) (fun _ => 0)) (fun q => by
    simp only [List.mem_cons, List.not_mem_nil, or_false]
    exact ⟨fun h => h.elim (fun h => Or.inr (Or.inr h)) (fun h => h.elim (fun h => Or.inr (Or.inl h)) Or.inl), fun h => h.elim (fun h => Or.inr (Or.inr h)) (fun h => h.elim (fun h => Or.inr (Or.inl h)) Or.inl)⟩) hR hF hO
  rw [Gf_all] at hR hF
  refine kk H _ ls hR hF (xSd (by omega) (by omega) (by omega) (by omega) (by omega) (by omega)) hS ⟨hl.1, hl.2.1, fun q hq => hl.2.2 q ?_⟩
  simp only [List.mem_cons, List.not_mem_nil, or_false] at hq ⊢
  rcases hq with h | h | h | h | h | h
  · exact Or.inr (Or.inr (Or.inr (Or.inr (Or.inr h))))
  · exact Or.inr (Or.inr (Or.inr (Or.inr (Or.inl h))))
  · exact Or.inr (Or.inr (Or.inr (Or.inl h)))
  · exact Or.inr (Or.inr (Or.inl h))
  · exact Or.inr (Or.inl h)
  · exact Or.inl h
