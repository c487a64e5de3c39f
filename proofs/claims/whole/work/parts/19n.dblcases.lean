theorem xset_id {α : Type} {X : List α} {q0 : Nat} {v : α} (h : X[q0]? = some v) : X.set q0 v = X := by
  obtain ⟨hl, e⟩ := List.getElem?_eq_some_iff.mp h
  rw [← e]
  exact List.set_getElem_self hl
noncomputable def fL_meanLoan (h0 : Nat) (u0 : UInt64) (μ : xM) : Option ((Int32 × UInt64) × xM) := match fX7_meanLoan h0 μ with
  | some ((0, u), m) => (some ((0, u), m))
  | some ((k + 1, _), m) => if k = 5 then some ((1, u0), m) else none
  | none => none
noncomputable def gL_27 (x md : Nat) (u0 : UInt64) (μ : xM) : Option xM := match fL_meanLoan x u0 μ with
  | some ((r1, u), m1) => (match fX8_meanLoan md m1 with
    | some (v, m2) => xb (fX8_thrown md m2) (fun r3 m3 => if r3 = r1 then (if r1 = 0 then (if Op.cmpValue (FP.dcmp u v) .l = 0 then some m3 else none) else some m3) else none)
    | none => none)
  | none => none
noncomputable def fL_redeemedShare (h0 : Nat) (u0 : UInt64) (μ : xM) : Option ((Int32 × UInt64) × xM) := match fX7_redeemedShare h0 μ with
  | some ((0, u), m) => xk (vf_n64 (FP.f2d u)) (some ((0, (FP.f2d u)), m))
  | some ((k + 1, _), m) => if k = 5 then some ((1, u0), m) else none
  | none => none
noncomputable def gL_28 (x md : Nat) (u0 : UInt64) (μ : xM) : Option xM := match fL_redeemedShare x u0 μ with
  | some ((r1, u), m1) => (match fX8_redeemedShare md m1 with
    | some (v, m2) => xb (fX8_thrown md m2) (fun r3 m3 => if r3 = r1 then (if r1 = 0 then (xk (vf_n64 (FP.f2d v)) (if Op.cmpValue (FP.dcmp u (FP.f2d v)) .l = 0 then some m3 else none)) else some m3) else none)
    | none => none)
  | none => none
set_option maxHeartbeats 1000000 in
set_option maxRecDepth 20000 in
theorem mL_meanLoan {l : Launch} (hls : l.stackTraces = false) {D : va_G} {ca : Nat → ClassId} {z : Nat} {G : xG} {X : va_W} {ad av : Nat → Nat} (hF : xFix z G X) (hXD : va_D (fun q => z ≤ q) X) {q0 od : Nat} {fd : Nat → UInt64} (ha : X[q0]? = some (od, xD ca fd)) (h0 : Nat) (k0 : xI_Coat G h0) {μ μ1 : xM} {r : Int32} {u : UInt64} (h : fL_meanLoan h0 (fd 0) μ = some ((r, u), μ1)) : xMwd l yL_meanLoan (xwh yL_meanLoan cL_meanLoan 3 (some .int) [(0, 7, 10, 102)]) 8 1 6 D ca z G X ad av q0 od [.ref h0, .ref od] μ r u μ1 := by
  refine xm_wg (by decide) rfl (Nat.le_of_ble_eq_true rfl) [(0, .ref h0), (1, .ref od)] rfl ?_
  intro p e s m args below meth c ls hx hb hr hml hlocks hT hts hown hK hE hR hS hl
  have hts : ∀ w ∈ xAll, w.before args s = true := fun w hw => hts w (List.mem_cons_of_mem _ hw)
  rw [fL_meanLoan] at h
  refine lv_aload_n (pc := 0) hx hb dL_meanLoan_0 rfl (lv_at hl 1 rfl) ?_
  refine lv_iconst (pc := 1) hx hb dL_meanLoan_1 kc_0 ?_
  refine lv_aload_n (pc := 2) hx hb dL_meanLoan_2 rfl (lv_at hl 0 rfl) ?_
  match c1 : fX7_meanLoan h0 μ, h with
  | some ((k + 1, u1), m1), h =>
    by_cases z1 : k = 5
    · subst z1
      have h := (xpos rfl h)
      cases h
      refine xz_dV (pc := 3) (As := []) (rest := [.int _, .ref _]) ⟨hx, hb, hml, hown, hts⟩ (mX7_meanLoan hls hF _ k0 c1) (xcwV 0 hts fdX7_meanLoan q_m_L_98 ⟨Nat.le_of_ble_eq_true rfl, Nat.le_of_ble_eq_true rfl⟩) (xRecv hK hR (ci := 11) rfl k0.1) hR hK hE hS rfl hl.1 rfl (Nat.le_of_ble_eq_true rfl) dL_meanLoan_3 ⟨Nat.le_of_ble_eq_true rfl, Nat.le_of_ble_eq_true rfl⟩ (fun ce q9 H locs hR hS h1 h2 h3 => ?_)
      refine xCatch hT hown hE [] ⟨0, 7, 10, 102⟩ [] rfl 5 (by decide) (fun w hw => absurd hw List.not_mem_nil) (by decide) (by decide) (hts _ q_Lc_102) (List.mem_of_getElem? (i := 11) rfl) h1 h2 h3 ?_
      refine lv_astore_n (pc := 10) (lv' := [(2, .ref _), (0, .ref _), (1, .ref _)]) hx hb dL_meanLoan_10 rfl hl (Nat.le_of_ble_eq_true rfl) rfl (fun ls hl => ?_)
      refine lv_iconst (pc := 11) hx hb dL_meanLoan_11 kc_1 ?_
      have hR2 : xRep D ca G (X.set q0 (od, xD ca fd)) μ1 H := by rw [xset_id ha]; exact hR
      exact xf_wd (pc := 12) hx hb hr rfl hlocks rfl rfl hR2 hK hS (Nat.le_of_ble_eq_true rfl) (Nat.le_of_ble_eq_true rfl) dL_meanLoan_12
    · have h := (xneg z1 h)
      cases h
  | some ((0, u1), m1), h =>
    have h : some (((0 : Int32), u1), m1) = some ((r, u), μ1) := h
    refine xy_dV (pc := 3) (As := []) (rest := [.int _, .ref _]) ⟨hx, hb, hml, hown, hts⟩ (mX7_meanLoan hls hF _ k0 c1) (xcwV 0 hts fdX7_meanLoan q_m_L_98 ⟨Nat.le_of_ble_eq_true rfl, Nat.le_of_ble_eq_true rfl⟩) (xRecv hK hR (ci := 11) rfl k0.1) hR hK hE hS rfl hl.1 rfl (Nat.le_of_ble_eq_true rfl) dL_meanLoan_3 ⟨Nat.le_of_ble_eq_true rfl, Nat.le_of_ble_eq_true rfl⟩ (fun H locs hR hS => ?_)
    refine xr_dast (pc := 6) hx hb hK hR hF hXD hS ha dL_meanLoan_6 (fun H locs fd1 hu hR hS => ?_)
    refine lv_goto (pc := 7) (tgt := 13) hx hb dL_meanLoan_7 (by decide) ?_
    refine lv_iconst (pc := 13) hx hb dL_meanLoan_13 kc_0 ?_
    cases h
    exact xf_wd (pc := 14) hx hb hr rfl hlocks rfl hu hR hK hS (Nat.le_of_ble_eq_true rfl) (Nat.le_of_ble_eq_true rfl) dL_meanLoan_14
set_option maxHeartbeats 1000000 in
set_option maxRecDepth 20000 in
theorem wL_27 {p : Program} {l : Launch} (hls : l.stackTraces = false) {e : Env} {s : State} {m : MethodId} {args : Array Value} {below : List Frame} {meth : Method} {c : Code} {D : va_G} {ca : Nat → ClassId} {z : Nat} {G : xG} {X : va_W} {ad av : Nat → Nat} {b L : Nat} {Q : State → Prop} (hF : xFix z G X) (hx : p.tables.exec = Jvm.exec) (hb : c.code = cL_law) (hml : c.maxLocals = 9) (hts : ∀ w ∈ xAll, w.before args s = true) (hown : s.vm.findClass RL = some m.cls) (hK : va_K D vwCl (xT ca) s) (hE : xEv z ad av s s.heap) {x md out od q0 : Nat} {fd : Nat → UInt64} (hXD : va_D (fun q => z ≤ q) X) (ha : X[q0]? = some (od, xD ca fd)) (kx : xI_Coat G x) (km : xI_Model G md) {j : Nat} {cells slots : Nat} (hc : cells + 20 ≤ 603072) (hs : slots + 2000 ≤ 7211114) {μ μ1 : xM} (h : gL_27 x md (fd 0) μ = some μ1) {H : Heap} {locs : List Loc} {ls : Array Slot} (hR : xRep D ca G X μ H) (hS : va_S (fun q => z ≤ q) s.heap H locs) (hl : lv_has ls 9 [(0, .ref b), (1, .ref x), (2, .ref md), (3, .ref out), (4, .ref od), (5, .int (nI j))])
    (kk : ∀ (fd1 : Nat → UInt64) (H : Heap) (locs : List Loc) (ls : Array Slot), xRep D ca G (X.set q0 (od, xD ca fd1)) μ1 H → va_S (fun q => z ≤ q) s.heap H locs → lv_has ls 9 [(0, .ref b), (1, .ref x), (2, .ref md), (3, .ref out), (4, .ref od), (5, .int (nI j))] → W p l e room_1 s m args below meth c H locs (cells + 20) (slots + 2000) Q (F0 m 1973 ls [])) : W p l e room_1 s m args below meth c H locs cells slots Q (F0 m 1741 ls []) := by
  rw [gL_27] at h
  match c1 : fL_meanLoan x (fd 0) μ, h with
  | some ((r1, u), m1), h =>
    have h : (match fX8_meanLoan md m1 with
      | some (v, m2) => xb (fX8_thrown md m2) (fun r3 m3 => if r3 = r1 then (if r1 = 0 then (if Op.cmpValue (FP.dcmp u v) .l = 0 then some m3 else none) else some m3) else none)
      | none => none) = some μ1 := h
    refine lv_aload_n (pc := 1741) hx hb dL_law_1741 rfl (lv_at hl 1 rfl) ?_
    refine lv_aload (pc := 1742) hx hb dL_law_1742 (lv_at hl 4 rfl) ?_
    refine xl_callD (pc := 1744) (As := [.ref _, .ref _]) (rest := []) ⟨hx, hb, hml, hown, hts⟩ (mL_meanLoan hls hF hXD ha _ kx c1) fhL_meanLoan q_m_L_215 ⟨Nat.le_of_ble_eq_true rfl, Nat.le_of_ble_eq_true rfl⟩ hR hK hE hS rfl hl.1 rfl (Nat.le_of_ble_eq_true rfl) dL_law_1744 ⟨by omega, by omega⟩ (fun H locs fd1 hu hR hS => ?_)
    have hF1 := hF.setX (v' := xD ca fd1) ha
    refine lv_istore (pc := 1747) (lv' := [(6, .int _), (0, .ref _), (1, .ref _), (2, .ref _), (3, .ref _), (4, .ref _), (5, .int _)]) hx hb dL_law_1747 hl (Nat.le_of_ble_eq_true rfl) rfl (fun ls hl => ?_)
    refine lv_aload_n (pc := 1749) hx hb dL_law_1749 rfl (lv_at hl 3 rfl) ?_
    match c2 : fX8_meanLoan md m1, h with
    | some (v, m2), h =>
      have h : xb (fX8_thrown md m2) (fun r3 m3 => if r3 = r1 then (if r1 = 0 then (if Op.cmpValue (FP.dcmp u v) .l = 0 then some m3 else none) else some m3) else none) = some μ1 := h
      refine xl_dV (pc := 1750) (As := []) (rest := []) ⟨hx, hb, hml, hown, hts⟩ (mX8_meanLoan hF1 _ km c2) fdX8_meanLoan q_m_L_218 ⟨Nat.le_of_ble_eq_true rfl, Nat.le_of_ble_eq_true rfl⟩ (xRecv hK hR (ci := 12) rfl km.1) hR hK hE hS rfl hl.1 rfl (Nat.le_of_ble_eq_true rfl) dL_law_1750 ⟨by omega, by omega⟩ (fun H locs hR hS => ?_)
      refine lv_dstore (pc := 1753) (lv' := [(7, .double _), (6, .int _), (0, .ref _), (1, .ref _), (2, .ref _), (3, .ref _), (4, .ref _), (5, .int _)]) hx hb dL_law_1753 hl (Nat.le_of_ble_eq_true rfl) rfl (fun ls hl => ?_)
      refine lv_aload_n (pc := 1755) hx hb dL_law_1755 rfl (lv_at hl 4 rfl) ?_
      obtain ⟨r3, m3, c3, h⟩ := xb_inv h
      refine xl_iV (pc := 1756) (As := []) (rest := []) ⟨hx, hb, hml, hown, hts⟩ (mX8_thrown hF1 _ km c3) fdX8_thrown q_m_L_124 ⟨Nat.le_of_ble_eq_true rfl, Nat.le_of_ble_eq_true rfl⟩ (xRecv hK hR (ci := 12) rfl km.1) hR hK hE hS rfl hl.1 rfl (Nat.le_of_ble_eq_true rfl) dL_law_1756 ⟨by omega, by omega⟩ (fun H locs hR hS => ?_)
      refine lv_iload (pc := 1759) hx hb dL_law_1759 (lv_at hl 1 rfl) ?_
      refine lv_icmp_eq (pc := 1761) (tgt := 1766) hx hb dL_law_1761 (by decide) (fun c4 => ?_) (fun c4 => ?_)
      · have h := xpos c4 h
        refine lv_iload (pc := 1766) hx hb dL_law_1766 (lv_at hl 1 rfl) ?_
        refine lv_if_ne (pc := 1768) (tgt := 1803) hx hb dL_law_1768 (by decide) (fun c5 => ?_) (fun c5 => ?_)
        · have h := xneg c5 h
          cases h
          refine lv_goto (pc := 1803) (tgt := 1973) hx hb dL_law_1803 (by decide) ?_
          refine W.widen (k := cells + 20) (n := slots + 2000) (by omega) (by omega) ?_
          exact kk fd1 H locs ls hR hS (lv_sub hl [2, 3, 4, 5, 6, 7] rfl)
        · have h := xpos c5 h
          by_cases c7 : Op.cmpValue (FP.dcmp u v) .l = 0
          · have h := xpos c7 h
            refine lv_aload (pc := 1771) hx hb dL_law_1771 (lv_at hl 6 rfl) ?_
            refine lv_iconst (pc := 1773) hx hb dL_law_1773 kc_0 ?_
            refine xr_dald (pc := 1774) (q0 := q0) hx hb hK hR (List.getElem?_set_self (List.getElem?_eq_some_iff.mp ha).1) hu dL_law_1774 ?_
            refine lv_dload (pc := 1775) hx hb dL_law_1775 (lv_at hl 0 rfl) ?_
            refine lv_dcmp (pc := 1777) hx hb dL_law_1777 ?_
            refine lv_if_eq (pc := 1778) (tgt := 1803) hx hb dL_law_1778 (by decide) (fun _ => ?_) (fun c9 => absurd c7 c9)
            cases h
            refine lv_goto (pc := 1803) (tgt := 1973) hx hb dL_law_1803 (by decide) ?_
            refine W.widen (k := cells + 20) (n := slots + 2000) (by omega) (by omega) ?_
            exact kk fd1 H locs ls hR hS (lv_sub hl [2, 3, 4, 5, 6, 7] rfl)
          · have h := xneg c7 h
            cases h
      · have h := xneg c4 h
        cases h
set_option maxHeartbeats 1000000 in
set_option maxRecDepth 20000 in
theorem mL_redeemedShare {l : Launch} (hls : l.stackTraces = false) {D : va_G} {ca : Nat → ClassId} {z : Nat} {G : xG} {X : va_W} {ad av : Nat → Nat} (hF : xFix z G X) (hXD : va_D (fun q => z ≤ q) X) {q0 od : Nat} {fd : Nat → UInt64} (ha : X[q0]? = some (od, xD ca fd)) (h0 : Nat) (k0 : xI_Coat G h0) {μ μ1 : xM} {r : Int32} {u : UInt64} (h : fL_redeemedShare h0 (fd 0) μ = some ((r, u), μ1)) : xMwd l yL_redeemedShare (xwh yL_redeemedShare cL_redeemedShare 3 (some .int) [(0, 8, 11, 102)]) 8 1 6 D ca z G X ad av q0 od [.ref h0, .ref od] μ r u μ1 := by
  refine xm_wg (by decide) rfl (Nat.le_of_ble_eq_true rfl) [(0, .ref h0), (1, .ref od)] rfl ?_
  intro p e s m args below meth c ls hx hb hr hml hlocks hT hts hown hK hE hR hS hl
  have hts : ∀ w ∈ xAll, w.before args s = true := fun w hw => hts w (List.mem_cons_of_mem _ hw)
  rw [fL_redeemedShare] at h
  refine lv_aload_n (pc := 0) hx hb dL_redeemedShare_0 rfl (lv_at hl 1 rfl) ?_
  refine lv_iconst (pc := 1) hx hb dL_redeemedShare_1 kc_0 ?_
  refine lv_aload_n (pc := 2) hx hb dL_redeemedShare_2 rfl (lv_at hl 0 rfl) ?_
  match c1 : fX7_redeemedShare h0 μ, h with
  | some ((k + 1, u1), m1), h =>
    by_cases z1 : k = 5
    · subst z1
      have h := (xpos rfl h)
      cases h
      refine xz_fV (pc := 3) (As := []) (rest := [.int _, .ref _]) ⟨hx, hb, hml, hown, hts⟩ (mX7_redeemedShare hls hF _ k0 c1) (xcwV 0 hts fdX7_redeemedShare q_m_L_104 ⟨Nat.le_of_ble_eq_true rfl, Nat.le_of_ble_eq_true rfl⟩) (xRecv hK hR (ci := 11) rfl k0.1) hR hK hE hS rfl hl.1 rfl (Nat.le_of_ble_eq_true rfl) dL_redeemedShare_3 ⟨Nat.le_of_ble_eq_true rfl, Nat.le_of_ble_eq_true rfl⟩ (fun ce q9 H locs hR hS h1 h2 h3 => ?_)
      refine xCatch hT hown hE [] ⟨0, 8, 11, 102⟩ [] rfl 5 (by decide) (fun w hw => absurd hw List.not_mem_nil) (by decide) (by decide) (hts _ q_Lc_102) (List.mem_of_getElem? (i := 11) rfl) h1 h2 h3 ?_
      refine lv_astore_n (pc := 11) (lv' := [(2, .ref _), (0, .ref _), (1, .ref _)]) hx hb dL_redeemedShare_11 rfl hl (Nat.le_of_ble_eq_true rfl) rfl (fun ls hl => ?_)
      refine lv_iconst (pc := 12) hx hb dL_redeemedShare_12 kc_1 ?_
      have hR2 : xRep D ca G (X.set q0 (od, xD ca fd)) μ1 H := by rw [xset_id ha]; exact hR
      exact xf_wd (pc := 13) hx hb hr rfl hlocks rfl rfl hR2 hK hS (Nat.le_of_ble_eq_true rfl) (Nat.le_of_ble_eq_true rfl) dL_redeemedShare_13
    · have h := (xneg z1 h)
      cases h
  | some ((0, u1), m1), h =>
    obtain ⟨c2, h⟩ := xk_inv (show xk (vf_n64 (FP.f2d u1)) (some (((0 : Int32), (FP.f2d u1)), m1)) = some ((r, u), μ1) from h)
    refine xy_fV (pc := 3) (As := []) (rest := [.int _, .ref _]) ⟨hx, hb, hml, hown, hts⟩ (mX7_redeemedShare hls hF _ k0 c1) (xcwV 0 hts fdX7_redeemedShare q_m_L_104 ⟨Nat.le_of_ble_eq_true rfl, Nat.le_of_ble_eq_true rfl⟩) (xRecv hK hR (ci := 11) rfl k0.1) hR hK hE hS rfl hl.1 rfl (Nat.le_of_ble_eq_true rfl) dL_redeemedShare_3 ⟨Nat.le_of_ble_eq_true rfl, Nat.le_of_ble_eq_true rfl⟩ (fun H locs hR hS => ?_)
    refine lv_f2d (pc := 6) hx hb dL_redeemedShare_6 c2 ?_
    refine xr_dast (pc := 7) hx hb hK hR hF hXD hS ha dL_redeemedShare_7 (fun H locs fd1 hu hR hS => ?_)
    refine lv_goto (pc := 8) (tgt := 14) hx hb dL_redeemedShare_8 (by decide) ?_
    refine lv_iconst (pc := 14) hx hb dL_redeemedShare_14 kc_0 ?_
    cases h
    exact xf_wd (pc := 15) hx hb hr rfl hlocks rfl hu hR hK hS (Nat.le_of_ble_eq_true rfl) (Nat.le_of_ble_eq_true rfl) dL_redeemedShare_15
set_option maxHeartbeats 1000000 in
set_option maxRecDepth 20000 in
theorem wL_28 {p : Program} {l : Launch} (hls : l.stackTraces = false) {e : Env} {s : State} {m : MethodId} {args : Array Value} {below : List Frame} {meth : Method} {c : Code} {D : va_G} {ca : Nat → ClassId} {z : Nat} {G : xG} {X : va_W} {ad av : Nat → Nat} {b L : Nat} {Q : State → Prop} (hF : xFix z G X) (hx : p.tables.exec = Jvm.exec) (hb : c.code = cL_law) (hml : c.maxLocals = 9) (hts : ∀ w ∈ xAll, w.before args s = true) (hown : s.vm.findClass RL = some m.cls) (hK : va_K D vwCl (xT ca) s) (hE : xEv z ad av s s.heap) {x md out od q0 : Nat} {fd : Nat → UInt64} (hXD : va_D (fun q => z ≤ q) X) (ha : X[q0]? = some (od, xD ca fd)) (kx : xI_Coat G x) (km : xI_Model G md) {j : Nat} {cells slots : Nat} (hc : cells + 20 ≤ 603072) (hs : slots + 2000 ≤ 7211114) {μ μ1 : xM} (h : gL_28 x md (fd 0) μ = some μ1) {H : Heap} {locs : List Loc} {ls : Array Slot} (hR : xRep D ca G X μ H) (hS : va_S (fun q => z ≤ q) s.heap H locs) (hl : lv_has ls 9 [(0, .ref b), (1, .ref x), (2, .ref md), (3, .ref out), (4, .ref od), (5, .int (nI j))])
    (kk : ∀ (fd1 : Nat → UInt64) (H : Heap) (locs : List Loc) (ls : Array Slot), xRep D ca G (X.set q0 (od, xD ca fd1)) μ1 H → va_S (fun q => z ≤ q) s.heap H locs → lv_has ls 9 [(0, .ref b), (1, .ref x), (2, .ref md), (3, .ref out), (4, .ref od), (5, .int (nI j))] → W p l e room_1 s m args below meth c H locs (cells + 20) (slots + 2000) Q (F0 m 1973 ls [])) : W p l e room_1 s m args below meth c H locs cells slots Q (F0 m 1806 ls []) := by
  rw [gL_28] at h
  match c1 : fL_redeemedShare x (fd 0) μ, h with
  | some ((r1, u), m1), h =>
    have h : (match fX8_redeemedShare md m1 with
      | some (v, m2) => xb (fX8_thrown md m2) (fun r3 m3 => if r3 = r1 then (if r1 = 0 then (xk (vf_n64 (FP.f2d v)) (if Op.cmpValue (FP.dcmp u (FP.f2d v)) .l = 0 then some m3 else none)) else some m3) else none)
      | none => none) = some μ1 := h
    refine lv_aload_n (pc := 1806) hx hb dL_law_1806 rfl (lv_at hl 1 rfl) ?_
    refine lv_aload (pc := 1807) hx hb dL_law_1807 (lv_at hl 4 rfl) ?_
    refine xl_callD (pc := 1809) (As := [.ref _, .ref _]) (rest := []) ⟨hx, hb, hml, hown, hts⟩ (mL_redeemedShare hls hF hXD ha _ kx c1) fhL_redeemedShare q_m_L_219 ⟨Nat.le_of_ble_eq_true rfl, Nat.le_of_ble_eq_true rfl⟩ hR hK hE hS rfl hl.1 rfl (Nat.le_of_ble_eq_true rfl) dL_law_1809 ⟨by omega, by omega⟩ (fun H locs fd1 hu hR hS => ?_)
    have hF1 := hF.setX (v' := xD ca fd1) ha
    refine lv_istore (pc := 1812) (lv' := [(6, .int _), (0, .ref _), (1, .ref _), (2, .ref _), (3, .ref _), (4, .ref _), (5, .int _)]) hx hb dL_law_1812 hl (Nat.le_of_ble_eq_true rfl) rfl (fun ls hl => ?_)
    refine lv_aload_n (pc := 1814) hx hb dL_law_1814 rfl (lv_at hl 3 rfl) ?_
    match c2 : fX8_redeemedShare md m1, h with
    | some (v, m2), h =>
      have h : xb (fX8_thrown md m2) (fun r3 m3 => if r3 = r1 then (if r1 = 0 then (xk (vf_n64 (FP.f2d v)) (if Op.cmpValue (FP.dcmp u (FP.f2d v)) .l = 0 then some m3 else none)) else some m3) else none) = some μ1 := h
      refine xl_fV (pc := 1815) (As := []) (rest := []) ⟨hx, hb, hml, hown, hts⟩ (mX8_redeemedShare hF1 _ km c2) fdX8_redeemedShare q_m_L_221 ⟨Nat.le_of_ble_eq_true rfl, Nat.le_of_ble_eq_true rfl⟩ (xRecv hK hR (ci := 12) rfl km.1) hR hK hE hS rfl hl.1 rfl (Nat.le_of_ble_eq_true rfl) dL_law_1815 ⟨by omega, by omega⟩ (fun H locs hR hS => ?_)
      refine lv_fstore (pc := 1818) (lv' := [(7, .float _), (6, .int _), (0, .ref _), (1, .ref _), (2, .ref _), (3, .ref _), (4, .ref _), (5, .int _)]) hx hb dL_law_1818 hl (Nat.le_of_ble_eq_true rfl) rfl (fun ls hl => ?_)
      refine lv_aload_n (pc := 1820) hx hb dL_law_1820 rfl (lv_at hl 4 rfl) ?_
      obtain ⟨r3, m3, c3, h⟩ := xb_inv h
      refine xl_iV (pc := 1821) (As := []) (rest := []) ⟨hx, hb, hml, hown, hts⟩ (mX8_thrown hF1 _ km c3) fdX8_thrown q_m_L_124 ⟨Nat.le_of_ble_eq_true rfl, Nat.le_of_ble_eq_true rfl⟩ (xRecv hK hR (ci := 12) rfl km.1) hR hK hE hS rfl hl.1 rfl (Nat.le_of_ble_eq_true rfl) dL_law_1821 ⟨by omega, by omega⟩ (fun H locs hR hS => ?_)
      refine lv_iload (pc := 1824) hx hb dL_law_1824 (lv_at hl 1 rfl) ?_
      refine lv_icmp_eq (pc := 1826) (tgt := 1831) hx hb dL_law_1826 (by decide) (fun c4 => ?_) (fun c4 => ?_)
      · have h := xpos c4 h
        refine lv_iload (pc := 1831) hx hb dL_law_1831 (lv_at hl 1 rfl) ?_
        refine lv_if_ne (pc := 1833) (tgt := 1869) hx hb dL_law_1833 (by decide) (fun c5 => ?_) (fun c5 => ?_)
        · have h := xneg c5 h
          cases h
          refine lv_goto (pc := 1869) (tgt := 1973) hx hb dL_law_1869 (by decide) ?_
          refine W.widen (k := cells + 20) (n := slots + 2000) (by omega) (by omega) ?_
          exact kk fd1 H locs ls hR hS (lv_sub hl [2, 3, 4, 5, 6, 7] rfl)
        · have h := xpos c5 h
          obtain ⟨c8, h⟩ := xk_inv h
          by_cases c7 : Op.cmpValue (FP.dcmp u (FP.f2d v)) .l = 0
          · have h := xpos c7 h
            refine lv_aload (pc := 1836) hx hb dL_law_1836 (lv_at hl 6 rfl) ?_
            refine lv_iconst (pc := 1838) hx hb dL_law_1838 kc_0 ?_
            refine xr_dald (pc := 1839) (q0 := q0) hx hb hK hR (List.getElem?_set_self (List.getElem?_eq_some_iff.mp ha).1) hu dL_law_1839 ?_
            refine lv_fload (pc := 1840) hx hb dL_law_1840 (lv_at hl 0 rfl) ?_
            refine lv_f2d (pc := 1842) hx hb dL_law_1842 c8 ?_
            refine lv_dcmp (pc := 1843) hx hb dL_law_1843 ?_
            refine lv_if_eq (pc := 1844) (tgt := 1869) hx hb dL_law_1844 (by decide) (fun _ => ?_) (fun c9 => absurd c7 c9)
            cases h
            refine lv_goto (pc := 1869) (tgt := 1973) hx hb dL_law_1869 (by decide) ?_
            refine W.widen (k := cells + 20) (n := slots + 2000) (by omega) (by omega) ?_
            exact kk fd1 H locs ls hR hS (lv_sub hl [2, 3, 4, 5, 6, 7] rfl)
          · have h := xneg c7 h
            cases h
      · have h := xneg c4 h
        cases h
