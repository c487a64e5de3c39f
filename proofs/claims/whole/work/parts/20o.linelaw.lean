noncomputable def fX7_character (h0 : Nat) (p1 : Int32) (μ : xM) : Option (xO × xM) := if p1 < 0 then some ((1, 0), μ) else if (μ (h0 + 249) 3) ≤ p1 then some ((1, 0), μ) else some ((0, μ (h0 + 249) (4 + p1.toNatClampNeg)), μ)
set_option maxHeartbeats 1000000 in
set_option maxRecDepth 20000 in
theorem mX7_character {l : Launch} (hls : l.stackTraces = false) {D : va_G} {ca : Nat → ClassId} {z : Nat} {G : xG} {ad av : Nat → Nat} {od : Nat} {fd : Nat → UInt64} {X : va_W} (hF : xFix z G X) (hXD : va_D (fun q => z ≤ q) X) (h0 : Nat) (p1 : Int32) (k0 : xI_Coat G h0) {μ μ1 : xM} (hT : xTm ca h0 od fd μ X) {o : xO} (h : fX7_character h0 p1 μ = some (o, μ1)) : xMx l yX7_character (xws yX7_character cX7_character 2 (some .char)) 6 1 6 D ca z G X ad av [.ref h0, .int p1] μ o μ1 := by
  obtain ⟨n, t, hX, e3, e4⟩ := hT
  have hn34 : n ≤ 34 ∧ ∀ j, j < n → t j < 256 := by
    obtain ⟨v, cap, ml, f, -, hcap, hn, hL, -⟩ := hX
    exact ⟨by omega, fun j hj => (hL j hj).1⟩
  refine xm_x (by decide) rfl (Nat.le_of_ble_eq_true rfl) [(0, .ref h0), (1, .int p1)] rfl ?_
  intro p e s m args below meth c ls hx hb hr hml hlocks hex hts hown hK hE hR hS hl
  have hts : ∀ w ∈ xAll, w.before args s = true := fun w hw => hts w (List.mem_cons_of_mem _ hw)
  rw [fX7_character, e3] at h
  refine lv_iload_n (pc := 0) hx hb dX7_character_0 rfl (lv_at hl 1 rfl) ?_
  refine lv_if_lt (pc := 1) (tgt := 15) hx hb dX7_character_1 (by decide) (fun c1 => ?_) (fun c1 => ?_)
  · have h := xpos c1 h
    exact xt_S (pc := 15) (k := 0) (i := 1) hx hb hls hlocks hts hown hK hE hF th_1 (by decide) (by decide +kernel) rfl h hR hS (hl.1.trans hml.symm) hex dX7_character_15 dX7_character_18 dX7_character_19 dX7_character_21 dX7_character_24 (Nat.le_of_ble_eq_true rfl) (Nat.le_of_ble_eq_true rfl) (Nat.le_of_ble_eq_true rfl) (Nat.le_of_ble_eq_true rfl) (Nat.le_of_ble_eq_true rfl) (Nat.le_of_ble_eq_true rfl)
  · have h := xneg c1 h
    refine lv_iload_n (pc := 4) hx hb dX7_character_4 rfl (lv_at hl 1 rfl) ?_
    refine lv_aload_n (pc := 5) hx hb dX7_character_5 rfl (lv_at hl 0 rfl) ?_
    refine xr_getR (pc := 6) (ci := 11) hx hb hts inX7 hown hK hR rfl k0.1 9 (Nat.le_of_ble_eq_true rfl) rfl k0.2.2.2.2.2.2.2.2.2.1 (hts _ q_f_X7_64) (fun _ h9 => h9) dX7_character_6 ?_
    refine xc_iV (pc := 9) (As := []) (rest := [.int _]) ⟨hx, hb, hml, hown, hts⟩ (mJ4_length_8abf5 hX hF hXD) (xcwV 0 hts fdJ4_length_8abf5 q_m_X7_178 ⟨Nat.le_of_ble_eq_true rfl, Nat.le_of_ble_eq_true rfl⟩) (xSrT hX hK hR) hR hK hE hS rfl hl.1 rfl (Nat.le_of_ble_eq_true rfl) dX7_character_9 ⟨Nat.le_of_ble_eq_true rfl, Nat.le_of_ble_eq_true rfl⟩ (fun H locs hR hS => ?_)
    refine lv_icmp_lt (pc := 12) (tgt := 25) hx hb dX7_character_12 (by decide) (fun c2 => ?_) (fun c2 => ?_)
    · have h := xneg (Int32.not_le.mpr c2) h
      obtain ⟨j, hj, rfl⟩ := nI_of c1
      have hjn : j < n := (nI_ltI hj (by omega)).mp c2
      rw [nI_clamp hj, e4 j hjn] at h
      refine lv_aload_n (pc := 25) hx hb dX7_character_25 rfl (lv_at hl 0 rfl) ?_
      refine xr_getR (pc := 26) (ci := 11) hx hb hts inX7 hown hK hR rfl k0.1 9 (Nat.le_of_ble_eq_true rfl) rfl k0.2.2.2.2.2.2.2.2.2.1 (hts _ q_f_X7_64) (fun _ h9 => h9) dX7_character_26 ?_
      refine lv_iload_n (pc := 29) hx hb dX7_character_29 rfl (lv_at hl 1 rfl) ?_
      refine xc_iV (pc := 30) (As := [.int _]) (rest := []) ⟨hx, hb, hml, hown, hts⟩ (mJ4_charAt_5068e hX hF hXD hjn) (xcwV 1 hts fdJ4_charAt_5068e q_m_X7_183 ⟨Nat.le_of_ble_eq_true rfl, Nat.le_of_ble_eq_true rfl⟩) (xSrT hX hK hR) hR hK hE hS rfl hl.1 rfl (Nat.le_of_ble_eq_true rfl) dX7_character_30 ⟨Nat.le_of_ble_eq_true rfl, Nat.le_of_ble_eq_true rfl⟩ (fun H locs hR hS => ?_)
      exact xe_x (pc := 33) hx hb hr (xnc (hn34.2 j hjn)) hlocks h hR hK hS (Nat.le_of_ble_eq_true rfl) (Nat.le_of_ble_eq_true rfl) dX7_character_33
    · have h := xpos (Int32.not_lt.mp c2) h
      exact xt_S (pc := 15) (k := 0) (i := 1) hx hb hls hlocks hts hown hK hE hF th_1 (by decide) (by decide +kernel) rfl h hR hS (hl.1.trans hml.symm) hex dX7_character_15 dX7_character_18 dX7_character_19 dX7_character_21 dX7_character_24 (Nat.le_of_ble_eq_true rfl) (Nat.le_of_ble_eq_true rfl) (Nat.le_of_ble_eq_true rfl) (Nat.le_of_ble_eq_true rfl) (Nat.le_of_ble_eq_true rfl) (Nat.le_of_ble_eq_true rfl)
/-- the law's line: X may have changed -/
def xMwl (l : Launch) (y : MethodName) (ws : List Cond) (d mc ms : Nat) (D : va_G) (ca : Nat → ClassId) (z : Nat) (G : xG) (X : va_W) (ad av : Nat → Nat) (as : List Value) (μ : xM) (r : Int32) (K : va_W → Prop) (μ1 : xM) : Prop :=
  Met l y ws (xRm d mc ms) (va_Pc as (xSt D ca z G X ad av μ)) (va_Qi (fun (r' : Int32) (X1 : va_W) => r' = r ∧ K X1 ∧ xFix z G X1 ∧ va_D (fun q => z ≤ q) X1) (fun X1 t => xB D ca G X1 μ1 t) (fun q => z ≤ q)) mc ms (fun q => z ≤ q)
theorem xTm_w {ca : Nat → ClassId} {x od a k : Nat} {fd : Nat → UInt64} {μ : xM} {X : va_W} {v : Int32} (h : xTm ca x od fd μ X) (ha : a ≠ x + 249) : xTm ca x od fd (xw μ a k v) X := by
  obtain ⟨n, t, h1, h2, h3⟩ := h
  refine ⟨n, t, h1, ?_, fun j hj => ?_⟩
  · rw [xw_other (Or.inl (Ne.symm ha))]; exact h2
  · rw [xw_other (Or.inl (Ne.symm ha))]; exact h3 j hj
section XWL
variable {p : Program} {l : Launch} {e : Env} {R : Room} {s : State} {m : MethodId} {args : Array Value} {below : List Frame} {meth : Method} {c : Code} {H : Heap} {locs : List Loc} {cells slots mc ms : Nat} {Q : State → Prop}
variable {cc : ByteArray} {pc : Nat} {ls : Array Slot} {rest st : List Value} {D : va_G} {ca : Nat → ClassId} {z : Nat} {G : xG} {X : va_W} {μ μ1 : xM} {ad av : Nat → Nat} {r v : Int32} {K : va_W → Prop}
variable {y : MethodName} {bytes : ByteArray} {maxL nL n index d : Nat} {As : List Value} {rt : FieldType} {hh : List (Nat × Nat × Nat × Nat)}
theorem xf_wl {X1 : va_W} {Rt : FieldType} (hx : p.tables.exec = Jvm.exec) (hb : c.code = cc) (hr : meth.sig.returnType = some Rt) (hn : narrow Rt (.int v) = .int v) (hlocks : meth.locks = false) (hv : v = r) (hk : K X1) (hF : xFix z G X1) (hXD : va_D (fun q => z ≤ q) X1) (hR : xRep D ca G X1 μ1 H) (hK : va_K D vwCl (xT ca) s) (hS : va_S (fun q => z ≤ q) s.heap H locs) (hc : cells ≤ mc) (hs : slots ≤ ms) (hdg : decode cc pc = .ok (.ireturn, 1)) :
    W p l e R s m args below meth c H locs cells slots (MQ below (va_Qi (fun (r' : Int32) (X1 : va_W) => r' = r ∧ K X1 ∧ xFix z G X1 ∧ va_D (fun q => z ≤ q) X1) (fun X1 t => xB D ca G X1 μ1 t) (fun q => z ≤ q)) args s mc ms (fun q => z ≤ q)) (F0 m pc ls [.int v]) := by
  subst hv
  refine W.widen hc hs ?_
  exact W.zret hx hb hr hn (fun t ht hW => ⟨⟨_, X1, rfl, ⟨rfl, hk, hF, hXD⟩, by rw [ht]; exact hR, va_K.moved hW.alike hK⟩, hS.F ht⟩) hS.2.2 hdg hlocks
theorem xl_callL (S : CallFix p m c cc nL s args xAll RL) (hM : xMwl l y (xwh y bytes maxL (some rt) hh) d mc ms D ca z G X ad av As μ r K μ1) (fh : xFh y bytes maxL (some rt) hh n) (hl : .methodLink RL index y ∈ xAll) (hd : d + 1 ≤ 2048 ∧ 8 + (maxL + 11) + 64 * d ≤ 94400) (hR : xRep D ca G X μ H) (hK : va_K D vwCl (xT ca) s) (hE : xEv z ad av s s.heap) (hS : va_S (fun q => z ≤ q) s.heap H locs)
    (hn : As.length = n) (hsize : ls.size = nL) (hst : st = As.reverse ++ rest) (hW : (rest.map fun v => v.category).sum ≤ 8) (hdg : decode cc pc = .ok (.invokestatic index, 3)) (hf : cells + mc ≤ 603072 ∧ slots + ms ≤ 7211114)
    (kk : ∀ (X1 : va_W) (H1 : Heap) (locs1 : List Loc), K X1 → xFix z G X1 → va_D (fun q => z ≤ q) X1 → xRep D ca G X1 μ1 H1 → va_S (fun q => z ≤ q) s.heap H1 locs1 → W p l e room_1 s m args below meth c H1 locs1 (cells + mc) (slots + ms) Q (F0 m (pc + 3) ls (.int r :: rest))) : W p l e room_1 s m args below meth c H locs cells slots Q (F0 m pc ls st) := by
  have hG : GoodIn xAll (va_wsS RL index y (xwh y bytes maxL (some rt) hh)) := by
    intro w hw
    have hm : w ∈ xAll := by
      unfold va_wsS at hw
      simp only [List.mem_append, List.mem_cons, List.not_mem_nil, or_false] at hw
      rcases hw with (rfl | rfl | rfl) | rfl | hw
      · exact hl
      · exact fh.1
      · exact fh.2.1
      · exact fh.2.2.1
      · exact hw
    exact ⟨hm, good_of_word (xAll_good w hm)⟩
  have cw : vx_CSW room_1 s args RL index y bytes maxL (some rt) hh (xwh y bytes maxL (some rt) hh) (xRm d mc ms) mc ms n := vx_cwSW n S.2.2.2.2 hG rfl rfl rfl fh.2.2.2 hd
  refine va_calli (vx_runSW (As := As) (rest := rest) S hM cw ⟨xSt_blind, xSt_at hR hK hE hS⟩ rfl hn hsize hst (lv_room hW) hdg hf) hS (fun q _ h => h) (fun q h => h) (fun r1 u1 t H1 locs1 ht hvm hw hB hz1 hk1 hS1 => ?_)
  obtain ⟨hR1, -⟩ := hB
  rw [ht] at hR1
  obtain ⟨rfl, k1, k2, k3⟩ := hw
  exact kk u1 H1 locs1 k1 k2 k3 hR1 hS1
end XWL
noncomputable def fL_line (h0 : Nat) (p1 : Int32) (h2 : Nat) (μ : xM) : Option (Int32 × xM) := xch (fX7_line h0 p1 μ) (fun r m => some ((0 : Int32), xw m h2 0 r)) (fun e m => if e = 4 then some ((1 : Int32), m) else none)

set_option maxHeartbeats 1000000 in
set_option maxRecDepth 20000 in
theorem mL_line {l : Launch} (hls : l.stackTraces = false) {D : va_G} {ca : Nat → ClassId} {z : Nat} {G : xG} {ad av : Nat → Nat} {od : Nat} {fd : Nat → UInt64} {X : va_W} (hF : xFix z G X) (hXD : va_D (fun q => z ≤ q) X) (h0 : Nat) (p1 : Int32) (h2 : Nat) (k0 : xI_Coat G h0) (k2 : xI_Longs 1 G h2) {μ μ1 : xM} (hT : xTm ca h0 od fd μ X) {r : Int32} (h : fL_line h0 p1 h2 μ = some (r, μ1)) : xMwl l yL_line (xwh yL_line cL_line 4 (some .int) [(0, 9, 12, 32)]) 8 12 380 D ca z G X ad av [.ref h0, .int p1, .ref h2] μ r (fun X1 => (r = 1 ∧ X1 = X) ∨ xTm ca h0 od fd μ1 X1) μ1 := by
  refine xm_wg (by decide) rfl (Nat.le_of_ble_eq_true rfl) [(0, .ref h0), (1, .int p1), (2, .ref h2)] rfl ?_
  intro p e s m args below meth c ls hx hb hr hml hlocks hT9 hts hown hK hE hR hS hl
  have hts : ∀ w ∈ xAll, w.before args s = true := fun w hw => hts w (List.mem_cons_of_mem _ hw)
  rw [fL_line] at h
  refine lv_aload_n (pc := 0) hx hb dL_line_0 rfl (lv_at hl 2 rfl) ?_
  refine lv_iconst (pc := 1) hx hb dL_line_1 kc_0 ?_
  refine lv_aload_n (pc := 2) hx hb dL_line_2 rfl (lv_at hl 0 rfl) ?_
  refine lv_iload_n (pc := 3) hx hb dL_line_3 rfl (lv_at hl 1 rfl) ?_
  rcases xch_inv h with ⟨r1, m1, c1, h⟩ | ⟨e1, r1, m1, c1, h⟩
  rotate_left
  · by_cases z2 : e1 + 1 = 4
    · have h := xpos z2 h
      obtain rfl : e1 = 3 := by omega
      cases h
      refine xz_lV (pc := 4) (As := [.int _]) (rest := [.int _, .ref _]) ⟨hx, hb, hml, hown, hts⟩ (mX7_line hls hF hXD _ _ k0 hT c1) (xcwV 1 hts fdX7_line q_m_L_76 ⟨Nat.le_of_ble_eq_true rfl, Nat.le_of_ble_eq_true rfl⟩) (xRecv hK hR (ci := 11) rfl k0.1) hR hK hE hS rfl hl.1 rfl (Nat.le_of_ble_eq_true rfl) dL_line_4 ⟨Nat.le_of_ble_eq_true rfl, Nat.le_of_ble_eq_true rfl⟩ (fun ce q9 H locs hR hS h1 h2 h3 => ?_)
      refine xCatch hT9 hown hE [] ⟨0, 9, 12, 32⟩ [] rfl 3 (by decide) (fun w hw => absurd hw List.not_mem_nil) (by decide) (by decide) (hts _ q_Lc_32) (List.mem_of_getElem? (i := 9) rfl) h1 h2 h3 ?_
      refine lv_astore_n (pc := 12) (lv' := [(3, .ref _), (0, .ref _), (1, .int _), (2, .ref _)]) hx hb dL_line_12 rfl hl (Nat.le_of_ble_eq_true rfl) rfl (fun ls hl => ?_)
      refine lv_iconst (pc := 13) hx hb dL_line_13 kc_1 ?_
      exact xf_wl (pc := 14) hx hb hr rfl hlocks rfl (Or.inl ⟨rfl, rfl⟩) hF hXD hR hK hS (Nat.le_of_ble_eq_true rfl) (Nat.le_of_ble_eq_true rfl) dL_line_14
    · have h := xneg z2 h
      cases h
  refine xy_lV (pc := 4) (As := [.int _]) (rest := [.int _, .ref _]) ⟨hx, hb, hml, hown, hts⟩ (mX7_line hls hF hXD _ _ k0 hT c1) (xcwV 1 hts fdX7_line q_m_L_76 ⟨Nat.le_of_ble_eq_true rfl, Nat.le_of_ble_eq_true rfl⟩) (xRecv hK hR (ci := 11) rfl k0.1) hR hK hE hS rfl hl.1 rfl (Nat.le_of_ble_eq_true rfl) dL_line_4 ⟨Nat.le_of_ble_eq_true rfl, Nat.le_of_ble_eq_true rfl⟩ (fun X1 H locs hT1 hF hXD hR hS => ?_)
  refine lv_i2l (pc := 7) hx hb dL_line_7 rfl ?_
  refine xr_lastk (pc := 8) 0 hx hb hK hR hF hS k2.1 k2.2 tn_0 (vl_0 (by decide)) dL_line_8 (fun H locs hR hS => ?_)
  refine lv_goto (pc := 9) (tgt := 15) hx hb dL_line_9 (by decide) ?_
  refine lv_iconst (pc := 15) hx hb dL_line_15 kc_0 ?_
  cases h
  exact xf_wl (pc := 16) hx hb hr rfl hlocks rfl (Or.inr (xTm_w hT1 (fun e9 => by have := k0.2.2.2.2.2.2.2.2.2.2; rw [← e9, k2.1] at this; exact absurd this (by decide)))) hF hXD hR hK hS (Nat.le_of_ble_eq_true rfl) (Nat.le_of_ble_eq_true rfl) dL_line_16
noncomputable def gL_20 (x md out : Nat) (s1 s2 s3 : Int32) (μ : xM) : Option xM :=
  xb (fL_line x s1 out μ) (fun r1 m1 => xb (fX8_line md s1 m1) (fun r2 m2 => xb (fX8_thrown md m2) (fun r3 m3 => if r3 = r1 then (if r1 = 0 then (if lg_cmp ((m3 out 0)).toInt64 r2.toInt64 = 0 then (some m3) else (none)) else (some m3)) else (none))))
noncomputable def fL_character (h0 : Nat) (p1 : Int32) (h2 : Nat) (μ : xM) : Option (Int32 × xM) :=
  xch (fX7_character h0 p1 μ) (fun r1 m1 => some ((0 : Int32), (xw m1 h2 0 r1))) (fun e1 m1 => if e1 = 1 then (some ((1 : Int32), m1)) else (none))
noncomputable def gL_21 (x md out : Nat) (s1 s2 s3 : Int32) (μ : xM) : Option xM :=
  xb (fL_character x s1 out μ) (fun r1 m1 => xb (fX8_character md s1 m1) (fun r2 m2 => xb (fX8_thrown md m2) (fun r3 m3 => if r3 = r1 then (if r1 = 0 then (if lg_cmp ((m3 out 0)).toInt64 r2.toInt64 = 0 then (some m3) else (none)) else (some m3)) else (none))))
set_option maxHeartbeats 1000000 in
set_option maxRecDepth 20000 in
theorem wL_20 {p : Program} {l : Launch} (hls : l.stackTraces = false) {e : Env} {s : State} {m : MethodId} {args : Array Value} {below : List Frame} {meth : Method} {c : Code} {D : va_G} {ca : Nat → ClassId} {z : Nat} {G : xG} {X : va_W} {ad av : Nat → Nat} {b L : Nat} {xs : Nat → Int32} {Q : State → Prop} {H0 : Heap} (hF : xFix z G X) (hx : p.tables.exec = Jvm.exec) (hb : c.code = cL_law) (hml : c.maxLocals = 9) (hts : ∀ w ∈ xAll, w.before args s = true) (hown : s.vm.findClass RL = some m.cls) (hK : va_K D vwCl (xT ca) s) (hE : xEv z ad av s s.heap) (hX : va_X b L xs s s.heap) (hbl : b < s.heap.size) (hbA : ¬ z ≤ b) {x md out od : Nat} (kx : xI_Coat G x) (km : xI_Model G md) (ko : xI_Longs 1 G out) {j : Nat} (hj : j + 4 ≤ L) (hL : L ≤ 2048) {cells slots : Nat} (hc : cells + 20 ≤ 603072) (hs : slots + 2000 ≤ 7211114) {μ μ1 : xM} {fd : Nat → UInt64} (hXD : va_D (fun q => z ≤ q) X) (hT : xTm ca x od fd μ X) (h : gL_20 x md out (xs (j + 1)) (xs (j + 2)) (xs (j + 3)) μ = some μ1) {H : Heap} {locs : List Loc} {ls : Array Slot} (hR : xRep D ca G X μ H) (hS : va_S (fun q => z ≤ q) s.heap H locs) (hl : lv_has ls 9 [(0, .ref b), (1, .ref x), (2, .ref md), (3, .ref out), (4, .ref od), (5, .int (nI j))])
    (kk : ∀ (mA : xM) (X1 : va_W) (H : Heap) (locs : List Loc) (ls : Array Slot), (∃ r, fL_line x (xs (j + 1)) out μ = some (r, mA) ∧ ((r = 1 ∧ X1 = X) ∨ xTm ca x od fd mA X1)) → xFix z G X1 → va_D (fun q => z ≤ q) X1 → xRep D ca G X1 μ1 H → va_S (fun q => z ≤ q) s.heap H locs → lv_has ls 9 [(0, .ref b), (1, .ref x), (2, .ref md), (3, .ref out), (4, .ref od), (5, .int (nI j))] → W p l e room_1 s m args below meth c H locs (cells + 20) (slots + 2000) Q (F0 m 1973 ls [])) : W p l e room_1 s m args below meth c H locs cells slots Q (F0 m 1358 ls []) := by
  rw [gL_20] at h
  refine lv_aload_n (pc := 1358) hx hb dL_law_1358 rfl (lv_at hl 1 rfl) ?_
  refine lv_aload_n (pc := 1359) hx hb dL_law_1359 rfl (lv_at hl 0 rfl) ?_
  refine lv_iload (pc := 1360) hx hb dL_law_1360 (lv_at hl 5 rfl) ?_
  refine lv_iconst (pc := 1362) hx hb dL_law_1362 kc_1 ?_
  refine lv_iadd (pc := 1363) hx hb dL_law_1363 ?_
  refine xr_sld (pc := 1364) (j + 1) hx hb hX hbl hbA hS (xhI1 hj hL) (xhV1 hj hL) dL_law_1364 ?_
  refine lv_aload_n (pc := 1365) hx hb dL_law_1365 rfl (lv_at hl 3 rfl) ?_
  obtain ⟨r1, m1, c1, h⟩ := xb_inv h
  refine xl_callL (pc := 1366) (As := [.ref _, .int _, .ref _]) (rest := []) ⟨hx, hb, hml, hown, hts⟩ (mL_line hls hF hXD _ _ _ kx ko hT c1) fhL_line q_m_L_190 ⟨Nat.le_of_ble_eq_true rfl, Nat.le_of_ble_eq_true rfl⟩ hR hK hE hS rfl hl.1 rfl (Nat.le_of_ble_eq_true rfl) dL_law_1366 ⟨by omega, by omega⟩ (fun X1 H locs hk hF hXD hR hS => ?_)
  refine lv_istore (pc := 1369) (lv' := [(6, .int _), (0, .ref _), (1, .ref _), (2, .ref _), (3, .ref _), (4, .ref _), (5, .int _)]) hx hb dL_law_1369 hl (Nat.le_of_ble_eq_true rfl) rfl (fun ls hl => ?_)
  refine lv_aload_n (pc := 1371) hx hb dL_law_1371 rfl (lv_at hl 3 rfl) ?_
  refine lv_aload_n (pc := 1372) hx hb dL_law_1372 rfl (lv_at hl 1 rfl) ?_
  refine lv_iload (pc := 1373) hx hb dL_law_1373 (lv_at hl 6 rfl) ?_
  refine lv_iconst (pc := 1375) hx hb dL_law_1375 kc_1 ?_
  refine lv_iadd (pc := 1376) hx hb dL_law_1376 ?_
  refine xr_sld (pc := 1377) (j + 1) hx hb hX hbl hbA hS (xhI1 hj hL) (xhV1 hj hL) dL_law_1377 ?_
  obtain ⟨r2, m2, c2, h⟩ := xb_inv h
  refine xl_iV (pc := 1378) (As := [.int _]) (rest := []) ⟨hx, hb, hml, hown, hts⟩ (mX8_line hF _ _ km c2) fdX8_line q_m_L_192 ⟨Nat.le_of_ble_eq_true rfl, Nat.le_of_ble_eq_true rfl⟩ (xRecv hK hR (ci := 12) rfl km.1) hR hK hE hS rfl hl.1 rfl (Nat.le_of_ble_eq_true rfl) dL_law_1378 ⟨by omega, by omega⟩ (fun H locs hR hS => ?_)
  refine lv_istore (pc := 1381) (lv' := [(7, .int _), (6, .int _), (0, .ref _), (1, .ref _), (2, .ref _), (3, .ref _), (4, .ref _), (5, .int _)]) hx hb dL_law_1381 hl (Nat.le_of_ble_eq_true rfl) rfl (fun ls hl => ?_)
  refine lv_aload_n (pc := 1383) hx hb dL_law_1383 rfl (lv_at hl 4 rfl) ?_
  obtain ⟨r3, m3, c3, h⟩ := xb_inv h
  refine xl_iV (pc := 1384) (As := []) (rest := []) ⟨hx, hb, hml, hown, hts⟩ (mX8_thrown hF _ km c3) fdX8_thrown q_m_L_124 ⟨Nat.le_of_ble_eq_true rfl, Nat.le_of_ble_eq_true rfl⟩ (xRecv hK hR (ci := 12) rfl km.1) hR hK hE hS rfl hl.1 rfl (Nat.le_of_ble_eq_true rfl) dL_law_1384 ⟨by omega, by omega⟩ (fun H locs hR hS => ?_)
  refine lv_iload (pc := 1387) hx hb dL_law_1387 (lv_at hl 1 rfl) ?_
  refine lv_icmp_eq (pc := 1389) (tgt := 1394) hx hb dL_law_1389 (by decide) (fun c4 => ?_) (fun c4 => ?_)
  · have h := xpos c4 h
    refine lv_iload (pc := 1394) hx hb dL_law_1394 (lv_at hl 1 rfl) ?_
    refine lv_if_ne (pc := 1396) (tgt := 1411) hx hb dL_law_1396 (by decide) (fun c5 => ?_) (fun c5 => ?_)
    · have h := xneg c5 h
      refine lv_goto (pc := 1411) (tgt := 1973) hx hb dL_law_1411 (by decide) ?_
      cases h
      refine W.widen (k := cells + 20) (n := slots + 2000) (by omega) (by omega) ?_
      exact kk m1 X1 H locs ls ⟨_, c1, hk⟩ hF hXD hR hS (lv_sub hl [2, 3, 4, 5, 6, 7] rfl)
    · have h := xpos c5 h
      refine lv_aload_n (pc := 1399) hx hb dL_law_1399 rfl (lv_at hl 5 rfl) ?_
      refine lv_iconst (pc := 1400) hx hb dL_law_1400 kc_0 ?_
      refine xr_laldk (pc := 1401) 0 hx hb hK hR ko.1 ko.2 tn_0 (vl_0 (by decide)) dL_law_1401 ?_
      refine lv_iload (pc := 1402) hx hb dL_law_1402 (lv_at hl 0 rfl) ?_
      refine lv_i2l (pc := 1404) hx hb dL_law_1404 rfl ?_
      refine W.lcmp (pc := 1405) hx hb dL_law_1405 ?_
      refine lv_if_eq (pc := 1406) (tgt := 1411) hx hb dL_law_1406 (by decide) (fun c6 => ?_) (fun c6 => ?_)
      · have h := xpos c6 h
        refine lv_goto (pc := 1411) (tgt := 1973) hx hb dL_law_1411 (by decide) ?_
        cases h
        refine W.widen (k := cells + 20) (n := slots + 2000) (by omega) (by omega) ?_
        exact kk m1 X1 H locs ls ⟨_, c1, hk⟩ hF hXD hR hS (lv_sub hl [2, 3, 4, 5, 6, 7] rfl)
      · have h := xneg c6 h
        refine lv_iconst (pc := 1409) hx hb dL_law_1409 kc_0 ?_
        cases h
  · have h := xneg c4 h
    refine lv_iconst (pc := 1392) hx hb dL_law_1392 kc_0 ?_
    cases h
set_option maxHeartbeats 1000000 in
set_option maxRecDepth 20000 in
theorem mL_character {l : Launch} (hls : l.stackTraces = false) {D : va_G} {ca : Nat → ClassId} {z : Nat} {G : xG} {X : va_W} (hXD : va_D (fun q => z ≤ q) X) {od : Nat} {fd : Nat → UInt64} {ad av : Nat → Nat} (hF : xFix z G X) (h0 : Nat) (p1 : Int32) (h2 : Nat) (k0 : xI_Coat G h0) (k2 : xI_Longs 1 G h2) {μ μ1 : xM} {r : Int32} (hTx : xTm ca h0 od fd μ X) (h : fL_character h0 p1 h2 μ = some (r, μ1)) : xMw l yL_character (xwh yL_character cL_character 4 (some .int) [(0, 9, 12, 13)]) 7 1 6 D ca z G X ad av [.ref h0, .int p1, .ref h2] μ r μ1 := by
  refine xm_w (by decide) rfl (Nat.le_of_ble_eq_true rfl) [(0, .ref h0), (1, .int p1), (2, .ref h2)] rfl ?_
  intro p e s m args below meth c ls hx hb hr hml hlocks hT hts hown hK hE hR hS hl
  have hts : ∀ w ∈ xAll, w.before args s = true := fun w hw => hts w (List.mem_cons_of_mem _ hw)
  rw [fL_character] at h
  refine lv_aload_n (pc := 0) hx hb dL_character_0 rfl (lv_at hl 2 rfl) ?_
  refine lv_iconst (pc := 1) hx hb dL_character_1 kc_0 ?_
  refine lv_aload_n (pc := 2) hx hb dL_character_2 rfl (lv_at hl 0 rfl) ?_
  refine lv_iload_n (pc := 3) hx hb dL_character_3 rfl (lv_at hl 1 rfl) ?_
  rcases xch_inv h with ⟨r1, m1, c1, h⟩ | ⟨e1, r1, m1, c1, h⟩
  rotate_left
  · by_cases z2 : e1 + 1 = 1
    · have h := xpos z2 h
      obtain rfl : e1 = 0 := by omega
      refine xz_iV (pc := 4) (As := [.int _]) (rest := [.int _, .ref _]) ⟨hx, hb, hml, hown, hts⟩ (mX7_character hls hF hXD _ _ k0 hTx c1) (xcwV 1 hts fdX7_character q_m_L_79 ⟨Nat.le_of_ble_eq_true rfl, Nat.le_of_ble_eq_true rfl⟩) (xRecv hK hR (ci := 11) rfl k0.1) hR hK hE hS rfl hl.1 rfl (Nat.le_of_ble_eq_true rfl) dL_character_4 ⟨Nat.le_of_ble_eq_true rfl, Nat.le_of_ble_eq_true rfl⟩ (fun ce q9 H locs hR hS h1 h2 h3 => ?_)
      refine xCatch hT hown hE [] ⟨0, 9, 12, 13⟩ [] rfl 0 (by decide) (fun w hw => absurd hw List.not_mem_nil) (by decide) (by decide) (hts _ q_Lc_13) (List.mem_of_getElem? (i := 6) rfl) h1 h2 h3 ?_
      refine lv_astore_n (pc := 12) (lv' := [(3, .ref _), (0, .ref _), (1, .int _), (2, .ref _)]) hx hb dL_character_12 rfl hl (Nat.le_of_ble_eq_true rfl) rfl (fun ls hl => ?_)
      refine lv_iconst (pc := 13) hx hb dL_character_13 kc_1 ?_
      exact xf_w (pc := 14) hx hb hr rfl hlocks h hR hK hS (Nat.le_of_ble_eq_true rfl) (Nat.le_of_ble_eq_true rfl) dL_character_14
    have h := xneg z2 h
    cases h
  refine xy_iV (pc := 4) (As := [.int _]) (rest := [.int _, .ref _]) ⟨hx, hb, hml, hown, hts⟩ (mX7_character hls hF hXD _ _ k0 hTx c1) (xcwV 1 hts fdX7_character q_m_L_79 ⟨Nat.le_of_ble_eq_true rfl, Nat.le_of_ble_eq_true rfl⟩) (xRecv hK hR (ci := 11) rfl k0.1) hR hK hE hS rfl hl.1 rfl (Nat.le_of_ble_eq_true rfl) dL_character_4 ⟨Nat.le_of_ble_eq_true rfl, Nat.le_of_ble_eq_true rfl⟩ (fun H locs hR hS => ?_)
  refine lv_i2l (pc := 7) hx hb dL_character_7 rfl ?_
  refine xr_lastk (pc := 8) 0 hx hb hK hR hF hS k2.1 k2.2 tn_0 (vl_0 (by decide)) dL_character_8 (fun H locs hR hS => ?_)
  refine lv_goto (pc := 9) (tgt := 15) hx hb dL_character_9 (by decide) ?_
  refine lv_iconst (pc := 15) hx hb dL_character_15 kc_0 ?_
  exact xf_w (pc := 16) hx hb hr rfl hlocks h hR hK hS (Nat.le_of_ble_eq_true rfl) (Nat.le_of_ble_eq_true rfl) dL_character_16
set_option maxHeartbeats 1000000 in
set_option maxRecDepth 20000 in
theorem wL_21 {p : Program} {l : Launch} (hls : l.stackTraces = false) {e : Env} {s : State} {m : MethodId} {args : Array Value} {below : List Frame} {meth : Method} {c : Code} {D : va_G} {ca : Nat → ClassId} {z : Nat} {G : xG} {X : va_W} {ad av : Nat → Nat} {b L : Nat} {xs : Nat → Int32} {Q : State → Prop} {H0 : Heap} (hF : xFix z G X) (hx : p.tables.exec = Jvm.exec) (hb : c.code = cL_law) (hml : c.maxLocals = 9) (hts : ∀ w ∈ xAll, w.before args s = true) (hown : s.vm.findClass RL = some m.cls) (hK : va_K D vwCl (xT ca) s) (hE : xEv z ad av s s.heap) (hX : va_X b L xs s s.heap) (hbl : b < s.heap.size) (hbA : ¬ z ≤ b) {x md out od : Nat} (kx : xI_Coat G x) (km : xI_Model G md) (ko : xI_Longs 1 G out) {j : Nat} (hj : j + 4 ≤ L) (hL : L ≤ 2048) {cells slots : Nat} (hc : cells + 20 ≤ 603072) (hs : slots + 2000 ≤ 7211114) {μ μ1 : xM} {fd : Nat → UInt64} (hXD : va_D (fun q => z ≤ q) X) (hT : xTm ca x od fd μ X) (h : gL_21 x md out (xs (j + 1)) (xs (j + 2)) (xs (j + 3)) μ = some μ1) {H : Heap} {locs : List Loc} {ls : Array Slot} (hR : xRep D ca G X μ H) (hS : va_S (fun q => z ≤ q) s.heap H locs) (hl : lv_has ls 9 [(0, .ref b), (1, .ref x), (2, .ref md), (3, .ref out), (4, .ref od), (5, .int (nI j))])
    (kk : ∀ (H : Heap) (locs : List Loc) (ls : Array Slot), xRep D ca G X μ1 H → va_S (fun q => z ≤ q) s.heap H locs → lv_has ls 9 [(0, .ref b), (1, .ref x), (2, .ref md), (3, .ref out), (4, .ref od), (5, .int (nI j))] → W p l e room_1 s m args below meth c H locs (cells + 20) (slots + 2000) Q (F0 m 1973 ls [])) : W p l e room_1 s m args below meth c H locs cells slots Q (F0 m 1414 ls []) := by
  rw [gL_21] at h
  refine lv_aload_n (pc := 1414) hx hb dL_law_1414 rfl (lv_at hl 1 rfl) ?_
  refine lv_aload_n (pc := 1415) hx hb dL_law_1415 rfl (lv_at hl 0 rfl) ?_
  refine lv_iload (pc := 1416) hx hb dL_law_1416 (lv_at hl 5 rfl) ?_
  refine lv_iconst (pc := 1418) hx hb dL_law_1418 kc_1 ?_
  refine lv_iadd (pc := 1419) hx hb dL_law_1419 ?_
  refine xr_sld (pc := 1420) (j + 1) hx hb hX hbl hbA hS (xhI1 hj hL) (xhV1 hj hL) dL_law_1420 ?_
  refine lv_aload_n (pc := 1421) hx hb dL_law_1421 rfl (lv_at hl 3 rfl) ?_
  obtain ⟨r1, m1, c1, h⟩ := xb_inv h
  refine xl_call (pc := 1422) (As := [.ref _, .int _, .ref _]) (rest := []) ⟨hx, hb, hml, hown, hts⟩ (mL_character hls hXD hF _ _ _ kx ko hT c1) fhL_character q_m_L_193 ⟨Nat.le_of_ble_eq_true rfl, Nat.le_of_ble_eq_true rfl⟩ hR hK hE hS rfl hl.1 rfl (Nat.le_of_ble_eq_true rfl) dL_law_1422 ⟨by omega, by omega⟩ (fun H locs hR hS => ?_)
  refine lv_istore (pc := 1425) (lv' := [(6, .int _), (0, .ref _), (1, .ref _), (2, .ref _), (3, .ref _), (4, .ref _), (5, .int _)]) hx hb dL_law_1425 hl (Nat.le_of_ble_eq_true rfl) rfl (fun ls hl => ?_)
  refine lv_aload_n (pc := 1427) hx hb dL_law_1427 rfl (lv_at hl 3 rfl) ?_
  refine lv_aload_n (pc := 1428) hx hb dL_law_1428 rfl (lv_at hl 1 rfl) ?_
  refine lv_iload (pc := 1429) hx hb dL_law_1429 (lv_at hl 6 rfl) ?_
  refine lv_iconst (pc := 1431) hx hb dL_law_1431 kc_1 ?_
  refine lv_iadd (pc := 1432) hx hb dL_law_1432 ?_
  refine xr_sld (pc := 1433) (j + 1) hx hb hX hbl hbA hS (xhI1 hj hL) (xhV1 hj hL) dL_law_1433 ?_
  obtain ⟨r2, m2, c2, h⟩ := xb_inv h
  refine xl_iV (pc := 1434) (As := [.int _]) (rest := []) ⟨hx, hb, hml, hown, hts⟩ (mX8_character hF _ _ km c2) fdX8_character q_m_L_195 ⟨Nat.le_of_ble_eq_true rfl, Nat.le_of_ble_eq_true rfl⟩ (xRecv hK hR (ci := 12) rfl km.1) hR hK hE hS rfl hl.1 rfl (Nat.le_of_ble_eq_true rfl) dL_law_1434 ⟨by omega, by omega⟩ (fun H locs hR hS => ?_)
  refine lv_istore (pc := 1437) (lv' := [(7, .int _), (6, .int _), (0, .ref _), (1, .ref _), (2, .ref _), (3, .ref _), (4, .ref _), (5, .int _)]) hx hb dL_law_1437 hl (Nat.le_of_ble_eq_true rfl) rfl (fun ls hl => ?_)
  refine lv_aload_n (pc := 1439) hx hb dL_law_1439 rfl (lv_at hl 4 rfl) ?_
  obtain ⟨r3, m3, c3, h⟩ := xb_inv h
  refine xl_iV (pc := 1440) (As := []) (rest := []) ⟨hx, hb, hml, hown, hts⟩ (mX8_thrown hF _ km c3) fdX8_thrown q_m_L_124 ⟨Nat.le_of_ble_eq_true rfl, Nat.le_of_ble_eq_true rfl⟩ (xRecv hK hR (ci := 12) rfl km.1) hR hK hE hS rfl hl.1 rfl (Nat.le_of_ble_eq_true rfl) dL_law_1440 ⟨by omega, by omega⟩ (fun H locs hR hS => ?_)
  refine lv_iload (pc := 1443) hx hb dL_law_1443 (lv_at hl 1 rfl) ?_
  refine lv_icmp_eq (pc := 1445) (tgt := 1450) hx hb dL_law_1445 (by decide) (fun c4 => ?_) (fun c4 => ?_)
  · have h := xpos c4 h
    refine lv_iload (pc := 1450) hx hb dL_law_1450 (lv_at hl 1 rfl) ?_
    refine lv_if_ne (pc := 1452) (tgt := 1467) hx hb dL_law_1452 (by decide) (fun c5 => ?_) (fun c5 => ?_)
    · have h := xneg c5 h
      refine lv_goto (pc := 1467) (tgt := 1973) hx hb dL_law_1467 (by decide) ?_
      cases h
      refine W.widen (k := cells + 20) (n := slots + 2000) (by omega) (by omega) ?_
      exact kk H locs ls hR hS (lv_sub hl [2, 3, 4, 5, 6, 7] rfl)
    · have h := xpos c5 h
      refine lv_aload_n (pc := 1455) hx hb dL_law_1455 rfl (lv_at hl 5 rfl) ?_
      refine lv_iconst (pc := 1456) hx hb dL_law_1456 kc_0 ?_
      refine xr_laldk (pc := 1457) 0 hx hb hK hR ko.1 ko.2 tn_0 (vl_0 (by decide)) dL_law_1457 ?_
      refine lv_iload (pc := 1458) hx hb dL_law_1458 (lv_at hl 0 rfl) ?_
      refine lv_i2l (pc := 1460) hx hb dL_law_1460 rfl ?_
      refine W.lcmp (pc := 1461) hx hb dL_law_1461 ?_
      refine lv_if_eq (pc := 1462) (tgt := 1467) hx hb dL_law_1462 (by decide) (fun c6 => ?_) (fun c6 => ?_)
      · have h := xpos c6 h
        refine lv_goto (pc := 1467) (tgt := 1973) hx hb dL_law_1467 (by decide) ?_
        cases h
        refine W.widen (k := cells + 20) (n := slots + 2000) (by omega) (by omega) ?_
        exact kk H locs ls hR hS (lv_sub hl [2, 3, 4, 5, 6, 7] rfl)
      · have h := xneg c6 h
        refine lv_iconst (pc := 1465) hx hb dL_law_1465 kc_0 ?_
        cases h
  · have h := xneg c4 h
    refine lv_iconst (pc := 1448) hx hb dL_law_1448 kc_0 ?_
    cases h
