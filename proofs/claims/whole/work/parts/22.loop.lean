theorem xcode : cL_law = code := rfl
/-! THE LOOP of the law, over a relation Inv of what the calls so far have made -/
def xGk (x md out k : Nat) (s1 s2 s3 : Int32) (μ μ1 : xM) : Prop := match k with
  | 0 => gL_0 x md out s1 s2 s3 μ = some μ1
  | 1 => gL_1 x md out s1 s2 s3 μ = some μ1
  | 2 => gL_2 x md out s1 s2 s3 μ = some μ1
  | 3 => gL_3 x md out s1 s2 s3 μ = some μ1
  | 4 => gL_4 x md out s1 s2 s3 μ = some μ1
  | 5 => gL_5 x md out s1 s2 s3 μ = some μ1
  | 6 => gL_6 x md out s1 s2 s3 μ = some μ1
  | 7 => gL_7 x md out s1 s2 s3 μ = some μ1
  | 8 => gL_8 x md out s1 s2 s3 μ = some μ1
  | 9 => gL_9 x md out s1 s2 s3 μ = some μ1
  | 10 => gL_10 x md out s1 s2 s3 μ = some μ1
  | 11 => gL_11 x md out s1 s2 s3 μ = some μ1
  | 12 => gL_12 x md out s1 s2 s3 μ = some μ1
  | 13 => gL_13 x md out s1 s2 s3 μ = some μ1
  | 14 => gL_14 x md out s1 s2 s3 μ = some μ1
  | 15 => gL_15 x md out s1 s2 s3 μ = some μ1
  | 16 => gL_16 x md out s1 s2 s3 μ = some μ1
  | 17 => gL_17 x md out s1 s2 s3 μ = some μ1
  | 18 => gL_18 x md out s1 s2 s3 μ = some μ1
  | 19 => gL_19 x md out s1 s2 s3 μ = some μ1
  | 20 => gL_20 x md out s1 s2 s3 μ = some μ1
  | 21 => gL_21 x md out s1 s2 s3 μ = some μ1
  | 22 => gL_22 x md out s1 s2 s3 μ = some μ1
  | 23 => gL_23 x md out s1 s2 s3 μ = some μ1
  | 24 => gL_24 x md out s1 s2 s3 μ = some μ1
  | 25 => gL_25 x md out s1 s2 s3 μ = some μ1
  | 26 => gL_26 x md out s1 s2 s3 μ = some μ1
  | 27 => ∀ u0, gL_27 x md u0 μ = some μ1
  | 28 => ∀ u0, gL_28 x md u0 μ = some μ1
  | 29 => gL_29 x md out s1 s2 s3 μ = some μ1
  | 30 => gL_30 x md out s1 s2 s3 μ = some μ1
  | 31 => gL_31 x md out s1 s2 s3 μ = some μ1
  | _ => False
def xGh (x out k : Nat) (s1 : Int32) (μ μ1 : xM) : Prop := if k = 20 then (∀ r mA, fL_line x s1 out μ = some (r, mA) → (r = 1 → mA (x + 249) = μ (x + 249)) ∧ μ1 (x + 249) = mA (x + 249)) else μ1 (x + 249) = μ (x + 249)
theorem xTm_row {ca : Nat → ClassId} {x od : Nat} {fd : Nat → UInt64} {μ μ1 : xM} {X : va_W} (e : μ1 (x + 249) = μ (x + 249)) (h : xTm ca x od fd μ X) : xTm ca x od fd μ1 X := by
  obtain ⟨n, t, h1, h2, h3⟩ := h
  exact ⟨n, t, h1, by rw [e]; exact h2, fun j hj => by rw [e]; exact h3 j hj⟩
theorem xTm_od {ca : Nat → ClassId} {x od : Nat} {fd fd1 : Nat → UInt64} {μ : xM} {X : va_W} (h : xTm ca x od fd μ X) : X[2]? = some (od, xD ca fd) ∧ xTm ca x od fd1 μ (X.set 2 (od, xD ca fd1)) := by
  obtain ⟨n, t, ⟨v, cap, ml, f, rfl, h1⟩, h2⟩ := h
  exact ⟨rfl, n, t, ⟨v, cap, ml, f, rfl, h1⟩, h2⟩
theorem xm31 (s : Int32) : ∃ k, k < 32 ∧ s &&& 31 = nI k := by
  refine ⟨s.toBitVec.toNat &&& 31, Nat.lt_of_le_of_lt Nat.and_le_right (by decide), ?_⟩
  apply Int32.toBitVec_inj.mp
  show s.toBitVec &&& 31#32 = BitVec.ofNat 32 (s.toBitVec.toNat &&& 31)
  apply BitVec.eq_of_toNat_eq
  have h : s.toBitVec.toNat &&& 31 ≤ 31 := Nat.and_le_right
  have e : (BitVec.ofNat 32 (s.toBitVec.toNat &&& 31)).toNat = s.toBitVec.toNat &&& 31 := by rw [BitVec.toNat_ofNat, Nat.mod_eq_of_lt (by omega)]
  rw [e, BitVec.toNat_and]
  rfl
theorem kb_31 : (Int8.ofInt (31)).toInt32 = (31 : Int32) := by decide
theorem xD_set {z : Nat} {X : va_W} {q0 a : Nat} {v v1 : va_E} (h : va_D (fun q => z ≤ q) X) (ha : X[q0]? = some (a, v)) : va_D (fun q => z ≤ q) (X.set q0 (a, v1)) := h.set ha
set_option maxHeartbeats 4000000 in
set_option maxRecDepth 20000 in
theorem law_loop {p : Program} {l : Launch} (hls : l.stackTraces = false) {e : Env} {s : State} {m : MethodId} {below : List Frame} {meth : Method} {c : Code} {D : va_G} {ca : Nat → ClassId} {G : xG} {ad av : Nat → Nat} {b L : Nat} {xs : Nat → Int32} (hx : p.tables.exec = Jvm.exec) (hb : c.code = cL_law) (hr : meth.sig.returnType = ret) (hml : c.maxLocals = 9) (hlocks : meth.locks = false) (hts : ∀ w ∈ xAll, w.before #[Value.ref b] s = true) (hown : s.vm.findClass RL = some m.cls) (hK : va_K D vwCl (xT ca) s) (hE : xEv s.heap.size ad av s s.heap) (hX : va_X b L xs s s.heap) (hbl : b < s.heap.size) (hL : L ≤ 2048) {x md out od : Nat} (kx : xI_Coat G x) (km : xI_Model G md) (ko : xI_Longs 1 G out)
    (Inv : Nat → xM → Prop) (hI : ∀ (i : Nat) (μ : xM) (s0 s1 s2 s3 : Int32), i < 512 → Inv i μ → ∃ μ1, Inv (i + 1) μ1 ∧ ∀ k, s0 &&& 31 = nI k → k < 32 → xGk x md out k s1 s2 s3 μ μ1 ∧ xGh x out k s1 μ μ1) :
    ∀ (u i : Nat), L < 4 * (i + u) + 4 → i ≤ 512 → ∀ (μ : xM), Inv i μ → ∀ (X : va_W) (fd : Nat → UInt64), xTm ca x od fd μ X → xFix s.heap.size G X → va_D (fun q => s.heap.size ≤ q) X → ∀ (H : Heap) (locs : List Loc) (ls : Array Slot) (cells slots : Nat), cells ≤ 300 + 20 * i → slots ≤ 6000 + 2000 * i → xRep D ca G X μ H → va_S (fun q => s.heap.size ≤ q) s.heap H locs → lv_has ls 9 [(0, .ref b), (1, .ref x), (2, .ref md), (3, .ref out), (4, .ref od), (5, .int (nI (4 * i)))] → W p l e room_1 s m #[Value.ref b] below meth c H locs cells slots (lw_Z below #[Value.ref b] s) (F0 m 28 ls []) := by
  have hbA : ¬ s.heap.size ≤ b := Nat.not_le.mpr hbl
  intro u
  induction u with
  | zero =>
    intro i hu hi μ hInv X fd hT hF hXD H locs ls cells slots hc hs hR hS hl
    refine lv_iload (pc := 28) hx hb dL_law_28 (lv_at hl 5 rfl) ?_
    refine lv_aload_n (pc := 30) hx hb dL_law_30 rfl (lv_at hl 0 rfl) ?_
    refine va_slen (pc := 31) hx hb hX hbl hbA hS dL_law_31 ?_
    refine lv_iconst (pc := 32) hx hb dL_law_32 kc_4 ?_
    refine lv_isub (pc := 33) hx hb dL_law_33 ?_
    have e1 : (Int32.ofNat L - (4 : Int32)).toInt = (L : Int) - 4 := pk_sub_toInt (a := L) (b := 4) (by omega) (by omega)
    have e2 : (nI (4 * i)).toInt = ((4 * i : Nat) : Int) := nI_toInt (by omega)
    refine lv_icmp_gt (pc := 34) (tgt := 1979) hx hb dL_law_34 (by decide) (fun _ => ?_) (fun c1 => absurd (by rw [Int32.lt_iff_toInt_lt, e1, e2]; omega) c1)
    refine lv_iconst (pc := 1979) hx hb dL_law_1979 kc_1 ?_
    refine va_forget (fun q hq => hS.2.2 q hq) ?_
    refine W.widen (k := 603072) (n := 7211114) (by omega) (by omega) ?_
    refine W.base ?_
    exact lw_ret (Drawn.sameBut.refl s.drawn lw_cs) hx (hb.trans xcode) hr hlocks (by rw [← xcode]; exact dL_law_1980)
  | succ u ih =>
    intro i hu hi μ hInv X fd hT hF hXD H locs ls cells slots hc hs hR hS hl
    refine lv_iload (pc := 28) hx hb dL_law_28 (lv_at hl 5 rfl) ?_
    refine lv_aload_n (pc := 30) hx hb dL_law_30 rfl (lv_at hl 0 rfl) ?_
    refine va_slen (pc := 31) hx hb hX hbl hbA hS dL_law_31 ?_
    refine lv_iconst (pc := 32) hx hb dL_law_32 kc_4 ?_
    refine lv_isub (pc := 33) hx hb dL_law_33 ?_
    have e1 : (Int32.ofNat L - (4 : Int32)).toInt = (L : Int) - 4 := pk_sub_toInt (a := L) (b := 4) (by omega) (by omega)
    have e2 : (nI (4 * i)).toInt = ((4 * i : Nat) : Int) := nI_toInt (by omega)
    refine lv_icmp_gt (pc := 34) (tgt := 1979) hx hb dL_law_34 (by decide) (fun _ => ?_) (fun c1 => ?_)
    · refine lv_iconst (pc := 1979) hx hb dL_law_1979 kc_1 ?_
      refine va_forget (fun q hq => hS.2.2 q hq) ?_
      refine W.widen (k := 603072) (n := 7211114) (by omega) (by omega) ?_
      refine W.base ?_
      exact lw_ret (Drawn.sameBut.refl s.drawn lw_cs) hx (hb.trans xcode) hr hlocks (by rw [← xcode]; exact dL_law_1980)
    rw [Int32.lt_iff_toInt_lt, e1, e2] at c1
    have hj : 4 * i + 4 ≤ L := by omega
    have hi5 : i < 512 := by omega
    obtain ⟨μ1, hInv1, hk⟩ := hI i μ (xs (4 * i)) (xs (4 * i + 1)) (xs (4 * i + 2)) (xs (4 * i + 3)) hi5 hInv
    obtain ⟨k, hk32, ek⟩ := xm31 (xs (4 * i))
    obtain ⟨hg, hgh⟩ := hk k ek hk32
    refine lv_aload_n (pc := 37) hx hb dL_law_37 rfl (lv_at hl 0 rfl) ?_
    refine lv_iload (pc := 38) hx hb dL_law_38 (lv_at hl 5 rfl) ?_
    refine xr_sld (pc := 40) (4 * i) hx hb hX hbl hbA hS (xhI0 hj hL) (xhV0 hj hL) dL_law_40 ?_
    refine lv_bipush (pc := 41) hx hb dL_law_41 kb_31 ?_
    refine lv_iand (pc := 43) hx hb dL_law_43 ?_
    rw [ek]
    have next : ∀ (X1 : va_W) (fd1 : Nat → UInt64) (H : Heap) (locs : List Loc) (ls : Array Slot), xTm ca x od fd1 μ1 X1 → xFix s.heap.size G X1 → va_D (fun q => s.heap.size ≤ q) X1 → xRep D ca G X1 μ1 H → va_S (fun q => s.heap.size ≤ q) s.heap H locs → lv_has ls 9 [(0, .ref b), (1, .ref x), (2, .ref md), (3, .ref out), (4, .ref od), (5, .int (nI (4 * i)))] → W p l e room_1 s m #[Value.ref b] below meth c H locs (cells + 20) (slots + 2000) (lw_Z below #[Value.ref b] s) (F0 m 1973 ls []) := by
      intro X1 fd1 H locs ls hT hF hXD hR hS hl
      refine lv_iinc (pc := 1973) (lv' := [(5, .int _), (0, .ref _), (1, .ref _), (2, .ref _), (3, .ref _), (4, .ref _)]) hx hb dL_law_1973 hl (k := 5) rfl ((xinc kc_4).trans (show nI (4 * i) + (4 : Int32) = nI (4 * (i + 1)) from (nI_add (4 * i) 4).trans (congrArg nI (by omega)))) (Nat.le_of_ble_eq_true rfl) rfl (fun ls hl => ?_)
      refine lv_goto (pc := 1976) (tgt := 28) hx hb dL_law_1976 (by decide) ?_
      exact ih (i + 1) (by omega) (by omega) μ1 hInv1 X1 fd1 hT hF hXD H locs ls (cells + 20) (slots + 2000) (by omega) (by omega) hR hS (lv_sub hl [1, 2, 3, 4, 5, 0] rfl)
    have hod := (xTm_od (fd1 := fd) hT).1
    match k, hk32, ek, hg, hgh with
    | 0, _, ek, hg, hgh =>
      refine lv_tableIn (pc := 44) (tgt := 188) hx hb dL_law_44 (by decide) (by decide) (by rfl) (by decide) ?_
      refine wL_0 (H0 := s.heap) hls hF hx hb hml hts hown hK hE hX hbl hbA kx km ko hj hL (by omega) (by omega) hg hR hS hl (fun H locs ls hR hS hl => ?_)
      exact next X fd H locs ls (xTm_row hgh hT) hF hXD hR hS hl
    | 1, _, ek, hg, hgh =>
      refine lv_tableIn (pc := 44) (tgt := 268) hx hb dL_law_44 (by decide) (by decide) (by rfl) (by decide) ?_
      refine wL_1 (H0 := s.heap) hls hF hx hb hml hts hown hK hE hX hbl hbA kx km ko hj hL (by omega) (by omega) hg hR hS hl (fun H locs ls hR hS hl => ?_)
      exact next X fd H locs ls (xTm_row hgh hT) hF hXD hR hS hl
    | 2, _, ek, hg, hgh =>
      refine lv_tableIn (pc := 44) (tgt := 324) hx hb dL_law_44 (by decide) (by decide) (by rfl) (by decide) ?_
      refine wL_2 (H0 := s.heap) hls hF hx hb hml hts hown hK hE hX hbl hbA kx km ko hj hL (by omega) (by omega) hg hR hS hl (fun H locs ls hR hS hl => ?_)
      exact next X fd H locs ls (xTm_row hgh hT) hF hXD hR hS hl
    | 3, _, ek, hg, hgh =>
      refine lv_tableIn (pc := 44) (tgt := 380) hx hb dL_law_44 (by decide) (by decide) (by rfl) (by decide) ?_
      refine wL_3 (H0 := s.heap) hls hF hx hb hml hts hown hK hE hX hbl hbA kx km ko hj hL (by omega) (by omega) hg hR hS hl (fun H locs ls hR hS hl => ?_)
      exact next X fd H locs ls (xTm_row hgh hT) hF hXD hR hS hl
    | 4, _, ek, hg, hgh =>
      refine lv_tableIn (pc := 44) (tgt := 436) hx hb dL_law_44 (by decide) (by decide) (by rfl) (by decide) ?_
      refine wL_4 (H0 := s.heap) hls hF hx hb hml hts hown hK hE hX hbl hbA kx km ko hj hL (by omega) (by omega) hg hR hS hl (fun H locs ls hR hS hl => ?_)
      exact next X fd H locs ls (xTm_row hgh hT) hF hXD hR hS hl
    | 5, _, ek, hg, hgh =>
      refine lv_tableIn (pc := 44) (tgt := 492) hx hb dL_law_44 (by decide) (by decide) (by rfl) (by decide) ?_
      refine wL_5 (H0 := s.heap) hls hF hx hb hml hts hown hK hE hX hbl hbA kx km ko hj hL (by omega) (by omega) hg hR hS hl (fun H locs ls hR hS hl => ?_)
      exact next X fd H locs ls (xTm_row hgh hT) hF hXD hR hS hl
    | 6, _, ek, hg, hgh =>
      refine lv_tableIn (pc := 44) (tgt := 560) hx hb dL_law_44 (by decide) (by decide) (by rfl) (by decide) ?_
      refine wL_6 (H0 := s.heap) hls hF hx hb hml hts hown hK hE hX hbl hbA kx km ko hj hL (by omega) (by omega) hg hR hS hl (fun H locs ls hR hS hl => ?_)
      exact next X fd H locs ls (xTm_row hgh hT) hF hXD hR hS hl
    | 7, _, ek, hg, hgh =>
      refine lv_tableIn (pc := 44) (tgt := 616) hx hb dL_law_44 (by decide) (by decide) (by rfl) (by decide) ?_
      refine wL_7 (H0 := s.heap) hls hF hx hb hml hts hown hK hE hX hbl hbA kx km ko hj hL (by omega) (by omega) hg hR hS hl (fun H locs ls hR hS hl => ?_)
      exact next X fd H locs ls (xTm_row hgh hT) hF hXD hR hS hl
    | 8, _, ek, hg, hgh =>
      refine lv_tableIn (pc := 44) (tgt := 684) hx hb dL_law_44 (by decide) (by decide) (by rfl) (by decide) ?_
      refine wL_8 (H0 := s.heap) hls hF hx hb hml hts hown hK hE hX hbl hbA kx km ko hj hL (by omega) (by omega) hg hR hS hl (fun H locs ls hR hS hl => ?_)
      exact next X fd H locs ls (xTm_row hgh hT) hF hXD hR hS hl
    | 9, _, ek, hg, hgh =>
      refine lv_tableIn (pc := 44) (tgt := 752) hx hb dL_law_44 (by decide) (by decide) (by rfl) (by decide) ?_
      refine wL_9 (H0 := s.heap) hls hF hx hb hml hts hown hK hE hX hbl hbA kx km ko hj hL (by omega) (by omega) hg hR hS hl (fun H locs ls hR hS hl => ?_)
      exact next X fd H locs ls (xTm_row hgh hT) hF hXD hR hS hl
    | 10, _, ek, hg, hgh =>
      refine lv_tableIn (pc := 44) (tgt := 808) hx hb dL_law_44 (by decide) (by decide) (by rfl) (by decide) ?_
      refine wL_10 (H0 := s.heap) hls hF hx hb hml hts hown hK hE hX hbl hbA kx km ko hj hL (by omega) (by omega) hg hR hS hl (fun H locs ls hR hS hl => ?_)
      exact next X fd H locs ls (xTm_row hgh hT) hF hXD hR hS hl
    | 11, _, ek, hg, hgh =>
      refine lv_tableIn (pc := 44) (tgt := 864) hx hb dL_law_44 (by decide) (by decide) (by rfl) (by decide) ?_
      refine wL_11 (H0 := s.heap) hls hF hx hb hml hts hown hK hE hX hbl hbA kx km ko hj hL (by omega) (by omega) hg hR hS hl (fun H locs ls hR hS hl => ?_)
      exact next X fd H locs ls (xTm_row hgh hT) hF hXD hR hS hl
    | 12, _, ek, hg, hgh =>
      refine lv_tableIn (pc := 44) (tgt := 920) hx hb dL_law_44 (by decide) (by decide) (by rfl) (by decide) ?_
      refine wL_12 (H0 := s.heap) hls hF hx hb hml hts hown hK hE hX hbl hbA kx km ko hj hL (by omega) (by omega) hg hR hS hl (fun H locs ls hR hS hl => ?_)
      exact next X fd H locs ls (xTm_row hgh hT) hF hXD hR hS hl
    | 13, _, ek, hg, hgh =>
      refine lv_tableIn (pc := 44) (tgt := 988) hx hb dL_law_44 (by decide) (by decide) (by rfl) (by decide) ?_
      refine wL_13 (H0 := s.heap) hls hF hx hb hml hts hown hK hE hX hbl hbA kx km ko hj hL (by omega) (by omega) hg hR hS hl (fun H locs ls hR hS hl => ?_)
      exact next X fd H locs ls (xTm_row hgh hT) hF hXD hR hS hl
    | 14, _, ek, hg, hgh =>
      refine lv_tableIn (pc := 44) (tgt := 1056) hx hb dL_law_44 (by decide) (by decide) (by rfl) (by decide) ?_
      refine wL_14 (H0 := s.heap) hls hF hx hb hml hts hown hK hE hX hbl hbA kx km ko hj hL (by omega) (by omega) hg hR hS hl (fun H locs ls hR hS hl => ?_)
      exact next X fd H locs ls (xTm_row hgh hT) hF hXD hR hS hl
    | 15, _, ek, hg, hgh =>
      refine lv_tableIn (pc := 44) (tgt := 1112) hx hb dL_law_44 (by decide) (by decide) (by rfl) (by decide) ?_
      refine wL_15 (H0 := s.heap) hls hF hx hb hml hts hown hK hE hX hbl hbA kx km ko hj hL (by omega) (by omega) hg hR hS hl (fun H locs ls hR hS hl => ?_)
      exact next X fd H locs ls (xTm_row hgh hT) hF hXD hR hS hl
    | 16, _, ek, hg, hgh =>
      refine lv_tableIn (pc := 44) (tgt := 1168) hx hb dL_law_44 (by decide) (by decide) (by rfl) (by decide) ?_
      refine wL_16 (H0 := s.heap) hls hF hx hb hml hts hown hK hE hX hbl hbA kx km ko hj hL (by omega) (by omega) hg hR hS hl (fun H locs ls hR hS hl => ?_)
      exact next X fd H locs ls (xTm_row hgh hT) hF hXD hR hS hl
    | 17, _, ek, hg, hgh =>
      refine lv_tableIn (pc := 44) (tgt := 1236) hx hb dL_law_44 (by decide) (by decide) (by rfl) (by decide) ?_
      refine wL_17 (H0 := s.heap) hls hF hx hb hml hts hown hK hE hX hbl hbA kx km ko hj hL (by omega) (by omega) hg hR hS hl (fun H locs ls hR hS hl => ?_)
      exact next X fd H locs ls (xTm_row hgh hT) hF hXD hR hS hl
    | 18, _, ek, hg, hgh =>
      refine lv_tableIn (pc := 44) (tgt := 1304) hx hb dL_law_44 (by decide) (by decide) (by rfl) (by decide) ?_
      refine wL_18 (H0 := s.heap) hls hF hx hb hml hts hown hK hE hX hbl hbA kx km ko hj hL (by omega) (by omega) hg hR hS hl (fun H locs ls hR hS hl => ?_)
      exact next X fd H locs ls (xTm_row hgh hT) hF hXD hR hS hl
    | 19, _, ek, hg, hgh =>
      refine lv_tableIn (pc := 44) (tgt := 1345) hx hb dL_law_44 (by decide) (by decide) (by rfl) (by decide) ?_
      refine wL_19 (H0 := s.heap) hls hF hx hb hml hts hown hK hE hX hbl hbA kx km ko hj hL (by omega) (by omega) hg hR hS hl (fun H locs ls hR hS hl => ?_)
      exact next X fd H locs ls (xTm_row hgh hT) hF hXD hR hS hl
    | 20, _, ek, hg, hgh =>
      refine lv_tableIn (pc := 44) (tgt := 1358) hx hb dL_law_44 (by decide) (by decide) (by rfl) (by decide) ?_
      refine wL_20 (H0 := s.heap) hls hF hx hb hml hts hown hK hE hX hbl hbA kx km ko hj hL (by omega) (by omega) hXD hT hg hR hS hl (fun mA X1 H locs ls h9 hF hXD hR hS hl => ?_)
      obtain ⟨r, h9, hX1⟩ := h9
      obtain ⟨g1, g2⟩ := hgh r mA h9
      have hT2 : xTm ca x od fd mA X1 := by
        rcases hX1 with ⟨hr1, hX2⟩ | hX1
        · rw [hX2]; exact xTm_row (g1 hr1) hT
        · exact hX1
      exact next X1 fd H locs ls (xTm_row g2 hT2) hF hXD hR hS hl
    | 21, _, ek, hg, hgh =>
      refine lv_tableIn (pc := 44) (tgt := 1414) hx hb dL_law_44 (by decide) (by decide) (by rfl) (by decide) ?_
      refine wL_21 (H0 := s.heap) hls hF hx hb hml hts hown hK hE hX hbl hbA kx km ko hj hL (by omega) (by omega) hXD hT hg hR hS hl (fun H locs ls hR hS hl => ?_)
      exact next X fd H locs ls (xTm_row hgh hT) hF hXD hR hS hl
    | 22, _, ek, hg, hgh =>
      refine lv_tableIn (pc := 44) (tgt := 1470) hx hb dL_law_44 (by decide) (by decide) (by rfl) (by decide) ?_
      refine wL_22 (H0 := s.heap) hls hF hx hb hml hts hown hK hE hX hbl hbA kx km ko hj hL (by omega) (by omega) hg hR hS hl (fun H locs ls hR hS hl => ?_)
      exact next X fd H locs ls (xTm_row hgh hT) hF hXD hR hS hl
    | 23, _, ek, hg, hgh =>
      refine lv_tableIn (pc := 44) (tgt := 1528) hx hb dL_law_44 (by decide) (by decide) (by rfl) (by decide) ?_
      refine wL_23 (H0 := s.heap) hls hF hx hb hml hts hown hK hE hX hbl hbA kx km ko hj hL (by omega) (by omega) hg hR hS hl (fun H locs ls hR hS hl => ?_)
      exact next X fd H locs ls (xTm_row hgh hT) hF hXD hR hS hl
    | 24, _, ek, hg, hgh =>
      refine lv_tableIn (pc := 44) (tgt := 1572) hx hb dL_law_44 (by decide) (by decide) (by rfl) (by decide) ?_
      refine wL_24 (H0 := s.heap) hls hF hx hb hml hts hown hK hE hX hbl hbA kx km ko hj hL (by omega) (by omega) hg hR hS hl (fun H locs ls hR hS hl => ?_)
      exact next X fd H locs ls (xTm_row hgh hT) hF hXD hR hS hl
    | 25, _, ek, hg, hgh =>
      refine lv_tableIn (pc := 44) (tgt := 1585) hx hb dL_law_44 (by decide) (by decide) (by rfl) (by decide) ?_
      refine wL_25 (H0 := s.heap) hls hF hx hb hml hts hown hK hE hX hbl hbA kx km ko hj hL (by omega) (by omega) hg hR hS hl (fun H locs ls hR hS hl => ?_)
      exact next X fd H locs ls (xTm_row hgh hT) hF hXD hR hS hl
    | 26, _, ek, hg, hgh =>
      refine lv_tableIn (pc := 44) (tgt := 1685) hx hb dL_law_44 (by decide) (by decide) (by rfl) (by decide) ?_
      refine wL_26 (H0 := s.heap) hls hF hx hb hml hts hown hK hE hX hbl hbA kx km ko hj hL (by omega) (by omega) hg hR hS hl (fun H locs ls hR hS hl => ?_)
      exact next X fd H locs ls (xTm_row hgh hT) hF hXD hR hS hl
    | 27, _, ek, hg, hgh =>
      refine lv_tableIn (pc := 44) (tgt := 1741) hx hb dL_law_44 (by decide) (by decide) (by rfl) (by decide) ?_
      refine wL_27 (L := L) hls hF hx hb hml hts hown hK hE hXD hod kx km (j := 4 * i) (by omega) (by omega) (hg (fd 0)) hR hS hl (fun fd1 H locs ls hR hS hl => ?_)
      exact next _ fd1 H locs ls (xTm_row hgh (xTm_od (fd1 := fd1) hT).2) (hF.setX hod) (xD_set hXD hod) hR hS hl
    | 28, _, ek, hg, hgh =>
      refine lv_tableIn (pc := 44) (tgt := 1806) hx hb dL_law_44 (by decide) (by decide) (by rfl) (by decide) ?_
      refine wL_28 (L := L) hls hF hx hb hml hts hown hK hE hXD hod kx km (j := 4 * i) (by omega) (by omega) (hg (fd 0)) hR hS hl (fun fd1 H locs ls hR hS hl => ?_)
      exact next _ fd1 H locs ls (xTm_row hgh (xTm_od (fd1 := fd1) hT).2) (hF.setX hod) (xD_set hXD hod) hR hS hl
    | 29, _, ek, hg, hgh =>
      refine lv_tableIn (pc := 44) (tgt := 1872) hx hb dL_law_44 (by decide) (by decide) (by rfl) (by decide) ?_
      refine wL_29 (H0 := s.heap) hls hF hx hb hml hts hown hK hE hX hbl hbA kx km ko hj hL (by omega) (by omega) hg hR hS hl (fun H locs ls hR hS hl => ?_)
      exact next X fd H locs ls (xTm_row hgh hT) hF hXD hR hS hl
    | 30, _, ek, hg, hgh =>
      refine lv_tableIn (pc := 44) (tgt := 1916) hx hb dL_law_44 (by decide) (by decide) (by rfl) (by decide) ?_
      refine wL_30 (H0 := s.heap) hls hF hx hb hml hts hown hK hE hX hbl hbA kx km ko hj hL (by omega) (by omega) hg hR hS hl (fun H locs ls hR hS hl => ?_)
      exact next X fd H locs ls (xTm_row hgh hT) hF hXD hR hS hl
    | 31, _, ek, hg, hgh =>
      refine lv_tableIn (pc := 44) (tgt := 1929) hx hb dL_law_44 (by decide) (by decide) (by rfl) (by decide) ?_
      refine wL_31 (H0 := s.heap) hls hF hx hb hml hts hown hK hE hX hbl hbA kx km ko hj hL (by omega) (by omega) hg hR hS hl (fun H locs ls hR hS hl => ?_)
      exact next X fd H locs ls (xTm_row hgh hT) hF hXD hR hS hl
    | k + 32, hk32, ek, hg, hgh => omega
