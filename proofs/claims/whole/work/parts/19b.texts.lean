/-! constant texts: a method that answers one, and String's own checkIndex -/
def xI_Str (_ : xG) (i : Nat) : Prop := i < xsN
def xMr (l : Launch) (y : MethodName) (ws : List Cond) (d : Nat) (D : va_G) (ca : Nat → ClassId) (z : Nat) (G : xG) (X : va_W) (ad av : Nat → Nat) (as : List Value) (μ : xM) (i1 : Nat) : Prop :=
  Met l y ws (xRm d 0 0) (va_Pc as (xSt D ca z G X ad av μ)) (va_Qr (fun (_ : Unit) => i1 < xsN) (fun _ a t => a = ad i1 ∧ xB D ca G X μ t) (fun q => z ≤ q)) 0 0 (fun q => z ≤ q)
theorem xm_r {l : Launch} {y : MethodName} {ws ws' : List Cond} {d : Nat} {D : va_G} {ca : Nat → ClassId} {z : Nat} {G : xG} {X : va_W} {ad av : Nat → Nat} {as : List Value} {μ : xM} {i1 : Nat} {cc : ByteArray} {nL : Nat} {ty : FieldType} (hy : plainName y.cls = true) (hw : ws = .code y cc nL (some ty) :: ws') (hn : (lg_sl as).length ≤ nL) (L0 : List (Nat × Value)) (hL : lv_args 0 as = L0)
    (body : ∀ (p : Program) (e : Env) (s : State) (m : MethodId) (args : Array Value) (below : List Frame) (meth : Method) (c : Code) (ls : Array Slot), p.tables.exec = Jvm.exec → c.code = cc → meth.sig.returnType = some ty → c.maxLocals = nL → meth.locks = false → (∀ w ∈ ws, w.before args s = true) → s.vm.findClass y.cls = some m.cls → va_K D vwCl (xT ca) s → xEv z ad av s s.heap → xRep D ca G X μ s.heap → va_S (fun q => z ≤ q) s.heap s.heap [] → lv_has ls nL L0 →
      W p l e (xRm d 0 0) s m args below meth c s.heap [] 0 0 (MQ below (va_Qr (fun (_ : Unit) => i1 < xsN) (fun _ a t => a = ad i1 ∧ xB D ca G X μ t) (fun q => z ≤ q)) args s 0 0 (fun q => z ≤ q)) (F0 m 0 ls [])) : xMr l y ws d D ca z G X ad av as μ i1 := by
  refine Met.ofW (cc := cc) (maxL := nL) (ret := some ty) hy hw ?_
  intro p e s m args below meth c s₁ B hml hv
  obtain ⟨rfl, hR, hK, hE⟩ := hv
  have hl := lv_entry as (n := nL) hn
  rw [hL] at hl
  rw [lg_entry_eq]
  exact body p e s m _ below meth c _ B.exec B.bytes B.returns hml B.notSynchronized (atoms_spec (ws := ws) B.pre) (findClass_of_methodNamed B.named) hK hE hR va_S.rf hl
section XTX
variable {p : Program} {l : Launch} {e : Env} {R : Room} {s : State} {m : MethodId} {args : Array Value} {below : List Frame} {meth : Method} {c : Code} {H : Heap} {locs : List Loc} {cells slots : Nat} {Q : State → Prop}
variable {cc : ByteArray} {pc : Nat} {ls : Array Slot} {rest st : List Value} {D : va_G} {ca : Nat → ClassId} {z : Nat} {G : xG} {X : va_W} {μ μ1 : xM} {ad av : Nat → Nat} {i i1 : Nat}
variable {y : MethodName} {bytes : ByteArray} {maxL nL n index d : Nat} {ws Ts : List Cond} {own : String} {As : List Value}
theorem xStr (hE : xEv z ad av s H) (i : Nat) (hi : i < xsN) {own : String} {idx : Nat} (h1 : xsO.getD i "" = own) (h2 : xsI.getD i 0 = idx) : vk_R own idx (xsT.getD i "") (ad i) s := by
  have := hE.2.2.1 i hi
  rw [h1, h2] at this
  exact this
theorem xf_r {C : String} (hx : p.tables.exec = Jvm.exec) (hb : c.code = cc) (hr : meth.sig.returnType = some (.object C)) (hlocks : meth.locks = false) (h : (some i : Option Nat) = some i1) (hi : i < xsN) (hR : xRep D ca G X μ H) (hK : va_K D vwCl (xT ca) s) (hS : va_S (fun q => z ≤ q) s.heap H locs) (hdg : decode cc pc = .ok (.areturn, 1)) :
    W p l e R s m args below meth c H locs 0 0 (MQ below (va_Qr (fun (_ : Unit) => i1 < xsN) (fun _ a t => a = ad i1 ∧ xB D ca G X μ t) (fun q => z ≤ q)) args s 0 0 (fun q => z ≤ q)) (F0 m pc ls [.ref (ad i)]) := by
  cases h
  exact W.aret hx hb hr (Or.inl ⟨C, rfl⟩) (Or.inr ⟨_, rfl⟩) (fun t ht hW => ⟨⟨(), _, rfl, hi, rfl, by rw [ht]; exact hR, va_K.moved hW.alike hK⟩, hS.F ht⟩) hS.2.2 hdg hlocks
theorem xc_rS (S : CallFix p m c cc nL s args Ts own) (hM : xMr l y ws d D ca z G X ad av As μ i1) {rt : FieldType} (cw : CallB R s args own index y bytes maxL (some rt) ws (xRm d 0 0) 0 0 n ∧ (Cond.static y).before args s = true) (hR : xRep D ca G X μ H) (hK : va_K D vwCl (xT ca) s) (hE : xEv z ad av s s.heap) (hS : va_S (fun q => z ≤ q) s.heap H locs)
    (hn : As.length = n) (hsize : ls.size = nL) (hst : st = As.reverse ++ rest) (hW : (rest.map fun v => v.category).sum ≤ 8) (hdg : decode cc pc = .ok (.invokestatic index, 3)) (hf : cells ≤ R.cells ∧ slots ≤ R.slots)
    (kk : ∀ (H1 : Heap) (locs1 : List Loc), i1 < xsN → xRep D ca G X μ H1 → va_S (fun q => z ≤ q) s.heap H1 locs1 → W p l e R s m args below meth c H1 locs1 cells slots Q (F0 m (pc + 3) ls (.ref (ad i1) :: rest))) : W p l e R s m args below meth c H locs cells slots Q (F0 m pc ls st) := by
  refine va_callr (va_runS (As := As) (rest := rest) S hM cw ⟨xSt_blind, xSt_at hR hK hE hS⟩ rfl hn hsize hst (lv_room hW) hdg hf) hS (fun q _ h => h) (fun q h => h) (fun u ra t H1 locs1 ht hvm hw hB hz1 hk1 hS1 => ?_)
  obtain ⟨rfl, hR1, -⟩ := hB
  rw [ht] at hR1
  exact kk H1 locs1 hw hR1 hS1
end XTX
noncomputable def fJ3_checkIndex_8e157 (p0 p1 : Int32) (μ : xM) : Option (Int32 × xM) :=
  if p0 < 0 then none else (if p0 < p1 then (some (p0, μ)) else none)
set_option maxHeartbeats 1000000 in
set_option maxRecDepth 20000 in
theorem mJ3_checkIndex {l : Launch} {D : va_G} {ca : Nat → ClassId} {z : Nat} {G : xG} {X : va_W} {ad av : Nat → Nat} (v : Value) (hv : v = .null ∨ ∃ q, v = .ref q) (p0 p1 : Int32) {μ μ1 : xM} {r : Int32} (h : fJ3_checkIndex_8e157 p0 p1 μ = some (r, μ1)) : xMi l yJ3_checkIndex_8e157 (xws yJ3_checkIndex_8e157 cJ3_checkIndex_8e157 3 (some .int)) 0 D ca z G X ad av [.int p0, .int p1, v] μ r μ1 := by
  rw [fJ3_checkIndex_8e157] at h
  rcases hv with rfl | ⟨q, rfl⟩
  · refine xm_i (by decide) rfl (Nat.le_of_ble_eq_true rfl) [(0, .int p0), (1, .int p1), (2, .null)] rfl ?_
    intro p e s m args below meth c ls hx hb hr hml hlocks hts hown hK hE hR hS hl
    refine lv_iload_n (pc := 0) hx hb dJ3_checkIndex_8e157_0 rfl (lv_at hl 0 rfl) ?_
    refine lv_if_lt (pc := 1) (tgt := 9) hx hb dJ3_checkIndex_8e157_1 (by decide) (fun c1 => ?_) (fun c1 => ?_)
    · have h := xpos c1 h
      cases h
    · have h := xneg c1 h
      refine lv_iload_n (pc := 4) hx hb dJ3_checkIndex_8e157_4 rfl (lv_at hl 0 rfl) ?_
      refine lv_iload_n (pc := 5) hx hb dJ3_checkIndex_8e157_5 rfl (lv_at hl 1 rfl) ?_
      refine lv_icmp_lt (pc := 6) (tgt := 16) hx hb dJ3_checkIndex_8e157_6 (by decide) (fun c2 => ?_) (fun c2 => ?_)
      · have h := xpos c2 h
        refine lv_iload_n (pc := 16) hx hb dJ3_checkIndex_8e157_16 rfl (lv_at hl 0 rfl) ?_
        exact xf_i (pc := 17) hx hb hr rfl hlocks h hR hK hS dJ3_checkIndex_8e157_17
      · have h := xneg c2 h
        cases h
  · refine xm_i (by decide) rfl (Nat.le_of_ble_eq_true rfl) [(0, .int p0), (1, .int p1), (2, .ref q)] rfl ?_
    intro p e s m args below meth c ls hx hb hr hml hlocks hts hown hK hE hR hS hl
    refine lv_iload_n (pc := 0) hx hb dJ3_checkIndex_8e157_0 rfl (lv_at hl 0 rfl) ?_
    refine lv_if_lt (pc := 1) (tgt := 9) hx hb dJ3_checkIndex_8e157_1 (by decide) (fun c1 => ?_) (fun c1 => ?_)
    · have h := xpos c1 h
      cases h
    · have h := xneg c1 h
      refine lv_iload_n (pc := 4) hx hb dJ3_checkIndex_8e157_4 rfl (lv_at hl 0 rfl) ?_
      refine lv_iload_n (pc := 5) hx hb dJ3_checkIndex_8e157_5 rfl (lv_at hl 1 rfl) ?_
      refine lv_icmp_lt (pc := 6) (tgt := 16) hx hb dJ3_checkIndex_8e157_6 (by decide) (fun c2 => ?_) (fun c2 => ?_)
      · have h := xpos c2 h
        refine lv_iload_n (pc := 16) hx hb dJ3_checkIndex_8e157_16 rfl (lv_at hl 0 rfl) ?_
        exact xf_i (pc := 17) hx hb hr rfl hlocks h hR hK hS dJ3_checkIndex_8e157_17
      · have h := xneg c2 h
        cases h
noncomputable def fJ0_checkIndex_df160 (p0 p1 : Int32) (μ : xM) : Option xM :=
  xb (fJ3_checkIndex_8e157 p0 p1 μ) (fun _ m1 => some m1)
set_option maxHeartbeats 1000000 in
set_option maxRecDepth 20000 in
theorem mJ0_checkIndex_df160 {l : Launch} {D : va_G} {ca : Nat → ClassId} {z : Nat} {G : xG} {X : va_W} {ad av : Nat → Nat} (hF : xFix z G X) (p0 p1 : Int32) {μ μ1 : xM} (h : fJ0_checkIndex_df160 p0 p1 μ = some μ1) : xMv l yJ0_checkIndex_df160 (xws yJ0_checkIndex_df160 cJ0_checkIndex_df160 2 none) 1 D ca z G X ad av [.int p0, .int p1] μ μ1 := by
  refine xm_v (by decide) rfl (Nat.le_of_ble_eq_true rfl) [(0, .int p0), (1, .int p1)] rfl ?_
  intro p e s m args below meth c ls hx hb hr hml hlocks hts hown hK hE hR hS hl
  have hts : ∀ w ∈ xAll, w.before args s = true := fun w hw => hts w (List.mem_cons_of_mem _ hw)
  rw [fJ0_checkIndex_df160] at h
  obtain ⟨r1, m1, c1, h⟩ := xb_inv h
  refine lv_iload_n (pc := 0) hx hb dJ0_checkIndex_df160_0 rfl (lv_at hl 0 rfl) ?_
  refine lv_iload_n (pc := 1) hx hb dJ0_checkIndex_df160_1 rfl (lv_at hl 1 rfl) ?_
  rcases hE.2.2.2.2.1.2 with hq | ⟨q, hq⟩
  · refine va_gets (pc := 2) hx hb hq hS hown (hts _ q_f_J0_1053) (fun _ h9 => h9) dJ0_checkIndex_df160_2 ?_
    refine xc_iS (pc := 5) (As := [.int _, .int _, .null]) (rest := []) ⟨hx, hb, hml, hown, hts⟩ (mJ3_checkIndex _ (Or.inl rfl) _ _ c1) (xcwS 3 hts fdJ3_checkIndex_8e157 q_m_J0_1059 ⟨Nat.le_of_ble_eq_true rfl, Nat.le_of_ble_eq_true rfl⟩) hR hK hE hS rfl hl.1 rfl (Nat.le_of_ble_eq_true rfl) dJ0_checkIndex_df160_5 ⟨Nat.zero_le _, Nat.zero_le _⟩ (fun H locs hR hS => ?_)
    refine lv_pop (pc := 8) hx hb dJ0_checkIndex_df160_8 rfl ?_
    exact xf_v (pc := 9) hx hb hr hlocks h hR hK hS dJ0_checkIndex_df160_9
  · refine va_gets (pc := 2) hx hb hq hS hown (hts _ q_f_J0_1053) (fun _ h9 => h9) dJ0_checkIndex_df160_2 ?_
    refine xc_iS (pc := 5) (As := [.int _, .int _, .ref _]) (rest := []) ⟨hx, hb, hml, hown, hts⟩ (mJ3_checkIndex _ (Or.inr ⟨_, rfl⟩) _ _ c1) (xcwS 3 hts fdJ3_checkIndex_8e157 q_m_J0_1059 ⟨Nat.le_of_ble_eq_true rfl, Nat.le_of_ble_eq_true rfl⟩) hR hK hE hS rfl hl.1 rfl (Nat.le_of_ble_eq_true rfl) dJ0_checkIndex_df160_5 ⟨Nat.zero_le _, Nat.zero_le _⟩ (fun H locs hR hS => ?_)
    refine lv_pop (pc := 8) hx hb dJ0_checkIndex_df160_8 rfl ?_
    exact xf_v (pc := 9) hx hb hr hlocks h hR hK hS dJ0_checkIndex_df160_9
