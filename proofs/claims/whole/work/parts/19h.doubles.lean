/-! methods that answer a double or a float; the law's row of one double -/
theorem xthdd {k : Nat} {μ μ1 : xM} {o : Nat × UInt64} (h : (some ((k, (0 : UInt64)), μ) : Option ((Nat × UInt64) × xM)) = some (o, μ1)) : (some ((k, (0 : Int32)), μ) : Option (xO × xM)) = some ((o.1, 0), μ1) := by cases h; rfl
theorem xthdf {k : Nat} {μ μ1 : xM} {o : Nat × UInt32} (h : (some ((k, (0 : UInt32)), μ) : Option ((Nat × UInt32) × xM)) = some (o, μ1)) : (some ((k, (0 : Int32)), μ) : Option (xO × xM)) = some ((o.1, 0), μ1) := by cases h; rfl
def xMd (l : Launch) (y : MethodName) (ws : List Cond) (d : Nat) (D : va_G) (ca : Nat → ClassId) (z : Nat) (G : xG) (X : va_W) (ad av : Nat → Nat) (as : List Value) (μ : xM) (r : UInt64) (μ1 : xM) : Prop :=
  Met l y ws (xRm d 0 0) (va_Pc as (xSt D ca z G X ad av μ)) (va_Qd (fun (r' : UInt64) (_ : Unit) => r' = r) (fun _ t => xB D ca G X μ1 t) (fun q => z ≤ q)) 0 0 (fun q => z ≤ q)
theorem xm_d {l : Launch} {y : MethodName} {ws ws' : List Cond} {d : Nat} {D : va_G} {ca : Nat → ClassId} {z : Nat} {G : xG} {X : va_W} {ad av : Nat → Nat} {as : List Value} {μ μ1 : xM} {r : UInt64} {cc : ByteArray} {nL : Nat} {ty : FieldType} (hy : plainName y.cls = true) (hw : ws = .code y cc nL (some ty) :: ws') (hn : (lg_sl as).length ≤ nL) (L0 : List (Nat × Value)) (hL : lv_args 0 as = L0)
    (body : ∀ (p : Program) (e : Env) (s : State) (m : MethodId) (args : Array Value) (below : List Frame) (meth : Method) (c : Code) (ls : Array Slot), p.tables.exec = Jvm.exec → c.code = cc → meth.sig.returnType = some ty → c.maxLocals = nL → meth.locks = false → (∀ w ∈ ws, w.before args s = true) → s.vm.findClass y.cls = some m.cls → va_K D vwCl (xT ca) s → xEv z ad av s s.heap → xRep D ca G X μ s.heap → va_S (fun q => z ≤ q) s.heap s.heap [] → lv_has ls nL L0 →
      W p l e (xRm d 0 0) s m args below meth c s.heap [] 0 0 (MQ below (va_Qd (fun (r' : UInt64) (_ : Unit) => r' = r) (fun _ t => xB D ca G X μ1 t) (fun q => z ≤ q)) args s 0 0 (fun q => z ≤ q)) (F0 m 0 ls [])) : xMd l y ws d D ca z G X ad av as μ r μ1 := by
  refine Met.ofW (cc := cc) (maxL := nL) (ret := some ty) hy hw ?_
  intro p e s m args below meth c s₁ B hml hv
  obtain ⟨rfl, hR, hK, hE⟩ := hv
  have hl := lv_entry as (n := nL) hn
  rw [hL] at hl
  rw [lg_entry_eq]
  exact body p e s m _ below meth c _ B.exec B.bytes B.returns hml B.notSynchronized (atoms_spec (ws := ws) B.pre) (findClass_of_methodNamed B.named) hK hE hR va_S.rf hl
def xMxd (l : Launch) (y : MethodName) (ws : List Cond) (d mc ms : Nat) (D : va_G) (ca : Nat → ClassId) (z : Nat) (G : xG) (X : va_W) (ad av : Nat → Nat) (as : List Value) (μ : xM) (o : Nat × UInt64) (μ1 : xM) : Prop :=
  vx_Met l y ws (xRm d mc ms) (va_Pc as (xSt D ca z G X ad av μ)) (va_Qd (fun (r' : UInt64) (_ : Unit) => o.1 = 0 ∧ r' = o.2) (fun _ t => xB D ca G X μ1 t) (fun q => z ≤ q)) (xXC D ca z G X μ1 (o.1, 0)) mc ms (fun q => z ≤ q)
theorem xm_xd {l : Launch} {y : MethodName} {ws ws' : List Cond} {d mc ms : Nat} {D : va_G} {ca : Nat → ClassId} {z : Nat} {G : xG} {X : va_W} {ad av : Nat → Nat} {as : List Value} {μ μ1 : xM} {o : Nat × UInt64} {cc : ByteArray} {nL : Nat} {ty : FieldType} (hy : plainName y.cls = true) (hw : ws = .code y cc nL (some ty) :: ws') (hn : (lg_sl as).length ≤ nL) (L0 : List (Nat × Value)) (hL : lv_args 0 as = L0)
    (body : ∀ (p : Program) (e : Env) (s : State) (m : MethodId) (args : Array Value) (below : List Frame) (meth : Method) (c : Code) (ls : Array Slot), p.tables.exec = Jvm.exec → c.code = cc → meth.sig.returnType = some ty → c.maxLocals = nL → meth.locks = false → (∀ x ∈ c.exceptionTable.toList, False) → (∀ w ∈ ws, w.before args s = true) → s.vm.findClass y.cls = some m.cls → va_K D vwCl (xT ca) s → xEv z ad av s s.heap → xRep D ca G X μ s.heap → va_S (fun q => z ≤ q) s.heap s.heap [] → lv_has ls nL L0 →
      W p l e (xRm d mc ms) s m args below meth c s.heap [] 0 0 (vx_MQ below (va_Qd (fun (r' : UInt64) (_ : Unit) => o.1 = 0 ∧ r' = o.2) (fun _ t => xB D ca G X μ1 t) (fun q => z ≤ q)) (xXC D ca z G X μ1 (o.1, 0)) args s mc ms (fun q => z ≤ q)) (F0 m 0 ls [])) : xMxd l y ws d mc ms D ca z G X ad av as μ o μ1 := by
  refine vx_ofW (cc := cc) (maxL := nL) (ret := some ty) hy hw ?_
  intro p e s m args below meth c s₁ B hml hex hv
  obtain ⟨rfl, hR, hK, hE⟩ := hv
  have hl := lv_entry as (n := nL) hn
  rw [hL] at hl
  rw [lg_entry_eq]
  exact body p e s m _ below meth c _ B.exec B.bytes B.returns hml B.notSynchronized hex (atoms_spec (ws := ws) B.pre) (findClass_of_methodNamed B.named) hK hE hR va_S.rf hl
section XDB
variable {p : Program} {l : Launch} {e : Env} {R : Room} {s : State} {m : MethodId} {args : Array Value} {below : List Frame} {meth : Method} {c : Code} {H : Heap} {locs : List Loc} {cells slots mc ms : Nat} {Q : State → Prop}
variable {cc : ByteArray} {pc : Nat} {ls : Array Slot} {rest st : List Value} {D : va_G} {ca : Nat → ClassId} {z b : Nat} {G : xG} {X : va_W} {μ μ1 : xM} {ad av : Nat → Nat} {r v : UInt64} {o : Nat × UInt64} {rt : FieldType}
variable {y : MethodName} {bytes : ByteArray} {maxL nL n index d : Nat} {ws Ts : List Cond} {own C : String} {As : List Value}
theorem xf_d (hx : p.tables.exec = Jvm.exec) (hb : c.code = cc) (hr : meth.sig.returnType = some .double) (hlocks : meth.locks = false) (h : (some (v, μ) : Option (UInt64 × xM)) = some (r, μ1)) (hR : xRep D ca G X μ H) (hK : va_K D vwCl (xT ca) s) (hS : va_S (fun q => z ≤ q) s.heap H locs) (hdg : decode cc pc = .ok (.dreturn, 1)) :
    W p l e R s m args below meth c H locs 0 0 (MQ below (va_Qd (fun (r' : UInt64) (_ : Unit) => r' = r) (fun _ t => xB D ca G X μ1 t) (fun q => z ≤ q)) args s 0 0 (fun q => z ≤ q)) (F0 m pc ls [.double v]) := by
  cases h
  exact W.dret hx hb hr (fun t ht hW => ⟨⟨_, (), rfl, rfl, by rw [ht]; exact hR, va_K.moved hW.alike hK⟩, hS.F ht⟩) hS.2.2 hdg hlocks
theorem xe_xd (hx : p.tables.exec = Jvm.exec) (hb : c.code = cc) (hr : meth.sig.returnType = some .double) (hlocks : meth.locks = false) (h : (some ((0, v), μ) : Option ((Nat × UInt64) × xM)) = some (o, μ1)) (hR : xRep D ca G X μ H) (hK : va_K D vwCl (xT ca) s) (hS : va_S (fun q => z ≤ q) s.heap H locs) (hc : cells ≤ mc) (hs : slots ≤ ms) (hdg : decode cc pc = .ok (.dreturn, 1)) :
    W p l e R s m args below meth c H locs cells slots (vx_MQ below (va_Qd (fun (r' : UInt64) (_ : Unit) => o.1 = 0 ∧ r' = o.2) (fun _ t => xB D ca G X μ1 t) (fun q => z ≤ q)) (xXC D ca z G X μ1 (o.1, 0)) args s mc ms (fun q => z ≤ q)) (F0 m pc ls [.double v]) := by
  cases h
  refine W.widen hc hs (vx_ret ?_)
  exact W.dret (v := v) hx hb hr (fun t ht hW => ⟨⟨v, (), rfl, ⟨rfl, rfl⟩, by rw [ht]; exact hR, va_K.moved hW.alike hK⟩, hS.F ht⟩) hS.2.2 hdg hlocks
theorem xy_dV (S : CallFix p m c cc nL s args Ts own) (hM : xMxd l y ws d mc ms D ca z G X ad av (.ref b :: As) μ (0, r) μ1) (cw : CallW R s args own C index y bytes maxL (some rt) ws (xRm d mc ms) mc ms n) (hrv : ∃ cell : Cell, H[b]? = some cell ∧ cell.vm.isStatics = false ∧ s.vm.findClass C = some cell.cls) (hR : xRep D ca G X μ H) (hK : va_K D vwCl (xT ca) s) (hE : xEv z ad av s s.heap) (hS : va_S (fun q => z ≤ q) s.heap H locs)
    (hn : As.length = n) (hsize : ls.size = nL) (hst : st = As.reverse ++ .ref b :: rest) (hW : (rest.map fun v => v.category).sum ≤ 8) (hdg : decode cc pc = .ok (.invokevirtual index, 3)) (hf : cells + mc ≤ R.cells ∧ slots + ms ≤ R.slots)
    (kk : ∀ (H1 : Heap) (locs1 : List Loc), xRep D ca G X μ1 H1 → va_S (fun q => z ≤ q) s.heap H1 locs1 → W p l e R s m args below meth c H1 locs1 (cells + mc) (slots + ms) Q (F0 m (pc + 3) ls (.double r :: rest))) : W p l e R s m args below meth c H locs cells slots Q (F0 m pc ls st) := by
  refine vx_calld (vx_runV (As := As) (rest := rest) S hM cw ⟨xSt_blind, hrv, xSt_at hR hK hE hS⟩ rfl hn hsize hst (lv_room hW) hdg hf) hS (fun q _ h => h) (fun q h => h) (fun q _ h => h) (fun E ce q9 u t H1 locs1 ht hvm hp => absurd rfl hp) (fun r1 u t H1 locs1 ht hvm hw hB hz1 hk1 hS1 => ?_)
  obtain ⟨hR1, -⟩ := hB
  rw [ht] at hR1
  obtain ⟨-, rfl⟩ := hw
  exact kk H1 locs1 hR1 hS1
theorem xz_dV {e1 : Nat} (S : CallFix p m c cc nL s args Ts own) (hM : xMxd l y ws d mc ms D ca z G X ad av (.ref b :: As) μ (e1 + 1, r) μ1) (cw : CallW R s args own C index y bytes maxL (some rt) ws (xRm d mc ms) mc ms n) (hrv : ∃ cell : Cell, H[b]? = some cell ∧ cell.vm.isStatics = false ∧ s.vm.findClass C = some cell.cls) (hR : xRep D ca G X μ H) (hK : va_K D vwCl (xT ca) s) (hE : xEv z ad av s s.heap) (hS : va_S (fun q => z ≤ q) s.heap H locs)
    (hn : As.length = n) (hsize : ls.size = nL) (hst : st = As.reverse ++ .ref b :: rest) (hW : (rest.map fun v => v.category).sum ≤ 8) (hdg : decode cc pc = .ok (.invokevirtual index, 3)) (hf : cells + mc ≤ R.cells ∧ slots + ms ≤ R.slots)
    (kx : ∀ (ce : Cell) (q9 : Addr) (H1 : Heap) (locs1 : List Loc), xRep D ca G X μ1 H1 → va_S (fun q => z ≤ q) s.heap H1 locs1 → H1[q9]? = some ce → ce.vm = .none → s.vm.findClass (xE (e1 + 1)) = some ce.cls → vx_W p l e R s m args below meth c H1 locs1 (cells + mc) (slots + ms) Q (F0 m pc ls rest) q9) : W p l e R s m args below meth c H locs cells slots Q (F0 m pc ls st) := by
  refine vx_calld (vx_runV (As := As) (rest := rest) S hM cw ⟨xSt_blind, hrv, xSt_at hR hK hE hS⟩ rfl hn hsize hst (lv_room hW) hdg hf) hS (fun q _ h => h) (fun q h => h) (fun q _ h => h) (fun E ce q9 u t H1 locs1 ht hvm hp hB hz hk hS1 h1 h2 h3 => ?_) (fun r1 u t H1 locs1 ht hvm hw => absurd hw.1 (Nat.succ_ne_zero _))
  obtain ⟨rfl, hR1, -⟩ := hB
  rw [ht] at hR1
  exact kx ce q9 H1 locs1 hR1 hS1 h1 h2 h3
theorem xl_dV (S : CallFix p m c cc nL s args xAll RL) (hM : xMd l y (xws y bytes maxL (some rt)) d D ca z G X ad av (.ref b :: As) μ r μ1) (fd : xFd y bytes maxL (some rt) n) (hl : .methodLink RL index y ∈ xAll) (hd : d + 1 ≤ 2048 ∧ 8 + (maxL + 11) + 64 * d ≤ 94400) (hrv : ∃ cell : Cell, H[b]? = some cell ∧ cell.vm.isStatics = false ∧ s.vm.findClass y.cls = some cell.cls) (hR : xRep D ca G X μ H) (hK : va_K D vwCl (xT ca) s) (hE : xEv z ad av s s.heap) (hS : va_S (fun q => z ≤ q) s.heap H locs)
    (hn : As.length = n) (hsize : ls.size = nL) (hst : st = As.reverse ++ .ref b :: rest) (hW : (rest.map fun v => v.category).sum ≤ 8) (hdg : decode cc pc = .ok (.invokevirtual index, 3)) (hf : cells ≤ 603072 ∧ slots ≤ 7211114)
    (kk : ∀ (H1 : Heap) (locs1 : List Loc), xRep D ca G X μ1 H1 → va_S (fun q => z ≤ q) s.heap H1 locs1 → W p l e room_1 s m args below meth c H1 locs1 cells slots Q (F0 m (pc + 3) ls (.double r :: rest))) : W p l e room_1 s m args below meth c H locs cells slots Q (F0 m pc ls st) := by
  refine va_calld (va_runV (As := As) (rest := rest) S hM (xcwV (mc := 0) (ms := 0) n S.2.2.2.2 fd hl hd) ⟨xSt_blind, hrv, xSt_at hR hK hE hS⟩ rfl hn hsize hst (lv_room hW) hdg hf) hS (fun q _ h => h) (fun q h => h) (fun r1 u t H1 locs1 ht hvm hw hB hz1 hk1 hS1 => ?_)
  obtain ⟨hR1, -⟩ := hB
  rw [ht] at hR1
  subst hw
  exact kk H1 locs1 hR1 hS1
end XDB
def xMf (l : Launch) (y : MethodName) (ws : List Cond) (d : Nat) (D : va_G) (ca : Nat → ClassId) (z : Nat) (G : xG) (X : va_W) (ad av : Nat → Nat) (as : List Value) (μ : xM) (r : UInt32) (μ1 : xM) : Prop :=
  Met l y ws (xRm d 0 0) (va_Pc as (xSt D ca z G X ad av μ)) (va_Qf (fun (r' : UInt32) (_ : Unit) => r' = r) (fun _ t => xB D ca G X μ1 t) (fun q => z ≤ q)) 0 0 (fun q => z ≤ q)
theorem xm_f {l : Launch} {y : MethodName} {ws ws' : List Cond} {d : Nat} {D : va_G} {ca : Nat → ClassId} {z : Nat} {G : xG} {X : va_W} {ad av : Nat → Nat} {as : List Value} {μ μ1 : xM} {r : UInt32} {cc : ByteArray} {nL : Nat} {ty : FieldType} (hy : plainName y.cls = true) (hw : ws = .code y cc nL (some ty) :: ws') (hn : (lg_sl as).length ≤ nL) (L0 : List (Nat × Value)) (hL : lv_args 0 as = L0)
    (body : ∀ (p : Program) (e : Env) (s : State) (m : MethodId) (args : Array Value) (below : List Frame) (meth : Method) (c : Code) (ls : Array Slot), p.tables.exec = Jvm.exec → c.code = cc → meth.sig.returnType = some ty → c.maxLocals = nL → meth.locks = false → (∀ w ∈ ws, w.before args s = true) → s.vm.findClass y.cls = some m.cls → va_K D vwCl (xT ca) s → xEv z ad av s s.heap → xRep D ca G X μ s.heap → va_S (fun q => z ≤ q) s.heap s.heap [] → lv_has ls nL L0 →
      W p l e (xRm d 0 0) s m args below meth c s.heap [] 0 0 (MQ below (va_Qf (fun (r' : UInt32) (_ : Unit) => r' = r) (fun _ t => xB D ca G X μ1 t) (fun q => z ≤ q)) args s 0 0 (fun q => z ≤ q)) (F0 m 0 ls [])) : xMf l y ws d D ca z G X ad av as μ r μ1 := by
  refine Met.ofW (cc := cc) (maxL := nL) (ret := some ty) hy hw ?_
  intro p e s m args below meth c s₁ B hml hv
  obtain ⟨rfl, hR, hK, hE⟩ := hv
  have hl := lv_entry as (n := nL) hn
  rw [hL] at hl
  rw [lg_entry_eq]
  exact body p e s m _ below meth c _ B.exec B.bytes B.returns hml B.notSynchronized (atoms_spec (ws := ws) B.pre) (findClass_of_methodNamed B.named) hK hE hR va_S.rf hl
def xMxf (l : Launch) (y : MethodName) (ws : List Cond) (d mc ms : Nat) (D : va_G) (ca : Nat → ClassId) (z : Nat) (G : xG) (X : va_W) (ad av : Nat → Nat) (as : List Value) (μ : xM) (o : Nat × UInt32) (μ1 : xM) : Prop :=
  vx_Met l y ws (xRm d mc ms) (va_Pc as (xSt D ca z G X ad av μ)) (va_Qf (fun (r' : UInt32) (_ : Unit) => o.1 = 0 ∧ r' = o.2) (fun _ t => xB D ca G X μ1 t) (fun q => z ≤ q)) (xXC D ca z G X μ1 (o.1, 0)) mc ms (fun q => z ≤ q)
theorem xm_xf {l : Launch} {y : MethodName} {ws ws' : List Cond} {d mc ms : Nat} {D : va_G} {ca : Nat → ClassId} {z : Nat} {G : xG} {X : va_W} {ad av : Nat → Nat} {as : List Value} {μ μ1 : xM} {o : Nat × UInt32} {cc : ByteArray} {nL : Nat} {ty : FieldType} (hy : plainName y.cls = true) (hw : ws = .code y cc nL (some ty) :: ws') (hn : (lg_sl as).length ≤ nL) (L0 : List (Nat × Value)) (hL : lv_args 0 as = L0)
    (body : ∀ (p : Program) (e : Env) (s : State) (m : MethodId) (args : Array Value) (below : List Frame) (meth : Method) (c : Code) (ls : Array Slot), p.tables.exec = Jvm.exec → c.code = cc → meth.sig.returnType = some ty → c.maxLocals = nL → meth.locks = false → (∀ x ∈ c.exceptionTable.toList, False) → (∀ w ∈ ws, w.before args s = true) → s.vm.findClass y.cls = some m.cls → va_K D vwCl (xT ca) s → xEv z ad av s s.heap → xRep D ca G X μ s.heap → va_S (fun q => z ≤ q) s.heap s.heap [] → lv_has ls nL L0 →
      W p l e (xRm d mc ms) s m args below meth c s.heap [] 0 0 (vx_MQ below (va_Qf (fun (r' : UInt32) (_ : Unit) => o.1 = 0 ∧ r' = o.2) (fun _ t => xB D ca G X μ1 t) (fun q => z ≤ q)) (xXC D ca z G X μ1 (o.1, 0)) args s mc ms (fun q => z ≤ q)) (F0 m 0 ls [])) : xMxf l y ws d mc ms D ca z G X ad av as μ o μ1 := by
  refine vx_ofW (cc := cc) (maxL := nL) (ret := some ty) hy hw ?_
  intro p e s m args below meth c s₁ B hml hex hv
  obtain ⟨rfl, hR, hK, hE⟩ := hv
  have hl := lv_entry as (n := nL) hn
  rw [hL] at hl
  rw [lg_entry_eq]
  exact body p e s m _ below meth c _ B.exec B.bytes B.returns hml B.notSynchronized hex (atoms_spec (ws := ws) B.pre) (findClass_of_methodNamed B.named) hK hE hR va_S.rf hl
section XFB
variable {p : Program} {l : Launch} {e : Env} {R : Room} {s : State} {m : MethodId} {args : Array Value} {below : List Frame} {meth : Method} {c : Code} {H : Heap} {locs : List Loc} {cells slots mc ms : Nat} {Q : State → Prop}
variable {cc : ByteArray} {pc : Nat} {ls : Array Slot} {rest st : List Value} {D : va_G} {ca : Nat → ClassId} {z b : Nat} {G : xG} {X : va_W} {μ μ1 : xM} {ad av : Nat → Nat} {r v : UInt32} {o : Nat × UInt32} {rt : FieldType}
variable {y : MethodName} {bytes : ByteArray} {maxL nL n index d : Nat} {ws Ts : List Cond} {own C : String} {As : List Value}
theorem xf_f (hx : p.tables.exec = Jvm.exec) (hb : c.code = cc) (hr : meth.sig.returnType = some .float) (hlocks : meth.locks = false) (h : (some (v, μ) : Option (UInt32 × xM)) = some (r, μ1)) (hR : xRep D ca G X μ H) (hK : va_K D vwCl (xT ca) s) (hS : va_S (fun q => z ≤ q) s.heap H locs) (hdg : decode cc pc = .ok (.freturn, 1)) :
    W p l e R s m args below meth c H locs 0 0 (MQ below (va_Qf (fun (r' : UInt32) (_ : Unit) => r' = r) (fun _ t => xB D ca G X μ1 t) (fun q => z ≤ q)) args s 0 0 (fun q => z ≤ q)) (F0 m pc ls [.float v]) := by
  cases h
  exact W.fret hx hb hr (fun t ht hW => ⟨⟨_, (), rfl, rfl, by rw [ht]; exact hR, va_K.moved hW.alike hK⟩, hS.F ht⟩) hS.2.2 hdg hlocks
theorem xe_xf (hx : p.tables.exec = Jvm.exec) (hb : c.code = cc) (hr : meth.sig.returnType = some .float) (hlocks : meth.locks = false) (h : (some ((0, v), μ) : Option ((Nat × UInt32) × xM)) = some (o, μ1)) (hR : xRep D ca G X μ H) (hK : va_K D vwCl (xT ca) s) (hS : va_S (fun q => z ≤ q) s.heap H locs) (hc : cells ≤ mc) (hs : slots ≤ ms) (hdg : decode cc pc = .ok (.freturn, 1)) :
    W p l e R s m args below meth c H locs cells slots (vx_MQ below (va_Qf (fun (r' : UInt32) (_ : Unit) => o.1 = 0 ∧ r' = o.2) (fun _ t => xB D ca G X μ1 t) (fun q => z ≤ q)) (xXC D ca z G X μ1 (o.1, 0)) args s mc ms (fun q => z ≤ q)) (F0 m pc ls [.float v]) := by
  cases h
  refine W.widen hc hs (vx_ret ?_)
  exact W.fret (v := v) hx hb hr (fun t ht hW => ⟨⟨v, (), rfl, ⟨rfl, rfl⟩, by rw [ht]; exact hR, va_K.moved hW.alike hK⟩, hS.F ht⟩) hS.2.2 hdg hlocks
theorem xy_fV (S : CallFix p m c cc nL s args Ts own) (hM : xMxf l y ws d mc ms D ca z G X ad av (.ref b :: As) μ (0, r) μ1) (cw : CallW R s args own C index y bytes maxL (some rt) ws (xRm d mc ms) mc ms n) (hrv : ∃ cell : Cell, H[b]? = some cell ∧ cell.vm.isStatics = false ∧ s.vm.findClass C = some cell.cls) (hR : xRep D ca G X μ H) (hK : va_K D vwCl (xT ca) s) (hE : xEv z ad av s s.heap) (hS : va_S (fun q => z ≤ q) s.heap H locs)
    (hn : As.length = n) (hsize : ls.size = nL) (hst : st = As.reverse ++ .ref b :: rest) (hW : (rest.map fun v => v.category).sum ≤ 8) (hdg : decode cc pc = .ok (.invokevirtual index, 3)) (hf : cells + mc ≤ R.cells ∧ slots + ms ≤ R.slots)
    (kk : ∀ (H1 : Heap) (locs1 : List Loc), xRep D ca G X μ1 H1 → va_S (fun q => z ≤ q) s.heap H1 locs1 → W p l e R s m args below meth c H1 locs1 (cells + mc) (slots + ms) Q (F0 m (pc + 3) ls (.float r :: rest))) : W p l e R s m args below meth c H locs cells slots Q (F0 m pc ls st) := by
  refine vx_callf (vx_runV (As := As) (rest := rest) S hM cw ⟨xSt_blind, hrv, xSt_at hR hK hE hS⟩ rfl hn hsize hst (lv_room hW) hdg hf) hS (fun q _ h => h) (fun q h => h) (fun q _ h => h) (fun E ce q9 u t H1 locs1 ht hvm hp => absurd rfl hp) (fun r1 u t H1 locs1 ht hvm hw hB hz1 hk1 hS1 => ?_)
  obtain ⟨hR1, -⟩ := hB
  rw [ht] at hR1
  obtain ⟨-, rfl⟩ := hw
  exact kk H1 locs1 hR1 hS1
theorem xz_fV {e1 : Nat} (S : CallFix p m c cc nL s args Ts own) (hM : xMxf l y ws d mc ms D ca z G X ad av (.ref b :: As) μ (e1 + 1, r) μ1) (cw : CallW R s args own C index y bytes maxL (some rt) ws (xRm d mc ms) mc ms n) (hrv : ∃ cell : Cell, H[b]? = some cell ∧ cell.vm.isStatics = false ∧ s.vm.findClass C = some cell.cls) (hR : xRep D ca G X μ H) (hK : va_K D vwCl (xT ca) s) (hE : xEv z ad av s s.heap) (hS : va_S (fun q => z ≤ q) s.heap H locs)
    (hn : As.length = n) (hsize : ls.size = nL) (hst : st = As.reverse ++ .ref b :: rest) (hW : (rest.map fun v => v.category).sum ≤ 8) (hdg : decode cc pc = .ok (.invokevirtual index, 3)) (hf : cells + mc ≤ R.cells ∧ slots + ms ≤ R.slots)
    (kx : ∀ (ce : Cell) (q9 : Addr) (H1 : Heap) (locs1 : List Loc), xRep D ca G X μ1 H1 → va_S (fun q => z ≤ q) s.heap H1 locs1 → H1[q9]? = some ce → ce.vm = .none → s.vm.findClass (xE (e1 + 1)) = some ce.cls → vx_W p l e R s m args below meth c H1 locs1 (cells + mc) (slots + ms) Q (F0 m pc ls rest) q9) : W p l e R s m args below meth c H locs cells slots Q (F0 m pc ls st) := by
  refine vx_callf (vx_runV (As := As) (rest := rest) S hM cw ⟨xSt_blind, hrv, xSt_at hR hK hE hS⟩ rfl hn hsize hst (lv_room hW) hdg hf) hS (fun q _ h => h) (fun q h => h) (fun q _ h => h) (fun E ce q9 u t H1 locs1 ht hvm hp hB hz hk hS1 h1 h2 h3 => ?_) (fun r1 u t H1 locs1 ht hvm hw => absurd hw.1 (Nat.succ_ne_zero _))
  obtain ⟨rfl, hR1, -⟩ := hB
  rw [ht] at hR1
  exact kx ce q9 H1 locs1 hR1 hS1 h1 h2 h3
theorem xl_fV (S : CallFix p m c cc nL s args xAll RL) (hM : xMf l y (xws y bytes maxL (some rt)) d D ca z G X ad av (.ref b :: As) μ r μ1) (fd : xFd y bytes maxL (some rt) n) (hl : .methodLink RL index y ∈ xAll) (hd : d + 1 ≤ 2048 ∧ 8 + (maxL + 11) + 64 * d ≤ 94400) (hrv : ∃ cell : Cell, H[b]? = some cell ∧ cell.vm.isStatics = false ∧ s.vm.findClass y.cls = some cell.cls) (hR : xRep D ca G X μ H) (hK : va_K D vwCl (xT ca) s) (hE : xEv z ad av s s.heap) (hS : va_S (fun q => z ≤ q) s.heap H locs)
    (hn : As.length = n) (hsize : ls.size = nL) (hst : st = As.reverse ++ .ref b :: rest) (hW : (rest.map fun v => v.category).sum ≤ 8) (hdg : decode cc pc = .ok (.invokevirtual index, 3)) (hf : cells ≤ 603072 ∧ slots ≤ 7211114)
    (kk : ∀ (H1 : Heap) (locs1 : List Loc), xRep D ca G X μ1 H1 → va_S (fun q => z ≤ q) s.heap H1 locs1 → W p l e room_1 s m args below meth c H1 locs1 cells slots Q (F0 m (pc + 3) ls (.float r :: rest))) : W p l e room_1 s m args below meth c H locs cells slots Q (F0 m pc ls st) := by
  refine va_callf (va_runV (As := As) (rest := rest) S hM (xcwV (mc := 0) (ms := 0) n S.2.2.2.2 fd hl hd) ⟨xSt_blind, hrv, xSt_at hR hK hE hS⟩ rfl hn hsize hst (lv_room hW) hdg hf) hS (fun q _ h => h) (fun q h => h) (fun r1 u t H1 locs1 ht hvm hw hB hz1 hk1 hS1 => ?_)
  obtain ⟨hR1, -⟩ := hB
  rw [ht] at hR1
  subst hw
  exact kk H1 locs1 hR1 hS1
end XFB
