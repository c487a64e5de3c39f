/-! methods that may throw: o is (0, answer), or (number of the exception, 0) -/
theorem xnek {x k : Int32} {n : Int} (hk : k.toInt = n) (h : ¬ x = k) : x.toInt ≠ n := fun e => h (Int32.toInt_inj.mp (e.trans hk.symm))
section XF
variable {p : Program} {l : Launch} {e : Env} {R : Room} {s : State} {m : MethodId} {args : Array Value} {below : List Frame} {meth : Method} {c : Code} {H : Heap} {locs : List Loc}
variable {cc : ByteArray} {pc : Nat} {ls : Array Slot} {D : va_G} {ca : Nat → ClassId} {z : Nat} {G : xG} {X : va_W} {μ μ1 : xM} {r v : Int32}
theorem xf_i {Rt : FieldType} (hx : p.tables.exec = Jvm.exec) (hb : c.code = cc) (hr : meth.sig.returnType = some Rt) (hn : narrow Rt (.int v) = .int v) (hlocks : meth.locks = false) (h : (some (v, μ) : Option (Int32 × xM)) = some (r, μ1)) (hR : xRep D ca G X μ H) (hK : va_K D vwCl (xT ca) s) (hS : va_S (fun q => z ≤ q) s.heap H locs) (hdg : decode cc pc = .ok (.ireturn, 1)) :
    W p l e R s m args below meth c H locs 0 0 (MQ below (va_Qi (fun (r' : Int32) (_ : Unit) => r' = r) (fun _ t => xB D ca G X μ1 t) (fun q => z ≤ q)) args s 0 0 (fun q => z ≤ q)) (F0 m pc ls [.int v]) := by
  cases h
  exact xe_i hx hb hr hn hlocks hR hK hS hdg
theorem xf_v (hx : p.tables.exec = Jvm.exec) (hb : c.code = cc) (hr : meth.sig.returnType = none) (hlocks : meth.locks = false) (h : (some μ : Option xM) = some μ1) (hR : xRep D ca G X μ H) (hK : va_K D vwCl (xT ca) s) (hS : va_S (fun q => z ≤ q) s.heap H locs) (hdg : decode cc pc = .ok (.return_, 1)) :
    W p l e R s m args below meth c H locs 0 0 (MQ below (va_Qv (fun (_ : Unit) => True) (fun _ t => xB D ca G X μ1 t) (fun q => z ≤ q)) args s 0 0 (fun q => z ≤ q)) (F0 m pc ls []) := by
  cases h
  exact xe_v hx hb hr hlocks hR hK hS hdg
end XF
abbrev xO : Type := Nat × Int32
def xcb (o : Option (xO × xM)) (K : Int32 → xM → Option (xO × xM)) : Option (xO × xM) := match o with
  | some ((0, r), μ) => K r μ
  | some ((e + 1, _), μ) => some ((e + 1, 0), μ)
  | none => none
theorem xcb_inv {o : Option (xO × xM)} {K : Int32 → xM → Option (xO × xM)} {v : xO × xM} (h : xcb o K = some v) : (∃ r μ, o = some ((0, r), μ) ∧ K r μ = some v) ∨ ∃ e r μ, o = some ((e + 1, r), μ) ∧ v = ((e + 1, 0), μ) := by
  match o, h with
  | some ((0, r), μ), h => exact Or.inl ⟨r, μ, rfl, h⟩
  | some ((e + 1, r), μ), h => exact Or.inr ⟨e, r, μ, rfl, (Option.some.inj h).symm⟩
theorem xcb_t {o : Option (xO × xM)} {K : Int32 → xM → Option (xO × xM)} {r : Int32} {μ : xM} (h : o = some ((0, r), μ)) : xcb o K = K r μ := by rw [h]; rfl
theorem xcb_e {o : Option (xO × xM)} {K : Int32 → xM → Option (xO × xM)} {e : Nat} {r : Int32} {μ : xM} (h : o = some ((e + 1, r), μ)) : xcb o K = some ((e + 1, 0), μ) := by rw [h]; rfl
def xXC (D : va_G) (ca : Nat → ClassId) (z : Nat) (G : xG) (X : va_W) (μ1 : xM) (o : xO) : String → State → State → Prop := vx_X (fun (_ : Unit) => o.1 ≠ 0) (fun E _ t => E = xE o.1 ∧ xB D ca G X μ1 t) (fun q => z ≤ q)
def xQx (D : va_G) (ca : Nat → ClassId) (z : Nat) (G : xG) (X : va_W) (μ1 : xM) (o : xO) : Array Value → State → Outcome → State → Prop := va_Qi (fun (r' : Int32) (_ : Unit) => o.1 = 0 ∧ r' = o.2) (fun _ t => xB D ca G X μ1 t) (fun q => z ≤ q)
def xQy (D : va_G) (ca : Nat → ClassId) (z : Nat) (G : xG) (X : va_W) (μ1 : xM) (o : xO) : Array Value → State → Outcome → State → Prop := va_Qv (fun (_ : Unit) => o.1 = 0) (fun _ t => xB D ca G X μ1 t) (fun q => z ≤ q)
/-- an int method that answers or throws -/
def xMx (l : Launch) (y : MethodName) (ws : List Cond) (d mc ms : Nat) (D : va_G) (ca : Nat → ClassId) (z : Nat) (G : xG) (X : va_W) (ad av : Nat → Nat) (as : List Value) (μ : xM) (o : xO) (μ1 : xM) : Prop :=
  vx_Met l y ws (xRm d mc ms) (va_Pc as (xSt D ca z G X ad av μ)) (xQx D ca z G X μ1 o) (xXC D ca z G X μ1 o) mc ms (fun q => z ≤ q)
/-- a void method that returns or throws -/
def xMy (l : Launch) (y : MethodName) (ws : List Cond) (d mc ms : Nat) (D : va_G) (ca : Nat → ClassId) (z : Nat) (G : xG) (X : va_W) (ad av : Nat → Nat) (as : List Value) (μ : xM) (o : xO) (μ1 : xM) : Prop :=
  vx_Met l y ws (xRm d mc ms) (va_Pc as (xSt D ca z G X ad av μ)) (xQy D ca z G X μ1 o) (xXC D ca z G X μ1 o) mc ms (fun q => z ≤ q)
theorem xm_x {l : Launch} {y : MethodName} {ws ws' : List Cond} {d mc ms : Nat} {D : va_G} {ca : Nat → ClassId} {z : Nat} {G : xG} {X : va_W} {ad av : Nat → Nat} {as : List Value} {μ μ1 : xM} {o : xO} {cc : ByteArray} {nL : Nat} {ty : FieldType} (hy : plainName y.cls = true) (hw : ws = .code y cc nL (some ty) :: ws') (hn : (lg_sl as).length ≤ nL) (L0 : List (Nat × Value)) (hL : lv_args 0 as = L0)
    (body : ∀ (p : Program) (e : Env) (s : State) (m : MethodId) (args : Array Value) (below : List Frame) (meth : Method) (c : Code) (ls : Array Slot), p.tables.exec = Jvm.exec → c.code = cc → meth.sig.returnType = some ty → c.maxLocals = nL → meth.locks = false → (∀ x ∈ c.exceptionTable.toList, False) → (∀ w ∈ ws, w.before args s = true) → s.vm.findClass y.cls = some m.cls → va_K D vwCl (xT ca) s → xEv z ad av s s.heap → xRep D ca G X μ s.heap → va_S (fun q => z ≤ q) s.heap s.heap [] → lv_has ls nL L0 →
      W p l e (xRm d mc ms) s m args below meth c s.heap [] 0 0 (vx_MQ below (xQx D ca z G X μ1 o) (xXC D ca z G X μ1 o) args s mc ms (fun q => z ≤ q)) (F0 m 0 ls [])) : xMx l y ws d mc ms D ca z G X ad av as μ o μ1 := by
  refine vx_ofW (cc := cc) (maxL := nL) (ret := some ty) hy hw ?_
  intro p e s m args below meth c s₁ B hml hex hv
  obtain ⟨rfl, hR, hK, hE⟩ := hv
  have hl := lv_entry as (n := nL) hn
  rw [hL] at hl
  rw [lg_entry_eq]
  exact body p e s m _ below meth c _ B.exec B.bytes B.returns hml B.notSynchronized hex (atoms_spec (ws := ws) B.pre) (findClass_of_methodNamed B.named) hK hE hR va_S.rf hl
theorem xm_y {l : Launch} {y : MethodName} {ws ws' : List Cond} {d mc ms : Nat} {D : va_G} {ca : Nat → ClassId} {z : Nat} {G : xG} {X : va_W} {ad av : Nat → Nat} {as : List Value} {μ μ1 : xM} {o : xO} {cc : ByteArray} {nL : Nat} (hy : plainName y.cls = true) (hw : ws = .code y cc nL none :: ws') (hn : (lg_sl as).length ≤ nL) (L0 : List (Nat × Value)) (hL : lv_args 0 as = L0)
    (body : ∀ (p : Program) (e : Env) (s : State) (m : MethodId) (args : Array Value) (below : List Frame) (meth : Method) (c : Code) (ls : Array Slot), p.tables.exec = Jvm.exec → c.code = cc → meth.sig.returnType = none → c.maxLocals = nL → meth.locks = false → (∀ x ∈ c.exceptionTable.toList, False) → (∀ w ∈ ws, w.before args s = true) → s.vm.findClass y.cls = some m.cls → va_K D vwCl (xT ca) s → xEv z ad av s s.heap → xRep D ca G X μ s.heap → va_S (fun q => z ≤ q) s.heap s.heap [] → lv_has ls nL L0 →
      W p l e (xRm d mc ms) s m args below meth c s.heap [] 0 0 (vx_MQ below (xQy D ca z G X μ1 o) (xXC D ca z G X μ1 o) args s mc ms (fun q => z ≤ q)) (F0 m 0 ls [])) : xMy l y ws d mc ms D ca z G X ad av as μ o μ1 := by
  refine vx_ofW (cc := cc) (maxL := nL) (ret := none) hy hw ?_
  intro p e s m args below meth c s₁ B hml hex hv
  obtain ⟨rfl, hR, hK, hE⟩ := hv
  have hl := lv_entry as (n := nL) hn
  rw [hL] at hl
  rw [lg_entry_eq]
  exact body p e s m _ below meth c _ B.exec B.bytes B.returns hml B.notSynchronized hex (atoms_spec (ws := ws) B.pre) (findClass_of_methodNamed B.named) hK hE hR va_S.rf hl
/-- the words of a throw in CoatPledges -/
def xThr (k ik ic : Nat) : Prop := (Cond.classLink RX7 ik (xE k) ∈ xAll ∧ Cond.initialized (xE k) ∈ xAll ∧ Bundle.fit (xE k) = true) ∧ (∀ w ∈ (vx_atS RX7 ic (xE k) ["java/lang/RuntimeException", "java/lang/Exception"]).filter goodWord, w ∈ xAll) ∧ (∀ w ∈ (vx_atS RX7 ic (xE k) ["java/lang/RuntimeException", "java/lang/Exception"]).filter (fun w => !goodWord w), w ∈ xBad) ∧ ∀ w ∈ Cond.classLink RX7 ik (xE k) :: Cond.initialized (xE k) :: vx_atS RX7 ic (xE k) ["java/lang/RuntimeException", "java/lang/Exception"], vx_ot w = true
section XTH
variable {p : Program} {l : Launch} {e : Env} {R : Room} {s : State} {m : MethodId} {args : Array Value} {below : List Frame} {meth : Method} {c : Code} {H : Heap} {locs : List Loc} {cells slots mc ms : Nat} {Q : State → Prop} {Qc : Array Value → State → Outcome → State → Prop}
variable {cc : ByteArray} {pc : Nat} {ls : Array Slot} {rest st : List Value} {D : va_G} {ca : Nat → ClassId} {z b : Nat} {G : xG} {X : va_W} {μ μ1 μ2 : xM} {ad av : Nat → Nat} {r : Int32} {o : xO}
variable {y : MethodName} {bytes : ByteArray} {maxL nL n index d : Nat} {ws Ts : List Cond} {own C : String} {As : List Value}
theorem xXC_of {k : Nat} (hk : k + 1 = o.1) (hR : xRep D ca G X μ1 H) (hF : xFix z G X) (hK : va_K D vwCl (xT ca) s) (hS : va_S (fun q => z ≤ q) s.heap H locs) {t : State} (hvm : s.vm.Alike t.vm) (hz : H.size ≤ t.heap.size) (hq : ∀ q : Nat, q < H.size → t.heap[q]? = H[q]?) : xXC D ca z G X μ1 o (xE (k + 1)) s t :=
  ⟨(), by omega, ⟨by rw [hk], hR.frame hF hq, va_K.moved hvm hK⟩, Nat.le_trans hS.1 hz, fun q h1 h2 => by rw [hq q (Nat.lt_of_lt_of_le h1 hS.1)]; exact hS.2.1 q h1 h2⟩
/-- the ends -/
theorem xe_x {Rt : FieldType} {v : Int32} (hx : p.tables.exec = Jvm.exec) (hb : c.code = cc) (hr : meth.sig.returnType = some Rt) (hn : narrow Rt (.int v) = .int v) (hlocks : meth.locks = false) (h : (some ((0, v), μ) : Option (xO × xM)) = some (o, μ1)) (hR : xRep D ca G X μ H) (hK : va_K D vwCl (xT ca) s) (hS : va_S (fun q => z ≤ q) s.heap H locs) (hc : cells ≤ mc) (hs : slots ≤ ms) (hdg : decode cc pc = .ok (.ireturn, 1)) :
    W p l e R s m args below meth c H locs cells slots (vx_MQ below (xQx D ca z G X μ1 o) (xXC D ca z G X μ1 o) args s mc ms (fun q => z ≤ q)) (F0 m pc ls [.int v]) := by
  cases h
  refine W.widen hc hs (vx_ret ?_)
  exact W.zret (v := v) hx hb hr hn (fun t ht hW => ⟨⟨v, (), rfl, ⟨rfl, rfl⟩, by rw [ht]; exact hR, va_K.moved hW.alike hK⟩, hS.F ht⟩) hS.2.2 hdg hlocks
theorem xe_y {v : Int32} (hx : p.tables.exec = Jvm.exec) (hb : c.code = cc) (hr : meth.sig.returnType = none) (hlocks : meth.locks = false) (h : (some ((0, v), μ) : Option (xO × xM)) = some (o, μ1)) (hR : xRep D ca G X μ H) (hK : va_K D vwCl (xT ca) s) (hS : va_S (fun q => z ≤ q) s.heap H locs) (hc : cells ≤ mc) (hs : slots ≤ ms) (hdg : decode cc pc = .ok (.return_, 1)) :
    W p l e R s m args below meth c H locs cells slots (vx_MQ below (xQy D ca z G X μ1 o) (xXC D ca z G X μ1 o) args s mc ms (fun q => z ≤ q)) (F0 m pc ls []) := by
  cases h
  refine W.widen hc hs (vx_ret ?_)
  exact W.vret hx hb hr (fun t ht hW => ⟨⟨(), rfl, rfl, by rw [ht]; exact hR, va_K.moved hW.alike hK⟩, hS.F ht⟩) hS.2.2 hdg hlocks
/-- throw new X(text): by ldc, by ldc_w; i: the text's place among the constant texts -/
theorem xt_S {k ik ic is i : Nat} {v : Int32} (hx : p.tables.exec = Jvm.exec) (hb : c.code = cc) (hl : l.stackTraces = false) (hlocks : meth.locks = false) (hts : ∀ w ∈ xAll, w.before args s = true) (hown : s.vm.findClass RX7 = some m.cls) (hK : va_K D vwCl (xT ca) s) (hE : xEv z ad av s s.heap) (hF : xFix z G X) (hT : xThr (k + 1) ik ic) (hi : i < xsN) (hi1 : xsO.getD i "" = RX7) (hi2 : xsI.getD i 0 = is) (h : (some ((k + 1, v), μ) : Option (xO × xM)) = some (o, μ1)) (hR : xRep D ca G X μ H) (hS : va_S (fun q => z ≤ q) s.heap H locs) (hsize : ls.size = c.maxLocals) (hex : ∀ x ∈ c.exceptionTable.toList, False)
    (d0 : decode cc pc = .ok (.new ik, 3)) (d3 : decode cc (pc + 3) = .ok (.dup, 1)) (d4 : decode cc (pc + 4) = .ok (.ldc is, 2)) (d6 : decode cc (pc + 6) = .ok (.invokespecial ic, 3)) (d9 : decode cc (pc + 9) = .ok (.athrow, 1)) (hRf : 5 < R.frames) (hRl : 82 ≤ R.locals) (hRc : cells + 1 ≤ R.cells) (hRs : slots + 6 ≤ R.slots) (hc : cells + 1 ≤ mc) (hs : slots + 6 ≤ ms) :
    W p l e R s m args below meth c H locs cells slots (vx_MQ below Qc (xXC D ca z G X μ1 o) args s mc ms (fun q => z ≤ q)) (F0 m pc ls []) := by
  cases h
  have hstr : vk_R RX7 is (xsT.getD i "") (ad i) s := by
    have := hE.2.2.1 i hi
    rw [hi1, hi2] at this
    exact this
  have hat := vx_hat (args := args) (s := s) (fun w hw => hts w (hT.2.1 w hw)) hT.2.2.1 (fun w hw => va_Nw.use (xBad_tab w hw) (hE.2.2.2.2.2.2.2.1 w hw))
  exact vx_throwS hx hb hl hown hT.1.2.2 (by decide +kernel) (hts _ hT.1.1) (hts _ hT.1.2.1) hstr hat hT.2.2.2 hE.1 hE.2.1 hS hsize d0 d3 d4 d6 d9 (fun x hx9 => (hex x hx9).elim) hRf hRl hRc hRs hlocks (fun t hvm hz hq => xXC_of rfl hR hF hK hS hvm hz hq) hS.2.2 hc hs
theorem xt_SW {k ik ic is i : Nat} {v : Int32} (hx : p.tables.exec = Jvm.exec) (hb : c.code = cc) (hl : l.stackTraces = false) (hlocks : meth.locks = false) (hts : ∀ w ∈ xAll, w.before args s = true) (hown : s.vm.findClass RX7 = some m.cls) (hK : va_K D vwCl (xT ca) s) (hE : xEv z ad av s s.heap) (hF : xFix z G X) (hT : xThr (k + 1) ik ic) (hi : i < xsN) (hi1 : xsO.getD i "" = RX7) (hi2 : xsI.getD i 0 = is) (h : (some ((k + 1, v), μ) : Option (xO × xM)) = some (o, μ1)) (hR : xRep D ca G X μ H) (hS : va_S (fun q => z ≤ q) s.heap H locs) (hsize : ls.size = c.maxLocals) (hex : ∀ x ∈ c.exceptionTable.toList, False)
    (d0 : decode cc pc = .ok (.new ik, 3)) (d3 : decode cc (pc + 3) = .ok (.dup, 1)) (d4 : decode cc (pc + 4) = .ok (.ldc_w is, 3)) (d7 : decode cc (pc + 7) = .ok (.invokespecial ic, 3)) (d10 : decode cc (pc + 10) = .ok (.athrow, 1)) (hRf : 5 < R.frames) (hRl : 82 ≤ R.locals) (hRc : cells + 1 ≤ R.cells) (hRs : slots + 6 ≤ R.slots) (hc : cells + 1 ≤ mc) (hs : slots + 6 ≤ ms) :
    W p l e R s m args below meth c H locs cells slots (vx_MQ below Qc (xXC D ca z G X μ1 o) args s mc ms (fun q => z ≤ q)) (F0 m pc ls []) := by
  cases h
  have hstr : vk_R RX7 is (xsT.getD i "") (ad i) s := by
    have := hE.2.2.1 i hi
    rw [hi1, hi2] at this
    exact this
  have hat := vx_hat (args := args) (s := s) (fun w hw => hts w (hT.2.1 w hw)) hT.2.2.1 (fun w hw => va_Nw.use (xBad_tab w hw) (hE.2.2.2.2.2.2.2.1 w hw))
  exact vx_throwSW hx hb hl hown hT.1.2.2 (by decide +kernel) (hts _ hT.1.1) (hts _ hT.1.2.1) hstr hat hT.2.2.2 hE.1 hE.2.1 hS hsize d0 d3 d4 d7 d10 (fun x hx9 => (hex x hx9).elim) hRf hRl hRc hRs hlocks (fun t hvm hz hq => xXC_of rfl hR hF hK hS hvm hz hq) hS.2.2 hc hs
/-- calls: the callee answers -/
theorem xy_iV (S : CallFix p m c cc nL s args Ts own) (hM : xMx l y ws d mc ms D ca z G X ad av (.ref b :: As) μ (0, r) μ1) {rt : FieldType} (cw : CallW R s args own C index y bytes maxL (some rt) ws (xRm d mc ms) mc ms n) (hrv : ∃ cell : Cell, H[b]? = some cell ∧ cell.vm.isStatics = false ∧ s.vm.findClass C = some cell.cls) (hR : xRep D ca G X μ H) (hK : va_K D vwCl (xT ca) s) (hE : xEv z ad av s s.heap) (hS : va_S (fun q => z ≤ q) s.heap H locs)
    (hn : As.length = n) (hsize : ls.size = nL) (hst : st = As.reverse ++ .ref b :: rest) (hW : (rest.map fun v => v.category).sum ≤ 8) (hdg : decode cc pc = .ok (.invokevirtual index, 3)) (hf : cells + mc ≤ R.cells ∧ slots + ms ≤ R.slots)
    (kk : ∀ (H1 : Heap) (locs1 : List Loc), xRep D ca G X μ1 H1 → va_S (fun q => z ≤ q) s.heap H1 locs1 → W p l e R s m args below meth c H1 locs1 (cells + mc) (slots + ms) Q (F0 m (pc + 3) ls (.int r :: rest))) : W p l e R s m args below meth c H locs cells slots Q (F0 m pc ls st) := by
  refine vx_calli (vx_runV (As := As) (rest := rest) S hM cw ⟨xSt_blind, hrv, xSt_at hR hK hE hS⟩ rfl hn hsize hst (lv_room hW) hdg hf) hS (fun q _ h => h) (fun q h => h) (fun q _ h => h) (fun E ce q9 u t H1 locs1 ht hvm hp => absurd rfl hp) (fun r1 u t H1 locs1 ht hvm hw hB hz1 hk1 hS1 => ?_)
  obtain ⟨hR1, -⟩ := hB
  rw [ht] at hR1
  obtain ⟨-, rfl⟩ := hw
  exact kk H1 locs1 hR1 hS1
theorem xy_vV (S : CallFix p m c cc nL s args Ts own) (hM : xMy l y ws d mc ms D ca z G X ad av (.ref b :: As) μ (0, r) μ1) (cw : CallW R s args own C index y bytes maxL none ws (xRm d mc ms) mc ms n) (hrv : ∃ cell : Cell, H[b]? = some cell ∧ cell.vm.isStatics = false ∧ s.vm.findClass C = some cell.cls) (hR : xRep D ca G X μ H) (hK : va_K D vwCl (xT ca) s) (hE : xEv z ad av s s.heap) (hS : va_S (fun q => z ≤ q) s.heap H locs)
    (hn : As.length = n) (hsize : ls.size = nL) (hst : st = As.reverse ++ .ref b :: rest) (hW : (rest.map fun v => v.category).sum ≤ 8) (hdg : decode cc pc = .ok (.invokevirtual index, 3)) (hf : cells + mc ≤ R.cells ∧ slots + ms ≤ R.slots)
    (kk : ∀ (H1 : Heap) (locs1 : List Loc), xRep D ca G X μ1 H1 → va_S (fun q => z ≤ q) s.heap H1 locs1 → W p l e R s m args below meth c H1 locs1 (cells + mc) (slots + ms) Q (F0 m (pc + 3) ls rest)) : W p l e R s m args below meth c H locs cells slots Q (F0 m pc ls st) := by
  refine vx_callv (vx_runV (As := As) (rest := rest) S hM cw ⟨xSt_blind, hrv, xSt_at hR hK hE hS⟩ rfl hn hsize hst (lv_room hW) hdg hf) hS (fun q _ h => h) (fun q h => h) (fun q _ h => h) (fun E ce q9 u t H1 locs1 ht hvm hp => absurd rfl hp) (fun u t H1 locs1 ht hvm hw hB hz1 hk1 hS1 => ?_)
  obtain ⟨hR1, -⟩ := hB
  rw [ht] at hR1
  exact kk H1 locs1 hR1 hS1
theorem xy_iS (S : CallFix p m c cc nL s args Ts own) (hM : xMx l y ws d mc ms D ca z G X ad av As μ (0, r) μ1) {rt : FieldType} (cw : CallB R s args own index y bytes maxL (some rt) ws (xRm d mc ms) mc ms n ∧ (Cond.static y).before args s = true) (hR : xRep D ca G X μ H) (hK : va_K D vwCl (xT ca) s) (hE : xEv z ad av s s.heap) (hS : va_S (fun q => z ≤ q) s.heap H locs)
    (hn : As.length = n) (hsize : ls.size = nL) (hst : st = As.reverse ++ rest) (hW : (rest.map fun v => v.category).sum ≤ 8) (hdg : decode cc pc = .ok (.invokestatic index, 3)) (hf : cells + mc ≤ R.cells ∧ slots + ms ≤ R.slots)
    (kk : ∀ (H1 : Heap) (locs1 : List Loc), xRep D ca G X μ1 H1 → va_S (fun q => z ≤ q) s.heap H1 locs1 → W p l e R s m args below meth c H1 locs1 (cells + mc) (slots + ms) Q (F0 m (pc + 3) ls (.int r :: rest))) : W p l e R s m args below meth c H locs cells slots Q (F0 m pc ls st) := by
  refine vx_calli (vx_runS (As := As) (rest := rest) S hM cw ⟨xSt_blind, xSt_at hR hK hE hS⟩ rfl hn hsize hst (lv_room hW) hdg hf) hS (fun q _ h => h) (fun q h => h) (fun q _ h => h) (fun E ce q9 u t H1 locs1 ht hvm hp => absurd rfl hp) (fun r1 u t H1 locs1 ht hvm hw hB hz1 hk1 hS1 => ?_)
  obtain ⟨hR1, -⟩ := hB
  rw [ht] at hR1
  obtain ⟨-, rfl⟩ := hw
  exact kk H1 locs1 hR1 hS1
theorem xy_vS (S : CallFix p m c cc nL s args Ts own) (hM : xMy l y ws d mc ms D ca z G X ad av As μ (0, r) μ1) (cw : CallB R s args own index y bytes maxL none ws (xRm d mc ms) mc ms n ∧ (Cond.static y).before args s = true) (hR : xRep D ca G X μ H) (hK : va_K D vwCl (xT ca) s) (hE : xEv z ad av s s.heap) (hS : va_S (fun q => z ≤ q) s.heap H locs)
    (hn : As.length = n) (hsize : ls.size = nL) (hst : st = As.reverse ++ rest) (hW : (rest.map fun v => v.category).sum ≤ 8) (hdg : decode cc pc = .ok (.invokestatic index, 3)) (hf : cells + mc ≤ R.cells ∧ slots + ms ≤ R.slots)
    (kk : ∀ (H1 : Heap) (locs1 : List Loc), xRep D ca G X μ1 H1 → va_S (fun q => z ≤ q) s.heap H1 locs1 → W p l e R s m args below meth c H1 locs1 (cells + mc) (slots + ms) Q (F0 m (pc + 3) ls rest)) : W p l e R s m args below meth c H locs cells slots Q (F0 m pc ls st) := by
  refine vx_callv (vx_runS (As := As) (rest := rest) S hM cw ⟨xSt_blind, xSt_at hR hK hE hS⟩ rfl hn hsize hst (lv_room hW) hdg hf) hS (fun q _ h => h) (fun q h => h) (fun q _ h => h) (fun E ce q9 u t H1 locs1 ht hvm hp => absurd rfl hp) (fun u t H1 locs1 ht hvm hw hB hz1 hk1 hS1 => ?_)
  obtain ⟨hR1, -⟩ := hB
  rw [ht] at hR1
  exact kk H1 locs1 hR1 hS1
/-- calls: the callee throws; kx: from there on -/
theorem xz_iV {e1 : Nat} (S : CallFix p m c cc nL s args Ts own) (hM : xMx l y ws d mc ms D ca z G X ad av (.ref b :: As) μ (e1 + 1, r) μ1) {rt : FieldType} (cw : CallW R s args own C index y bytes maxL (some rt) ws (xRm d mc ms) mc ms n) (hrv : ∃ cell : Cell, H[b]? = some cell ∧ cell.vm.isStatics = false ∧ s.vm.findClass C = some cell.cls) (hR : xRep D ca G X μ H) (hK : va_K D vwCl (xT ca) s) (hE : xEv z ad av s s.heap) (hS : va_S (fun q => z ≤ q) s.heap H locs)
    (hn : As.length = n) (hsize : ls.size = nL) (hst : st = As.reverse ++ .ref b :: rest) (hW : (rest.map fun v => v.category).sum ≤ 8) (hdg : decode cc pc = .ok (.invokevirtual index, 3)) (hf : cells + mc ≤ R.cells ∧ slots + ms ≤ R.slots)
    (kx : ∀ (ce : Cell) (q9 : Addr) (H1 : Heap) (locs1 : List Loc), xRep D ca G X μ1 H1 → va_S (fun q => z ≤ q) s.heap H1 locs1 → H1[q9]? = some ce → ce.vm = .none → s.vm.findClass (xE (e1 + 1)) = some ce.cls → vx_W p l e R s m args below meth c H1 locs1 (cells + mc) (slots + ms) Q (F0 m pc ls rest) q9) : W p l e R s m args below meth c H locs cells slots Q (F0 m pc ls st) := by
  refine vx_calli (vx_runV (As := As) (rest := rest) S hM cw ⟨xSt_blind, hrv, xSt_at hR hK hE hS⟩ rfl hn hsize hst (lv_room hW) hdg hf) hS (fun q _ h => h) (fun q h => h) (fun q _ h => h) (fun E ce q9 u t H1 locs1 ht hvm hp hB hz hk hS1 h1 h2 h3 => ?_) (fun r1 u t H1 locs1 ht hvm hw => absurd hw.1 (Nat.succ_ne_zero _))
  obtain ⟨rfl, hR1, -⟩ := hB
  rw [ht] at hR1
  exact kx ce q9 H1 locs1 hR1 hS1 h1 h2 h3
theorem xz_vV {e1 : Nat} (S : CallFix p m c cc nL s args Ts own) (hM : xMy l y ws d mc ms D ca z G X ad av (.ref b :: As) μ (e1 + 1, r) μ1) (cw : CallW R s args own C index y bytes maxL none ws (xRm d mc ms) mc ms n) (hrv : ∃ cell : Cell, H[b]? = some cell ∧ cell.vm.isStatics = false ∧ s.vm.findClass C = some cell.cls) (hR : xRep D ca G X μ H) (hK : va_K D vwCl (xT ca) s) (hE : xEv z ad av s s.heap) (hS : va_S (fun q => z ≤ q) s.heap H locs)
    (hn : As.length = n) (hsize : ls.size = nL) (hst : st = As.reverse ++ .ref b :: rest) (hW : (rest.map fun v => v.category).sum ≤ 8) (hdg : decode cc pc = .ok (.invokevirtual index, 3)) (hf : cells + mc ≤ R.cells ∧ slots + ms ≤ R.slots)
    (kx : ∀ (ce : Cell) (q9 : Addr) (H1 : Heap) (locs1 : List Loc), xRep D ca G X μ1 H1 → va_S (fun q => z ≤ q) s.heap H1 locs1 → H1[q9]? = some ce → ce.vm = .none → s.vm.findClass (xE (e1 + 1)) = some ce.cls → vx_W p l e R s m args below meth c H1 locs1 (cells + mc) (slots + ms) Q (F0 m pc ls rest) q9) : W p l e R s m args below meth c H locs cells slots Q (F0 m pc ls st) := by
  refine vx_callv (vx_runV (As := As) (rest := rest) S hM cw ⟨xSt_blind, hrv, xSt_at hR hK hE hS⟩ rfl hn hsize hst (lv_room hW) hdg hf) hS (fun q _ h => h) (fun q h => h) (fun q _ h => h) (fun E ce q9 u t H1 locs1 ht hvm hp hB hz hk hS1 h1 h2 h3 => ?_) (fun u t H1 locs1 ht hvm hw => absurd hw (Nat.succ_ne_zero _))
  obtain ⟨rfl, hR1, -⟩ := hB
  rw [ht] at hR1
  exact kx ce q9 H1 locs1 hR1 hS1 h1 h2 h3
theorem xz_iS {e1 : Nat} (S : CallFix p m c cc nL s args Ts own) (hM : xMx l y ws d mc ms D ca z G X ad av As μ (e1 + 1, r) μ1) {rt : FieldType} (cw : CallB R s args own index y bytes maxL (some rt) ws (xRm d mc ms) mc ms n ∧ (Cond.static y).before args s = true) (hR : xRep D ca G X μ H) (hK : va_K D vwCl (xT ca) s) (hE : xEv z ad av s s.heap) (hS : va_S (fun q => z ≤ q) s.heap H locs)
    (hn : As.length = n) (hsize : ls.size = nL) (hst : st = As.reverse ++ rest) (hW : (rest.map fun v => v.category).sum ≤ 8) (hdg : decode cc pc = .ok (.invokestatic index, 3)) (hf : cells + mc ≤ R.cells ∧ slots + ms ≤ R.slots)
    (kx : ∀ (ce : Cell) (q9 : Addr) (H1 : Heap) (locs1 : List Loc), xRep D ca G X μ1 H1 → va_S (fun q => z ≤ q) s.heap H1 locs1 → H1[q9]? = some ce → ce.vm = .none → s.vm.findClass (xE (e1 + 1)) = some ce.cls → vx_W p l e R s m args below meth c H1 locs1 (cells + mc) (slots + ms) Q (F0 m pc ls rest) q9) : W p l e R s m args below meth c H locs cells slots Q (F0 m pc ls st) := by
  refine vx_calli (vx_runS (As := As) (rest := rest) S hM cw ⟨xSt_blind, xSt_at hR hK hE hS⟩ rfl hn hsize hst (lv_room hW) hdg hf) hS (fun q _ h => h) (fun q h => h) (fun q _ h => h) (fun E ce q9 u t H1 locs1 ht hvm hp hB hz hk hS1 h1 h2 h3 => ?_) (fun r1 u t H1 locs1 ht hvm hw => absurd hw.1 (Nat.succ_ne_zero _))
  obtain ⟨rfl, hR1, -⟩ := hB
  rw [ht] at hR1
  exact kx ce q9 H1 locs1 hR1 hS1 h1 h2 h3
theorem xz_vS {e1 : Nat} (S : CallFix p m c cc nL s args Ts own) (hM : xMy l y ws d mc ms D ca z G X ad av As μ (e1 + 1, r) μ1) (cw : CallB R s args own index y bytes maxL none ws (xRm d mc ms) mc ms n ∧ (Cond.static y).before args s = true) (hR : xRep D ca G X μ H) (hK : va_K D vwCl (xT ca) s) (hE : xEv z ad av s s.heap) (hS : va_S (fun q => z ≤ q) s.heap H locs)
    (hn : As.length = n) (hsize : ls.size = nL) (hst : st = As.reverse ++ rest) (hW : (rest.map fun v => v.category).sum ≤ 8) (hdg : decode cc pc = .ok (.invokestatic index, 3)) (hf : cells + mc ≤ R.cells ∧ slots + ms ≤ R.slots)
    (kx : ∀ (ce : Cell) (q9 : Addr) (H1 : Heap) (locs1 : List Loc), xRep D ca G X μ1 H1 → va_S (fun q => z ≤ q) s.heap H1 locs1 → H1[q9]? = some ce → ce.vm = .none → s.vm.findClass (xE (e1 + 1)) = some ce.cls → vx_W p l e R s m args below meth c H1 locs1 (cells + mc) (slots + ms) Q (F0 m pc ls rest) q9) : W p l e R s m args below meth c H locs cells slots Q (F0 m pc ls st) := by
  refine vx_callv (vx_runS (As := As) (rest := rest) S hM cw ⟨xSt_blind, xSt_at hR hK hE hS⟩ rfl hn hsize hst (lv_room hW) hdg hf) hS (fun q _ h => h) (fun q h => h) (fun q _ h => h) (fun E ce q9 u t H1 locs1 ht hvm hp hB hz hk hS1 h1 h2 h3 => ?_) (fun u t H1 locs1 ht hvm hw => absurd hw (Nat.succ_ne_zero _))
  obtain ⟨rfl, hR1, -⟩ := hB
  rw [ht] at hR1
  exact kx ce q9 H1 locs1 hR1 hS1 h1 h2 h3
/-- not caught here: on to the caller -/
theorem xo_ut {k : Nat} {ce : Cell} {q9 : Addr} {v : Int32} (hlocks : meth.locks = false) (hex : ∀ x ∈ c.exceptionTable.toList, False) (h : (some ((k + 1, v), μ) : Option (xO × xM)) = some (o, μ1)) (hK : va_K D vwCl (xT ca) s) (hR : xRep D ca G X μ H) (hS : va_S (fun q => z ≤ q) s.heap H locs) (h1 : H[q9]? = some ce) (h2 : ce.vm = .none) (h3 : s.vm.findClass (xE (k + 1)) = some ce.cls) (hc : cells ≤ mc) (hs : slots ≤ ms) :
    vx_W p l e R s m args below meth c H locs cells slots (vx_MQ below Qc (xXC D ca z G X μ1 o) args s mc ms (fun q => z ≤ q)) (F0 m pc ls rest) q9 := by
  cases h
  exact vx_out (fun x hx => (hex x hx).elim) hlocks h1 h2 h3 (fun t ht hvm => ⟨(), Nat.succ_ne_zero _, ⟨rfl, by rw [ht]; exact hR, va_K.moved hvm hK⟩, hS.F ht⟩) hS.2.2 hc hs
end XTH
